theorem dX0_init_0 : decode cX0_init 0 = .ok (.aload_n 0, 1) := by decide +kernel
theorem dX0_init_1 : decode cX0_init 1 = .ok (.invokespecial 3, 3) := by decide +kernel
theorem dX0_init_4 : decode cX0_init 4 = .ok (.aload_n 0, 1) := by decide +kernel
theorem dX0_init_5 : decode cX0_init 5 = .ok (.bipush 64, 2) := by decide +kernel
theorem dX0_init_7 : decode cX0_init 7 = .ok (.newarray .int, 2) := by decide +kernel
theorem dX0_init_9 : decode cX0_init 9 = .ok (.putfield 11, 3) := by decide +kernel
theorem dX0_init_12 : decode cX0_init 12 = .ok (.aload_n 0, 1) := by decide +kernel
theorem dX0_init_13 : decode cX0_init 13 = .ok (.bipush 64, 2) := by decide +kernel
theorem dX0_init_15 : decode cX0_init 15 = .ok (.newarray .int, 2) := by decide +kernel
theorem dX0_init_17 : decode cX0_init 17 = .ok (.putfield 15, 3) := by decide +kernel
theorem dX0_init_20 : decode cX0_init 20 = .ok (.aload_n 0, 1) := by decide +kernel
theorem dX0_init_21 : decode cX0_init 21 = .ok (.bipush 64, 2) := by decide +kernel
theorem dX0_init_23 : decode cX0_init 23 = .ok (.newarray .int, 2) := by decide +kernel
theorem dX0_init_25 : decode cX0_init 25 = .ok (.putfield 18, 3) := by decide +kernel
theorem dX0_init_28 : decode cX0_init 28 = .ok (.aload_n 0, 1) := by decide +kernel
theorem dX0_init_29 : decode cX0_init 29 = .ok (.bipush 64, 2) := by decide +kernel
theorem dX0_init_31 : decode cX0_init 31 = .ok (.newarray .int, 2) := by decide +kernel
theorem dX0_init_33 : decode cX0_init 33 = .ok (.putfield 21, 3) := by decide +kernel
theorem dX0_init_36 : decode cX0_init 36 = .ok (.aload_n 0, 1) := by decide +kernel
theorem dX0_init_37 : decode cX0_init 37 = .ok (.bipush 64, 2) := by decide +kernel
theorem dX0_init_39 : decode cX0_init 39 = .ok (.newarray .int, 2) := by decide +kernel
theorem dX0_init_41 : decode cX0_init 41 = .ok (.putfield 24, 3) := by decide +kernel
theorem dX0_init_44 : decode cX0_init 44 = .ok (.return_, 1) := by decide +kernel
theorem dX0_minutesOf_0 : decode cX0_minutesOf 0 = .ok (.iload_n 1, 1) := by decide +kernel
theorem dX0_minutesOf_1 : decode cX0_minutesOf 1 = .ok (.bipush 8, 2) := by decide +kernel
theorem dX0_minutesOf_3 : decode cX0_minutesOf 3 = .ok (.imul, 1) := by decide +kernel
theorem dX0_minutesOf_4 : decode cX0_minutesOf 4 = .ok (.iload_n 2, 1) := by decide +kernel
theorem dX0_minutesOf_5 : decode cX0_minutesOf 5 = .ok (.iadd, 1) := by decide +kernel
theorem dX0_minutesOf_6 : decode cX0_minutesOf 6 = .ok (.istore 4, 2) := by decide +kernel
theorem dX0_minutesOf_8 : decode cX0_minutesOf 8 = .ok (.iload 4, 2) := by decide +kernel
theorem dX0_minutesOf_10 : decode cX0_minutesOf 10 = .ok (.ifCond .lt 10, 3) := by decide +kernel
theorem dX0_minutesOf_13 : decode cX0_minutesOf 13 = .ok (.iload 4, 2) := by decide +kernel
theorem dX0_minutesOf_15 : decode cX0_minutesOf 15 = .ok (.bipush 64, 2) := by decide +kernel
theorem dX0_minutesOf_17 : decode cX0_minutesOf 17 = .ok (.if_icmp .lt 6, 3) := by decide +kernel
theorem dX0_minutesOf_20 : decode cX0_minutesOf 20 = .ok (.bipush (-9), 2) := by decide +kernel
theorem dX0_minutesOf_22 : decode cX0_minutesOf 22 = .ok (.ireturn, 1) := by decide +kernel
theorem dX0_minutesOf_23 : decode cX0_minutesOf 23 = .ok (.iload_n 3, 1) := by decide +kernel
theorem dX0_minutesOf_24 : decode cX0_minutesOf 24 = .ok (.ifCond .eq 13, 3) := by decide +kernel
theorem dX0_minutesOf_27 : decode cX0_minutesOf 27 = .ok (.aload_n 0, 1) := by decide +kernel
theorem dX0_minutesOf_28 : decode cX0_minutesOf 28 = .ok (.getfield 18, 3) := by decide +kernel
theorem dX0_minutesOf_31 : decode cX0_minutesOf 31 = .ok (.iload 4, 2) := by decide +kernel
theorem dX0_minutesOf_33 : decode cX0_minutesOf 33 = .ok (.iaload, 1) := by decide +kernel
theorem dX0_minutesOf_34 : decode cX0_minutesOf 34 = .ok (.goto 10, 3) := by decide +kernel
theorem dX0_minutesOf_37 : decode cX0_minutesOf 37 = .ok (.aload_n 0, 1) := by decide +kernel
theorem dX0_minutesOf_38 : decode cX0_minutesOf 38 = .ok (.getfield 11, 3) := by decide +kernel
theorem dX0_minutesOf_41 : decode cX0_minutesOf 41 = .ok (.iload 4, 2) := by decide +kernel
theorem dX0_minutesOf_43 : decode cX0_minutesOf 43 = .ok (.iaload, 1) := by decide +kernel
theorem dX0_minutesOf_44 : decode cX0_minutesOf 44 = .ok (.ireturn, 1) := by decide +kernel
theorem dX0_stallsOf_0 : decode cX0_stallsOf 0 = .ok (.iload_n 1, 1) := by decide +kernel
theorem dX0_stallsOf_1 : decode cX0_stallsOf 1 = .ok (.bipush 8, 2) := by decide +kernel
theorem dX0_stallsOf_3 : decode cX0_stallsOf 3 = .ok (.imul, 1) := by decide +kernel
theorem dX0_stallsOf_4 : decode cX0_stallsOf 4 = .ok (.iload_n 2, 1) := by decide +kernel
theorem dX0_stallsOf_5 : decode cX0_stallsOf 5 = .ok (.iadd, 1) := by decide +kernel
theorem dX0_stallsOf_6 : decode cX0_stallsOf 6 = .ok (.istore 4, 2) := by decide +kernel
theorem dX0_stallsOf_8 : decode cX0_stallsOf 8 = .ok (.iload 4, 2) := by decide +kernel
theorem dX0_stallsOf_10 : decode cX0_stallsOf 10 = .ok (.ifCond .lt 10, 3) := by decide +kernel
theorem dX0_stallsOf_13 : decode cX0_stallsOf 13 = .ok (.iload 4, 2) := by decide +kernel
theorem dX0_stallsOf_15 : decode cX0_stallsOf 15 = .ok (.bipush 64, 2) := by decide +kernel
theorem dX0_stallsOf_17 : decode cX0_stallsOf 17 = .ok (.if_icmp .lt 6, 3) := by decide +kernel
theorem dX0_stallsOf_20 : decode cX0_stallsOf 20 = .ok (.bipush (-9), 2) := by decide +kernel
theorem dX0_stallsOf_22 : decode cX0_stallsOf 22 = .ok (.ireturn, 1) := by decide +kernel
theorem dX0_stallsOf_23 : decode cX0_stallsOf 23 = .ok (.iload_n 3, 1) := by decide +kernel
theorem dX0_stallsOf_24 : decode cX0_stallsOf 24 = .ok (.ifCond .eq 13, 3) := by decide +kernel
theorem dX0_stallsOf_27 : decode cX0_stallsOf 27 = .ok (.aload_n 0, 1) := by decide +kernel
theorem dX0_stallsOf_28 : decode cX0_stallsOf 28 = .ok (.getfield 21, 3) := by decide +kernel
theorem dX0_stallsOf_31 : decode cX0_stallsOf 31 = .ok (.iload 4, 2) := by decide +kernel
theorem dX0_stallsOf_33 : decode cX0_stallsOf 33 = .ok (.iaload, 1) := by decide +kernel
theorem dX0_stallsOf_34 : decode cX0_stallsOf 34 = .ok (.goto 10, 3) := by decide +kernel
theorem dX0_stallsOf_37 : decode cX0_stallsOf 37 = .ok (.aload_n 0, 1) := by decide +kernel
theorem dX0_stallsOf_38 : decode cX0_stallsOf 38 = .ok (.getfield 15, 3) := by decide +kernel
theorem dX0_stallsOf_41 : decode cX0_stallsOf 41 = .ok (.iload 4, 2) := by decide +kernel
theorem dX0_stallsOf_43 : decode cX0_stallsOf 43 = .ok (.iaload, 1) := by decide +kernel
theorem dX0_stallsOf_44 : decode cX0_stallsOf 44 = .ok (.ireturn, 1) := by decide +kernel
theorem dX0_measure_0 : decode cX0_measure 0 = .ok (.iconst 0, 1) := by decide +kernel
theorem dX0_measure_1 : decode cX0_measure 1 = .ok (.istore_n 2, 1) := by decide +kernel
theorem dX0_measure_2 : decode cX0_measure 2 = .ok (.iload_n 2, 1) := by decide +kernel
theorem dX0_measure_3 : decode cX0_measure 3 = .ok (.bipush 64, 2) := by decide +kernel
theorem dX0_measure_5 : decode cX0_measure 5 = .ok (.if_icmp .ge 41, 3) := by decide +kernel
theorem dX0_measure_8 : decode cX0_measure 8 = .ok (.aload_n 0, 1) := by decide +kernel
theorem dX0_measure_9 : decode cX0_measure 9 = .ok (.getfield 11, 3) := by decide +kernel
theorem dX0_measure_12 : decode cX0_measure 12 = .ok (.iload_n 2, 1) := by decide +kernel
theorem dX0_measure_13 : decode cX0_measure 13 = .ok (.bipush (-9), 2) := by decide +kernel
theorem dX0_measure_15 : decode cX0_measure 15 = .ok (.iastore, 1) := by decide +kernel
theorem dX0_measure_16 : decode cX0_measure 16 = .ok (.aload_n 0, 1) := by decide +kernel
theorem dX0_measure_17 : decode cX0_measure 17 = .ok (.getfield 15, 3) := by decide +kernel
theorem dX0_measure_20 : decode cX0_measure 20 = .ok (.iload_n 2, 1) := by decide +kernel
theorem dX0_measure_21 : decode cX0_measure 21 = .ok (.bipush (-9), 2) := by decide +kernel
theorem dX0_measure_23 : decode cX0_measure 23 = .ok (.iastore, 1) := by decide +kernel
theorem dX0_measure_24 : decode cX0_measure 24 = .ok (.aload_n 0, 1) := by decide +kernel
theorem dX0_measure_25 : decode cX0_measure 25 = .ok (.getfield 18, 3) := by decide +kernel
theorem dX0_measure_28 : decode cX0_measure 28 = .ok (.iload_n 2, 1) := by decide +kernel
theorem dX0_measure_29 : decode cX0_measure 29 = .ok (.bipush (-9), 2) := by decide +kernel
theorem dX0_measure_31 : decode cX0_measure 31 = .ok (.iastore, 1) := by decide +kernel
theorem dX0_measure_32 : decode cX0_measure 32 = .ok (.aload_n 0, 1) := by decide +kernel
theorem dX0_measure_33 : decode cX0_measure 33 = .ok (.getfield 21, 3) := by decide +kernel
theorem dX0_measure_36 : decode cX0_measure 36 = .ok (.iload_n 2, 1) := by decide +kernel
theorem dX0_measure_37 : decode cX0_measure 37 = .ok (.bipush (-9), 2) := by decide +kernel
theorem dX0_measure_39 : decode cX0_measure 39 = .ok (.iastore, 1) := by decide +kernel
theorem dX0_measure_40 : decode cX0_measure 40 = .ok (.iinc 2 1, 3) := by decide +kernel
theorem dX0_measure_43 : decode cX0_measure 43 = .ok (.goto (-41), 3) := by decide +kernel
theorem dX0_measure_46 : decode cX0_measure 46 = .ok (.iconst 0, 1) := by decide +kernel
theorem dX0_measure_47 : decode cX0_measure 47 = .ok (.istore_n 2, 1) := by decide +kernel
theorem dX0_measure_48 : decode cX0_measure 48 = .ok (.iload_n 2, 1) := by decide +kernel
theorem dX0_measure_49 : decode cX0_measure 49 = .ok (.bipush 9, 2) := by decide +kernel
theorem dX0_measure_51 : decode cX0_measure 51 = .ok (.if_icmp .gt 43, 3) := by decide +kernel
theorem dX0_measure_54 : decode cX0_measure 54 = .ok (.aload_n 0, 1) := by decide +kernel
theorem dX0_measure_55 : decode cX0_measure 55 = .ok (.aload_n 1, 1) := by decide +kernel
theorem dX0_measure_56 : decode cX0_measure 56 = .ok (.iload_n 2, 1) := by decide +kernel
theorem dX0_measure_57 : decode cX0_measure 57 = .ok (.invokevirtual 27, 3) := by decide +kernel
theorem dX0_measure_60 : decode cX0_measure 60 = .ok (.aload_n 0, 1) := by decide +kernel
theorem dX0_measure_61 : decode cX0_measure 61 = .ok (.aload_n 1, 1) := by decide +kernel
theorem dX0_measure_62 : decode cX0_measure 62 = .ok (.getfield 31, 3) := by decide +kernel
theorem dX0_measure_65 : decode cX0_measure 65 = .ok (.invokevirtual 37, 3) := by decide +kernel
theorem dX0_measure_68 : decode cX0_measure 68 = .ok (.iconst 0, 1) := by decide +kernel
theorem dX0_measure_69 : decode cX0_measure 69 = .ok (.istore_n 3, 1) := by decide +kernel
theorem dX0_measure_70 : decode cX0_measure 70 = .ok (.iload_n 3, 1) := by decide +kernel
theorem dX0_measure_71 : decode cX0_measure 71 = .ok (.bipush 64, 2) := by decide +kernel
theorem dX0_measure_73 : decode cX0_measure 73 = .ok (.if_icmp .ge 15, 3) := by decide +kernel
theorem dX0_measure_76 : decode cX0_measure 76 = .ok (.aload_n 0, 1) := by decide +kernel
theorem dX0_measure_77 : decode cX0_measure 77 = .ok (.iload_n 3, 1) := by decide +kernel
theorem dX0_measure_78 : decode cX0_measure 78 = .ok (.iload_n 2, 1) := by decide +kernel
theorem dX0_measure_79 : decode cX0_measure 79 = .ok (.invokevirtual 41, 3) := by decide +kernel
theorem dX0_measure_82 : decode cX0_measure 82 = .ok (.iinc 3 1, 3) := by decide +kernel
theorem dX0_measure_85 : decode cX0_measure 85 = .ok (.goto (-15), 3) := by decide +kernel
theorem dX0_measure_88 : decode cX0_measure 88 = .ok (.iinc 2 1, 3) := by decide +kernel
theorem dX0_measure_91 : decode cX0_measure 91 = .ok (.goto (-43), 3) := by decide +kernel
theorem dX0_measure_94 : decode cX0_measure 94 = .ok (.return_, 1) := by decide +kernel
theorem dX0_layWays_0 : decode cX0_layWays 0 = .ok (.iconst 0, 1) := by decide +kernel
theorem dX0_layWays_1 : decode cX0_layWays 1 = .ok (.istore_n 3, 1) := by decide +kernel
theorem dX0_layWays_2 : decode cX0_layWays 2 = .ok (.iload_n 3, 1) := by decide +kernel
theorem dX0_layWays_3 : decode cX0_layWays 3 = .ok (.bipush 64, 2) := by decide +kernel
theorem dX0_layWays_5 : decode cX0_layWays 5 = .ok (.if_icmp .ge 32, 3) := by decide +kernel
theorem dX0_layWays_8 : decode cX0_layWays 8 = .ok (.aload_n 0, 1) := by decide +kernel
theorem dX0_layWays_9 : decode cX0_layWays 9 = .ok (.getfield 24, 3) := by decide +kernel
theorem dX0_layWays_12 : decode cX0_layWays 12 = .ok (.iload_n 3, 1) := by decide +kernel
theorem dX0_layWays_13 : decode cX0_layWays 13 = .ok (.iload_n 3, 1) := by decide +kernel
theorem dX0_layWays_14 : decode cX0_layWays 14 = .ok (.bipush 8, 2) := by decide +kernel
theorem dX0_layWays_16 : decode cX0_layWays 16 = .ok (.idiv, 1) := by decide +kernel
theorem dX0_layWays_17 : decode cX0_layWays 17 = .ok (.iload_n 3, 1) := by decide +kernel
theorem dX0_layWays_18 : decode cX0_layWays 18 = .ok (.bipush 8, 2) := by decide +kernel
theorem dX0_layWays_20 : decode cX0_layWays 20 = .ok (.irem, 1) := by decide +kernel
theorem dX0_layWays_21 : decode cX0_layWays 21 = .ok (.if_icmp .ne 7, 3) := by decide +kernel
theorem dX0_layWays_24 : decode cX0_layWays 24 = .ok (.iconst 0, 1) := by decide +kernel
theorem dX0_layWays_25 : decode cX0_layWays 25 = .ok (.goto 5, 3) := by decide +kernel
theorem dX0_layWays_28 : decode cX0_layWays 28 = .ok (.ldc 45, 2) := by decide +kernel
theorem dX0_layWays_30 : decode cX0_layWays 30 = .ok (.iastore, 1) := by decide +kernel
theorem dX0_layWays_31 : decode cX0_layWays 31 = .ok (.iinc 3 1, 3) := by decide +kernel
theorem dX0_layWays_34 : decode cX0_layWays 34 = .ok (.goto (-32), 3) := by decide +kernel
theorem dX0_layWays_37 : decode cX0_layWays 37 = .ok (.iconst 0, 1) := by decide +kernel
theorem dX0_layWays_38 : decode cX0_layWays 38 = .ok (.istore_n 3, 1) := by decide +kernel
theorem dX0_layWays_39 : decode cX0_layWays 39 = .ok (.iload_n 3, 1) := by decide +kernel
theorem dX0_layWays_40 : decode cX0_layWays 40 = .ok (.aload_n 1, 1) := by decide +kernel
theorem dX0_layWays_41 : decode cX0_layWays 41 = .ok (.getfield 46, 3) := by decide +kernel
theorem dX0_layWays_44 : decode cX0_layWays 44 = .ok (.if_icmp .ge 73, 3) := by decide +kernel
theorem dX0_layWays_47 : decode cX0_layWays 47 = .ok (.aload_n 1, 1) := by decide +kernel
theorem dX0_layWays_48 : decode cX0_layWays 48 = .ok (.getfield 49, 3) := by decide +kernel
theorem dX0_layWays_51 : decode cX0_layWays 51 = .ok (.iload_n 3, 1) := by decide +kernel
theorem dX0_layWays_52 : decode cX0_layWays 52 = .ok (.iaload, 1) := by decide +kernel
theorem dX0_layWays_53 : decode cX0_layWays 53 = .ok (.iload_n 2, 1) := by decide +kernel
theorem dX0_layWays_54 : decode cX0_layWays 54 = .ok (.if_icmp .gt 57, 3) := by decide +kernel
theorem dX0_layWays_57 : decode cX0_layWays 57 = .ok (.aload_n 0, 1) := by decide +kernel
theorem dX0_layWays_58 : decode cX0_layWays 58 = .ok (.getfield 24, 3) := by decide +kernel
theorem dX0_layWays_61 : decode cX0_layWays 61 = .ok (.aload_n 1, 1) := by decide +kernel
theorem dX0_layWays_62 : decode cX0_layWays 62 = .ok (.getfield 52, 3) := by decide +kernel
theorem dX0_layWays_65 : decode cX0_layWays 65 = .ok (.iload_n 3, 1) := by decide +kernel
theorem dX0_layWays_66 : decode cX0_layWays 66 = .ok (.iaload, 1) := by decide +kernel
theorem dX0_layWays_67 : decode cX0_layWays 67 = .ok (.bipush 8, 2) := by decide +kernel
theorem dX0_layWays_69 : decode cX0_layWays 69 = .ok (.imul, 1) := by decide +kernel
theorem dX0_layWays_70 : decode cX0_layWays 70 = .ok (.aload_n 1, 1) := by decide +kernel
theorem dX0_layWays_71 : decode cX0_layWays 71 = .ok (.getfield 55, 3) := by decide +kernel
theorem dX0_layWays_74 : decode cX0_layWays 74 = .ok (.iload_n 3, 1) := by decide +kernel
theorem dX0_layWays_75 : decode cX0_layWays 75 = .ok (.iaload, 1) := by decide +kernel
theorem dX0_layWays_76 : decode cX0_layWays 76 = .ok (.iadd, 1) := by decide +kernel
theorem dX0_layWays_77 : decode cX0_layWays 77 = .ok (.aload_n 1, 1) := by decide +kernel
theorem dX0_layWays_78 : decode cX0_layWays 78 = .ok (.getfield 58, 3) := by decide +kernel
theorem dX0_layWays_81 : decode cX0_layWays 81 = .ok (.iload_n 3, 1) := by decide +kernel
theorem dX0_layWays_82 : decode cX0_layWays 82 = .ok (.iaload, 1) := by decide +kernel
theorem dX0_layWays_83 : decode cX0_layWays 83 = .ok (.iastore, 1) := by decide +kernel
theorem dX0_layWays_84 : decode cX0_layWays 84 = .ok (.aload_n 0, 1) := by decide +kernel
theorem dX0_layWays_85 : decode cX0_layWays 85 = .ok (.getfield 24, 3) := by decide +kernel
theorem dX0_layWays_88 : decode cX0_layWays 88 = .ok (.aload_n 1, 1) := by decide +kernel
theorem dX0_layWays_89 : decode cX0_layWays 89 = .ok (.getfield 55, 3) := by decide +kernel
theorem dX0_layWays_92 : decode cX0_layWays 92 = .ok (.iload_n 3, 1) := by decide +kernel
theorem dX0_layWays_93 : decode cX0_layWays 93 = .ok (.iaload, 1) := by decide +kernel
theorem dX0_layWays_94 : decode cX0_layWays 94 = .ok (.bipush 8, 2) := by decide +kernel
theorem dX0_layWays_96 : decode cX0_layWays 96 = .ok (.imul, 1) := by decide +kernel
theorem dX0_layWays_97 : decode cX0_layWays 97 = .ok (.aload_n 1, 1) := by decide +kernel
theorem dX0_layWays_98 : decode cX0_layWays 98 = .ok (.getfield 52, 3) := by decide +kernel
theorem dX0_layWays_101 : decode cX0_layWays 101 = .ok (.iload_n 3, 1) := by decide +kernel
theorem dX0_layWays_102 : decode cX0_layWays 102 = .ok (.iaload, 1) := by decide +kernel
theorem dX0_layWays_103 : decode cX0_layWays 103 = .ok (.iadd, 1) := by decide +kernel
theorem dX0_layWays_104 : decode cX0_layWays 104 = .ok (.aload_n 1, 1) := by decide +kernel
theorem dX0_layWays_105 : decode cX0_layWays 105 = .ok (.getfield 58, 3) := by decide +kernel
theorem dX0_layWays_108 : decode cX0_layWays 108 = .ok (.iload_n 3, 1) := by decide +kernel
theorem dX0_layWays_109 : decode cX0_layWays 109 = .ok (.iaload, 1) := by decide +kernel
theorem dX0_layWays_110 : decode cX0_layWays 110 = .ok (.iastore, 1) := by decide +kernel
theorem dX0_layWays_111 : decode cX0_layWays 111 = .ok (.iinc 3 1, 3) := by decide +kernel
theorem dX0_layWays_114 : decode cX0_layWays 114 = .ok (.goto (-75), 3) := by decide +kernel
theorem dX0_layWays_117 : decode cX0_layWays 117 = .ok (.return_, 1) := by decide +kernel
theorem dX0_shorten_0 : decode cX0_shorten 0 = .ok (.iconst 0, 1) := by decide +kernel
theorem dX0_shorten_1 : decode cX0_shorten 1 = .ok (.istore_n 2, 1) := by decide +kernel
theorem dX0_shorten_2 : decode cX0_shorten 2 = .ok (.iload_n 2, 1) := by decide +kernel
theorem dX0_shorten_3 : decode cX0_shorten 3 = .ok (.iload_n 1, 1) := by decide +kernel
theorem dX0_shorten_4 : decode cX0_shorten 4 = .ok (.if_icmp .ge 93, 3) := by decide +kernel
theorem dX0_shorten_7 : decode cX0_shorten 7 = .ok (.iconst 0, 1) := by decide +kernel
theorem dX0_shorten_8 : decode cX0_shorten 8 = .ok (.istore_n 3, 1) := by decide +kernel
theorem dX0_shorten_9 : decode cX0_shorten 9 = .ok (.iload_n 3, 1) := by decide +kernel
theorem dX0_shorten_10 : decode cX0_shorten 10 = .ok (.iload_n 1, 1) := by decide +kernel
theorem dX0_shorten_11 : decode cX0_shorten 11 = .ok (.if_icmp .ge 80, 3) := by decide +kernel
theorem dX0_shorten_14 : decode cX0_shorten 14 = .ok (.iconst 0, 1) := by decide +kernel
theorem dX0_shorten_15 : decode cX0_shorten 15 = .ok (.istore 4, 2) := by decide +kernel
theorem dX0_shorten_17 : decode cX0_shorten 17 = .ok (.iload 4, 2) := by decide +kernel
theorem dX0_shorten_19 : decode cX0_shorten 19 = .ok (.iload_n 1, 1) := by decide +kernel
theorem dX0_shorten_20 : decode cX0_shorten 20 = .ok (.if_icmp .ge 65, 3) := by decide +kernel
theorem dX0_shorten_23 : decode cX0_shorten 23 = .ok (.aload_n 0, 1) := by decide +kernel
theorem dX0_shorten_24 : decode cX0_shorten 24 = .ok (.getfield 24, 3) := by decide +kernel
theorem dX0_shorten_27 : decode cX0_shorten 27 = .ok (.iload_n 3, 1) := by decide +kernel
theorem dX0_shorten_28 : decode cX0_shorten 28 = .ok (.bipush 8, 2) := by decide +kernel
theorem dX0_shorten_30 : decode cX0_shorten 30 = .ok (.imul, 1) := by decide +kernel
theorem dX0_shorten_31 : decode cX0_shorten 31 = .ok (.iload_n 2, 1) := by decide +kernel
theorem dX0_shorten_32 : decode cX0_shorten 32 = .ok (.iadd, 1) := by decide +kernel
theorem dX0_shorten_33 : decode cX0_shorten 33 = .ok (.iaload, 1) := by decide +kernel
theorem dX0_shorten_34 : decode cX0_shorten 34 = .ok (.aload_n 0, 1) := by decide +kernel
theorem dX0_shorten_35 : decode cX0_shorten 35 = .ok (.getfield 24, 3) := by decide +kernel
theorem dX0_shorten_38 : decode cX0_shorten 38 = .ok (.iload_n 2, 1) := by decide +kernel
theorem dX0_shorten_39 : decode cX0_shorten 39 = .ok (.bipush 8, 2) := by decide +kernel
theorem dX0_shorten_41 : decode cX0_shorten 41 = .ok (.imul, 1) := by decide +kernel
theorem dX0_shorten_42 : decode cX0_shorten 42 = .ok (.iload 4, 2) := by decide +kernel
theorem dX0_shorten_44 : decode cX0_shorten 44 = .ok (.iadd, 1) := by decide +kernel
theorem dX0_shorten_45 : decode cX0_shorten 45 = .ok (.iaload, 1) := by decide +kernel
theorem dX0_shorten_46 : decode cX0_shorten 46 = .ok (.iadd, 1) := by decide +kernel
theorem dX0_shorten_47 : decode cX0_shorten 47 = .ok (.istore 5, 2) := by decide +kernel
theorem dX0_shorten_49 : decode cX0_shorten 49 = .ok (.iload_n 3, 1) := by decide +kernel
theorem dX0_shorten_50 : decode cX0_shorten 50 = .ok (.bipush 8, 2) := by decide +kernel
theorem dX0_shorten_52 : decode cX0_shorten 52 = .ok (.imul, 1) := by decide +kernel
theorem dX0_shorten_53 : decode cX0_shorten 53 = .ok (.iload 4, 2) := by decide +kernel
theorem dX0_shorten_55 : decode cX0_shorten 55 = .ok (.iadd, 1) := by decide +kernel
theorem dX0_shorten_56 : decode cX0_shorten 56 = .ok (.istore 6, 2) := by decide +kernel
theorem dX0_shorten_58 : decode cX0_shorten 58 = .ok (.iload 5, 2) := by decide +kernel
theorem dX0_shorten_60 : decode cX0_shorten 60 = .ok (.aload_n 0, 1) := by decide +kernel
theorem dX0_shorten_61 : decode cX0_shorten 61 = .ok (.getfield 24, 3) := by decide +kernel
theorem dX0_shorten_64 : decode cX0_shorten 64 = .ok (.iload 6, 2) := by decide +kernel
theorem dX0_shorten_66 : decode cX0_shorten 66 = .ok (.iaload, 1) := by decide +kernel
theorem dX0_shorten_67 : decode cX0_shorten 67 = .ok (.if_icmp .ge 12, 3) := by decide +kernel
theorem dX0_shorten_70 : decode cX0_shorten 70 = .ok (.aload_n 0, 1) := by decide +kernel
theorem dX0_shorten_71 : decode cX0_shorten 71 = .ok (.getfield 24, 3) := by decide +kernel
theorem dX0_shorten_74 : decode cX0_shorten 74 = .ok (.iload 6, 2) := by decide +kernel
theorem dX0_shorten_76 : decode cX0_shorten 76 = .ok (.iload 5, 2) := by decide +kernel
theorem dX0_shorten_78 : decode cX0_shorten 78 = .ok (.iastore, 1) := by decide +kernel
theorem dX0_shorten_79 : decode cX0_shorten 79 = .ok (.iinc 4 1, 3) := by decide +kernel
theorem dX0_shorten_82 : decode cX0_shorten 82 = .ok (.goto (-65), 3) := by decide +kernel
theorem dX0_shorten_85 : decode cX0_shorten 85 = .ok (.iinc 3 1, 3) := by decide +kernel
theorem dX0_shorten_88 : decode cX0_shorten 88 = .ok (.goto (-79), 3) := by decide +kernel
theorem dX0_shorten_91 : decode cX0_shorten 91 = .ok (.iinc 2 1, 3) := by decide +kernel
theorem dX0_shorten_94 : decode cX0_shorten 94 = .ok (.goto (-92), 3) := by decide +kernel
theorem dX0_shorten_97 : decode cX0_shorten 97 = .ok (.return_, 1) := by decide +kernel
theorem dX0_keepIfNearer_0 : decode cX0_keepIfNearer 0 = .ok (.aload_n 0, 1) := by decide +kernel
theorem dX0_keepIfNearer_1 : decode cX0_keepIfNearer 1 = .ok (.getfield 24, 3) := by decide +kernel
theorem dX0_keepIfNearer_4 : decode cX0_keepIfNearer 4 = .ok (.iload_n 1, 1) := by decide +kernel
theorem dX0_keepIfNearer_5 : decode cX0_keepIfNearer 5 = .ok (.iaload, 1) := by decide +kernel
theorem dX0_keepIfNearer_6 : decode cX0_keepIfNearer 6 = .ok (.ldc 45, 2) := by decide +kernel
theorem dX0_keepIfNearer_8 : decode cX0_keepIfNearer 8 = .ok (.if_icmp .lt 4, 3) := by decide +kernel
theorem dX0_keepIfNearer_11 : decode cX0_keepIfNearer 11 = .ok (.return_, 1) := by decide +kernel
theorem dX0_keepIfNearer_12 : decode cX0_keepIfNearer 12 = .ok (.aload_n 0, 1) := by decide +kernel
theorem dX0_keepIfNearer_13 : decode cX0_keepIfNearer 13 = .ok (.getfield 18, 3) := by decide +kernel
theorem dX0_keepIfNearer_16 : decode cX0_keepIfNearer 16 = .ok (.iload_n 1, 1) := by decide +kernel
theorem dX0_keepIfNearer_17 : decode cX0_keepIfNearer 17 = .ok (.iaload, 1) := by decide +kernel
theorem dX0_keepIfNearer_18 : decode cX0_keepIfNearer 18 = .ok (.ifCond .ge 22, 3) := by decide +kernel
theorem dX0_keepIfNearer_21 : decode cX0_keepIfNearer 21 = .ok (.aload_n 0, 1) := by decide +kernel
theorem dX0_keepIfNearer_22 : decode cX0_keepIfNearer 22 = .ok (.getfield 18, 3) := by decide +kernel
theorem dX0_keepIfNearer_25 : decode cX0_keepIfNearer 25 = .ok (.iload_n 1, 1) := by decide +kernel
theorem dX0_keepIfNearer_26 : decode cX0_keepIfNearer 26 = .ok (.aload_n 0, 1) := by decide +kernel
theorem dX0_keepIfNearer_27 : decode cX0_keepIfNearer 27 = .ok (.getfield 24, 3) := by decide +kernel
theorem dX0_keepIfNearer_30 : decode cX0_keepIfNearer 30 = .ok (.iload_n 1, 1) := by decide +kernel
theorem dX0_keepIfNearer_31 : decode cX0_keepIfNearer 31 = .ok (.iaload, 1) := by decide +kernel
theorem dX0_keepIfNearer_32 : decode cX0_keepIfNearer 32 = .ok (.iastore, 1) := by decide +kernel
theorem dX0_keepIfNearer_33 : decode cX0_keepIfNearer 33 = .ok (.aload_n 0, 1) := by decide +kernel
theorem dX0_keepIfNearer_34 : decode cX0_keepIfNearer 34 = .ok (.getfield 21, 3) := by decide +kernel
theorem dX0_keepIfNearer_37 : decode cX0_keepIfNearer 37 = .ok (.iload_n 1, 1) := by decide +kernel
theorem dX0_keepIfNearer_38 : decode cX0_keepIfNearer 38 = .ok (.iload_n 2, 1) := by decide +kernel
theorem dX0_keepIfNearer_39 : decode cX0_keepIfNearer 39 = .ok (.iastore, 1) := by decide +kernel
theorem dX0_keepIfNearer_40 : decode cX0_keepIfNearer 40 = .ok (.aload_n 0, 1) := by decide +kernel
theorem dX0_keepIfNearer_41 : decode cX0_keepIfNearer 41 = .ok (.getfield 11, 3) := by decide +kernel
theorem dX0_keepIfNearer_44 : decode cX0_keepIfNearer 44 = .ok (.iload_n 1, 1) := by decide +kernel
theorem dX0_keepIfNearer_45 : decode cX0_keepIfNearer 45 = .ok (.iaload, 1) := by decide +kernel
theorem dX0_keepIfNearer_46 : decode cX0_keepIfNearer 46 = .ok (.ifCond .lt 18, 3) := by decide +kernel
theorem dX0_keepIfNearer_49 : decode cX0_keepIfNearer 49 = .ok (.aload_n 0, 1) := by decide +kernel
theorem dX0_keepIfNearer_50 : decode cX0_keepIfNearer 50 = .ok (.getfield 24, 3) := by decide +kernel
theorem dX0_keepIfNearer_53 : decode cX0_keepIfNearer 53 = .ok (.iload_n 1, 1) := by decide +kernel
theorem dX0_keepIfNearer_54 : decode cX0_keepIfNearer 54 = .ok (.iaload, 1) := by decide +kernel
theorem dX0_keepIfNearer_55 : decode cX0_keepIfNearer 55 = .ok (.aload_n 0, 1) := by decide +kernel
theorem dX0_keepIfNearer_56 : decode cX0_keepIfNearer 56 = .ok (.getfield 11, 3) := by decide +kernel
theorem dX0_keepIfNearer_59 : decode cX0_keepIfNearer 59 = .ok (.iload_n 1, 1) := by decide +kernel
theorem dX0_keepIfNearer_60 : decode cX0_keepIfNearer 60 = .ok (.iaload, 1) := by decide +kernel
theorem dX0_keepIfNearer_61 : decode cX0_keepIfNearer 61 = .ok (.if_icmp .ge 22, 3) := by decide +kernel
theorem dX0_keepIfNearer_64 : decode cX0_keepIfNearer 64 = .ok (.aload_n 0, 1) := by decide +kernel
theorem dX0_keepIfNearer_65 : decode cX0_keepIfNearer 65 = .ok (.getfield 11, 3) := by decide +kernel
theorem dX0_keepIfNearer_68 : decode cX0_keepIfNearer 68 = .ok (.iload_n 1, 1) := by decide +kernel
theorem dX0_keepIfNearer_69 : decode cX0_keepIfNearer 69 = .ok (.aload_n 0, 1) := by decide +kernel
theorem dX0_keepIfNearer_70 : decode cX0_keepIfNearer 70 = .ok (.getfield 24, 3) := by decide +kernel
theorem dX0_keepIfNearer_73 : decode cX0_keepIfNearer 73 = .ok (.iload_n 1, 1) := by decide +kernel
theorem dX0_keepIfNearer_74 : decode cX0_keepIfNearer 74 = .ok (.iaload, 1) := by decide +kernel
theorem dX0_keepIfNearer_75 : decode cX0_keepIfNearer 75 = .ok (.iastore, 1) := by decide +kernel
theorem dX0_keepIfNearer_76 : decode cX0_keepIfNearer 76 = .ok (.aload_n 0, 1) := by decide +kernel
theorem dX0_keepIfNearer_77 : decode cX0_keepIfNearer 77 = .ok (.getfield 15, 3) := by decide +kernel
theorem dX0_keepIfNearer_80 : decode cX0_keepIfNearer 80 = .ok (.iload_n 1, 1) := by decide +kernel
theorem dX0_keepIfNearer_81 : decode cX0_keepIfNearer 81 = .ok (.iload_n 2, 1) := by decide +kernel
theorem dX0_keepIfNearer_82 : decode cX0_keepIfNearer 82 = .ok (.iastore, 1) := by decide +kernel
theorem dX0_keepIfNearer_83 : decode cX0_keepIfNearer 83 = .ok (.return_, 1) := by decide +kernel
theorem dX1_init_0 : decode cX1_init 0 = .ok (.aload_n 0, 1) := by decide +kernel
theorem dX1_init_1 : decode cX1_init 1 = .ok (.invokespecial 3, 3) := by decide +kernel
theorem dX1_init_4 : decode cX1_init 4 = .ok (.aload_n 0, 1) := by decide +kernel
theorem dX1_init_5 : decode cX1_init 5 = .ok (.bipush 96, 2) := by decide +kernel
theorem dX1_init_7 : decode cX1_init 7 = .ok (.newarray .int, 2) := by decide +kernel
theorem dX1_init_9 : decode cX1_init 9 = .ok (.putfield 9, 3) := by decide +kernel
theorem dX1_init_12 : decode cX1_init 12 = .ok (.aload_n 0, 1) := by decide +kernel
theorem dX1_init_13 : decode cX1_init 13 = .ok (.iconst 0, 1) := by decide +kernel
theorem dX1_init_14 : decode cX1_init 14 = .ok (.putfield 15, 3) := by decide +kernel
theorem dX1_init_17 : decode cX1_init 17 = .ok (.return_, 1) := by decide +kernel
theorem dX1_take_0 : decode cX1_take 0 = .ok (.aload_n 0, 1) := by decide +kernel
theorem dX1_take_1 : decode cX1_take 1 = .ok (.getfield 15, 3) := by decide +kernel
theorem dX1_take_4 : decode cX1_take 4 = .ok (.bipush 96, 2) := by decide +kernel
theorem dX1_take_6 : decode cX1_take 6 = .ok (.if_icmp .ge 23, 3) := by decide +kernel
theorem dX1_take_9 : decode cX1_take 9 = .ok (.aload_n 0, 1) := by decide +kernel
theorem dX1_take_10 : decode cX1_take 10 = .ok (.getfield 9, 3) := by decide +kernel
theorem dX1_take_13 : decode cX1_take 13 = .ok (.aload_n 0, 1) := by decide +kernel
theorem dX1_take_14 : decode cX1_take 14 = .ok (.getfield 15, 3) := by decide +kernel
theorem dX1_take_17 : decode cX1_take 17 = .ok (.iload_n 1, 1) := by decide +kernel
theorem dX1_take_18 : decode cX1_take 18 = .ok (.iastore, 1) := by decide +kernel
theorem dX1_take_19 : decode cX1_take 19 = .ok (.aload_n 0, 1) := by decide +kernel
theorem dX1_take_20 : decode cX1_take 20 = .ok (.dup, 1) := by decide +kernel
theorem dX1_take_21 : decode cX1_take 21 = .ok (.getfield 15, 3) := by decide +kernel
theorem dX1_take_24 : decode cX1_take 24 = .ok (.iconst 1, 1) := by decide +kernel
theorem dX1_take_25 : decode cX1_take 25 = .ok (.iadd, 1) := by decide +kernel
theorem dX1_take_26 : decode cX1_take 26 = .ok (.putfield 15, 3) := by decide +kernel
theorem dX1_take_29 : decode cX1_take 29 = .ok (.aload_n 0, 1) := by decide +kernel
theorem dX1_take_30 : decode cX1_take 30 = .ok (.getfield 15, 3) := by decide +kernel
theorem dX1_take_33 : decode cX1_take 33 = .ok (.ireturn, 1) := by decide +kernel
theorem dX1_shapeBehind_0 : decode cX1_shapeBehind 0 = .ok (.iload_n 0, 1) := by decide +kernel
theorem dX1_shapeBehind_1 : decode cX1_shapeBehind 1 = .ok (.lookupswitch 66 #[(100, 63), (101, 57), (102, 60), (112, 51), (119, 54)], 51) := by decide +kernel
theorem dX1_shapeBehind_52 : decode cX1_shapeBehind 52 = .ok (.ldc 19, 2) := by decide +kernel
theorem dX1_shapeBehind_54 : decode cX1_shapeBehind 54 = .ok (.areturn, 1) := by decide +kernel
theorem dX1_shapeBehind_55 : decode cX1_shapeBehind 55 = .ok (.ldc 21, 2) := by decide +kernel
theorem dX1_shapeBehind_57 : decode cX1_shapeBehind 57 = .ok (.areturn, 1) := by decide +kernel
theorem dX1_shapeBehind_58 : decode cX1_shapeBehind 58 = .ok (.ldc 23, 2) := by decide +kernel
theorem dX1_shapeBehind_60 : decode cX1_shapeBehind 60 = .ok (.areturn, 1) := by decide +kernel
theorem dX1_shapeBehind_61 : decode cX1_shapeBehind 61 = .ok (.ldc 25, 2) := by decide +kernel
theorem dX1_shapeBehind_63 : decode cX1_shapeBehind 63 = .ok (.areturn, 1) := by decide +kernel
theorem dX1_shapeBehind_64 : decode cX1_shapeBehind 64 = .ok (.ldc 27, 2) := by decide +kernel
theorem dX1_shapeBehind_66 : decode cX1_shapeBehind 66 = .ok (.areturn, 1) := by decide +kernel
theorem dX1_shapeBehind_67 : decode cX1_shapeBehind 67 = .ok (.ldc 29, 2) := by decide +kernel
theorem dX1_shapeBehind_69 : decode cX1_shapeBehind 69 = .ok (.areturn, 1) := by decide +kernel
theorem dX1_fits_0 : decode cX1_fits 0 = .ok (.iload_n 0, 1) := by decide +kernel
theorem dX1_fits_1 : decode cX1_fits 1 = .ok (.bipush 107, 2) := by decide +kernel
theorem dX1_fits_3 : decode cX1_fits 3 = .ok (.if_icmp .ne 19, 3) := by decide +kernel
theorem dX1_fits_6 : decode cX1_fits 6 = .ok (.ldc 31, 2) := by decide +kernel
theorem dX1_fits_8 : decode cX1_fits 8 = .ok (.iload_n 1, 1) := by decide +kernel
theorem dX1_fits_9 : decode cX1_fits 9 = .ok (.i2c, 1) := by decide +kernel
theorem dX1_fits_10 : decode cX1_fits 10 = .ok (.invokevirtual 33, 3) := by decide +kernel
theorem dX1_fits_13 : decode cX1_fits 13 = .ok (.ifCond .lt 7, 3) := by decide +kernel
theorem dX1_fits_16 : decode cX1_fits 16 = .ok (.iconst 1, 1) := by decide +kernel
theorem dX1_fits_17 : decode cX1_fits 17 = .ok (.goto 4, 3) := by decide +kernel
theorem dX1_fits_20 : decode cX1_fits 20 = .ok (.iconst 0, 1) := by decide +kernel
theorem dX1_fits_21 : decode cX1_fits 21 = .ok (.ireturn, 1) := by decide +kernel
theorem dX1_fits_22 : decode cX1_fits 22 = .ok (.iload_n 0, 1) := by decide +kernel
theorem dX1_fits_23 : decode cX1_fits 23 = .ok (.bipush 48, 2) := by decide +kernel
theorem dX1_fits_25 : decode cX1_fits 25 = .ok (.if_icmp .ne 21, 3) := by decide +kernel
theorem dX1_fits_28 : decode cX1_fits 28 = .ok (.iload_n 1, 1) := by decide +kernel
theorem dX1_fits_29 : decode cX1_fits 29 = .ok (.bipush 48, 2) := by decide +kernel
theorem dX1_fits_31 : decode cX1_fits 31 = .ok (.if_icmp .lt 13, 3) := by decide +kernel
theorem dX1_fits_34 : decode cX1_fits 34 = .ok (.iload_n 1, 1) := by decide +kernel
theorem dX1_fits_35 : decode cX1_fits 35 = .ok (.bipush 57, 2) := by decide +kernel
theorem dX1_fits_37 : decode cX1_fits 37 = .ok (.if_icmp .gt 7, 3) := by decide +kernel
theorem dX1_fits_40 : decode cX1_fits 40 = .ok (.iconst 1, 1) := by decide +kernel
theorem dX1_fits_41 : decode cX1_fits 41 = .ok (.goto 4, 3) := by decide +kernel
theorem dX1_fits_44 : decode cX1_fits 44 = .ok (.iconst 0, 1) := by decide +kernel
theorem dX1_fits_45 : decode cX1_fits 45 = .ok (.ireturn, 1) := by decide +kernel
theorem dX1_fits_46 : decode cX1_fits 46 = .ok (.iload_n 1, 1) := by decide +kernel
theorem dX1_fits_47 : decode cX1_fits 47 = .ok (.iload_n 0, 1) := by decide +kernel
theorem dX1_fits_48 : decode cX1_fits 48 = .ok (.if_icmp .ne 7, 3) := by decide +kernel
theorem dX1_fits_51 : decode cX1_fits 51 = .ok (.iconst 1, 1) := by decide +kernel
theorem dX1_fits_52 : decode cX1_fits 52 = .ok (.goto 4, 3) := by decide +kernel
theorem dX1_fits_55 : decode cX1_fits 55 = .ok (.iconst 0, 1) := by decide +kernel
theorem dX1_fits_56 : decode cX1_fits 56 = .ok (.ireturn, 1) := by decide +kernel
theorem dX1_firstMisfit_0 : decode cX1_firstMisfit 0 = .ok (.ldc 29, 2) := by decide +kernel
theorem dX1_firstMisfit_2 : decode cX1_firstMisfit 2 = .ok (.astore_n 1, 1) := by decide +kernel
theorem dX1_firstMisfit_3 : decode cX1_firstMisfit 3 = .ok (.iconst 0, 1) := by decide +kernel
theorem dX1_firstMisfit_4 : decode cX1_firstMisfit 4 = .ok (.istore_n 2, 1) := by decide +kernel
theorem dX1_firstMisfit_5 : decode cX1_firstMisfit 5 = .ok (.iconst 0, 1) := by decide +kernel
theorem dX1_firstMisfit_6 : decode cX1_firstMisfit 6 = .ok (.istore_n 3, 1) := by decide +kernel
theorem dX1_firstMisfit_7 : decode cX1_firstMisfit 7 = .ok (.iload_n 3, 1) := by decide +kernel
theorem dX1_firstMisfit_8 : decode cX1_firstMisfit 8 = .ok (.aload_n 0, 1) := by decide +kernel
theorem dX1_firstMisfit_9 : decode cX1_firstMisfit 9 = .ok (.getfield 15, 3) := by decide +kernel
theorem dX1_firstMisfit_12 : decode cX1_firstMisfit 12 = .ok (.if_icmp .ge 63, 3) := by decide +kernel
theorem dX1_firstMisfit_15 : decode cX1_firstMisfit 15 = .ok (.iload_n 2, 1) := by decide +kernel
theorem dX1_firstMisfit_16 : decode cX1_firstMisfit 16 = .ok (.aload_n 1, 1) := by decide +kernel
theorem dX1_firstMisfit_17 : decode cX1_firstMisfit 17 = .ok (.invokevirtual 39, 3) := by decide +kernel
theorem dX1_firstMisfit_20 : decode cX1_firstMisfit 20 = .ok (.if_icmp .lt 24, 3) := by decide +kernel
theorem dX1_firstMisfit_23 : decode cX1_firstMisfit 23 = .ok (.aload_n 0, 1) := by decide +kernel
theorem dX1_firstMisfit_24 : decode cX1_firstMisfit 24 = .ok (.getfield 9, 3) := by decide +kernel
theorem dX1_firstMisfit_27 : decode cX1_firstMisfit 27 = .ok (.iload_n 3, 1) := by decide +kernel
theorem dX1_firstMisfit_28 : decode cX1_firstMisfit 28 = .ok (.iaload, 1) := by decide +kernel
theorem dX1_firstMisfit_29 : decode cX1_firstMisfit 29 = .ok (.invokestatic 42, 3) := by decide +kernel
theorem dX1_firstMisfit_32 : decode cX1_firstMisfit 32 = .ok (.astore_n 1, 1) := by decide +kernel
theorem dX1_firstMisfit_33 : decode cX1_firstMisfit 33 = .ok (.iconst 0, 1) := by decide +kernel
theorem dX1_firstMisfit_34 : decode cX1_firstMisfit 34 = .ok (.istore_n 2, 1) := by decide +kernel
theorem dX1_firstMisfit_35 : decode cX1_firstMisfit 35 = .ok (.aload_n 1, 1) := by decide +kernel
theorem dX1_firstMisfit_36 : decode cX1_firstMisfit 36 = .ok (.invokevirtual 46, 3) := by decide +kernel
theorem dX1_firstMisfit_39 : decode cX1_firstMisfit 39 = .ok (.ifCond .eq 30, 3) := by decide +kernel
theorem dX1_firstMisfit_42 : decode cX1_firstMisfit 42 = .ok (.iload_n 3, 1) := by decide +kernel
theorem dX1_firstMisfit_43 : decode cX1_firstMisfit 43 = .ok (.ireturn, 1) := by decide +kernel
theorem dX1_firstMisfit_44 : decode cX1_firstMisfit 44 = .ok (.aload_n 1, 1) := by decide +kernel
theorem dX1_firstMisfit_45 : decode cX1_firstMisfit 45 = .ok (.iload_n 2, 1) := by decide +kernel
theorem dX1_firstMisfit_46 : decode cX1_firstMisfit 46 = .ok (.invokevirtual 50, 3) := by decide +kernel
theorem dX1_firstMisfit_49 : decode cX1_firstMisfit 49 = .ok (.aload_n 0, 1) := by decide +kernel
theorem dX1_firstMisfit_50 : decode cX1_firstMisfit 50 = .ok (.getfield 9, 3) := by decide +kernel
theorem dX1_firstMisfit_53 : decode cX1_firstMisfit 53 = .ok (.iload_n 3, 1) := by decide +kernel
theorem dX1_firstMisfit_54 : decode cX1_firstMisfit 54 = .ok (.iaload, 1) := by decide +kernel
theorem dX1_firstMisfit_55 : decode cX1_firstMisfit 55 = .ok (.invokestatic 54, 3) := by decide +kernel
theorem dX1_firstMisfit_58 : decode cX1_firstMisfit 58 = .ok (.ifCond .eq 9, 3) := by decide +kernel
theorem dX1_firstMisfit_61 : decode cX1_firstMisfit 61 = .ok (.iinc 2 1, 3) := by decide +kernel
theorem dX1_firstMisfit_64 : decode cX1_firstMisfit 64 = .ok (.goto 5, 3) := by decide +kernel
theorem dX1_firstMisfit_67 : decode cX1_firstMisfit 67 = .ok (.iload_n 3, 1) := by decide +kernel
theorem dX1_firstMisfit_68 : decode cX1_firstMisfit 68 = .ok (.ireturn, 1) := by decide +kernel
theorem dX1_firstMisfit_69 : decode cX1_firstMisfit 69 = .ok (.iinc 3 1, 3) := by decide +kernel
theorem dX1_firstMisfit_72 : decode cX1_firstMisfit 72 = .ok (.goto (-65), 3) := by decide +kernel
theorem dX1_firstMisfit_75 : decode cX1_firstMisfit 75 = .ok (.aload_n 0, 1) := by decide +kernel
theorem dX1_firstMisfit_76 : decode cX1_firstMisfit 76 = .ok (.getfield 15, 3) := by decide +kernel
theorem dX1_firstMisfit_79 : decode cX1_firstMisfit 79 = .ok (.ifCond .le 15, 3) := by decide +kernel
theorem dX1_firstMisfit_82 : decode cX1_firstMisfit 82 = .ok (.iload_n 2, 1) := by decide +kernel
theorem dX1_firstMisfit_83 : decode cX1_firstMisfit 83 = .ok (.aload_n 1, 1) := by decide +kernel
theorem dX1_firstMisfit_84 : decode cX1_firstMisfit 84 = .ok (.invokevirtual 39, 3) := by decide +kernel
theorem dX1_firstMisfit_87 : decode cX1_firstMisfit 87 = .ok (.if_icmp .lt 7, 3) := by decide +kernel
theorem dX1_firstMisfit_90 : decode cX1_firstMisfit 90 = .ok (.iconst (-1), 1) := by decide +kernel
theorem dX1_firstMisfit_91 : decode cX1_firstMisfit 91 = .ok (.goto 7, 3) := by decide +kernel
theorem dX1_firstMisfit_94 : decode cX1_firstMisfit 94 = .ok (.aload_n 0, 1) := by decide +kernel
theorem dX1_firstMisfit_95 : decode cX1_firstMisfit 95 = .ok (.getfield 15, 3) := by decide +kernel
theorem dX1_firstMisfit_98 : decode cX1_firstMisfit 98 = .ok (.ireturn, 1) := by decide +kernel
theorem dX1_firstWrongStatement_0 : decode cX1_firstWrongStatement 0 = .ok (.iconst 0, 1) := by decide +kernel
theorem dX1_firstWrongStatement_1 : decode cX1_firstWrongStatement 1 = .ok (.istore_n 2, 1) := by decide +kernel
theorem dX1_firstWrongStatement_2 : decode cX1_firstWrongStatement 2 = .ok (.iload_n 2, 1) := by decide +kernel
theorem dX1_firstWrongStatement_3 : decode cX1_firstWrongStatement 3 = .ok (.aload_n 0, 1) := by decide +kernel
theorem dX1_firstWrongStatement_4 : decode cX1_firstWrongStatement 4 = .ok (.getfield 15, 3) := by decide +kernel
theorem dX1_firstWrongStatement_7 : decode cX1_firstWrongStatement 7 = .ok (.if_icmp .ge 47, 3) := by decide +kernel
theorem dX1_firstWrongStatement_10 : decode cX1_firstWrongStatement 10 = .ok (.iload_n 2, 1) := by decide +kernel
theorem dX1_firstWrongStatement_11 : decode cX1_firstWrongStatement 11 = .ok (.ifCond .eq 16, 3) := by decide +kernel
theorem dX1_firstWrongStatement_14 : decode cX1_firstWrongStatement 14 = .ok (.aload_n 0, 1) := by decide +kernel
theorem dX1_firstWrongStatement_15 : decode cX1_firstWrongStatement 15 = .ok (.getfield 9, 3) := by decide +kernel
theorem dX1_firstWrongStatement_18 : decode cX1_firstWrongStatement 18 = .ok (.iload_n 2, 1) := by decide +kernel
theorem dX1_firstWrongStatement_19 : decode cX1_firstWrongStatement 19 = .ok (.iconst 1, 1) := by decide +kernel
theorem dX1_firstWrongStatement_20 : decode cX1_firstWrongStatement 20 = .ok (.isub, 1) := by decide +kernel
theorem dX1_firstWrongStatement_21 : decode cX1_firstWrongStatement 21 = .ok (.iaload, 1) := by decide +kernel
theorem dX1_firstWrongStatement_22 : decode cX1_firstWrongStatement 22 = .ok (.bipush 59, 2) := by decide +kernel
theorem dX1_firstWrongStatement_24 : decode cX1_firstWrongStatement 24 = .ok (.if_icmp .ne 7, 3) := by decide +kernel
theorem dX1_firstWrongStatement_27 : decode cX1_firstWrongStatement 27 = .ok (.iconst 1, 1) := by decide +kernel
theorem dX1_firstWrongStatement_28 : decode cX1_firstWrongStatement 28 = .ok (.goto 4, 3) := by decide +kernel
theorem dX1_firstWrongStatement_31 : decode cX1_firstWrongStatement 31 = .ok (.iconst 0, 1) := by decide +kernel
theorem dX1_firstWrongStatement_32 : decode cX1_firstWrongStatement 32 = .ok (.istore_n 3, 1) := by decide +kernel
theorem dX1_firstWrongStatement_33 : decode cX1_firstWrongStatement 33 = .ok (.iload_n 3, 1) := by decide +kernel
theorem dX1_firstWrongStatement_34 : decode cX1_firstWrongStatement 34 = .ok (.ifCond .eq 14, 3) := by decide +kernel
theorem dX1_firstWrongStatement_37 : decode cX1_firstWrongStatement 37 = .ok (.aload_n 0, 1) := by decide +kernel
theorem dX1_firstWrongStatement_38 : decode cX1_firstWrongStatement 38 = .ok (.aload_n 1, 1) := by decide +kernel
theorem dX1_firstWrongStatement_39 : decode cX1_firstWrongStatement 39 = .ok (.iload_n 2, 1) := by decide +kernel
theorem dX1_firstWrongStatement_40 : decode cX1_firstWrongStatement 40 = .ok (.invokevirtual 58, 3) := by decide +kernel
theorem dX1_firstWrongStatement_43 : decode cX1_firstWrongStatement 43 = .ok (.ifCond .ne 5, 3) := by decide +kernel
theorem dX1_firstWrongStatement_46 : decode cX1_firstWrongStatement 46 = .ok (.iload_n 2, 1) := by decide +kernel
theorem dX1_firstWrongStatement_47 : decode cX1_firstWrongStatement 47 = .ok (.ireturn, 1) := by decide +kernel
theorem dX1_firstWrongStatement_48 : decode cX1_firstWrongStatement 48 = .ok (.iinc 2 1, 3) := by decide +kernel
theorem dX1_firstWrongStatement_51 : decode cX1_firstWrongStatement 51 = .ok (.goto (-49), 3) := by decide +kernel
theorem dX1_firstWrongStatement_54 : decode cX1_firstWrongStatement 54 = .ok (.iconst (-1), 1) := by decide +kernel
theorem dX1_firstWrongStatement_55 : decode cX1_firstWrongStatement 55 = .ok (.ireturn, 1) := by decide +kernel
theorem dX1_statements_0 : decode cX1_statements 0 = .ok (.iconst 0, 1) := by decide +kernel
theorem dX1_statements_1 : decode cX1_statements 1 = .ok (.istore_n 1, 1) := by decide +kernel
theorem dX1_statements_2 : decode cX1_statements 2 = .ok (.iconst 0, 1) := by decide +kernel
theorem dX1_statements_3 : decode cX1_statements 3 = .ok (.istore_n 2, 1) := by decide +kernel
theorem dX1_statements_4 : decode cX1_statements 4 = .ok (.iload_n 2, 1) := by decide +kernel
theorem dX1_statements_5 : decode cX1_statements 5 = .ok (.aload_n 0, 1) := by decide +kernel
theorem dX1_statements_6 : decode cX1_statements 6 = .ok (.getfield 15, 3) := by decide +kernel
theorem dX1_statements_9 : decode cX1_statements 9 = .ok (.if_icmp .ge 23, 3) := by decide +kernel
theorem dX1_statements_12 : decode cX1_statements 12 = .ok (.aload_n 0, 1) := by decide +kernel
theorem dX1_statements_13 : decode cX1_statements 13 = .ok (.getfield 9, 3) := by decide +kernel
theorem dX1_statements_16 : decode cX1_statements 16 = .ok (.iload_n 2, 1) := by decide +kernel
theorem dX1_statements_17 : decode cX1_statements 17 = .ok (.iaload, 1) := by decide +kernel
theorem dX1_statements_18 : decode cX1_statements 18 = .ok (.bipush 59, 2) := by decide +kernel
theorem dX1_statements_20 : decode cX1_statements 20 = .ok (.if_icmp .ne 6, 3) := by decide +kernel
theorem dX1_statements_23 : decode cX1_statements 23 = .ok (.iinc 1 1, 3) := by decide +kernel
theorem dX1_statements_26 : decode cX1_statements 26 = .ok (.iinc 2 1, 3) := by decide +kernel
theorem dX1_statements_29 : decode cX1_statements 29 = .ok (.goto (-25), 3) := by decide +kernel
theorem dX1_statements_32 : decode cX1_statements 32 = .ok (.iload_n 1, 1) := by decide +kernel
theorem dX1_statements_33 : decode cX1_statements 33 = .ok (.ireturn, 1) := by decide +kernel
theorem dX1_tellStatement_0 : decode cX1_tellStatement 0 = .ok (.aload_n 0, 1) := by decide +kernel
theorem dX1_tellStatement_1 : decode cX1_tellStatement 1 = .ok (.getfield 9, 3) := by decide +kernel
theorem dX1_tellStatement_4 : decode cX1_tellStatement 4 = .ok (.iload_n 2, 1) := by decide +kernel
theorem dX1_tellStatement_5 : decode cX1_tellStatement 5 = .ok (.iaload, 1) := by decide +kernel
theorem dX1_tellStatement_6 : decode cX1_tellStatement 6 = .ok (.lookupswitch 187 #[(100, 174), (101, 115), (102, 153), (112, 50), (119, 78)], 50) := by decide +kernel
theorem dX1_tellStatement_56 : decode cX1_tellStatement 56 = .ok (.aload_n 1, 1) := by decide +kernel
theorem dX1_tellStatement_57 : decode cX1_tellStatement 57 = .ok (.aload_n 0, 1) := by decide +kernel
theorem dX1_tellStatement_58 : decode cX1_tellStatement 58 = .ok (.iload_n 2, 1) := by decide +kernel
theorem dX1_tellStatement_59 : decode cX1_tellStatement 59 = .ok (.iconst 1, 1) := by decide +kernel
theorem dX1_tellStatement_60 : decode cX1_tellStatement 60 = .ok (.iadd, 1) := by decide +kernel
theorem dX1_tellStatement_61 : decode cX1_tellStatement 61 = .ok (.invokevirtual 62, 3) := by decide +kernel
theorem dX1_tellStatement_64 : decode cX1_tellStatement 64 = .ok (.aload_n 0, 1) := by decide +kernel
theorem dX1_tellStatement_65 : decode cX1_tellStatement 65 = .ok (.iload_n 2, 1) := by decide +kernel
theorem dX1_tellStatement_66 : decode cX1_tellStatement 66 = .ok (.iconst 2, 1) := by decide +kernel
theorem dX1_tellStatement_67 : decode cX1_tellStatement 67 = .ok (.iadd, 1) := by decide +kernel
theorem dX1_tellStatement_68 : decode cX1_tellStatement 68 = .ok (.iconst 1, 1) := by decide +kernel
theorem dX1_tellStatement_69 : decode cX1_tellStatement 69 = .ok (.invokevirtual 65, 3) := by decide +kernel
theorem dX1_tellStatement_72 : decode cX1_tellStatement 72 = .ok (.aload_n 0, 1) := by decide +kernel
theorem dX1_tellStatement_73 : decode cX1_tellStatement 73 = .ok (.iload_n 2, 1) := by decide +kernel
theorem dX1_tellStatement_74 : decode cX1_tellStatement 74 = .ok (.iconst 3, 1) := by decide +kernel
theorem dX1_tellStatement_75 : decode cX1_tellStatement 75 = .ok (.iadd, 1) := by decide +kernel
theorem dX1_tellStatement_76 : decode cX1_tellStatement 76 = .ok (.iconst 1, 1) := by decide +kernel
theorem dX1_tellStatement_77 : decode cX1_tellStatement 77 = .ok (.invokevirtual 65, 3) := by decide +kernel
theorem dX1_tellStatement_80 : decode cX1_tellStatement 80 = .ok (.invokevirtual 69, 3) := by decide +kernel
theorem dX1_tellStatement_83 : decode cX1_tellStatement 83 = .ok (.ireturn, 1) := by decide +kernel
theorem dX1_tellStatement_84 : decode cX1_tellStatement 84 = .ok (.aload_n 1, 1) := by decide +kernel
theorem dX1_tellStatement_85 : decode cX1_tellStatement 85 = .ok (.aload_n 0, 1) := by decide +kernel
theorem dX1_tellStatement_86 : decode cX1_tellStatement 86 = .ok (.iload_n 2, 1) := by decide +kernel
theorem dX1_tellStatement_87 : decode cX1_tellStatement 87 = .ok (.iconst 1, 1) := by decide +kernel
theorem dX1_tellStatement_88 : decode cX1_tellStatement 88 = .ok (.iadd, 1) := by decide +kernel
theorem dX1_tellStatement_89 : decode cX1_tellStatement 89 = .ok (.iconst 1, 1) := by decide +kernel
theorem dX1_tellStatement_90 : decode cX1_tellStatement 90 = .ok (.invokevirtual 65, 3) := by decide +kernel
theorem dX1_tellStatement_93 : decode cX1_tellStatement 93 = .ok (.aload_n 0, 1) := by decide +kernel
theorem dX1_tellStatement_94 : decode cX1_tellStatement 94 = .ok (.iload_n 2, 1) := by decide +kernel
theorem dX1_tellStatement_95 : decode cX1_tellStatement 95 = .ok (.iconst 2, 1) := by decide +kernel
theorem dX1_tellStatement_96 : decode cX1_tellStatement 96 = .ok (.iadd, 1) := by decide +kernel
theorem dX1_tellStatement_97 : decode cX1_tellStatement 97 = .ok (.iconst 1, 1) := by decide +kernel
theorem dX1_tellStatement_98 : decode cX1_tellStatement 98 = .ok (.invokevirtual 65, 3) := by decide +kernel
theorem dX1_tellStatement_101 : decode cX1_tellStatement 101 = .ok (.aload_n 0, 1) := by decide +kernel
theorem dX1_tellStatement_102 : decode cX1_tellStatement 102 = .ok (.iload_n 2, 1) := by decide +kernel
theorem dX1_tellStatement_103 : decode cX1_tellStatement 103 = .ok (.iconst 3, 1) := by decide +kernel
theorem dX1_tellStatement_104 : decode cX1_tellStatement 104 = .ok (.iadd, 1) := by decide +kernel
theorem dX1_tellStatement_105 : decode cX1_tellStatement 105 = .ok (.iconst 2, 1) := by decide +kernel
theorem dX1_tellStatement_106 : decode cX1_tellStatement 106 = .ok (.invokevirtual 65, 3) := by decide +kernel
theorem dX1_tellStatement_109 : decode cX1_tellStatement 109 = .ok (.aload_n 0, 1) := by decide +kernel
theorem dX1_tellStatement_110 : decode cX1_tellStatement 110 = .ok (.iload_n 2, 1) := by decide +kernel
theorem dX1_tellStatement_111 : decode cX1_tellStatement 111 = .ok (.iconst 5, 1) := by decide +kernel
theorem dX1_tellStatement_112 : decode cX1_tellStatement 112 = .ok (.iadd, 1) := by decide +kernel
theorem dX1_tellStatement_113 : decode cX1_tellStatement 113 = .ok (.iconst 1, 1) := by decide +kernel
theorem dX1_tellStatement_114 : decode cX1_tellStatement 114 = .ok (.invokevirtual 65, 3) := by decide +kernel
theorem dX1_tellStatement_117 : decode cX1_tellStatement 117 = .ok (.invokevirtual 75, 3) := by decide +kernel
theorem dX1_tellStatement_120 : decode cX1_tellStatement 120 = .ok (.ireturn, 1) := by decide +kernel
theorem dX1_tellStatement_121 : decode cX1_tellStatement 121 = .ok (.aload_n 1, 1) := by decide +kernel
theorem dX1_tellStatement_122 : decode cX1_tellStatement 122 = .ok (.aload_n 0, 1) := by decide +kernel
theorem dX1_tellStatement_123 : decode cX1_tellStatement 123 = .ok (.iload_n 2, 1) := by decide +kernel
theorem dX1_tellStatement_124 : decode cX1_tellStatement 124 = .ok (.iconst 1, 1) := by decide +kernel
theorem dX1_tellStatement_125 : decode cX1_tellStatement 125 = .ok (.iadd, 1) := by decide +kernel
theorem dX1_tellStatement_126 : decode cX1_tellStatement 126 = .ok (.iconst 1, 1) := by decide +kernel
theorem dX1_tellStatement_127 : decode cX1_tellStatement 127 = .ok (.invokevirtual 65, 3) := by decide +kernel
theorem dX1_tellStatement_130 : decode cX1_tellStatement 130 = .ok (.aload_n 0, 1) := by decide +kernel
theorem dX1_tellStatement_131 : decode cX1_tellStatement 131 = .ok (.iload_n 2, 1) := by decide +kernel
theorem dX1_tellStatement_132 : decode cX1_tellStatement 132 = .ok (.iconst 2, 1) := by decide +kernel
theorem dX1_tellStatement_133 : decode cX1_tellStatement 133 = .ok (.iadd, 1) := by decide +kernel
theorem dX1_tellStatement_134 : decode cX1_tellStatement 134 = .ok (.iconst 2, 1) := by decide +kernel
theorem dX1_tellStatement_135 : decode cX1_tellStatement 135 = .ok (.invokevirtual 65, 3) := by decide +kernel
theorem dX1_tellStatement_138 : decode cX1_tellStatement 138 = .ok (.aload_n 0, 1) := by decide +kernel
theorem dX1_tellStatement_139 : decode cX1_tellStatement 139 = .ok (.iload_n 2, 1) := by decide +kernel
theorem dX1_tellStatement_140 : decode cX1_tellStatement 140 = .ok (.iconst 4, 1) := by decide +kernel
theorem dX1_tellStatement_141 : decode cX1_tellStatement 141 = .ok (.iadd, 1) := by decide +kernel
theorem dX1_tellStatement_142 : decode cX1_tellStatement 142 = .ok (.iconst 2, 1) := by decide +kernel
theorem dX1_tellStatement_143 : decode cX1_tellStatement 143 = .ok (.invokevirtual 65, 3) := by decide +kernel
theorem dX1_tellStatement_146 : decode cX1_tellStatement 146 = .ok (.aload_n 0, 1) := by decide +kernel
theorem dX1_tellStatement_147 : decode cX1_tellStatement 147 = .ok (.iload_n 2, 1) := by decide +kernel
theorem dX1_tellStatement_148 : decode cX1_tellStatement 148 = .ok (.bipush 6, 2) := by decide +kernel
theorem dX1_tellStatement_150 : decode cX1_tellStatement 150 = .ok (.iadd, 1) := by decide +kernel
theorem dX1_tellStatement_151 : decode cX1_tellStatement 151 = .ok (.iconst 3, 1) := by decide +kernel
theorem dX1_tellStatement_152 : decode cX1_tellStatement 152 = .ok (.invokevirtual 65, 3) := by decide +kernel
theorem dX1_tellStatement_155 : decode cX1_tellStatement 155 = .ok (.invokevirtual 79, 3) := by decide +kernel
theorem dX1_tellStatement_158 : decode cX1_tellStatement 158 = .ok (.ireturn, 1) := by decide +kernel
theorem dX1_tellStatement_159 : decode cX1_tellStatement 159 = .ok (.aload_n 1, 1) := by decide +kernel
theorem dX1_tellStatement_160 : decode cX1_tellStatement 160 = .ok (.aload_n 0, 1) := by decide +kernel
theorem dX1_tellStatement_161 : decode cX1_tellStatement 161 = .ok (.iload_n 2, 1) := by decide +kernel
theorem dX1_tellStatement_162 : decode cX1_tellStatement 162 = .ok (.iconst 1, 1) := by decide +kernel
theorem dX1_tellStatement_163 : decode cX1_tellStatement 163 = .ok (.iadd, 1) := by decide +kernel
theorem dX1_tellStatement_164 : decode cX1_tellStatement 164 = .ok (.iconst 1, 1) := by decide +kernel
theorem dX1_tellStatement_165 : decode cX1_tellStatement 165 = .ok (.invokevirtual 65, 3) := by decide +kernel
theorem dX1_tellStatement_168 : decode cX1_tellStatement 168 = .ok (.aload_n 0, 1) := by decide +kernel
theorem dX1_tellStatement_169 : decode cX1_tellStatement 169 = .ok (.iload_n 2, 1) := by decide +kernel
theorem dX1_tellStatement_170 : decode cX1_tellStatement 170 = .ok (.iconst 2, 1) := by decide +kernel
theorem dX1_tellStatement_171 : decode cX1_tellStatement 171 = .ok (.iadd, 1) := by decide +kernel
theorem dX1_tellStatement_172 : decode cX1_tellStatement 172 = .ok (.iconst 2, 1) := by decide +kernel
theorem dX1_tellStatement_173 : decode cX1_tellStatement 173 = .ok (.invokevirtual 65, 3) := by decide +kernel
theorem dX1_tellStatement_176 : decode cX1_tellStatement 176 = .ok (.invokevirtual 82, 3) := by decide +kernel
theorem dX1_tellStatement_179 : decode cX1_tellStatement 179 = .ok (.ireturn, 1) := by decide +kernel
theorem dX1_tellStatement_180 : decode cX1_tellStatement 180 = .ok (.aload_n 1, 1) := by decide +kernel
theorem dX1_tellStatement_181 : decode cX1_tellStatement 181 = .ok (.aload_n 0, 1) := by decide +kernel
theorem dX1_tellStatement_182 : decode cX1_tellStatement 182 = .ok (.iload_n 2, 1) := by decide +kernel
theorem dX1_tellStatement_183 : decode cX1_tellStatement 183 = .ok (.iconst 1, 1) := by decide +kernel
theorem dX1_tellStatement_184 : decode cX1_tellStatement 184 = .ok (.iadd, 1) := by decide +kernel
theorem dX1_tellStatement_185 : decode cX1_tellStatement 185 = .ok (.iconst 1, 1) := by decide +kernel
theorem dX1_tellStatement_186 : decode cX1_tellStatement 186 = .ok (.invokevirtual 65, 3) := by decide +kernel
theorem dX1_tellStatement_189 : decode cX1_tellStatement 189 = .ok (.invokevirtual 86, 3) := by decide +kernel
theorem dX1_tellStatement_192 : decode cX1_tellStatement 192 = .ok (.ireturn, 1) := by decide +kernel
theorem dX1_tellStatement_193 : decode cX1_tellStatement 193 = .ok (.iconst 0, 1) := by decide +kernel
theorem dX1_tellStatement_194 : decode cX1_tellStatement 194 = .ok (.ireturn, 1) := by decide +kernel
theorem dX1_kindAt_0 : decode cX1_kindAt 0 = .ok (.iload_n 1, 1) := by decide +kernel
theorem dX1_kindAt_1 : decode cX1_kindAt 1 = .ok (.aload_n 0, 1) := by decide +kernel
theorem dX1_kindAt_2 : decode cX1_kindAt 2 = .ok (.getfield 15, 3) := by decide +kernel
theorem dX1_kindAt_5 : decode cX1_kindAt 5 = .ok (.if_icmp .ge 18, 3) := by decide +kernel
theorem dX1_kindAt_8 : decode cX1_kindAt 8 = .ok (.ldc 31, 2) := by decide +kernel
theorem dX1_kindAt_10 : decode cX1_kindAt 10 = .ok (.aload_n 0, 1) := by decide +kernel
theorem dX1_kindAt_11 : decode cX1_kindAt 11 = .ok (.getfield 9, 3) := by decide +kernel
theorem dX1_kindAt_14 : decode cX1_kindAt 14 = .ok (.iload_n 1, 1) := by decide +kernel
theorem dX1_kindAt_15 : decode cX1_kindAt 15 = .ok (.iaload, 1) := by decide +kernel
theorem dX1_kindAt_16 : decode cX1_kindAt 16 = .ok (.i2c, 1) := by decide +kernel
theorem dX1_kindAt_17 : decode cX1_kindAt 17 = .ok (.invokevirtual 33, 3) := by decide +kernel
theorem dX1_kindAt_20 : decode cX1_kindAt 20 = .ok (.goto 4, 3) := by decide +kernel
theorem dX1_kindAt_23 : decode cX1_kindAt 23 = .ok (.iconst 0, 1) := by decide +kernel
theorem dX1_kindAt_24 : decode cX1_kindAt 24 = .ok (.ireturn, 1) := by decide +kernel
theorem dX1_number_0 : decode cX1_number 0 = .ok (.iconst 0, 1) := by decide +kernel
theorem dX1_number_1 : decode cX1_number 1 = .ok (.istore_n 3, 1) := by decide +kernel
theorem dX1_number_2 : decode cX1_number 2 = .ok (.iload_n 1, 1) := by decide +kernel
theorem dX1_number_3 : decode cX1_number 3 = .ok (.istore 4, 2) := by decide +kernel
theorem dX1_number_5 : decode cX1_number 5 = .ok (.iload 4, 2) := by decide +kernel
theorem dX1_number_7 : decode cX1_number 7 = .ok (.iload_n 1, 1) := by decide +kernel
theorem dX1_number_8 : decode cX1_number 8 = .ok (.iload_n 2, 1) := by decide +kernel
theorem dX1_number_9 : decode cX1_number 9 = .ok (.iadd, 1) := by decide +kernel
theorem dX1_number_10 : decode cX1_number 10 = .ok (.if_icmp .ge 34, 3) := by decide +kernel
theorem dX1_number_13 : decode cX1_number 13 = .ok (.iload 4, 2) := by decide +kernel
theorem dX1_number_15 : decode cX1_number 15 = .ok (.aload_n 0, 1) := by decide +kernel
theorem dX1_number_16 : decode cX1_number 16 = .ok (.getfield 15, 3) := by decide +kernel
theorem dX1_number_19 : decode cX1_number 19 = .ok (.if_icmp .ge 25, 3) := by decide +kernel
theorem dX1_number_22 : decode cX1_number 22 = .ok (.bipush 10, 2) := by decide +kernel
theorem dX1_number_24 : decode cX1_number 24 = .ok (.iload_n 3, 1) := by decide +kernel
theorem dX1_number_25 : decode cX1_number 25 = .ok (.imul, 1) := by decide +kernel
theorem dX1_number_26 : decode cX1_number 26 = .ok (.aload_n 0, 1) := by decide +kernel
theorem dX1_number_27 : decode cX1_number 27 = .ok (.getfield 9, 3) := by decide +kernel
theorem dX1_number_30 : decode cX1_number 30 = .ok (.iload 4, 2) := by decide +kernel
theorem dX1_number_32 : decode cX1_number 32 = .ok (.iaload, 1) := by decide +kernel
theorem dX1_number_33 : decode cX1_number 33 = .ok (.iadd, 1) := by decide +kernel
theorem dX1_number_34 : decode cX1_number 34 = .ok (.bipush 48, 2) := by decide +kernel
theorem dX1_number_36 : decode cX1_number 36 = .ok (.isub, 1) := by decide +kernel
theorem dX1_number_37 : decode cX1_number 37 = .ok (.istore_n 3, 1) := by decide +kernel
theorem dX1_number_38 : decode cX1_number 38 = .ok (.iinc 4 1, 3) := by decide +kernel
theorem dX1_number_41 : decode cX1_number 41 = .ok (.goto (-36), 3) := by decide +kernel
theorem dX1_number_44 : decode cX1_number 44 = .ok (.iload_n 3, 1) := by decide +kernel
theorem dX1_number_45 : decode cX1_number 45 = .ok (.ireturn, 1) := by decide +kernel
theorem dX2_init_0 : decode cX2_init 0 = .ok (.aload_n 0, 1) := by decide +kernel
theorem dX2_init_1 : decode cX2_init 1 = .ok (.invokespecial 3, 3) := by decide +kernel
theorem dX2_init_4 : decode cX2_init 4 = .ok (.aload_n 0, 1) := by decide +kernel
theorem dX2_init_5 : decode cX2_init 5 = .ok (.bipush 8, 2) := by decide +kernel
theorem dX2_init_7 : decode cX2_init 7 = .ok (.newarray .int, 2) := by decide +kernel
theorem dX2_init_9 : decode cX2_init 9 = .ok (.putfield 9, 3) := by decide +kernel
theorem dX2_init_12 : decode cX2_init 12 = .ok (.aload_n 0, 1) := by decide +kernel
theorem dX2_init_13 : decode cX2_init 13 = .ok (.bipush 8, 2) := by decide +kernel
theorem dX2_init_15 : decode cX2_init 15 = .ok (.newarray .int, 2) := by decide +kernel
theorem dX2_init_17 : decode cX2_init 17 = .ok (.putfield 15, 3) := by decide +kernel
theorem dX2_init_20 : decode cX2_init 20 = .ok (.aload_n 0, 1) := by decide +kernel
theorem dX2_init_21 : decode cX2_init 21 = .ok (.bipush 8, 2) := by decide +kernel
theorem dX2_init_23 : decode cX2_init 23 = .ok (.newarray .int, 2) := by decide +kernel
theorem dX2_init_25 : decode cX2_init 25 = .ok (.putfield 18, 3) := by decide +kernel
theorem dX2_init_28 : decode cX2_init 28 = .ok (.aload_n 0, 1) := by decide +kernel
theorem dX2_init_29 : decode cX2_init 29 = .ok (.bipush 14, 2) := by decide +kernel
theorem dX2_init_31 : decode cX2_init 31 = .ok (.newarray .int, 2) := by decide +kernel
theorem dX2_init_33 : decode cX2_init 33 = .ok (.putfield 21, 3) := by decide +kernel
theorem dX2_init_36 : decode cX2_init 36 = .ok (.aload_n 0, 1) := by decide +kernel
theorem dX2_init_37 : decode cX2_init 37 = .ok (.bipush 14, 2) := by decide +kernel
theorem dX2_init_39 : decode cX2_init 39 = .ok (.newarray .int, 2) := by decide +kernel
theorem dX2_init_41 : decode cX2_init 41 = .ok (.putfield 24, 3) := by decide +kernel
theorem dX2_init_44 : decode cX2_init 44 = .ok (.aload_n 0, 1) := by decide +kernel
theorem dX2_init_45 : decode cX2_init 45 = .ok (.bipush 14, 2) := by decide +kernel
theorem dX2_init_47 : decode cX2_init 47 = .ok (.newarray .int, 2) := by decide +kernel
theorem dX2_init_49 : decode cX2_init 49 = .ok (.putfield 27, 3) := by decide +kernel
theorem dX2_init_52 : decode cX2_init 52 = .ok (.aload_n 0, 1) := by decide +kernel
theorem dX2_init_53 : decode cX2_init 53 = .ok (.bipush 14, 2) := by decide +kernel
theorem dX2_init_55 : decode cX2_init 55 = .ok (.newarray .int, 2) := by decide +kernel
theorem dX2_init_57 : decode cX2_init 57 = .ok (.putfield 30, 3) := by decide +kernel
theorem dX2_init_60 : decode cX2_init 60 = .ok (.aload_n 0, 1) := by decide +kernel
theorem dX2_init_61 : decode cX2_init 61 = .ok (.iconst 5, 1) := by decide +kernel
theorem dX2_init_62 : decode cX2_init 62 = .ok (.newarray .int, 2) := by decide +kernel
theorem dX2_init_64 : decode cX2_init 64 = .ok (.putfield 33, 3) := by decide +kernel
theorem dX2_init_67 : decode cX2_init 67 = .ok (.aload_n 0, 1) := by decide +kernel
theorem dX2_init_68 : decode cX2_init 68 = .ok (.iconst 5, 1) := by decide +kernel
theorem dX2_init_69 : decode cX2_init 69 = .ok (.newarray .int, 2) := by decide +kernel
theorem dX2_init_71 : decode cX2_init 71 = .ok (.putfield 36, 3) := by decide +kernel
theorem dX2_init_74 : decode cX2_init 74 = .ok (.aload_n 0, 1) := by decide +kernel
theorem dX2_init_75 : decode cX2_init 75 = .ok (.iconst 5, 1) := by decide +kernel
theorem dX2_init_76 : decode cX2_init 76 = .ok (.newarray .int, 2) := by decide +kernel
theorem dX2_init_78 : decode cX2_init 78 = .ok (.putfield 39, 3) := by decide +kernel
theorem dX2_init_81 : decode cX2_init 81 = .ok (.aload_n 0, 1) := by decide +kernel
theorem dX2_init_82 : decode cX2_init 82 = .ok (.iconst 5, 1) := by decide +kernel
theorem dX2_init_83 : decode cX2_init 83 = .ok (.newarray .int, 2) := by decide +kernel
theorem dX2_init_85 : decode cX2_init 85 = .ok (.putfield 42, 3) := by decide +kernel
theorem dX2_init_88 : decode cX2_init 88 = .ok (.aload_n 0, 1) := by decide +kernel
theorem dX2_init_89 : decode cX2_init 89 = .ok (.iconst 0, 1) := by decide +kernel
theorem dX2_init_90 : decode cX2_init 90 = .ok (.putfield 45, 3) := by decide +kernel
theorem dX2_init_93 : decode cX2_init 93 = .ok (.aload_n 0, 1) := by decide +kernel
theorem dX2_init_94 : decode cX2_init 94 = .ok (.iconst 0, 1) := by decide +kernel
theorem dX2_init_95 : decode cX2_init 95 = .ok (.putfield 49, 3) := by decide +kernel
theorem dX2_init_98 : decode cX2_init 98 = .ok (.aload_n 0, 1) := by decide +kernel
theorem dX2_init_99 : decode cX2_init 99 = .ok (.iconst 0, 1) := by decide +kernel
theorem dX2_init_100 : decode cX2_init 100 = .ok (.putfield 52, 3) := by decide +kernel
theorem dX2_init_103 : decode cX2_init 103 = .ok (.aload_n 0, 1) := by decide +kernel
theorem dX2_init_104 : decode cX2_init 104 = .ok (.iconst 1, 1) := by decide +kernel
theorem dX2_init_105 : decode cX2_init 105 = .ok (.putfield 55, 3) := by decide +kernel
theorem dX2_init_108 : decode cX2_init 108 = .ok (.aload_n 0, 1) := by decide +kernel
theorem dX2_init_109 : decode cX2_init 109 = .ok (.bipush 10, 2) := by decide +kernel
theorem dX2_init_111 : decode cX2_init 111 = .ok (.putfield 58, 3) := by decide +kernel
theorem dX2_init_114 : decode cX2_init 114 = .ok (.aload_n 0, 1) := by decide +kernel
theorem dX2_init_115 : decode cX2_init 115 = .ok (.iconst 0, 1) := by decide +kernel
theorem dX2_init_116 : decode cX2_init 116 = .ok (.putfield 61, 3) := by decide +kernel
theorem dX2_init_119 : decode cX2_init 119 = .ok (.return_, 1) := by decide +kernel
theorem dX2_becomeLike_0 : decode cX2_becomeLike 0 = .ok (.aload_n 1, 1) := by decide +kernel
theorem dX2_becomeLike_1 : decode cX2_becomeLike 1 = .ok (.getfield 9, 3) := by decide +kernel
theorem dX2_becomeLike_4 : decode cX2_becomeLike 4 = .ok (.iconst 0, 1) := by decide +kernel
theorem dX2_becomeLike_5 : decode cX2_becomeLike 5 = .ok (.aload_n 0, 1) := by decide +kernel
theorem dX2_becomeLike_6 : decode cX2_becomeLike 6 = .ok (.getfield 9, 3) := by decide +kernel
theorem dX2_becomeLike_9 : decode cX2_becomeLike 9 = .ok (.iconst 0, 1) := by decide +kernel
theorem dX2_becomeLike_10 : decode cX2_becomeLike 10 = .ok (.bipush 8, 2) := by decide +kernel
theorem dX2_becomeLike_12 : decode cX2_becomeLike 12 = .ok (.invokestatic 64, 3) := by decide +kernel
theorem dX2_becomeLike_15 : decode cX2_becomeLike 15 = .ok (.aload_n 1, 1) := by decide +kernel
theorem dX2_becomeLike_16 : decode cX2_becomeLike 16 = .ok (.getfield 15, 3) := by decide +kernel
theorem dX2_becomeLike_19 : decode cX2_becomeLike 19 = .ok (.iconst 0, 1) := by decide +kernel
theorem dX2_becomeLike_20 : decode cX2_becomeLike 20 = .ok (.aload_n 0, 1) := by decide +kernel
theorem dX2_becomeLike_21 : decode cX2_becomeLike 21 = .ok (.getfield 15, 3) := by decide +kernel
theorem dX2_becomeLike_24 : decode cX2_becomeLike 24 = .ok (.iconst 0, 1) := by decide +kernel
theorem dX2_becomeLike_25 : decode cX2_becomeLike 25 = .ok (.bipush 8, 2) := by decide +kernel
theorem dX2_becomeLike_27 : decode cX2_becomeLike 27 = .ok (.invokestatic 64, 3) := by decide +kernel
theorem dX2_becomeLike_30 : decode cX2_becomeLike 30 = .ok (.aload_n 1, 1) := by decide +kernel
theorem dX2_becomeLike_31 : decode cX2_becomeLike 31 = .ok (.getfield 18, 3) := by decide +kernel
theorem dX2_becomeLike_34 : decode cX2_becomeLike 34 = .ok (.iconst 0, 1) := by decide +kernel
theorem dX2_becomeLike_35 : decode cX2_becomeLike 35 = .ok (.aload_n 0, 1) := by decide +kernel
theorem dX2_becomeLike_36 : decode cX2_becomeLike 36 = .ok (.getfield 18, 3) := by decide +kernel
theorem dX2_becomeLike_39 : decode cX2_becomeLike 39 = .ok (.iconst 0, 1) := by decide +kernel
theorem dX2_becomeLike_40 : decode cX2_becomeLike 40 = .ok (.bipush 8, 2) := by decide +kernel
theorem dX2_becomeLike_42 : decode cX2_becomeLike 42 = .ok (.invokestatic 64, 3) := by decide +kernel
theorem dX2_becomeLike_45 : decode cX2_becomeLike 45 = .ok (.aload_n 1, 1) := by decide +kernel
theorem dX2_becomeLike_46 : decode cX2_becomeLike 46 = .ok (.getfield 21, 3) := by decide +kernel
theorem dX2_becomeLike_49 : decode cX2_becomeLike 49 = .ok (.iconst 0, 1) := by decide +kernel
theorem dX2_becomeLike_50 : decode cX2_becomeLike 50 = .ok (.aload_n 0, 1) := by decide +kernel
theorem dX2_becomeLike_51 : decode cX2_becomeLike 51 = .ok (.getfield 21, 3) := by decide +kernel
theorem dX2_becomeLike_54 : decode cX2_becomeLike 54 = .ok (.iconst 0, 1) := by decide +kernel
theorem dX2_becomeLike_55 : decode cX2_becomeLike 55 = .ok (.bipush 14, 2) := by decide +kernel
theorem dX2_becomeLike_57 : decode cX2_becomeLike 57 = .ok (.invokestatic 64, 3) := by decide +kernel
theorem dX2_becomeLike_60 : decode cX2_becomeLike 60 = .ok (.aload_n 1, 1) := by decide +kernel
theorem dX2_becomeLike_61 : decode cX2_becomeLike 61 = .ok (.getfield 24, 3) := by decide +kernel
theorem dX2_becomeLike_64 : decode cX2_becomeLike 64 = .ok (.iconst 0, 1) := by decide +kernel
theorem dX2_becomeLike_65 : decode cX2_becomeLike 65 = .ok (.aload_n 0, 1) := by decide +kernel
theorem dX2_becomeLike_66 : decode cX2_becomeLike 66 = .ok (.getfield 24, 3) := by decide +kernel
theorem dX2_becomeLike_69 : decode cX2_becomeLike 69 = .ok (.iconst 0, 1) := by decide +kernel
theorem dX2_becomeLike_70 : decode cX2_becomeLike 70 = .ok (.bipush 14, 2) := by decide +kernel
theorem dX2_becomeLike_72 : decode cX2_becomeLike 72 = .ok (.invokestatic 64, 3) := by decide +kernel
theorem dX2_becomeLike_75 : decode cX2_becomeLike 75 = .ok (.aload_n 1, 1) := by decide +kernel
theorem dX2_becomeLike_76 : decode cX2_becomeLike 76 = .ok (.getfield 27, 3) := by decide +kernel
theorem dX2_becomeLike_79 : decode cX2_becomeLike 79 = .ok (.iconst 0, 1) := by decide +kernel
theorem dX2_becomeLike_80 : decode cX2_becomeLike 80 = .ok (.aload_n 0, 1) := by decide +kernel
theorem dX2_becomeLike_81 : decode cX2_becomeLike 81 = .ok (.getfield 27, 3) := by decide +kernel
theorem dX2_becomeLike_84 : decode cX2_becomeLike 84 = .ok (.iconst 0, 1) := by decide +kernel
theorem dX2_becomeLike_85 : decode cX2_becomeLike 85 = .ok (.bipush 14, 2) := by decide +kernel
theorem dX2_becomeLike_87 : decode cX2_becomeLike 87 = .ok (.invokestatic 64, 3) := by decide +kernel
theorem dX2_becomeLike_90 : decode cX2_becomeLike 90 = .ok (.aload_n 1, 1) := by decide +kernel
theorem dX2_becomeLike_91 : decode cX2_becomeLike 91 = .ok (.getfield 30, 3) := by decide +kernel
theorem dX2_becomeLike_94 : decode cX2_becomeLike 94 = .ok (.iconst 0, 1) := by decide +kernel
theorem dX2_becomeLike_95 : decode cX2_becomeLike 95 = .ok (.aload_n 0, 1) := by decide +kernel
theorem dX2_becomeLike_96 : decode cX2_becomeLike 96 = .ok (.getfield 30, 3) := by decide +kernel
theorem dX2_becomeLike_99 : decode cX2_becomeLike 99 = .ok (.iconst 0, 1) := by decide +kernel
theorem dX2_becomeLike_100 : decode cX2_becomeLike 100 = .ok (.bipush 14, 2) := by decide +kernel
theorem dX2_becomeLike_102 : decode cX2_becomeLike 102 = .ok (.invokestatic 64, 3) := by decide +kernel
theorem dX2_becomeLike_105 : decode cX2_becomeLike 105 = .ok (.aload_n 1, 1) := by decide +kernel
theorem dX2_becomeLike_106 : decode cX2_becomeLike 106 = .ok (.getfield 33, 3) := by decide +kernel
theorem dX2_becomeLike_109 : decode cX2_becomeLike 109 = .ok (.iconst 0, 1) := by decide +kernel
theorem dX2_becomeLike_110 : decode cX2_becomeLike 110 = .ok (.aload_n 0, 1) := by decide +kernel
theorem dX2_becomeLike_111 : decode cX2_becomeLike 111 = .ok (.getfield 33, 3) := by decide +kernel
theorem dX2_becomeLike_114 : decode cX2_becomeLike 114 = .ok (.iconst 0, 1) := by decide +kernel
theorem dX2_becomeLike_115 : decode cX2_becomeLike 115 = .ok (.iconst 5, 1) := by decide +kernel
theorem dX2_becomeLike_116 : decode cX2_becomeLike 116 = .ok (.invokestatic 64, 3) := by decide +kernel
theorem dX2_becomeLike_119 : decode cX2_becomeLike 119 = .ok (.aload_n 1, 1) := by decide +kernel
theorem dX2_becomeLike_120 : decode cX2_becomeLike 120 = .ok (.getfield 36, 3) := by decide +kernel
theorem dX2_becomeLike_123 : decode cX2_becomeLike 123 = .ok (.iconst 0, 1) := by decide +kernel
theorem dX2_becomeLike_124 : decode cX2_becomeLike 124 = .ok (.aload_n 0, 1) := by decide +kernel
theorem dX2_becomeLike_125 : decode cX2_becomeLike 125 = .ok (.getfield 36, 3) := by decide +kernel
theorem dX2_becomeLike_128 : decode cX2_becomeLike 128 = .ok (.iconst 0, 1) := by decide +kernel
theorem dX2_becomeLike_129 : decode cX2_becomeLike 129 = .ok (.iconst 5, 1) := by decide +kernel
theorem dX2_becomeLike_130 : decode cX2_becomeLike 130 = .ok (.invokestatic 64, 3) := by decide +kernel
theorem dX2_becomeLike_133 : decode cX2_becomeLike 133 = .ok (.aload_n 1, 1) := by decide +kernel
theorem dX2_becomeLike_134 : decode cX2_becomeLike 134 = .ok (.getfield 39, 3) := by decide +kernel
theorem dX2_becomeLike_137 : decode cX2_becomeLike 137 = .ok (.iconst 0, 1) := by decide +kernel
theorem dX2_becomeLike_138 : decode cX2_becomeLike 138 = .ok (.aload_n 0, 1) := by decide +kernel
theorem dX2_becomeLike_139 : decode cX2_becomeLike 139 = .ok (.getfield 39, 3) := by decide +kernel
theorem dX2_becomeLike_142 : decode cX2_becomeLike 142 = .ok (.iconst 0, 1) := by decide +kernel
theorem dX2_becomeLike_143 : decode cX2_becomeLike 143 = .ok (.iconst 5, 1) := by decide +kernel
theorem dX2_becomeLike_144 : decode cX2_becomeLike 144 = .ok (.invokestatic 64, 3) := by decide +kernel
theorem dX2_becomeLike_147 : decode cX2_becomeLike 147 = .ok (.aload_n 1, 1) := by decide +kernel
theorem dX2_becomeLike_148 : decode cX2_becomeLike 148 = .ok (.getfield 42, 3) := by decide +kernel
theorem dX2_becomeLike_151 : decode cX2_becomeLike 151 = .ok (.iconst 0, 1) := by decide +kernel
theorem dX2_becomeLike_152 : decode cX2_becomeLike 152 = .ok (.aload_n 0, 1) := by decide +kernel
theorem dX2_becomeLike_153 : decode cX2_becomeLike 153 = .ok (.getfield 42, 3) := by decide +kernel
theorem dX2_becomeLike_156 : decode cX2_becomeLike 156 = .ok (.iconst 0, 1) := by decide +kernel
theorem dX2_becomeLike_157 : decode cX2_becomeLike 157 = .ok (.iconst 5, 1) := by decide +kernel
theorem dX2_becomeLike_158 : decode cX2_becomeLike 158 = .ok (.invokestatic 64, 3) := by decide +kernel
theorem dX2_becomeLike_161 : decode cX2_becomeLike 161 = .ok (.aload_n 0, 1) := by decide +kernel
theorem dX2_becomeLike_162 : decode cX2_becomeLike 162 = .ok (.aload_n 1, 1) := by decide +kernel
theorem dX2_becomeLike_163 : decode cX2_becomeLike 163 = .ok (.getfield 45, 3) := by decide +kernel
theorem dX2_becomeLike_166 : decode cX2_becomeLike 166 = .ok (.putfield 45, 3) := by decide +kernel
theorem dX2_becomeLike_169 : decode cX2_becomeLike 169 = .ok (.aload_n 0, 1) := by decide +kernel
theorem dX2_becomeLike_170 : decode cX2_becomeLike 170 = .ok (.aload_n 1, 1) := by decide +kernel
theorem dX2_becomeLike_171 : decode cX2_becomeLike 171 = .ok (.getfield 49, 3) := by decide +kernel
theorem dX2_becomeLike_174 : decode cX2_becomeLike 174 = .ok (.putfield 49, 3) := by decide +kernel
theorem dX2_becomeLike_177 : decode cX2_becomeLike 177 = .ok (.aload_n 0, 1) := by decide +kernel
theorem dX2_becomeLike_178 : decode cX2_becomeLike 178 = .ok (.aload_n 1, 1) := by decide +kernel
theorem dX2_becomeLike_179 : decode cX2_becomeLike 179 = .ok (.getfield 52, 3) := by decide +kernel
theorem dX2_becomeLike_182 : decode cX2_becomeLike 182 = .ok (.putfield 52, 3) := by decide +kernel
theorem dX2_becomeLike_185 : decode cX2_becomeLike 185 = .ok (.aload_n 0, 1) := by decide +kernel
theorem dX2_becomeLike_186 : decode cX2_becomeLike 186 = .ok (.aload_n 1, 1) := by decide +kernel
theorem dX2_becomeLike_187 : decode cX2_becomeLike 187 = .ok (.getfield 55, 3) := by decide +kernel
theorem dX2_becomeLike_190 : decode cX2_becomeLike 190 = .ok (.putfield 55, 3) := by decide +kernel
theorem dX2_becomeLike_193 : decode cX2_becomeLike 193 = .ok (.aload_n 0, 1) := by decide +kernel
theorem dX2_becomeLike_194 : decode cX2_becomeLike 194 = .ok (.aload_n 1, 1) := by decide +kernel
theorem dX2_becomeLike_195 : decode cX2_becomeLike 195 = .ok (.getfield 58, 3) := by decide +kernel
theorem dX2_becomeLike_198 : decode cX2_becomeLike 198 = .ok (.putfield 58, 3) := by decide +kernel
theorem dX2_becomeLike_201 : decode cX2_becomeLike 201 = .ok (.aload_n 0, 1) := by decide +kernel
theorem dX2_becomeLike_202 : decode cX2_becomeLike 202 = .ok (.aload_n 1, 1) := by decide +kernel
theorem dX2_becomeLike_203 : decode cX2_becomeLike 203 = .ok (.getfield 61, 3) := by decide +kernel
theorem dX2_becomeLike_206 : decode cX2_becomeLike 206 = .ok (.putfield 61, 3) := by decide +kernel
theorem dX2_becomeLike_209 : decode cX2_becomeLike 209 = .ok (.return_, 1) := by decide +kernel
theorem dX2_addPlace_0 : decode cX2_addPlace 0 = .ok (.aload_n 0, 1) := by decide +kernel
theorem dX2_addPlace_1 : decode cX2_addPlace 1 = .ok (.getfield 45, 3) := by decide +kernel
theorem dX2_addPlace_4 : decode cX2_addPlace 4 = .ok (.bipush 8, 2) := by decide +kernel
theorem dX2_addPlace_6 : decode cX2_addPlace 6 = .ok (.if_icmp .ge 8, 3) := by decide +kernel
theorem dX2_addPlace_9 : decode cX2_addPlace 9 = .ok (.iload_n 3, 1) := by decide +kernel
theorem dX2_addPlace_10 : decode cX2_addPlace 10 = .ok (.iconst 3, 1) := by decide +kernel
theorem dX2_addPlace_11 : decode cX2_addPlace 11 = .ok (.if_icmp .le 5, 3) := by decide +kernel
theorem dX2_addPlace_14 : decode cX2_addPlace 14 = .ok (.iconst 0, 1) := by decide +kernel
theorem dX2_addPlace_15 : decode cX2_addPlace 15 = .ok (.ireturn, 1) := by decide +kernel
theorem dX2_addPlace_16 : decode cX2_addPlace 16 = .ok (.aload_n 0, 1) := by decide +kernel
theorem dX2_addPlace_17 : decode cX2_addPlace 17 = .ok (.getfield 9, 3) := by decide +kernel
theorem dX2_addPlace_20 : decode cX2_addPlace 20 = .ok (.aload_n 0, 1) := by decide +kernel
theorem dX2_addPlace_21 : decode cX2_addPlace 21 = .ok (.getfield 45, 3) := by decide +kernel
theorem dX2_addPlace_24 : decode cX2_addPlace 24 = .ok (.iload_n 1, 1) := by decide +kernel
theorem dX2_addPlace_25 : decode cX2_addPlace 25 = .ok (.iastore, 1) := by decide +kernel
theorem dX2_addPlace_26 : decode cX2_addPlace 26 = .ok (.aload_n 0, 1) := by decide +kernel
theorem dX2_addPlace_27 : decode cX2_addPlace 27 = .ok (.getfield 15, 3) := by decide +kernel
theorem dX2_addPlace_30 : decode cX2_addPlace 30 = .ok (.aload_n 0, 1) := by decide +kernel
theorem dX2_addPlace_31 : decode cX2_addPlace 31 = .ok (.getfield 45, 3) := by decide +kernel
theorem dX2_addPlace_34 : decode cX2_addPlace 34 = .ok (.iload_n 2, 1) := by decide +kernel
theorem dX2_addPlace_35 : decode cX2_addPlace 35 = .ok (.iastore, 1) := by decide +kernel
theorem dX2_addPlace_36 : decode cX2_addPlace 36 = .ok (.aload_n 0, 1) := by decide +kernel
theorem dX2_addPlace_37 : decode cX2_addPlace 37 = .ok (.getfield 18, 3) := by decide +kernel
theorem dX2_addPlace_40 : decode cX2_addPlace 40 = .ok (.aload_n 0, 1) := by decide +kernel
theorem dX2_addPlace_41 : decode cX2_addPlace 41 = .ok (.getfield 45, 3) := by decide +kernel
theorem dX2_addPlace_44 : decode cX2_addPlace 44 = .ok (.iload_n 3, 1) := by decide +kernel
theorem dX2_addPlace_45 : decode cX2_addPlace 45 = .ok (.iastore, 1) := by decide +kernel
theorem dX2_addPlace_46 : decode cX2_addPlace 46 = .ok (.aload_n 0, 1) := by decide +kernel
theorem dX2_addPlace_47 : decode cX2_addPlace 47 = .ok (.dup, 1) := by decide +kernel
theorem dX2_addPlace_48 : decode cX2_addPlace 48 = .ok (.getfield 45, 3) := by decide +kernel
theorem dX2_addPlace_51 : decode cX2_addPlace 51 = .ok (.iconst 1, 1) := by decide +kernel
theorem dX2_addPlace_52 : decode cX2_addPlace 52 = .ok (.iadd, 1) := by decide +kernel
theorem dX2_addPlace_53 : decode cX2_addPlace 53 = .ok (.putfield 45, 3) := by decide +kernel
theorem dX2_addPlace_56 : decode cX2_addPlace 56 = .ok (.iconst 1, 1) := by decide +kernel
theorem dX2_addPlace_57 : decode cX2_addPlace 57 = .ok (.ireturn, 1) := by decide +kernel
theorem dX2_addWay_0 : decode cX2_addWay 0 = .ok (.aload_n 0, 1) := by decide +kernel
theorem dX2_addWay_1 : decode cX2_addWay 1 = .ok (.getfield 49, 3) := by decide +kernel
theorem dX2_addWay_4 : decode cX2_addWay 4 = .ok (.bipush 14, 2) := by decide +kernel
theorem dX2_addWay_6 : decode cX2_addWay 6 = .ok (.if_icmp .ge 33, 3) := by decide +kernel
theorem dX2_addWay_9 : decode cX2_addWay 9 = .ok (.iload_n 1, 1) := by decide +kernel
theorem dX2_addWay_10 : decode cX2_addWay 10 = .ok (.aload_n 0, 1) := by decide +kernel
theorem dX2_addWay_11 : decode cX2_addWay 11 = .ok (.getfield 45, 3) := by decide +kernel
theorem dX2_addWay_14 : decode cX2_addWay 14 = .ok (.if_icmp .ge 25, 3) := by decide +kernel
theorem dX2_addWay_17 : decode cX2_addWay 17 = .ok (.iload_n 2, 1) := by decide +kernel
theorem dX2_addWay_18 : decode cX2_addWay 18 = .ok (.aload_n 0, 1) := by decide +kernel
theorem dX2_addWay_19 : decode cX2_addWay 19 = .ok (.getfield 45, 3) := by decide +kernel
theorem dX2_addWay_22 : decode cX2_addWay 22 = .ok (.if_icmp .ge 17, 3) := by decide +kernel
theorem dX2_addWay_25 : decode cX2_addWay 25 = .ok (.iload_n 1, 1) := by decide +kernel
theorem dX2_addWay_26 : decode cX2_addWay 26 = .ok (.iload_n 2, 1) := by decide +kernel
theorem dX2_addWay_27 : decode cX2_addWay 27 = .ok (.if_icmp .eq 12, 3) := by decide +kernel
theorem dX2_addWay_30 : decode cX2_addWay 30 = .ok (.aload_n 0, 1) := by decide +kernel
theorem dX2_addWay_31 : decode cX2_addWay 31 = .ok (.iload_n 1, 1) := by decide +kernel
theorem dX2_addWay_32 : decode cX2_addWay 32 = .ok (.iload_n 2, 1) := by decide +kernel
theorem dX2_addWay_33 : decode cX2_addWay 33 = .ok (.invokevirtual 70, 3) := by decide +kernel
theorem dX2_addWay_36 : decode cX2_addWay 36 = .ok (.ifCond .eq 5, 3) := by decide +kernel
theorem dX2_addWay_39 : decode cX2_addWay 39 = .ok (.iconst 0, 1) := by decide +kernel
theorem dX2_addWay_40 : decode cX2_addWay 40 = .ok (.ireturn, 1) := by decide +kernel
theorem dX2_addWay_41 : decode cX2_addWay 41 = .ok (.iload_n 3, 1) := by decide +kernel
theorem dX2_addWay_42 : decode cX2_addWay 42 = .ok (.iconst 1, 1) := by decide +kernel
theorem dX2_addWay_43 : decode cX2_addWay 43 = .ok (.if_icmp .lt 9, 3) := by decide +kernel
theorem dX2_addWay_46 : decode cX2_addWay 46 = .ok (.iload_n 3, 1) := by decide +kernel
theorem dX2_addWay_47 : decode cX2_addWay 47 = .ok (.bipush 60, 2) := by decide +kernel
theorem dX2_addWay_49 : decode cX2_addWay 49 = .ok (.if_icmp .le 5, 3) := by decide +kernel
theorem dX2_addWay_52 : decode cX2_addWay 52 = .ok (.iconst 0, 1) := by decide +kernel
theorem dX2_addWay_53 : decode cX2_addWay 53 = .ok (.ireturn, 1) := by decide +kernel
theorem dX2_addWay_54 : decode cX2_addWay 54 = .ok (.aload_n 0, 1) := by decide +kernel
theorem dX2_addWay_55 : decode cX2_addWay 55 = .ok (.getfield 21, 3) := by decide +kernel
theorem dX2_addWay_58 : decode cX2_addWay 58 = .ok (.aload_n 0, 1) := by decide +kernel
theorem dX2_addWay_59 : decode cX2_addWay 59 = .ok (.getfield 49, 3) := by decide +kernel
theorem dX2_addWay_62 : decode cX2_addWay 62 = .ok (.iload_n 1, 1) := by decide +kernel
theorem dX2_addWay_63 : decode cX2_addWay 63 = .ok (.iastore, 1) := by decide +kernel
theorem dX2_addWay_64 : decode cX2_addWay 64 = .ok (.aload_n 0, 1) := by decide +kernel
theorem dX2_addWay_65 : decode cX2_addWay 65 = .ok (.getfield 24, 3) := by decide +kernel
theorem dX2_addWay_68 : decode cX2_addWay 68 = .ok (.aload_n 0, 1) := by decide +kernel
theorem dX2_addWay_69 : decode cX2_addWay 69 = .ok (.getfield 49, 3) := by decide +kernel
theorem dX2_addWay_72 : decode cX2_addWay 72 = .ok (.iload_n 2, 1) := by decide +kernel
theorem dX2_addWay_73 : decode cX2_addWay 73 = .ok (.iastore, 1) := by decide +kernel
theorem dX2_addWay_74 : decode cX2_addWay 74 = .ok (.aload_n 0, 1) := by decide +kernel
theorem dX2_addWay_75 : decode cX2_addWay 75 = .ok (.getfield 27, 3) := by decide +kernel
theorem dX2_addWay_78 : decode cX2_addWay 78 = .ok (.aload_n 0, 1) := by decide +kernel
theorem dX2_addWay_79 : decode cX2_addWay 79 = .ok (.getfield 49, 3) := by decide +kernel
theorem dX2_addWay_82 : decode cX2_addWay 82 = .ok (.iload_n 3, 1) := by decide +kernel
theorem dX2_addWay_83 : decode cX2_addWay 83 = .ok (.iastore, 1) := by decide +kernel
theorem dX2_addWay_84 : decode cX2_addWay 84 = .ok (.aload_n 0, 1) := by decide +kernel
theorem dX2_addWay_85 : decode cX2_addWay 85 = .ok (.getfield 30, 3) := by decide +kernel
theorem dX2_addWay_88 : decode cX2_addWay 88 = .ok (.aload_n 0, 1) := by decide +kernel
theorem dX2_addWay_89 : decode cX2_addWay 89 = .ok (.getfield 49, 3) := by decide +kernel
theorem dX2_addWay_92 : decode cX2_addWay 92 = .ok (.iload 4, 2) := by decide +kernel
theorem dX2_addWay_94 : decode cX2_addWay 94 = .ok (.iastore, 1) := by decide +kernel
theorem dX2_addWay_95 : decode cX2_addWay 95 = .ok (.aload_n 0, 1) := by decide +kernel
theorem dX2_addWay_96 : decode cX2_addWay 96 = .ok (.dup, 1) := by decide +kernel
theorem dX2_addWay_97 : decode cX2_addWay 97 = .ok (.getfield 49, 3) := by decide +kernel
theorem dX2_addWay_100 : decode cX2_addWay 100 = .ok (.iconst 1, 1) := by decide +kernel
theorem dX2_addWay_101 : decode cX2_addWay 101 = .ok (.iadd, 1) := by decide +kernel
theorem dX2_addWay_102 : decode cX2_addWay 102 = .ok (.putfield 49, 3) := by decide +kernel
theorem dX2_addWay_105 : decode cX2_addWay 105 = .ok (.iconst 1, 1) := by decide +kernel
theorem dX2_addWay_106 : decode cX2_addWay 106 = .ok (.ireturn, 1) := by decide +kernel
theorem dX2_hasWay_0 : decode cX2_hasWay 0 = .ok (.iconst 0, 1) := by decide +kernel
theorem dX2_hasWay_1 : decode cX2_hasWay 1 = .ok (.istore_n 3, 1) := by decide +kernel
theorem dX2_hasWay_2 : decode cX2_hasWay 2 = .ok (.iload_n 3, 1) := by decide +kernel
theorem dX2_hasWay_3 : decode cX2_hasWay 3 = .ok (.aload_n 0, 1) := by decide +kernel
theorem dX2_hasWay_4 : decode cX2_hasWay 4 = .ok (.getfield 49, 3) := by decide +kernel
theorem dX2_hasWay_7 : decode cX2_hasWay 7 = .ok (.if_icmp .ge 51, 3) := by decide +kernel
theorem dX2_hasWay_10 : decode cX2_hasWay 10 = .ok (.aload_n 0, 1) := by decide +kernel
theorem dX2_hasWay_11 : decode cX2_hasWay 11 = .ok (.getfield 21, 3) := by decide +kernel
theorem dX2_hasWay_14 : decode cX2_hasWay 14 = .ok (.iload_n 3, 1) := by decide +kernel
theorem dX2_hasWay_15 : decode cX2_hasWay 15 = .ok (.iaload, 1) := by decide +kernel
theorem dX2_hasWay_16 : decode cX2_hasWay 16 = .ok (.iload_n 1, 1) := by decide +kernel
theorem dX2_hasWay_17 : decode cX2_hasWay 17 = .ok (.if_icmp .ne 13, 3) := by decide +kernel
theorem dX2_hasWay_20 : decode cX2_hasWay 20 = .ok (.aload_n 0, 1) := by decide +kernel
theorem dX2_hasWay_21 : decode cX2_hasWay 21 = .ok (.getfield 24, 3) := by decide +kernel
theorem dX2_hasWay_24 : decode cX2_hasWay 24 = .ok (.iload_n 3, 1) := by decide +kernel
theorem dX2_hasWay_25 : decode cX2_hasWay 25 = .ok (.iaload, 1) := by decide +kernel
theorem dX2_hasWay_26 : decode cX2_hasWay 26 = .ok (.iload_n 2, 1) := by decide +kernel
theorem dX2_hasWay_27 : decode cX2_hasWay 27 = .ok (.if_icmp .eq 23, 3) := by decide +kernel
theorem dX2_hasWay_30 : decode cX2_hasWay 30 = .ok (.aload_n 0, 1) := by decide +kernel
theorem dX2_hasWay_31 : decode cX2_hasWay 31 = .ok (.getfield 21, 3) := by decide +kernel
theorem dX2_hasWay_34 : decode cX2_hasWay 34 = .ok (.iload_n 3, 1) := by decide +kernel
theorem dX2_hasWay_35 : decode cX2_hasWay 35 = .ok (.iaload, 1) := by decide +kernel
theorem dX2_hasWay_36 : decode cX2_hasWay 36 = .ok (.iload_n 2, 1) := by decide +kernel
theorem dX2_hasWay_37 : decode cX2_hasWay 37 = .ok (.if_icmp .ne 15, 3) := by decide +kernel
theorem dX2_hasWay_40 : decode cX2_hasWay 40 = .ok (.aload_n 0, 1) := by decide +kernel
theorem dX2_hasWay_41 : decode cX2_hasWay 41 = .ok (.getfield 24, 3) := by decide +kernel
theorem dX2_hasWay_44 : decode cX2_hasWay 44 = .ok (.iload_n 3, 1) := by decide +kernel
theorem dX2_hasWay_45 : decode cX2_hasWay 45 = .ok (.iaload, 1) := by decide +kernel
theorem dX2_hasWay_46 : decode cX2_hasWay 46 = .ok (.iload_n 1, 1) := by decide +kernel
theorem dX2_hasWay_47 : decode cX2_hasWay 47 = .ok (.if_icmp .ne 5, 3) := by decide +kernel
theorem dX2_hasWay_50 : decode cX2_hasWay 50 = .ok (.iconst 1, 1) := by decide +kernel
theorem dX2_hasWay_51 : decode cX2_hasWay 51 = .ok (.ireturn, 1) := by decide +kernel
theorem dX2_hasWay_52 : decode cX2_hasWay 52 = .ok (.iinc 3 1, 3) := by decide +kernel
theorem dX2_hasWay_55 : decode cX2_hasWay 55 = .ok (.goto (-53), 3) := by decide +kernel
theorem dX2_hasWay_58 : decode cX2_hasWay 58 = .ok (.iconst 0, 1) := by decide +kernel
theorem dX2_hasWay_59 : decode cX2_hasWay 59 = .ok (.ireturn, 1) := by decide +kernel
theorem dX2_addErrand_0 : decode cX2_addErrand 0 = .ok (.aload_n 0, 1) := by decide +kernel
theorem dX2_addErrand_1 : decode cX2_addErrand 1 = .ok (.getfield 52, 3) := by decide +kernel
theorem dX2_addErrand_4 : decode cX2_addErrand 4 = .ok (.iconst 5, 1) := by decide +kernel
theorem dX2_addErrand_5 : decode cX2_addErrand 5 = .ok (.if_icmp .ge 22, 3) := by decide +kernel
theorem dX2_addErrand_8 : decode cX2_addErrand 8 = .ok (.iload_n 1, 1) := by decide +kernel
theorem dX2_addErrand_9 : decode cX2_addErrand 9 = .ok (.aload_n 0, 1) := by decide +kernel
theorem dX2_addErrand_10 : decode cX2_addErrand 10 = .ok (.getfield 45, 3) := by decide +kernel
theorem dX2_addErrand_13 : decode cX2_addErrand 13 = .ok (.if_icmp .ge 14, 3) := by decide +kernel
theorem dX2_addErrand_16 : decode cX2_addErrand 16 = .ok (.iload_n 2, 1) := by decide +kernel
theorem dX2_addErrand_17 : decode cX2_addErrand 17 = .ok (.iconst 1, 1) := by decide +kernel
theorem dX2_addErrand_18 : decode cX2_addErrand 18 = .ok (.if_icmp .lt 9, 3) := by decide +kernel
theorem dX2_addErrand_21 : decode cX2_addErrand 21 = .ok (.iload_n 2, 1) := by decide +kernel
theorem dX2_addErrand_22 : decode cX2_addErrand 22 = .ok (.bipush 60, 2) := by decide +kernel
theorem dX2_addErrand_24 : decode cX2_addErrand 24 = .ok (.if_icmp .le 5, 3) := by decide +kernel
theorem dX2_addErrand_27 : decode cX2_addErrand 27 = .ok (.iconst 0, 1) := by decide +kernel
theorem dX2_addErrand_28 : decode cX2_addErrand 28 = .ok (.ireturn, 1) := by decide +kernel
theorem dX2_addErrand_29 : decode cX2_addErrand 29 = .ok (.aload_n 0, 1) := by decide +kernel
theorem dX2_addErrand_30 : decode cX2_addErrand 30 = .ok (.getfield 33, 3) := by decide +kernel
theorem dX2_addErrand_33 : decode cX2_addErrand 33 = .ok (.aload_n 0, 1) := by decide +kernel
theorem dX2_addErrand_34 : decode cX2_addErrand 34 = .ok (.getfield 52, 3) := by decide +kernel
theorem dX2_addErrand_37 : decode cX2_addErrand 37 = .ok (.iload_n 1, 1) := by decide +kernel
theorem dX2_addErrand_38 : decode cX2_addErrand 38 = .ok (.iastore, 1) := by decide +kernel
theorem dX2_addErrand_39 : decode cX2_addErrand 39 = .ok (.aload_n 0, 1) := by decide +kernel
theorem dX2_addErrand_40 : decode cX2_addErrand 40 = .ok (.getfield 36, 3) := by decide +kernel
theorem dX2_addErrand_43 : decode cX2_addErrand 43 = .ok (.aload_n 0, 1) := by decide +kernel
theorem dX2_addErrand_44 : decode cX2_addErrand 44 = .ok (.getfield 52, 3) := by decide +kernel
theorem dX2_addErrand_47 : decode cX2_addErrand 47 = .ok (.iload_n 2, 1) := by decide +kernel
theorem dX2_addErrand_48 : decode cX2_addErrand 48 = .ok (.iastore, 1) := by decide +kernel
theorem dX2_addErrand_49 : decode cX2_addErrand 49 = .ok (.aload_n 0, 1) := by decide +kernel
theorem dX2_addErrand_50 : decode cX2_addErrand 50 = .ok (.getfield 39, 3) := by decide +kernel
theorem dX2_addErrand_53 : decode cX2_addErrand 53 = .ok (.aload_n 0, 1) := by decide +kernel
theorem dX2_addErrand_54 : decode cX2_addErrand 54 = .ok (.getfield 52, 3) := by decide +kernel
theorem dX2_addErrand_57 : decode cX2_addErrand 57 = .ok (.iload_n 3, 1) := by decide +kernel
theorem dX2_addErrand_58 : decode cX2_addErrand 58 = .ok (.iastore, 1) := by decide +kernel
theorem dX2_addErrand_59 : decode cX2_addErrand 59 = .ok (.aload_n 0, 1) := by decide +kernel
theorem dX2_addErrand_60 : decode cX2_addErrand 60 = .ok (.getfield 42, 3) := by decide +kernel
theorem dX2_addErrand_63 : decode cX2_addErrand 63 = .ok (.aload_n 0, 1) := by decide +kernel
theorem dX2_addErrand_64 : decode cX2_addErrand 64 = .ok (.getfield 52, 3) := by decide +kernel
theorem dX2_addErrand_67 : decode cX2_addErrand 67 = .ok (.iload 4, 2) := by decide +kernel
theorem dX2_addErrand_69 : decode cX2_addErrand 69 = .ok (.iastore, 1) := by decide +kernel
theorem dX2_addErrand_70 : decode cX2_addErrand 70 = .ok (.aload_n 0, 1) := by decide +kernel
theorem dX2_addErrand_71 : decode cX2_addErrand 71 = .ok (.dup, 1) := by decide +kernel
theorem dX2_addErrand_72 : decode cX2_addErrand 72 = .ok (.getfield 52, 3) := by decide +kernel
theorem dX2_addErrand_75 : decode cX2_addErrand 75 = .ok (.iconst 1, 1) := by decide +kernel
theorem dX2_addErrand_76 : decode cX2_addErrand 76 = .ok (.iadd, 1) := by decide +kernel
theorem dX2_addErrand_77 : decode cX2_addErrand 77 = .ok (.putfield 52, 3) := by decide +kernel
theorem dX2_addErrand_80 : decode cX2_addErrand 80 = .ok (.iconst 1, 1) := by decide +kernel
theorem dX2_addErrand_81 : decode cX2_addErrand 81 = .ok (.ireturn, 1) := by decide +kernel
theorem dX2_useFuel_0 : decode cX2_useFuel 0 = .ok (.iload_n 2, 1) := by decide +kernel
theorem dX2_useFuel_1 : decode cX2_useFuel 1 = .ok (.bipush 60, 2) := by decide +kernel
theorem dX2_useFuel_3 : decode cX2_useFuel 3 = .ok (.if_icmp .le 5, 3) := by decide +kernel
theorem dX2_useFuel_6 : decode cX2_useFuel 6 = .ok (.iconst 0, 1) := by decide +kernel
theorem dX2_useFuel_7 : decode cX2_useFuel 7 = .ok (.ireturn, 1) := by decide +kernel
theorem dX2_useFuel_8 : decode cX2_useFuel 8 = .ok (.aload_n 0, 1) := by decide +kernel
theorem dX2_useFuel_9 : decode cX2_useFuel 9 = .ok (.iload_n 1, 1) := by decide +kernel
theorem dX2_useFuel_10 : decode cX2_useFuel 10 = .ok (.putfield 55, 3) := by decide +kernel
theorem dX2_useFuel_13 : decode cX2_useFuel 13 = .ok (.aload_n 0, 1) := by decide +kernel
theorem dX2_useFuel_14 : decode cX2_useFuel 14 = .ok (.iload_n 2, 1) := by decide +kernel
theorem dX2_useFuel_15 : decode cX2_useFuel 15 = .ok (.putfield 58, 3) := by decide +kernel
theorem dX2_useFuel_18 : decode cX2_useFuel 18 = .ok (.iconst 1, 1) := by decide +kernel
theorem dX2_useFuel_19 : decode cX2_useFuel 19 = .ok (.ireturn, 1) := by decide +kernel
theorem dX2_takeDriver_0 : decode cX2_takeDriver 0 = .ok (.iload_n 1, 1) := by decide +kernel
theorem dX2_takeDriver_1 : decode cX2_takeDriver 1 = .ok (.iconst 5, 1) := by decide +kernel
theorem dX2_takeDriver_2 : decode cX2_takeDriver 2 = .ok (.if_icmp .le 5, 3) := by decide +kernel
theorem dX2_takeDriver_5 : decode cX2_takeDriver 5 = .ok (.iconst 0, 1) := by decide +kernel
theorem dX2_takeDriver_6 : decode cX2_takeDriver 6 = .ok (.ireturn, 1) := by decide +kernel
theorem dX2_takeDriver_7 : decode cX2_takeDriver 7 = .ok (.aload_n 0, 1) := by decide +kernel
theorem dX2_takeDriver_8 : decode cX2_takeDriver 8 = .ok (.iload_n 1, 1) := by decide +kernel
theorem dX2_takeDriver_9 : decode cX2_takeDriver 9 = .ok (.putfield 61, 3) := by decide +kernel
theorem dX2_takeDriver_12 : decode cX2_takeDriver 12 = .ok (.iconst 1, 1) := by decide +kernel
theorem dX2_takeDriver_13 : decode cX2_takeDriver 13 = .ok (.ireturn, 1) := by decide +kernel
theorem dX2_startsAt_0 : decode cX2_startsAt 0 = .ok (.aload_n 0, 1) := by decide +kernel
theorem dX2_startsAt_1 : decode cX2_startsAt 1 = .ok (.iload_n 1, 1) := by decide +kernel
theorem dX2_startsAt_2 : decode cX2_startsAt 2 = .ok (.aload_n 0, 1) := by decide +kernel
theorem dX2_startsAt_3 : decode cX2_startsAt 3 = .ok (.getfield 18, 3) := by decide +kernel
theorem dX2_startsAt_6 : decode cX2_startsAt 6 = .ok (.iload_n 1, 1) := by decide +kernel
theorem dX2_startsAt_7 : decode cX2_startsAt 7 = .ok (.iaload, 1) := by decide +kernel
theorem dX2_startsAt_8 : decode cX2_startsAt 8 = .ok (.invokevirtual 74, 3) := by decide +kernel
theorem dX2_startsAt_11 : decode cX2_startsAt 11 = .ok (.ireturn, 1) := by decide +kernel
theorem dX2_pushedAt_0 : decode cX2_pushedAt 0 = .ok (.aload_n 0, 1) := by decide +kernel
theorem dX2_pushedAt_1 : decode cX2_pushedAt 1 = .ok (.iload_n 1, 1) := by decide +kernel
theorem dX2_pushedAt_2 : decode cX2_pushedAt 2 = .ok (.invokevirtual 78, 3) := by decide +kernel
theorem dX2_pushedAt_5 : decode cX2_pushedAt 5 = .ok (.aload_n 0, 1) := by decide +kernel
theorem dX2_pushedAt_6 : decode cX2_pushedAt 6 = .ok (.getfield 18, 3) := by decide +kernel
theorem dX2_pushedAt_9 : decode cX2_pushedAt 9 = .ok (.iload_n 1, 1) := by decide +kernel
theorem dX2_pushedAt_10 : decode cX2_pushedAt 10 = .ok (.iaload, 1) := by decide +kernel
theorem dX2_pushedAt_11 : decode cX2_pushedAt 11 = .ok (.invokestatic 82, 3) := by decide +kernel
theorem dX2_pushedAt_14 : decode cX2_pushedAt 14 = .ok (.ireturn, 1) := by decide +kernel
theorem dX2_startsWith_0 : decode cX2_startsWith 0 = .ok (.bipush 10, 2) := by decide +kernel
theorem dX2_startsWith_2 : decode cX2_startsWith 2 = .ok (.iconst 2, 1) := by decide +kernel
theorem dX2_startsWith_3 : decode cX2_startsWith 3 = .ok (.aload_n 0, 1) := by decide +kernel
theorem dX2_startsWith_4 : decode cX2_startsWith 4 = .ok (.getfield 15, 3) := by decide +kernel
theorem dX2_startsWith_7 : decode cX2_startsWith 7 = .ok (.iload_n 1, 1) := by decide +kernel
theorem dX2_startsWith_8 : decode cX2_startsWith 8 = .ok (.iaload, 1) := by decide +kernel
theorem dX2_startsWith_9 : decode cX2_startsWith 9 = .ok (.imul, 1) := by decide +kernel
theorem dX2_startsWith_10 : decode cX2_startsWith 10 = .ok (.invokestatic 85, 3) := by decide +kernel
theorem dX2_startsWith_13 : decode cX2_startsWith 13 = .ok (.istore_n 3, 1) := by decide +kernel
theorem dX2_startsWith_14 : decode cX2_startsWith 14 = .ok (.iconst 0, 1) := by decide +kernel
theorem dX2_startsWith_15 : decode cX2_startsWith 15 = .ok (.iload_n 3, 1) := by decide +kernel
theorem dX2_startsWith_16 : decode cX2_startsWith 16 = .ok (.iconst 2, 1) := by decide +kernel
theorem dX2_startsWith_17 : decode cX2_startsWith 17 = .ok (.isub, 1) := by decide +kernel
theorem dX2_startsWith_18 : decode cX2_startsWith 18 = .ok (.invokestatic 90, 3) := by decide +kernel
theorem dX2_startsWith_21 : decode cX2_startsWith 21 = .ok (.istore 4, 2) := by decide +kernel
theorem dX2_startsWith_23 : decode cX2_startsWith 23 = .ok (.bipush 10, 2) := by decide +kernel
theorem dX2_startsWith_25 : decode cX2_startsWith 25 = .ok (.iload_n 3, 1) := by decide +kernel
theorem dX2_startsWith_26 : decode cX2_startsWith 26 = .ok (.iconst 1, 1) := by decide +kernel
theorem dX2_startsWith_27 : decode cX2_startsWith 27 = .ok (.iadd, 1) := by decide +kernel
theorem dX2_startsWith_28 : decode cX2_startsWith 28 = .ok (.invokestatic 85, 3) := by decide +kernel
theorem dX2_startsWith_31 : decode cX2_startsWith 31 = .ok (.istore 5, 2) := by decide +kernel
theorem dX2_startsWith_33 : decode cX2_startsWith 33 = .ok (.aload_n 0, 1) := by decide +kernel
theorem dX2_startsWith_34 : decode cX2_startsWith 34 = .ok (.getfield 9, 3) := by decide +kernel
theorem dX2_startsWith_37 : decode cX2_startsWith 37 = .ok (.iload_n 1, 1) := by decide +kernel
theorem dX2_startsWith_38 : decode cX2_startsWith 38 = .ok (.iaload, 1) := by decide +kernel
theorem dX2_startsWith_39 : decode cX2_startsWith 39 = .ok (.tableswitch 78 1 5 #[33, 36, 39, 56, 61], 33) := by decide +kernel
theorem dX2_startsWith_72 : decode cX2_startsWith 72 = .ok (.iload 4, 2) := by decide +kernel
theorem dX2_startsWith_74 : decode cX2_startsWith 74 = .ok (.ireturn, 1) := by decide +kernel
theorem dX2_startsWith_75 : decode cX2_startsWith 75 = .ok (.iload 5, 2) := by decide +kernel
theorem dX2_startsWith_77 : decode cX2_startsWith 77 = .ok (.ireturn, 1) := by decide +kernel
theorem dX2_startsWith_78 : decode cX2_startsWith 78 = .ok (.aload_n 0, 1) := by decide +kernel
theorem dX2_startsWith_79 : decode cX2_startsWith 79 = .ok (.getfield 15, 3) := by decide +kernel
theorem dX2_startsWith_82 : decode cX2_startsWith 82 = .ok (.iload_n 1, 1) := by decide +kernel
theorem dX2_startsWith_83 : decode cX2_startsWith 83 = .ok (.iaload, 1) := by decide +kernel
theorem dX2_startsWith_84 : decode cX2_startsWith 84 = .ok (.ifCond .le 8, 3) := by decide +kernel
theorem dX2_startsWith_87 : decode cX2_startsWith 87 = .ok (.bipush 10, 2) := by decide +kernel
theorem dX2_startsWith_89 : decode cX2_startsWith 89 = .ok (.goto 5, 3) := by decide +kernel
theorem dX2_startsWith_92 : decode cX2_startsWith 92 = .ok (.iload 5, 2) := by decide +kernel
theorem dX2_startsWith_94 : decode cX2_startsWith 94 = .ok (.ireturn, 1) := by decide +kernel
theorem dX2_startsWith_95 : decode cX2_startsWith 95 = .ok (.iload 4, 2) := by decide +kernel
theorem dX2_startsWith_97 : decode cX2_startsWith 97 = .ok (.iconst 2, 1) := by decide +kernel
theorem dX2_startsWith_98 : decode cX2_startsWith 98 = .ok (.idiv, 1) := by decide +kernel
theorem dX2_startsWith_99 : decode cX2_startsWith 99 = .ok (.ireturn, 1) := by decide +kernel
theorem dX2_startsWith_100 : decode cX2_startsWith 100 = .ok (.iconst 0, 1) := by decide +kernel
theorem dX2_startsWith_101 : decode cX2_startsWith 101 = .ok (.iload 5, 2) := by decide +kernel
theorem dX2_startsWith_103 : decode cX2_startsWith 103 = .ok (.iconst 3, 1) := by decide +kernel
theorem dX2_startsWith_104 : decode cX2_startsWith 104 = .ok (.iconst 0, 1) := by decide +kernel
theorem dX2_startsWith_105 : decode cX2_startsWith 105 = .ok (.iconst 2, 1) := by decide +kernel
theorem dX2_startsWith_106 : decode cX2_startsWith 106 = .ok (.iload_n 2, 1) := by decide +kernel
theorem dX2_startsWith_107 : decode cX2_startsWith 107 = .ok (.isub, 1) := by decide +kernel
theorem dX2_startsWith_108 : decode cX2_startsWith 108 = .ok (.invokestatic 90, 3) := by decide +kernel
theorem dX2_startsWith_111 : decode cX2_startsWith 111 = .ok (.imul, 1) := by decide +kernel
theorem dX2_startsWith_112 : decode cX2_startsWith 112 = .ok (.isub, 1) := by decide +kernel
theorem dX2_startsWith_113 : decode cX2_startsWith 113 = .ok (.invokestatic 90, 3) := by decide +kernel
theorem dX2_startsWith_116 : decode cX2_startsWith 116 = .ok (.ireturn, 1) := by decide +kernel
theorem dX2_startsWith_117 : decode cX2_startsWith 117 = .ok (.iload_n 3, 1) := by decide +kernel
theorem dX2_startsWith_118 : decode cX2_startsWith 118 = .ok (.ireturn, 1) := by decide +kernel
theorem dX2_pushedFrom_0 : decode cX2_pushedFrom 0 = .ok (.bipush 10, 2) := by decide +kernel
theorem dX2_pushedFrom_2 : decode cX2_pushedFrom 2 = .ok (.iload_n 0, 1) := by decide +kernel
theorem dX2_pushedFrom_3 : decode cX2_pushedFrom 3 = .ok (.iconst 2, 1) := by decide +kernel
theorem dX2_pushedFrom_4 : decode cX2_pushedFrom 4 = .ok (.iload_n 1, 1) := by decide +kernel
theorem dX2_pushedFrom_5 : decode cX2_pushedFrom 5 = .ok (.imul, 1) := by decide +kernel
theorem dX2_pushedFrom_6 : decode cX2_pushedFrom 6 = .ok (.iadd, 1) := by decide +kernel
theorem dX2_pushedFrom_7 : decode cX2_pushedFrom 7 = .ok (.invokestatic 85, 3) := by decide +kernel
theorem dX2_pushedFrom_10 : decode cX2_pushedFrom 10 = .ok (.ireturn, 1) := by decide +kernel
theorem dX2_allWorth_0 : decode cX2_allWorth 0 = .ok (.iconst 0, 1) := by decide +kernel
theorem dX2_allWorth_1 : decode cX2_allWorth 1 = .ok (.istore_n 1, 1) := by decide +kernel
theorem dX2_allWorth_2 : decode cX2_allWorth 2 = .ok (.iconst 0, 1) := by decide +kernel
theorem dX2_allWorth_3 : decode cX2_allWorth 3 = .ok (.istore_n 2, 1) := by decide +kernel
theorem dX2_allWorth_4 : decode cX2_allWorth 4 = .ok (.iload_n 2, 1) := by decide +kernel
theorem dX2_allWorth_5 : decode cX2_allWorth 5 = .ok (.aload_n 0, 1) := by decide +kernel
theorem dX2_allWorth_6 : decode cX2_allWorth 6 = .ok (.getfield 52, 3) := by decide +kernel
theorem dX2_allWorth_9 : decode cX2_allWorth 9 = .ok (.if_icmp .ge 18, 3) := by decide +kernel
theorem dX2_allWorth_12 : decode cX2_allWorth 12 = .ok (.iload_n 1, 1) := by decide +kernel
theorem dX2_allWorth_13 : decode cX2_allWorth 13 = .ok (.aload_n 0, 1) := by decide +kernel
theorem dX2_allWorth_14 : decode cX2_allWorth 14 = .ok (.getfield 39, 3) := by decide +kernel
theorem dX2_allWorth_17 : decode cX2_allWorth 17 = .ok (.iload_n 2, 1) := by decide +kernel
theorem dX2_allWorth_18 : decode cX2_allWorth 18 = .ok (.iaload, 1) := by decide +kernel
theorem dX2_allWorth_19 : decode cX2_allWorth 19 = .ok (.iadd, 1) := by decide +kernel
theorem dX2_allWorth_20 : decode cX2_allWorth 20 = .ok (.istore_n 1, 1) := by decide +kernel
theorem dX2_allWorth_21 : decode cX2_allWorth 21 = .ok (.iinc 2 1, 3) := by decide +kernel
theorem dX2_allWorth_24 : decode cX2_allWorth 24 = .ok (.goto (-20), 3) := by decide +kernel
theorem dX2_allWorth_27 : decode cX2_allWorth 27 = .ok (.iload_n 1, 1) := by decide +kernel
theorem dX2_allWorth_28 : decode cX2_allWorth 28 = .ok (.ireturn, 1) := by decide +kernel
theorem dX3_init_0 : decode cX3_init 0 = .ok (.aload_n 0, 1) := by decide +kernel
theorem dX3_init_1 : decode cX3_init 1 = .ok (.invokespecial 3, 3) := by decide +kernel
theorem dX3_init_4 : decode cX3_init 4 = .ok (.aload_n 0, 1) := by decide +kernel
theorem dX3_init_5 : decode cX3_init 5 = .ok (.new 9, 3) := by decide +kernel
theorem dX3_init_8 : decode cX3_init 8 = .ok (.dup, 1) := by decide +kernel
theorem dX3_init_9 : decode cX3_init 9 = .ok (.invokespecial 11, 3) := by decide +kernel
theorem dX3_init_12 : decode cX3_init 12 = .ok (.putfield 12, 3) := by decide +kernel
theorem dX3_init_15 : decode cX3_init 15 = .ok (.aload_n 0, 1) := by decide +kernel
theorem dX3_init_16 : decode cX3_init 16 = .ok (.new 18, 3) := by decide +kernel
theorem dX3_init_19 : decode cX3_init 19 = .ok (.dup, 1) := by decide +kernel
theorem dX3_init_20 : decode cX3_init 20 = .ok (.invokespecial 20, 3) := by decide +kernel
theorem dX3_init_23 : decode cX3_init 23 = .ok (.putfield 21, 3) := by decide +kernel
theorem dX3_init_26 : decode cX3_init 26 = .ok (.aload_n 0, 1) := by decide +kernel
theorem dX3_init_27 : decode cX3_init 27 = .ok (.bipush 8, 2) := by decide +kernel
theorem dX3_init_29 : decode cX3_init 29 = .ok (.newarray .int, 2) := by decide +kernel
theorem dX3_init_31 : decode cX3_init 31 = .ok (.putfield 25, 3) := by decide +kernel
theorem dX3_init_34 : decode cX3_init 34 = .ok (.aload_n 0, 1) := by decide +kernel
theorem dX3_init_35 : decode cX3_init 35 = .ok (.bipush 8, 2) := by decide +kernel
theorem dX3_init_37 : decode cX3_init 37 = .ok (.newarray .int, 2) := by decide +kernel
theorem dX3_init_39 : decode cX3_init 39 = .ok (.putfield 29, 3) := by decide +kernel
theorem dX3_init_42 : decode cX3_init 42 = .ok (.aload_n 0, 1) := by decide +kernel
theorem dX3_init_43 : decode cX3_init 43 = .ok (.bipush 12, 2) := by decide +kernel
theorem dX3_init_45 : decode cX3_init 45 = .ok (.newarray .int, 2) := by decide +kernel
theorem dX3_init_47 : decode cX3_init 47 = .ok (.putfield 32, 3) := by decide +kernel
theorem dX3_init_50 : decode cX3_init 50 = .ok (.aload_n 0, 1) := by decide +kernel
theorem dX3_init_51 : decode cX3_init 51 = .ok (.bipush 12, 2) := by decide +kernel
theorem dX3_init_53 : decode cX3_init 53 = .ok (.newarray .boolean, 2) := by decide +kernel
theorem dX3_init_55 : decode cX3_init 55 = .ok (.putfield 35, 3) := by decide +kernel
theorem dX3_init_58 : decode cX3_init 58 = .ok (.aload_n 0, 1) := by decide +kernel
theorem dX3_init_59 : decode cX3_init 59 = .ok (.iconst 0, 1) := by decide +kernel
theorem dX3_init_60 : decode cX3_init 60 = .ok (.putfield 39, 3) := by decide +kernel
theorem dX3_init_63 : decode cX3_init 63 = .ok (.aload_n 0, 1) := by decide +kernel
theorem dX3_init_64 : decode cX3_init 64 = .ok (.iconst 0, 1) := by decide +kernel
theorem dX3_init_65 : decode cX3_init 65 = .ok (.putfield 43, 3) := by decide +kernel
theorem dX3_init_68 : decode cX3_init 68 = .ok (.aload_n 0, 1) := by decide +kernel
theorem dX3_init_69 : decode cX3_init 69 = .ok (.iconst 0, 1) := by decide +kernel
theorem dX3_init_70 : decode cX3_init 70 = .ok (.putfield 46, 3) := by decide +kernel
theorem dX3_init_73 : decode cX3_init 73 = .ok (.aload_n 0, 1) := by decide +kernel
theorem dX3_init_74 : decode cX3_init 74 = .ok (.iconst 0, 1) := by decide +kernel
theorem dX3_init_75 : decode cX3_init 75 = .ok (.putfield 49, 3) := by decide +kernel
theorem dX3_init_78 : decode cX3_init 78 = .ok (.aload_n 0, 1) := by decide +kernel
theorem dX3_init_79 : decode cX3_init 79 = .ok (.iconst 0, 1) := by decide +kernel
theorem dX3_init_80 : decode cX3_init 80 = .ok (.putfield 52, 3) := by decide +kernel
theorem dX3_init_83 : decode cX3_init 83 = .ok (.aload_n 0, 1) := by decide +kernel
theorem dX3_init_84 : decode cX3_init 84 = .ok (.iconst 0, 1) := by decide +kernel
theorem dX3_init_85 : decode cX3_init 85 = .ok (.putfield 55, 3) := by decide +kernel
theorem dX3_init_88 : decode cX3_init 88 = .ok (.aload_n 0, 1) := by decide +kernel
theorem dX3_init_89 : decode cX3_init 89 = .ok (.iconst 0, 1) := by decide +kernel
theorem dX3_init_90 : decode cX3_init 90 = .ok (.putfield 58, 3) := by decide +kernel
theorem dX3_init_93 : decode cX3_init 93 = .ok (.aload_n 0, 1) := by decide +kernel
theorem dX3_init_94 : decode cX3_init 94 = .ok (.lconst 0, 1) := by decide +kernel
theorem dX3_init_95 : decode cX3_init 95 = .ok (.putfield 61, 3) := by decide +kernel
theorem dX3_init_98 : decode cX3_init 98 = .ok (.aload_n 0, 1) := by decide +kernel
theorem dX3_init_99 : decode cX3_init 99 = .ok (.lconst 0, 1) := by decide +kernel
theorem dX3_init_100 : decode cX3_init 100 = .ok (.putfield 65, 3) := by decide +kernel
theorem dX3_init_103 : decode cX3_init 103 = .ok (.return_, 1) := by decide +kernel
theorem dX3_supposeAsItIs_0 : decode cX3_supposeAsItIs 0 = .ok (.aload_n 0, 1) := by decide +kernel
theorem dX3_supposeAsItIs_1 : decode cX3_supposeAsItIs 1 = .ok (.aload_n 0, 1) := by decide +kernel
theorem dX3_supposeAsItIs_2 : decode cX3_supposeAsItIs 2 = .ok (.getfield 12, 3) := by decide +kernel
theorem dX3_supposeAsItIs_5 : decode cX3_supposeAsItIs 5 = .ok (.getfield 68, 3) := by decide +kernel
theorem dX3_supposeAsItIs_8 : decode cX3_supposeAsItIs 8 = .ok (.putfield 46, 3) := by decide +kernel
theorem dX3_supposeAsItIs_11 : decode cX3_supposeAsItIs 11 = .ok (.aload_n 0, 1) := by decide +kernel
theorem dX3_supposeAsItIs_12 : decode cX3_supposeAsItIs 12 = .ok (.aload_n 0, 1) := by decide +kernel
theorem dX3_supposeAsItIs_13 : decode cX3_supposeAsItIs 13 = .ok (.getfield 12, 3) := by decide +kernel
theorem dX3_supposeAsItIs_16 : decode cX3_supposeAsItIs 16 = .ok (.getfield 69, 3) := by decide +kernel
theorem dX3_supposeAsItIs_19 : decode cX3_supposeAsItIs 19 = .ok (.putfield 49, 3) := by decide +kernel
theorem dX3_supposeAsItIs_22 : decode cX3_supposeAsItIs 22 = .ok (.iconst 0, 1) := by decide +kernel
theorem dX3_supposeAsItIs_23 : decode cX3_supposeAsItIs 23 = .ok (.istore_n 1, 1) := by decide +kernel
theorem dX3_supposeAsItIs_24 : decode cX3_supposeAsItIs 24 = .ok (.iload_n 1, 1) := by decide +kernel
theorem dX3_supposeAsItIs_25 : decode cX3_supposeAsItIs 25 = .ok (.aload_n 0, 1) := by decide +kernel
theorem dX3_supposeAsItIs_26 : decode cX3_supposeAsItIs 26 = .ok (.getfield 12, 3) := by decide +kernel
theorem dX3_supposeAsItIs_29 : decode cX3_supposeAsItIs 29 = .ok (.getfield 70, 3) := by decide +kernel
theorem dX3_supposeAsItIs_32 : decode cX3_supposeAsItIs 32 = .ok (.if_icmp .ge 23, 3) := by decide +kernel
theorem dX3_supposeAsItIs_35 : decode cX3_supposeAsItIs 35 = .ok (.aload_n 0, 1) := by decide +kernel
theorem dX3_supposeAsItIs_36 : decode cX3_supposeAsItIs 36 = .ok (.iload_n 1, 1) := by decide +kernel
theorem dX3_supposeAsItIs_37 : decode cX3_supposeAsItIs 37 = .ok (.aload_n 0, 1) := by decide +kernel
theorem dX3_supposeAsItIs_38 : decode cX3_supposeAsItIs 38 = .ok (.getfield 12, 3) := by decide +kernel
theorem dX3_supposeAsItIs_41 : decode cX3_supposeAsItIs 41 = .ok (.getfield 73, 3) := by decide +kernel
theorem dX3_supposeAsItIs_44 : decode cX3_supposeAsItIs 44 = .ok (.iload_n 1, 1) := by decide +kernel
theorem dX3_supposeAsItIs_45 : decode cX3_supposeAsItIs 45 = .ok (.iaload, 1) := by decide +kernel
theorem dX3_supposeAsItIs_46 : decode cX3_supposeAsItIs 46 = .ok (.invokevirtual 76, 3) := by decide +kernel
theorem dX3_supposeAsItIs_49 : decode cX3_supposeAsItIs 49 = .ok (.iinc 1 1, 3) := by decide +kernel
theorem dX3_supposeAsItIs_52 : decode cX3_supposeAsItIs 52 = .ok (.goto (-28), 3) := by decide +kernel
theorem dX3_supposeAsItIs_55 : decode cX3_supposeAsItIs 55 = .ok (.return_, 1) := by decide +kernel
theorem dX3_supposePushers_0 : decode cX3_supposePushers 0 = .ok (.aload_n 0, 1) := by decide +kernel
theorem dX3_supposePushers_1 : decode cX3_supposePushers 1 = .ok (.getfield 25, 3) := by decide +kernel
theorem dX3_supposePushers_4 : decode cX3_supposePushers 4 = .ok (.iload_n 1, 1) := by decide +kernel
theorem dX3_supposePushers_5 : decode cX3_supposePushers 5 = .ok (.aload_n 0, 1) := by decide +kernel
theorem dX3_supposePushers_6 : decode cX3_supposePushers 6 = .ok (.getfield 12, 3) := by decide +kernel
theorem dX3_supposePushers_9 : decode cX3_supposePushers 9 = .ok (.iload_n 1, 1) := by decide +kernel
theorem dX3_supposePushers_10 : decode cX3_supposePushers 10 = .ok (.iload_n 2, 1) := by decide +kernel
theorem dX3_supposePushers_11 : decode cX3_supposePushers 11 = .ok (.invokevirtual 80, 3) := by decide +kernel
theorem dX3_supposePushers_14 : decode cX3_supposePushers 14 = .ok (.iastore, 1) := by decide +kernel
theorem dX3_supposePushers_15 : decode cX3_supposePushers 15 = .ok (.aload_n 0, 1) := by decide +kernel
theorem dX3_supposePushers_16 : decode cX3_supposePushers 16 = .ok (.getfield 29, 3) := by decide +kernel
theorem dX3_supposePushers_19 : decode cX3_supposePushers 19 = .ok (.iload_n 1, 1) := by decide +kernel
theorem dX3_supposePushers_20 : decode cX3_supposePushers 20 = .ok (.aload_n 0, 1) := by decide +kernel
theorem dX3_supposePushers_21 : decode cX3_supposePushers 21 = .ok (.getfield 25, 3) := by decide +kernel
theorem dX3_supposePushers_24 : decode cX3_supposePushers 24 = .ok (.iload_n 1, 1) := by decide +kernel
theorem dX3_supposePushers_25 : decode cX3_supposePushers 25 = .ok (.iaload, 1) := by decide +kernel
theorem dX3_supposePushers_26 : decode cX3_supposePushers 26 = .ok (.iload_n 2, 1) := by decide +kernel
theorem dX3_supposePushers_27 : decode cX3_supposePushers 27 = .ok (.invokestatic 84, 3) := by decide +kernel
theorem dX3_supposePushers_30 : decode cX3_supposePushers 30 = .ok (.iastore, 1) := by decide +kernel
theorem dX3_supposePushers_31 : decode cX3_supposePushers 31 = .ok (.return_, 1) := by decide +kernel
theorem dX3_supposeSureStart_0 : decode cX3_supposeSureStart 0 = .ok (.aload_n 0, 1) := by decide +kernel
theorem dX3_supposeSureStart_1 : decode cX3_supposeSureStart 1 = .ok (.getfield 25, 3) := by decide +kernel
theorem dX3_supposeSureStart_4 : decode cX3_supposeSureStart 4 = .ok (.iload_n 1, 1) := by decide +kernel
theorem dX3_supposeSureStart_5 : decode cX3_supposeSureStart 5 = .ok (.bipush 10, 2) := by decide +kernel
theorem dX3_supposeSureStart_7 : decode cX3_supposeSureStart 7 = .ok (.iastore, 1) := by decide +kernel
theorem dX3_supposeSureStart_8 : decode cX3_supposeSureStart 8 = .ok (.aload_n 0, 1) := by decide +kernel
theorem dX3_supposeSureStart_9 : decode cX3_supposeSureStart 9 = .ok (.getfield 29, 3) := by decide +kernel
theorem dX3_supposeSureStart_12 : decode cX3_supposeSureStart 12 = .ok (.iload_n 1, 1) := by decide +kernel
theorem dX3_supposeSureStart_13 : decode cX3_supposeSureStart 13 = .ok (.bipush 10, 2) := by decide +kernel
theorem dX3_supposeSureStart_15 : decode cX3_supposeSureStart 15 = .ok (.iastore, 1) := by decide +kernel
theorem dX3_supposeSureStart_16 : decode cX3_supposeSureStart 16 = .ok (.return_, 1) := by decide +kernel
theorem dX3_goBy_0 : decode cX3_goBy 0 = .ok (.aload_n 0, 1) := by decide +kernel
theorem dX3_goBy_1 : decode cX3_goBy 1 = .ok (.iconst 0, 1) := by decide +kernel
theorem dX3_goBy_2 : decode cX3_goBy 2 = .ok (.putfield 39, 3) := by decide +kernel
theorem dX3_goBy_5 : decode cX3_goBy 5 = .ok (.aload_n 0, 1) := by decide +kernel
theorem dX3_goBy_6 : decode cX3_goBy 6 = .ok (.iconst 0, 1) := by decide +kernel
theorem dX3_goBy_7 : decode cX3_goBy 7 = .ok (.putfield 43, 3) := by decide +kernel
theorem dX3_goBy_10 : decode cX3_goBy 10 = .ok (.aload_n 0, 1) := by decide +kernel
theorem dX3_goBy_11 : decode cX3_goBy 11 = .ok (.iconst 0, 1) := by decide +kernel
theorem dX3_goBy_12 : decode cX3_goBy 12 = .ok (.putfield 52, 3) := by decide +kernel
theorem dX3_goBy_15 : decode cX3_goBy 15 = .ok (.aload_n 0, 1) := by decide +kernel
theorem dX3_goBy_16 : decode cX3_goBy 16 = .ok (.iconst 0, 1) := by decide +kernel
theorem dX3_goBy_17 : decode cX3_goBy 17 = .ok (.putfield 55, 3) := by decide +kernel
theorem dX3_goBy_20 : decode cX3_goBy 20 = .ok (.aload_n 0, 1) := by decide +kernel
theorem dX3_goBy_21 : decode cX3_goBy 21 = .ok (.iconst 0, 1) := by decide +kernel
theorem dX3_goBy_22 : decode cX3_goBy 22 = .ok (.putfield 58, 3) := by decide +kernel
theorem dX3_goBy_25 : decode cX3_goBy 25 = .ok (.aload_n 0, 1) := by decide +kernel
theorem dX3_goBy_26 : decode cX3_goBy 26 = .ok (.ldc2_w 87, 3) := by decide +kernel
theorem dX3_goBy_29 : decode cX3_goBy 29 = .ok (.putfield 61, 3) := by decide +kernel
theorem dX3_goBy_32 : decode cX3_goBy 32 = .ok (.aload_n 0, 1) := by decide +kernel
theorem dX3_goBy_33 : decode cX3_goBy 33 = .ok (.lconst 0, 1) := by decide +kernel
theorem dX3_goBy_34 : decode cX3_goBy 34 = .ok (.putfield 65, 3) := by decide +kernel
theorem dX3_goBy_37 : decode cX3_goBy 37 = .ok (.aload_n 0, 1) := by decide +kernel
theorem dX3_goBy_38 : decode cX3_goBy 38 = .ok (.invokevirtual 89, 3) := by decide +kernel
theorem dX3_goBy_41 : decode cX3_goBy 41 = .ok (.iconst 0, 1) := by decide +kernel
theorem dX3_goBy_42 : decode cX3_goBy 42 = .ok (.istore_n 3, 1) := by decide +kernel
theorem dX3_goBy_43 : decode cX3_goBy 43 = .ok (.iload_n 3, 1) := by decide +kernel
theorem dX3_goBy_44 : decode cX3_goBy 44 = .ok (.iload_n 2, 1) := by decide +kernel
theorem dX3_goBy_45 : decode cX3_goBy 45 = .ok (.if_icmp .ge 22, 3) := by decide +kernel
theorem dX3_goBy_48 : decode cX3_goBy 48 = .ok (.iload_n 3, 1) := by decide +kernel
theorem dX3_goBy_49 : decode cX3_goBy 49 = .ok (.aload_n 1, 1) := by decide +kernel
theorem dX3_goBy_50 : decode cX3_goBy 50 = .ok (.arraylength, 1) := by decide +kernel
theorem dX3_goBy_51 : decode cX3_goBy 51 = .ok (.if_icmp .ge 16, 3) := by decide +kernel
theorem dX3_goBy_54 : decode cX3_goBy 54 = .ok (.aload_n 0, 1) := by decide +kernel
theorem dX3_goBy_55 : decode cX3_goBy 55 = .ok (.aload_n 1, 1) := by decide +kernel
theorem dX3_goBy_56 : decode cX3_goBy 56 = .ok (.iload_n 3, 1) := by decide +kernel
theorem dX3_goBy_57 : decode cX3_goBy 57 = .ok (.iaload, 1) := by decide +kernel
theorem dX3_goBy_58 : decode cX3_goBy 58 = .ok (.invokevirtual 92, 3) := by decide +kernel
theorem dX3_goBy_61 : decode cX3_goBy 61 = .ok (.iinc 3 1, 3) := by decide +kernel
theorem dX3_goBy_64 : decode cX3_goBy 64 = .ok (.goto (-21), 3) := by decide +kernel
theorem dX3_goBy_67 : decode cX3_goBy 67 = .ok (.aload_n 0, 1) := by decide +kernel
theorem dX3_goBy_68 : decode cX3_goBy 68 = .ok (.iconst 0, 1) := by decide +kernel
theorem dX3_goBy_69 : decode cX3_goBy 69 = .ok (.invokevirtual 96, 3) := by decide +kernel
theorem dX3_goBy_72 : decode cX3_goBy 72 = .ok (.return_, 1) := by decide +kernel
theorem dX3_visit_0 : decode cX3_visit 0 = .ok (.iload_n 1, 1) := by decide +kernel
theorem dX3_visit_1 : decode cX3_visit 1 = .ok (.ifCond .lt 14, 3) := by decide +kernel
theorem dX3_visit_4 : decode cX3_visit 4 = .ok (.iload_n 1, 1) := by decide +kernel
theorem dX3_visit_5 : decode cX3_visit 5 = .ok (.aload_n 0, 1) := by decide +kernel
theorem dX3_visit_6 : decode cX3_visit 6 = .ok (.getfield 12, 3) := by decide +kernel
theorem dX3_visit_9 : decode cX3_visit 9 = .ok (.getfield 99, 3) := by decide +kernel
theorem dX3_visit_12 : decode cX3_visit 12 = .ok (.if_icmp .lt 4, 3) := by decide +kernel
theorem dX3_visit_15 : decode cX3_visit 15 = .ok (.return_, 1) := by decide +kernel
theorem dX3_visit_16 : decode cX3_visit 16 = .ok (.aload_n 0, 1) := by decide +kernel
theorem dX3_visit_17 : decode cX3_visit 17 = .ok (.getfield 12, 3) := by decide +kernel
theorem dX3_visit_20 : decode cX3_visit 20 = .ok (.getfield 102, 3) := by decide +kernel
theorem dX3_visit_23 : decode cX3_visit 23 = .ok (.iload_n 1, 1) := by decide +kernel
theorem dX3_visit_24 : decode cX3_visit 24 = .ok (.iaload, 1) := by decide +kernel
theorem dX3_visit_25 : decode cX3_visit 25 = .ok (.istore_n 2, 1) := by decide +kernel
theorem dX3_visit_26 : decode cX3_visit 26 = .ok (.aload_n 0, 1) := by decide +kernel
theorem dX3_visit_27 : decode cX3_visit 27 = .ok (.iload_n 2, 1) := by decide +kernel
theorem dX3_visit_28 : decode cX3_visit 28 = .ok (.invokevirtual 105, 3) := by decide +kernel
theorem dX3_visit_31 : decode cX3_visit 31 = .ok (.ifCond .eq 4, 3) := by decide +kernel
theorem dX3_visit_34 : decode cX3_visit 34 = .ok (.return_, 1) := by decide +kernel
theorem dX3_visit_35 : decode cX3_visit 35 = .ok (.aload_n 0, 1) := by decide +kernel
theorem dX3_visit_36 : decode cX3_visit 36 = .ok (.iload_n 2, 1) := by decide +kernel
theorem dX3_visit_37 : decode cX3_visit 37 = .ok (.invokevirtual 96, 3) := by decide +kernel
theorem dX3_visit_40 : decode cX3_visit 40 = .ok (.aload_n 0, 1) := by decide +kernel
theorem dX3_visit_41 : decode cX3_visit 41 = .ok (.getfield 52, 3) := by decide +kernel
theorem dX3_visit_44 : decode cX3_visit 44 = .ok (.aload_n 0, 1) := by decide +kernel
theorem dX3_visit_45 : decode cX3_visit 45 = .ok (.getfield 12, 3) := by decide +kernel
theorem dX3_visit_48 : decode cX3_visit 48 = .ok (.getfield 109, 3) := by decide +kernel
theorem dX3_visit_51 : decode cX3_visit 51 = .ok (.iload_n 1, 1) := by decide +kernel
theorem dX3_visit_52 : decode cX3_visit 52 = .ok (.iaload, 1) := by decide +kernel
theorem dX3_visit_53 : decode cX3_visit 53 = .ok (.if_icmp .le 4, 3) := by decide +kernel
theorem dX3_visit_56 : decode cX3_visit 56 = .ok (.return_, 1) := by decide +kernel
theorem dX3_visit_57 : decode cX3_visit 57 = .ok (.aload_n 0, 1) := by decide +kernel
theorem dX3_visit_58 : decode cX3_visit 58 = .ok (.dup, 1) := by decide +kernel
theorem dX3_visit_59 : decode cX3_visit 59 = .ok (.getfield 55, 3) := by decide +kernel
theorem dX3_visit_62 : decode cX3_visit 62 = .ok (.iconst 1, 1) := by decide +kernel
theorem dX3_visit_63 : decode cX3_visit 63 = .ok (.iload_n 1, 1) := by decide +kernel
theorem dX3_visit_64 : decode cX3_visit 64 = .ok (.ishl, 1) := by decide +kernel
theorem dX3_visit_65 : decode cX3_visit 65 = .ok (.ior, 1) := by decide +kernel
theorem dX3_visit_66 : decode cX3_visit 66 = .ok (.putfield 55, 3) := by decide +kernel
theorem dX3_visit_69 : decode cX3_visit 69 = .ok (.aload_n 0, 1) := by decide +kernel
theorem dX3_visit_70 : decode cX3_visit 70 = .ok (.dup, 1) := by decide +kernel
theorem dX3_visit_71 : decode cX3_visit 71 = .ok (.getfield 65, 3) := by decide +kernel
theorem dX3_visit_74 : decode cX3_visit 74 = .ok (.aload_n 0, 1) := by decide +kernel
theorem dX3_visit_75 : decode cX3_visit 75 = .ok (.getfield 61, 3) := by decide +kernel
theorem dX3_visit_78 : decode cX3_visit 78 = .ok (.aload_n 0, 1) := by decide +kernel
theorem dX3_visit_79 : decode cX3_visit 79 = .ok (.getfield 12, 3) := by decide +kernel
theorem dX3_visit_82 : decode cX3_visit 82 = .ok (.getfield 112, 3) := by decide +kernel
theorem dX3_visit_85 : decode cX3_visit 85 = .ok (.iload_n 1, 1) := by decide +kernel
theorem dX3_visit_86 : decode cX3_visit 86 = .ok (.iaload, 1) := by decide +kernel
theorem dX3_visit_87 : decode cX3_visit 87 = .ok (.i2l, 1) := by decide +kernel
theorem dX3_visit_88 : decode cX3_visit 88 = .ok (.lmul, 1) := by decide +kernel
theorem dX3_visit_89 : decode cX3_visit 89 = .ok (.ladd, 1) := by decide +kernel
theorem dX3_visit_90 : decode cX3_visit 90 = .ok (.putfield 65, 3) := by decide +kernel
theorem dX3_visit_93 : decode cX3_visit 93 = .ok (.aload_n 0, 1) := by decide +kernel
theorem dX3_visit_94 : decode cX3_visit 94 = .ok (.dup, 1) := by decide +kernel
theorem dX3_visit_95 : decode cX3_visit 95 = .ok (.getfield 52, 3) := by decide +kernel
theorem dX3_visit_98 : decode cX3_visit 98 = .ok (.aload_n 0, 1) := by decide +kernel
theorem dX3_visit_99 : decode cX3_visit 99 = .ok (.getfield 12, 3) := by decide +kernel
theorem dX3_visit_102 : decode cX3_visit 102 = .ok (.getfield 115, 3) := by decide +kernel
theorem dX3_visit_105 : decode cX3_visit 105 = .ok (.iload_n 1, 1) := by decide +kernel
theorem dX3_visit_106 : decode cX3_visit 106 = .ok (.iaload, 1) := by decide +kernel
theorem dX3_visit_107 : decode cX3_visit 107 = .ok (.iadd, 1) := by decide +kernel
theorem dX3_visit_108 : decode cX3_visit 108 = .ok (.putfield 52, 3) := by decide +kernel
theorem dX3_visit_111 : decode cX3_visit 111 = .ok (.aload_n 0, 1) := by decide +kernel
theorem dX3_visit_112 : decode cX3_visit 112 = .ok (.iload_n 1, 1) := by decide +kernel
theorem dX3_visit_113 : decode cX3_visit 113 = .ok (.invokevirtual 118, 3) := by decide +kernel
theorem dX3_visit_116 : decode cX3_visit 116 = .ok (.ifCond .eq 50, 3) := by decide +kernel
theorem dX3_visit_119 : decode cX3_visit 119 = .ok (.aload_n 0, 1) := by decide +kernel
theorem dX3_visit_120 : decode cX3_visit 120 = .ok (.getfield 12, 3) := by decide +kernel
theorem dX3_visit_123 : decode cX3_visit 123 = .ok (.getfield 121, 3) := by decide +kernel
theorem dX3_visit_126 : decode cX3_visit 126 = .ok (.aload_n 0, 1) := by decide +kernel
theorem dX3_visit_127 : decode cX3_visit 127 = .ok (.getfield 12, 3) := by decide +kernel
theorem dX3_visit_130 : decode cX3_visit 130 = .ok (.getfield 115, 3) := by decide +kernel
theorem dX3_visit_133 : decode cX3_visit 133 = .ok (.iload_n 1, 1) := by decide +kernel
theorem dX3_visit_134 : decode cX3_visit 134 = .ok (.iaload, 1) := by decide +kernel
theorem dX3_visit_135 : decode cX3_visit 135 = .ok (.imul, 1) := by decide +kernel
theorem dX3_visit_136 : decode cX3_visit 136 = .ok (.istore_n 3, 1) := by decide +kernel
theorem dX3_visit_137 : decode cX3_visit 137 = .ok (.aload_n 0, 1) := by decide +kernel
theorem dX3_visit_138 : decode cX3_visit 138 = .ok (.dup, 1) := by decide +kernel
theorem dX3_visit_139 : decode cX3_visit 139 = .ok (.getfield 58, 3) := by decide +kernel
theorem dX3_visit_142 : decode cX3_visit 142 = .ok (.iload_n 3, 1) := by decide +kernel
theorem dX3_visit_143 : decode cX3_visit 143 = .ok (.iadd, 1) := by decide +kernel
theorem dX3_visit_144 : decode cX3_visit 144 = .ok (.putfield 58, 3) := by decide +kernel
theorem dX3_visit_147 : decode cX3_visit 147 = .ok (.aload_n 0, 1) := by decide +kernel
theorem dX3_visit_148 : decode cX3_visit 148 = .ok (.dup, 1) := by decide +kernel
theorem dX3_visit_149 : decode cX3_visit 149 = .ok (.getfield 65, 3) := by decide +kernel
theorem dX3_visit_152 : decode cX3_visit 152 = .ok (.aload_n 0, 1) := by decide +kernel
theorem dX3_visit_153 : decode cX3_visit 153 = .ok (.getfield 61, 3) := by decide +kernel
theorem dX3_visit_156 : decode cX3_visit 156 = .ok (.iload_n 3, 1) := by decide +kernel
theorem dX3_visit_157 : decode cX3_visit 157 = .ok (.i2l, 1) := by decide +kernel
theorem dX3_visit_158 : decode cX3_visit 158 = .ok (.lmul, 1) := by decide +kernel
theorem dX3_visit_159 : decode cX3_visit 159 = .ok (.lsub, 1) := by decide +kernel
theorem dX3_visit_160 : decode cX3_visit 160 = .ok (.putfield 65, 3) := by decide +kernel
theorem dX3_visit_163 : decode cX3_visit 163 = .ok (.goto 7, 3) := by decide +kernel
theorem dX3_visit_166 : decode cX3_visit 166 = .ok (.aload_n 0, 1) := by decide +kernel
theorem dX3_visit_167 : decode cX3_visit 167 = .ok (.invokevirtual 89, 3) := by decide +kernel
theorem dX3_visit_170 : decode cX3_visit 170 = .ok (.return_, 1) := by decide +kernel
theorem dX3_leavesOut_0 : decode cX3_leavesOut 0 = .ok (.aload_n 0, 1) := by decide +kernel
theorem dX3_leavesOut_1 : decode cX3_leavesOut 1 = .ok (.getfield 46, 3) := by decide +kernel
theorem dX3_leavesOut_4 : decode cX3_leavesOut 4 = .ok (.iconst 4, 1) := by decide +kernel
theorem dX3_leavesOut_5 : decode cX3_leavesOut 5 = .ok (.if_icmp .eq 11, 3) := by decide +kernel
theorem dX3_leavesOut_8 : decode cX3_leavesOut 8 = .ok (.aload_n 0, 1) := by decide +kernel
theorem dX3_leavesOut_9 : decode cX3_leavesOut 9 = .ok (.getfield 46, 3) := by decide +kernel
theorem dX3_leavesOut_12 : decode cX3_leavesOut 12 = .ok (.iconst 5, 1) := by decide +kernel
theorem dX3_leavesOut_13 : decode cX3_leavesOut 13 = .ok (.if_icmp .ne 18, 3) := by decide +kernel
theorem dX3_leavesOut_16 : decode cX3_leavesOut 16 = .ok (.aload_n 0, 1) := by decide +kernel
theorem dX3_leavesOut_17 : decode cX3_leavesOut 17 = .ok (.getfield 25, 3) := by decide +kernel
theorem dX3_leavesOut_20 : decode cX3_leavesOut 20 = .ok (.iload_n 1, 1) := by decide +kernel
theorem dX3_leavesOut_21 : decode cX3_leavesOut 21 = .ok (.iaload, 1) := by decide +kernel
theorem dX3_leavesOut_22 : decode cX3_leavesOut 22 = .ok (.bipush 10, 2) := by decide +kernel
theorem dX3_leavesOut_24 : decode cX3_leavesOut 24 = .ok (.if_icmp .ge 7, 3) := by decide +kernel
theorem dX3_leavesOut_27 : decode cX3_leavesOut 27 = .ok (.iconst 1, 1) := by decide +kernel
theorem dX3_leavesOut_28 : decode cX3_leavesOut 28 = .ok (.goto 4, 3) := by decide +kernel
theorem dX3_leavesOut_31 : decode cX3_leavesOut 31 = .ok (.iconst 0, 1) := by decide +kernel
theorem dX3_leavesOut_32 : decode cX3_leavesOut 32 = .ok (.istore_n 2, 1) := by decide +kernel
theorem dX3_leavesOut_33 : decode cX3_leavesOut 33 = .ok (.iload_n 2, 1) := by decide +kernel
theorem dX3_leavesOut_34 : decode cX3_leavesOut 34 = .ok (.ifCond .ne 31, 3) := by decide +kernel
theorem dX3_leavesOut_37 : decode cX3_leavesOut 37 = .ok (.aload_n 0, 1) := by decide +kernel
theorem dX3_leavesOut_38 : decode cX3_leavesOut 38 = .ok (.getfield 21, 3) := by decide +kernel
theorem dX3_leavesOut_41 : decode cX3_leavesOut 41 = .ok (.aload_n 0, 1) := by decide +kernel
theorem dX3_leavesOut_42 : decode cX3_leavesOut 42 = .ok (.getfield 43, 3) := by decide +kernel
theorem dX3_leavesOut_45 : decode cX3_leavesOut 45 = .ok (.iload_n 1, 1) := by decide +kernel
theorem dX3_leavesOut_46 : decode cX3_leavesOut 46 = .ok (.aload_n 0, 1) := by decide +kernel
theorem dX3_leavesOut_47 : decode cX3_leavesOut 47 = .ok (.getfield 46, 3) := by decide +kernel
theorem dX3_leavesOut_50 : decode cX3_leavesOut 50 = .ok (.iconst 5, 1) := by decide +kernel
theorem dX3_leavesOut_51 : decode cX3_leavesOut 51 = .ok (.if_icmp .ne 7, 3) := by decide +kernel
theorem dX3_leavesOut_54 : decode cX3_leavesOut 54 = .ok (.iconst 1, 1) := by decide +kernel
theorem dX3_leavesOut_55 : decode cX3_leavesOut 55 = .ok (.goto 4, 3) := by decide +kernel
theorem dX3_leavesOut_58 : decode cX3_leavesOut 58 = .ok (.iconst 0, 1) := by decide +kernel
theorem dX3_leavesOut_59 : decode cX3_leavesOut 59 = .ok (.invokevirtual 124, 3) := by decide +kernel
theorem dX3_leavesOut_62 : decode cX3_leavesOut 62 = .ok (.ifCond .ge 7, 3) := by decide +kernel
theorem dX3_leavesOut_65 : decode cX3_leavesOut 65 = .ok (.iconst 1, 1) := by decide +kernel
theorem dX3_leavesOut_66 : decode cX3_leavesOut 66 = .ok (.goto 4, 3) := by decide +kernel
theorem dX3_leavesOut_69 : decode cX3_leavesOut 69 = .ok (.iconst 0, 1) := by decide +kernel
theorem dX3_leavesOut_70 : decode cX3_leavesOut 70 = .ok (.ireturn, 1) := by decide +kernel
theorem dX3_runsOn_0 : decode cX3_runsOn 0 = .ok (.aload_n 0, 1) := by decide +kernel
theorem dX3_runsOn_1 : decode cX3_runsOn 1 = .ok (.getfield 12, 3) := by decide +kernel
theorem dX3_runsOn_4 : decode cX3_runsOn 4 = .ok (.getfield 115, 3) := by decide +kernel
theorem dX3_runsOn_7 : decode cX3_runsOn 7 = .ok (.iload_n 1, 1) := by decide +kernel
theorem dX3_runsOn_8 : decode cX3_runsOn 8 = .ok (.iaload, 1) := by decide +kernel
theorem dX3_runsOn_9 : decode cX3_runsOn 9 = .ok (.aload_n 0, 1) := by decide +kernel
theorem dX3_runsOn_10 : decode cX3_runsOn 10 = .ok (.getfield 49, 3) := by decide +kernel
theorem dX3_runsOn_13 : decode cX3_runsOn 13 = .ok (.if_icmp .le 5, 3) := by decide +kernel
theorem dX3_runsOn_16 : decode cX3_runsOn 16 = .ok (.iconst 0, 1) := by decide +kernel
theorem dX3_runsOn_17 : decode cX3_runsOn 17 = .ok (.ireturn, 1) := by decide +kernel
theorem dX3_runsOn_18 : decode cX3_runsOn 18 = .ok (.aload_n 0, 1) := by decide +kernel
theorem dX3_runsOn_19 : decode cX3_runsOn 19 = .ok (.getfield 46, 3) := by decide +kernel
theorem dX3_runsOn_22 : decode cX3_runsOn 22 = .ok (.iconst 1, 1) := by decide +kernel
theorem dX3_runsOn_23 : decode cX3_runsOn 23 = .ok (.if_icmp .eq 25, 3) := by decide +kernel
theorem dX3_runsOn_26 : decode cX3_runsOn 26 = .ok (.aload_n 0, 1) := by decide +kernel
theorem dX3_runsOn_27 : decode cX3_runsOn 27 = .ok (.getfield 46, 3) := by decide +kernel
theorem dX3_runsOn_30 : decode cX3_runsOn 30 = .ok (.iconst 2, 1) := by decide +kernel
theorem dX3_runsOn_31 : decode cX3_runsOn 31 = .ok (.if_icmp .ne 21, 3) := by decide +kernel
theorem dX3_runsOn_34 : decode cX3_runsOn 34 = .ok (.aload_n 0, 1) := by decide +kernel
theorem dX3_runsOn_35 : decode cX3_runsOn 35 = .ok (.getfield 25, 3) := by decide +kernel
theorem dX3_runsOn_38 : decode cX3_runsOn 38 = .ok (.aload_n 0, 1) := by decide +kernel
theorem dX3_runsOn_39 : decode cX3_runsOn 39 = .ok (.getfield 43, 3) := by decide +kernel
theorem dX3_runsOn_42 : decode cX3_runsOn 42 = .ok (.iaload, 1) := by decide +kernel
theorem dX3_runsOn_43 : decode cX3_runsOn 43 = .ok (.bipush 10, 2) := by decide +kernel
theorem dX3_runsOn_45 : decode cX3_runsOn 45 = .ok (.if_icmp .ge 7, 3) := by decide +kernel
theorem dX3_runsOn_48 : decode cX3_runsOn 48 = .ok (.iconst 1, 1) := by decide +kernel
theorem dX3_runsOn_49 : decode cX3_runsOn 49 = .ok (.goto 4, 3) := by decide +kernel
theorem dX3_runsOn_52 : decode cX3_runsOn 52 = .ok (.iconst 0, 1) := by decide +kernel
theorem dX3_runsOn_53 : decode cX3_runsOn 53 = .ok (.ireturn, 1) := by decide +kernel
theorem dX3_startHere_0 : decode cX3_startHere 0 = .ok (.aload_n 0, 1) := by decide +kernel
theorem dX3_startHere_1 : decode cX3_startHere 1 = .ok (.getfield 46, 3) := by decide +kernel
theorem dX3_startHere_4 : decode cX3_startHere 4 = .ok (.iconst 3, 1) := by decide +kernel
theorem dX3_startHere_5 : decode cX3_startHere 5 = .ok (.if_icmp .ne 15, 3) := by decide +kernel
theorem dX3_startHere_8 : decode cX3_startHere 8 = .ok (.aload_n 0, 1) := by decide +kernel
theorem dX3_startHere_9 : decode cX3_startHere 9 = .ok (.getfield 29, 3) := by decide +kernel
theorem dX3_startHere_12 : decode cX3_startHere 12 = .ok (.aload_n 0, 1) := by decide +kernel
theorem dX3_startHere_13 : decode cX3_startHere 13 = .ok (.getfield 43, 3) := by decide +kernel
theorem dX3_startHere_16 : decode cX3_startHere 16 = .ok (.iaload, 1) := by decide +kernel
theorem dX3_startHere_17 : decode cX3_startHere 17 = .ok (.goto 12, 3) := by decide +kernel
theorem dX3_startHere_20 : decode cX3_startHere 20 = .ok (.aload_n 0, 1) := by decide +kernel
theorem dX3_startHere_21 : decode cX3_startHere 21 = .ok (.getfield 25, 3) := by decide +kernel
theorem dX3_startHere_24 : decode cX3_startHere 24 = .ok (.aload_n 0, 1) := by decide +kernel
theorem dX3_startHere_25 : decode cX3_startHere 25 = .ok (.getfield 43, 3) := by decide +kernel
theorem dX3_startHere_28 : decode cX3_startHere 28 = .ok (.iaload, 1) := by decide +kernel
theorem dX3_startHere_29 : decode cX3_startHere 29 = .ok (.istore_n 1, 1) := by decide +kernel
theorem dX3_startHere_30 : decode cX3_startHere 30 = .ok (.aload_n 0, 1) := by decide +kernel
theorem dX3_startHere_31 : decode cX3_startHere 31 = .ok (.aload_n 0, 1) := by decide +kernel
theorem dX3_startHere_32 : decode cX3_startHere 32 = .ok (.getfield 61, 3) := by decide +kernel
theorem dX3_startHere_35 : decode cX3_startHere 35 = .ok (.ldc2_w 128, 3) := by decide +kernel
theorem dX3_startHere_38 : decode cX3_startHere 38 = .ok (.ldiv, 1) := by decide +kernel
theorem dX3_startHere_39 : decode cX3_startHere 39 = .ok (.iload_n 1, 1) := by decide +kernel
theorem dX3_startHere_40 : decode cX3_startHere 40 = .ok (.i2l, 1) := by decide +kernel
theorem dX3_startHere_41 : decode cX3_startHere 41 = .ok (.lmul, 1) := by decide +kernel
theorem dX3_startHere_42 : decode cX3_startHere 42 = .ok (.putfield 61, 3) := by decide +kernel
theorem dX3_startHere_45 : decode cX3_startHere 45 = .ok (.aload_n 0, 1) := by decide +kernel
theorem dX3_startHere_46 : decode cX3_startHere 46 = .ok (.iload_n 1, 1) := by decide +kernel
theorem dX3_startHere_47 : decode cX3_startHere 47 = .ok (.iconst 0, 1) := by decide +kernel
theorem dX3_startHere_48 : decode cX3_startHere 48 = .ok (.invokevirtual 130, 3) := by decide +kernel
theorem dX3_startHere_51 : decode cX3_startHere 51 = .ok (.return_, 1) := by decide +kernel
theorem dX3_driveTo_0 : decode cX3_driveTo 0 = .ok (.aload_n 0, 1) := by decide +kernel
theorem dX3_driveTo_1 : decode cX3_driveTo 1 = .ok (.getfield 46, 3) := by decide +kernel
theorem dX3_driveTo_4 : decode cX3_driveTo 4 = .ok (.iconst 5, 1) := by decide +kernel
theorem dX3_driveTo_5 : decode cX3_driveTo 5 = .ok (.if_icmp .ne 7, 3) := by decide +kernel
theorem dX3_driveTo_8 : decode cX3_driveTo 8 = .ok (.iconst 1, 1) := by decide +kernel
theorem dX3_driveTo_9 : decode cX3_driveTo 9 = .ok (.goto 4, 3) := by decide +kernel
theorem dX3_driveTo_12 : decode cX3_driveTo 12 = .ok (.iconst 0, 1) := by decide +kernel
theorem dX3_driveTo_13 : decode cX3_driveTo 13 = .ok (.istore_n 2, 1) := by decide +kernel
theorem dX3_driveTo_14 : decode cX3_driveTo 14 = .ok (.aload_n 0, 1) := by decide +kernel
theorem dX3_driveTo_15 : decode cX3_driveTo 15 = .ok (.getfield 21, 3) := by decide +kernel
theorem dX3_driveTo_18 : decode cX3_driveTo 18 = .ok (.aload_n 0, 1) := by decide +kernel
theorem dX3_driveTo_19 : decode cX3_driveTo 19 = .ok (.getfield 43, 3) := by decide +kernel
theorem dX3_driveTo_22 : decode cX3_driveTo 22 = .ok (.iload_n 1, 1) := by decide +kernel
theorem dX3_driveTo_23 : decode cX3_driveTo 23 = .ok (.iload_n 2, 1) := by decide +kernel
theorem dX3_driveTo_24 : decode cX3_driveTo 24 = .ok (.invokevirtual 134, 3) := by decide +kernel
theorem dX3_driveTo_27 : decode cX3_driveTo 27 = .ok (.istore_n 3, 1) := by decide +kernel
theorem dX3_driveTo_28 : decode cX3_driveTo 28 = .ok (.aload_n 0, 1) := by decide +kernel
theorem dX3_driveTo_29 : decode cX3_driveTo 29 = .ok (.dup, 1) := by decide +kernel
theorem dX3_driveTo_30 : decode cX3_driveTo 30 = .ok (.getfield 52, 3) := by decide +kernel
theorem dX3_driveTo_33 : decode cX3_driveTo 33 = .ok (.aload_n 0, 1) := by decide +kernel
theorem dX3_driveTo_34 : decode cX3_driveTo 34 = .ok (.getfield 21, 3) := by decide +kernel
theorem dX3_driveTo_37 : decode cX3_driveTo 37 = .ok (.aload_n 0, 1) := by decide +kernel
theorem dX3_driveTo_38 : decode cX3_driveTo 38 = .ok (.getfield 43, 3) := by decide +kernel
theorem dX3_driveTo_41 : decode cX3_driveTo 41 = .ok (.iload_n 1, 1) := by decide +kernel
theorem dX3_driveTo_42 : decode cX3_driveTo 42 = .ok (.iload_n 2, 1) := by decide +kernel
theorem dX3_driveTo_43 : decode cX3_driveTo 43 = .ok (.invokevirtual 124, 3) := by decide +kernel
theorem dX3_driveTo_46 : decode cX3_driveTo 46 = .ok (.iadd, 1) := by decide +kernel
theorem dX3_driveTo_47 : decode cX3_driveTo 47 = .ok (.putfield 52, 3) := by decide +kernel
theorem dX3_driveTo_50 : decode cX3_driveTo 50 = .ok (.aload_n 0, 1) := by decide +kernel
theorem dX3_driveTo_51 : decode cX3_driveTo 51 = .ok (.iload_n 1, 1) := by decide +kernel
theorem dX3_driveTo_52 : decode cX3_driveTo 52 = .ok (.putfield 43, 3) := by decide +kernel
theorem dX3_driveTo_55 : decode cX3_driveTo 55 = .ok (.aload_n 0, 1) := by decide +kernel
theorem dX3_driveTo_56 : decode cX3_driveTo 56 = .ok (.aload_n 0, 1) := by decide +kernel
theorem dX3_driveTo_57 : decode cX3_driveTo 57 = .ok (.getfield 61, 3) := by decide +kernel
theorem dX3_driveTo_60 : decode cX3_driveTo 60 = .ok (.ldc2_w 128, 3) := by decide +kernel
theorem dX3_driveTo_63 : decode cX3_driveTo 63 = .ok (.ldiv, 1) := by decide +kernel
theorem dX3_driveTo_64 : decode cX3_driveTo 64 = .ok (.bipush 10, 2) := by decide +kernel
theorem dX3_driveTo_66 : decode cX3_driveTo 66 = .ok (.iload_n 3, 1) := by decide +kernel
theorem dX3_driveTo_67 : decode cX3_driveTo 67 = .ok (.isub, 1) := by decide +kernel
theorem dX3_driveTo_68 : decode cX3_driveTo 68 = .ok (.i2l, 1) := by decide +kernel
theorem dX3_driveTo_69 : decode cX3_driveTo 69 = .ok (.lmul, 1) := by decide +kernel
theorem dX3_driveTo_70 : decode cX3_driveTo 70 = .ok (.putfield 61, 3) := by decide +kernel
theorem dX3_driveTo_73 : decode cX3_driveTo 73 = .ok (.aload_n 0, 1) := by decide +kernel
theorem dX3_driveTo_74 : decode cX3_driveTo 74 = .ok (.iload_n 3, 1) := by decide +kernel
theorem dX3_driveTo_75 : decode cX3_driveTo 75 = .ok (.iconst 1, 1) := by decide +kernel
theorem dX3_driveTo_76 : decode cX3_driveTo 76 = .ok (.invokevirtual 130, 3) := by decide +kernel
theorem dX3_driveTo_79 : decode cX3_driveTo 79 = .ok (.return_, 1) := by decide +kernel
theorem dX3_noteChance_0 : decode cX3_noteChance 0 = .ok (.aload_n 0, 1) := by decide +kernel
theorem dX3_noteChance_1 : decode cX3_noteChance 1 = .ok (.getfield 39, 3) := by decide +kernel
theorem dX3_noteChance_4 : decode cX3_noteChance 4 = .ok (.bipush 12, 2) := by decide +kernel
theorem dX3_noteChance_6 : decode cX3_noteChance 6 = .ok (.if_icmp .ge 33, 3) := by decide +kernel
theorem dX3_noteChance_9 : decode cX3_noteChance 9 = .ok (.aload_n 0, 1) := by decide +kernel
theorem dX3_noteChance_10 : decode cX3_noteChance 10 = .ok (.getfield 32, 3) := by decide +kernel
theorem dX3_noteChance_13 : decode cX3_noteChance 13 = .ok (.aload_n 0, 1) := by decide +kernel
theorem dX3_noteChance_14 : decode cX3_noteChance 14 = .ok (.getfield 39, 3) := by decide +kernel
theorem dX3_noteChance_17 : decode cX3_noteChance 17 = .ok (.iload_n 1, 1) := by decide +kernel
theorem dX3_noteChance_18 : decode cX3_noteChance 18 = .ok (.iastore, 1) := by decide +kernel
theorem dX3_noteChance_19 : decode cX3_noteChance 19 = .ok (.aload_n 0, 1) := by decide +kernel
theorem dX3_noteChance_20 : decode cX3_noteChance 20 = .ok (.getfield 35, 3) := by decide +kernel
theorem dX3_noteChance_23 : decode cX3_noteChance 23 = .ok (.aload_n 0, 1) := by decide +kernel
theorem dX3_noteChance_24 : decode cX3_noteChance 24 = .ok (.getfield 39, 3) := by decide +kernel
theorem dX3_noteChance_27 : decode cX3_noteChance 27 = .ok (.iload_n 2, 1) := by decide +kernel
theorem dX3_noteChance_28 : decode cX3_noteChance 28 = .ok (.bastore, 1) := by decide +kernel
theorem dX3_noteChance_29 : decode cX3_noteChance 29 = .ok (.aload_n 0, 1) := by decide +kernel
theorem dX3_noteChance_30 : decode cX3_noteChance 30 = .ok (.dup, 1) := by decide +kernel
theorem dX3_noteChance_31 : decode cX3_noteChance 31 = .ok (.getfield 39, 3) := by decide +kernel
theorem dX3_noteChance_34 : decode cX3_noteChance 34 = .ok (.iconst 1, 1) := by decide +kernel
theorem dX3_noteChance_35 : decode cX3_noteChance 35 = .ok (.iadd, 1) := by decide +kernel
theorem dX3_noteChance_36 : decode cX3_noteChance 36 = .ok (.putfield 39, 3) := by decide +kernel
theorem dX3_noteChance_39 : decode cX3_noteChance 39 = .ok (.return_, 1) := by decide +kernel
theorem dX3_timesHome_0 : decode cX3_timesHome 0 = .ok (.iload_n 2, 1) := by decide +kernel
theorem dX3_timesHome_1 : decode cX3_timesHome 1 = .ok (.istore_n 3, 1) := by decide +kernel
theorem dX3_timesHome_2 : decode cX3_timesHome 2 = .ok (.iconst 0, 1) := by decide +kernel
theorem dX3_timesHome_3 : decode cX3_timesHome 3 = .ok (.istore 4, 2) := by decide +kernel
theorem dX3_timesHome_5 : decode cX3_timesHome 5 = .ok (.iconst 0, 1) := by decide +kernel
theorem dX3_timesHome_6 : decode cX3_timesHome 6 = .ok (.istore 5, 2) := by decide +kernel
theorem dX3_timesHome_8 : decode cX3_timesHome 8 = .ok (.iload 5, 2) := by decide +kernel
theorem dX3_timesHome_10 : decode cX3_timesHome 10 = .ok (.iload_n 1, 1) := by decide +kernel
theorem dX3_timesHome_11 : decode cX3_timesHome 11 = .ok (.if_icmp .ge 128, 3) := by decide +kernel
theorem dX3_timesHome_14 : decode cX3_timesHome 14 = .ok (.iconst 1, 1) := by decide +kernel
theorem dX3_timesHome_15 : decode cX3_timesHome 15 = .ok (.istore 6, 2) := by decide +kernel
theorem dX3_timesHome_17 : decode cX3_timesHome 17 = .ok (.iconst 0, 1) := by decide +kernel
theorem dX3_timesHome_18 : decode cX3_timesHome 18 = .ok (.istore 7, 2) := by decide +kernel
theorem dX3_timesHome_20 : decode cX3_timesHome 20 = .ok (.iload 7, 2) := by decide +kernel
theorem dX3_timesHome_22 : decode cX3_timesHome 22 = .ok (.aload_n 0, 1) := by decide +kernel
theorem dX3_timesHome_23 : decode cX3_timesHome 23 = .ok (.getfield 39, 3) := by decide +kernel
theorem dX3_timesHome_26 : decode cX3_timesHome 26 = .ok (.if_icmp .ge 99, 3) := by decide +kernel
theorem dX3_timesHome_29 : decode cX3_timesHome 29 = .ok (.iload 6, 2) := by decide +kernel
theorem dX3_timesHome_31 : decode cX3_timesHome 31 = .ok (.ifCond .eq 94, 3) := by decide +kernel
theorem dX3_timesHome_34 : decode cX3_timesHome 34 = .ok (.aload_n 0, 1) := by decide +kernel
theorem dX3_timesHome_35 : decode cX3_timesHome 35 = .ok (.getfield 32, 3) := by decide +kernel
theorem dX3_timesHome_38 : decode cX3_timesHome 38 = .ok (.iload 7, 2) := by decide +kernel
theorem dX3_timesHome_40 : decode cX3_timesHome 40 = .ok (.iaload, 1) := by decide +kernel
theorem dX3_timesHome_41 : decode cX3_timesHome 41 = .ok (.istore 8, 2) := by decide +kernel
theorem dX3_timesHome_43 : decode cX3_timesHome 43 = .ok (.iload 8, 2) := by decide +kernel
theorem dX3_timesHome_45 : decode cX3_timesHome 45 = .ok (.bipush 10, 2) := by decide +kernel
theorem dX3_timesHome_47 : decode cX3_timesHome 47 = .ok (.if_icmp .lt 7, 3) := by decide +kernel
theorem dX3_timesHome_50 : decode cX3_timesHome 50 = .ok (.iconst 1, 1) := by decide +kernel
theorem dX3_timesHome_51 : decode cX3_timesHome 51 = .ok (.goto 4, 3) := by decide +kernel
theorem dX3_timesHome_54 : decode cX3_timesHome 54 = .ok (.iconst 0, 1) := by decide +kernel
theorem dX3_timesHome_55 : decode cX3_timesHome 55 = .ok (.istore 9, 2) := by decide +kernel
theorem dX3_timesHome_57 : decode cX3_timesHome 57 = .ok (.iload 8, 2) := by decide +kernel
theorem dX3_timesHome_59 : decode cX3_timesHome 59 = .ok (.ifCond .le 41, 3) := by decide +kernel
theorem dX3_timesHome_62 : decode cX3_timesHome 62 = .ok (.iload 8, 2) := by decide +kernel
theorem dX3_timesHome_64 : decode cX3_timesHome 64 = .ok (.bipush 10, 2) := by decide +kernel
theorem dX3_timesHome_66 : decode cX3_timesHome 66 = .ok (.if_icmp .ge 34, 3) := by decide +kernel
theorem dX3_timesHome_69 : decode cX3_timesHome 69 = .ok (.iload_n 3, 1) := by decide +kernel
theorem dX3_timesHome_70 : decode cX3_timesHome 70 = .ok (.ldc 137, 2) := by decide +kernel
theorem dX3_timesHome_72 : decode cX3_timesHome 72 = .ok (.imul, 1) := by decide +kernel
theorem dX3_timesHome_73 : decode cX3_timesHome 73 = .ok (.ldc 138, 2) := by decide +kernel
theorem dX3_timesHome_75 : decode cX3_timesHome 75 = .ok (.iadd, 1) := by decide +kernel
theorem dX3_timesHome_76 : decode cX3_timesHome 76 = .ok (.istore_n 3, 1) := by decide +kernel
theorem dX3_timesHome_77 : decode cX3_timesHome 77 = .ok (.iload_n 3, 1) := by decide +kernel
theorem dX3_timesHome_78 : decode cX3_timesHome 78 = .ok (.ldc 139, 2) := by decide +kernel
theorem dX3_timesHome_80 : decode cX3_timesHome 80 = .ok (.iand, 1) := by decide +kernel
theorem dX3_timesHome_81 : decode cX3_timesHome 81 = .ok (.sipush 256, 3) := by decide +kernel
theorem dX3_timesHome_84 : decode cX3_timesHome 84 = .ok (.idiv, 1) := by decide +kernel
theorem dX3_timesHome_85 : decode cX3_timesHome 85 = .ok (.bipush 10, 2) := by decide +kernel
theorem dX3_timesHome_87 : decode cX3_timesHome 87 = .ok (.irem, 1) := by decide +kernel
theorem dX3_timesHome_88 : decode cX3_timesHome 88 = .ok (.iload 8, 2) := by decide +kernel
theorem dX3_timesHome_90 : decode cX3_timesHome 90 = .ok (.if_icmp .ge 7, 3) := by decide +kernel
theorem dX3_timesHome_93 : decode cX3_timesHome 93 = .ok (.iconst 1, 1) := by decide +kernel
theorem dX3_timesHome_94 : decode cX3_timesHome 94 = .ok (.goto 4, 3) := by decide +kernel
theorem dX3_timesHome_97 : decode cX3_timesHome 97 = .ok (.iconst 0, 1) := by decide +kernel
theorem dX3_timesHome_98 : decode cX3_timesHome 98 = .ok (.istore 9, 2) := by decide +kernel
theorem dX3_timesHome_100 : decode cX3_timesHome 100 = .ok (.iload 9, 2) := by decide +kernel
theorem dX3_timesHome_102 : decode cX3_timesHome 102 = .ok (.aload_n 0, 1) := by decide +kernel
theorem dX3_timesHome_103 : decode cX3_timesHome 103 = .ok (.getfield 35, 3) := by decide +kernel
theorem dX3_timesHome_106 : decode cX3_timesHome 106 = .ok (.iload 7, 2) := by decide +kernel
theorem dX3_timesHome_108 : decode cX3_timesHome 108 = .ok (.baload, 1) := by decide +kernel
theorem dX3_timesHome_109 : decode cX3_timesHome 109 = .ok (.if_icmp .eq 7, 3) := by decide +kernel
theorem dX3_timesHome_112 : decode cX3_timesHome 112 = .ok (.iconst 1, 1) := by decide +kernel
theorem dX3_timesHome_113 : decode cX3_timesHome 113 = .ok (.goto 4, 3) := by decide +kernel
theorem dX3_timesHome_116 : decode cX3_timesHome 116 = .ok (.iconst 0, 1) := by decide +kernel
theorem dX3_timesHome_117 : decode cX3_timesHome 117 = .ok (.istore 6, 2) := by decide +kernel
theorem dX3_timesHome_119 : decode cX3_timesHome 119 = .ok (.iinc 7 1, 3) := by decide +kernel
theorem dX3_timesHome_122 : decode cX3_timesHome 122 = .ok (.goto (-102), 3) := by decide +kernel
theorem dX3_timesHome_125 : decode cX3_timesHome 125 = .ok (.iload 6, 2) := by decide +kernel
theorem dX3_timesHome_127 : decode cX3_timesHome 127 = .ok (.ifCond .eq 6, 3) := by decide +kernel
theorem dX3_timesHome_130 : decode cX3_timesHome 130 = .ok (.iinc 4 1, 3) := by decide +kernel
theorem dX3_timesHome_133 : decode cX3_timesHome 133 = .ok (.iinc 5 1, 3) := by decide +kernel
theorem dX3_timesHome_136 : decode cX3_timesHome 136 = .ok (.goto (-128), 3) := by decide +kernel
theorem dX3_timesHome_139 : decode cX3_timesHome 139 = .ok (.iload 4, 2) := by decide +kernel
theorem dX3_timesHome_141 : decode cX3_timesHome 141 = .ok (.ireturn, 1) := by decide +kernel
theorem dX4_init_0 : decode cX4_init 0 = .ok (.aload_n 0, 1) := by decide +kernel
theorem dX4_init_1 : decode cX4_init 1 = .ok (.invokespecial 1, 3) := by decide +kernel
theorem dX4_init_4 : decode cX4_init 4 = .ok (.aload_n 0, 1) := by decide +kernel
theorem dX4_init_5 : decode cX4_init 5 = .ok (.new 7, 3) := by decide +kernel
theorem dX4_init_8 : decode cX4_init 8 = .ok (.dup, 1) := by decide +kernel
theorem dX4_init_9 : decode cX4_init 9 = .ok (.invokespecial 9, 3) := by decide +kernel
theorem dX4_init_12 : decode cX4_init 12 = .ok (.putfield 10, 3) := by decide +kernel
theorem dX4_init_15 : decode cX4_init 15 = .ok (.aload_n 0, 1) := by decide +kernel
theorem dX4_init_16 : decode cX4_init 16 = .ok (.aload_n 0, 1) := by decide +kernel
theorem dX4_init_17 : decode cX4_init 17 = .ok (.getfield 10, 3) := by decide +kernel
theorem dX4_init_20 : decode cX4_init 20 = .ok (.getfield 16, 3) := by decide +kernel
theorem dX4_init_23 : decode cX4_init 23 = .ok (.putfield 20, 3) := by decide +kernel
theorem dX4_init_26 : decode cX4_init 26 = .ok (.aload_n 0, 1) := by decide +kernel
theorem dX4_init_27 : decode cX4_init 27 = .ok (.aload_n 0, 1) := by decide +kernel
theorem dX4_init_28 : decode cX4_init 28 = .ok (.getfield 10, 3) := by decide +kernel
theorem dX4_init_31 : decode cX4_init 31 = .ok (.getfield 23, 3) := by decide +kernel
theorem dX4_init_34 : decode cX4_init 34 = .ok (.putfield 27, 3) := by decide +kernel
theorem dX4_init_37 : decode cX4_init 37 = .ok (.aload_n 0, 1) := by decide +kernel
theorem dX4_init_38 : decode cX4_init 38 = .ok (.new 28, 3) := by decide +kernel
theorem dX4_init_41 : decode cX4_init 41 = .ok (.dup, 1) := by decide +kernel
theorem dX4_init_42 : decode cX4_init 42 = .ok (.invokespecial 30, 3) := by decide +kernel
theorem dX4_init_45 : decode cX4_init 45 = .ok (.putfield 31, 3) := by decide +kernel
theorem dX4_init_48 : decode cX4_init 48 = .ok (.aload_n 0, 1) := by decide +kernel
theorem dX4_init_49 : decode cX4_init 49 = .ok (.new 28, 3) := by decide +kernel
theorem dX4_init_52 : decode cX4_init 52 = .ok (.dup, 1) := by decide +kernel
theorem dX4_init_53 : decode cX4_init 53 = .ok (.invokespecial 30, 3) := by decide +kernel
theorem dX4_init_56 : decode cX4_init 56 = .ok (.putfield 34, 3) := by decide +kernel
theorem dX4_init_59 : decode cX4_init 59 = .ok (.aload_n 0, 1) := by decide +kernel
theorem dX4_init_60 : decode cX4_init 60 = .ok (.new 37, 3) := by decide +kernel
theorem dX4_init_63 : decode cX4_init 63 = .ok (.dup, 1) := by decide +kernel
theorem dX4_init_64 : decode cX4_init 64 = .ok (.invokespecial 39, 3) := by decide +kernel
theorem dX4_init_67 : decode cX4_init 67 = .ok (.putfield 40, 3) := by decide +kernel
theorem dX4_init_70 : decode cX4_init 70 = .ok (.aload_n 0, 1) := by decide +kernel
theorem dX4_init_71 : decode cX4_init 71 = .ok (.bipush 10, 2) := by decide +kernel
theorem dX4_init_73 : decode cX4_init 73 = .ok (.newarray .int, 2) := by decide +kernel
theorem dX4_init_75 : decode cX4_init 75 = .ok (.putfield 44, 3) := by decide +kernel
theorem dX4_init_78 : decode cX4_init 78 = .ok (.aload_n 0, 1) := by decide +kernel
theorem dX4_init_79 : decode cX4_init 79 = .ok (.iconst 5, 1) := by decide +kernel
theorem dX4_init_80 : decode cX4_init 80 = .ok (.newarray .int, 2) := by decide +kernel
theorem dX4_init_82 : decode cX4_init 82 = .ok (.putfield 48, 3) := by decide +kernel
theorem dX4_init_85 : decode cX4_init 85 = .ok (.aload_n 0, 1) := by decide +kernel
theorem dX4_init_86 : decode cX4_init 86 = .ok (.iconst 5, 1) := by decide +kernel
theorem dX4_init_87 : decode cX4_init 87 = .ok (.newarray .int, 2) := by decide +kernel
theorem dX4_init_89 : decode cX4_init 89 = .ok (.putfield 51, 3) := by decide +kernel
theorem dX4_init_92 : decode cX4_init 92 = .ok (.aload_n 0, 1) := by decide +kernel
theorem dX4_init_93 : decode cX4_init 93 = .ok (.bipush 7, 2) := by decide +kernel
theorem dX4_init_95 : decode cX4_init 95 = .ok (.newarray .int, 2) := by decide +kernel
theorem dX4_init_97 : decode cX4_init 97 = .ok (.putfield 54, 3) := by decide +kernel
theorem dX4_init_100 : decode cX4_init 100 = .ok (.aload_n 0, 1) := by decide +kernel
theorem dX4_init_101 : decode cX4_init 101 = .ok (.iconst 0, 1) := by decide +kernel
theorem dX4_init_102 : decode cX4_init 102 = .ok (.putfield 57, 3) := by decide +kernel
theorem dX4_init_105 : decode cX4_init 105 = .ok (.aload_n 0, 1) := by decide +kernel
theorem dX4_init_106 : decode cX4_init 106 = .ok (.iconst 0, 1) := by decide +kernel
theorem dX4_init_107 : decode cX4_init 107 = .ok (.putfield 61, 3) := by decide +kernel
theorem dX4_init_110 : decode cX4_init 110 = .ok (.return_, 1) := by decide +kernel
theorem dX4_letter_0 : decode cX4_letter 0 = .ok (.iload_n 1, 1) := by decide +kernel
theorem dX4_letter_1 : decode cX4_letter 1 = .ok (.ifCond .ge 10, 3) := by decide +kernel
theorem dX4_letter_4 : decode cX4_letter 4 = .ok (.aload_n 0, 1) := by decide +kernel
theorem dX4_letter_5 : decode cX4_letter 5 = .ok (.bipush (-4), 2) := by decide +kernel
theorem dX4_letter_7 : decode cX4_letter 7 = .ok (.invokevirtual 65, 3) := by decide +kernel
theorem dX4_letter_10 : decode cX4_letter 10 = .ok (.ireturn, 1) := by decide +kernel
theorem dX4_letter_11 : decode cX4_letter 11 = .ok (.iload_n 1, 1) := by decide +kernel
theorem dX4_letter_12 : decode cX4_letter 12 = .ok (.sipush 255, 3) := by decide +kernel
theorem dX4_letter_15 : decode cX4_letter 15 = .ok (.if_icmp .gt 15, 3) := by decide +kernel
theorem dX4_letter_18 : decode cX4_letter 18 = .ok (.aload_n 0, 1) := by decide +kernel
theorem dX4_letter_19 : decode cX4_letter 19 = .ok (.getfield 40, 3) := by decide +kernel
theorem dX4_letter_22 : decode cX4_letter 22 = .ok (.getfield 69, 3) := by decide +kernel
theorem dX4_letter_25 : decode cX4_letter 25 = .ok (.bipush 96, 2) := by decide +kernel
theorem dX4_letter_27 : decode cX4_letter 27 = .ok (.if_icmp .lt 10, 3) := by decide +kernel
theorem dX4_letter_30 : decode cX4_letter 30 = .ok (.aload_n 0, 1) := by decide +kernel
theorem dX4_letter_31 : decode cX4_letter 31 = .ok (.bipush (-6), 2) := by decide +kernel
theorem dX4_letter_33 : decode cX4_letter 33 = .ok (.invokevirtual 65, 3) := by decide +kernel
theorem dX4_letter_36 : decode cX4_letter 36 = .ok (.ireturn, 1) := by decide +kernel
theorem dX4_letter_37 : decode cX4_letter 37 = .ok (.aload_n 0, 1) := by decide +kernel
theorem dX4_letter_38 : decode cX4_letter 38 = .ok (.getfield 40, 3) := by decide +kernel
theorem dX4_letter_41 : decode cX4_letter 41 = .ok (.iload_n 1, 1) := by decide +kernel
theorem dX4_letter_42 : decode cX4_letter 42 = .ok (.invokevirtual 72, 3) := by decide +kernel
theorem dX4_letter_45 : decode cX4_letter 45 = .ok (.ireturn, 1) := by decide +kernel
theorem dX4_town_0 : decode cX4_town 0 = .ok (.aload_n 0, 1) := by decide +kernel
theorem dX4_town_1 : decode cX4_town 1 = .ok (.invokevirtual 75, 3) := by decide +kernel
theorem dX4_town_4 : decode cX4_town 4 = .ok (.istore_n 1, 1) := by decide +kernel
theorem dX4_town_5 : decode cX4_town 5 = .ok (.aload_n 0, 1) := by decide +kernel
theorem dX4_town_6 : decode cX4_town 6 = .ok (.getfield 40, 3) := by decide +kernel
theorem dX4_town_9 : decode cX4_town 9 = .ok (.iconst 0, 1) := by decide +kernel
theorem dX4_town_10 : decode cX4_town 10 = .ok (.putfield 69, 3) := by decide +kernel
theorem dX4_town_13 : decode cX4_town 13 = .ok (.iload_n 1, 1) := by decide +kernel
theorem dX4_town_14 : decode cX4_town 14 = .ok (.ireturn, 1) := by decide +kernel
theorem dX4_place_0 : decode cX4_place 0 = .ok (.aload_n 0, 1) := by decide +kernel
theorem dX4_place_1 : decode cX4_place 1 = .ok (.iload_n 1, 1) := by decide +kernel
theorem dX4_place_2 : decode cX4_place 2 = .ok (.invokevirtual 79, 3) := by decide +kernel
theorem dX4_place_5 : decode cX4_place 5 = .ok (.ifCond .ne 9, 3) := by decide +kernel
theorem dX4_place_8 : decode cX4_place 8 = .ok (.aload_n 0, 1) := by decide +kernel
theorem dX4_place_9 : decode cX4_place 9 = .ok (.iconst (-1), 1) := by decide +kernel
theorem dX4_place_10 : decode cX4_place 10 = .ok (.invokevirtual 65, 3) := by decide +kernel
theorem dX4_place_13 : decode cX4_place 13 = .ok (.ireturn, 1) := by decide +kernel
theorem dX4_place_14 : decode cX4_place 14 = .ok (.iload_n 2, 1) := by decide +kernel
theorem dX4_place_15 : decode cX4_place 15 = .ok (.tableswitch 81 0 4 #[33, 43, 53, 63, 72], 33) := by decide +kernel
theorem dX4_place_48 : decode cX4_place 48 = .ok (.aload_n 0, 1) := by decide +kernel
theorem dX4_place_49 : decode cX4_place 49 = .ok (.getfield 20, 3) := by decide +kernel
theorem dX4_place_52 : decode cX4_place 52 = .ok (.getfield 83, 3) := by decide +kernel
theorem dX4_place_55 : decode cX4_place 55 = .ok (.iload_n 1, 1) := by decide +kernel
theorem dX4_place_56 : decode cX4_place 56 = .ok (.iaload, 1) := by decide +kernel
theorem dX4_place_57 : decode cX4_place 57 = .ok (.ireturn, 1) := by decide +kernel
theorem dX4_place_58 : decode cX4_place 58 = .ok (.aload_n 0, 1) := by decide +kernel
theorem dX4_place_59 : decode cX4_place 59 = .ok (.getfield 20, 3) := by decide +kernel
theorem dX4_place_62 : decode cX4_place 62 = .ok (.getfield 86, 3) := by decide +kernel
theorem dX4_place_65 : decode cX4_place 65 = .ok (.iload_n 1, 1) := by decide +kernel
theorem dX4_place_66 : decode cX4_place 66 = .ok (.iaload, 1) := by decide +kernel
theorem dX4_place_67 : decode cX4_place 67 = .ok (.ireturn, 1) := by decide +kernel
theorem dX4_place_68 : decode cX4_place 68 = .ok (.aload_n 0, 1) := by decide +kernel
theorem dX4_place_69 : decode cX4_place 69 = .ok (.getfield 20, 3) := by decide +kernel
theorem dX4_place_72 : decode cX4_place 72 = .ok (.getfield 89, 3) := by decide +kernel
theorem dX4_place_75 : decode cX4_place 75 = .ok (.iload_n 1, 1) := by decide +kernel
theorem dX4_place_76 : decode cX4_place 76 = .ok (.iaload, 1) := by decide +kernel
theorem dX4_place_77 : decode cX4_place 77 = .ok (.ireturn, 1) := by decide +kernel
theorem dX4_place_78 : decode cX4_place 78 = .ok (.aload_n 0, 1) := by decide +kernel
theorem dX4_place_79 : decode cX4_place 79 = .ok (.getfield 20, 3) := by decide +kernel
theorem dX4_place_82 : decode cX4_place 82 = .ok (.iload_n 1, 1) := by decide +kernel
theorem dX4_place_83 : decode cX4_place 83 = .ok (.invokevirtual 92, 3) := by decide +kernel
theorem dX4_place_86 : decode cX4_place 86 = .ok (.ireturn, 1) := by decide +kernel
theorem dX4_place_87 : decode cX4_place 87 = .ok (.aload_n 0, 1) := by decide +kernel
theorem dX4_place_88 : decode cX4_place 88 = .ok (.getfield 20, 3) := by decide +kernel
theorem dX4_place_91 : decode cX4_place 91 = .ok (.iload_n 1, 1) := by decide +kernel
theorem dX4_place_92 : decode cX4_place 92 = .ok (.invokevirtual 95, 3) := by decide +kernel
theorem dX4_place_95 : decode cX4_place 95 = .ok (.ireturn, 1) := by decide +kernel
theorem dX4_place_96 : decode cX4_place 96 = .ok (.aload_n 0, 1) := by decide +kernel
theorem dX4_place_97 : decode cX4_place 97 = .ok (.bipush (-2), 2) := by decide +kernel
theorem dX4_place_99 : decode cX4_place 99 = .ok (.invokevirtual 65, 3) := by decide +kernel
theorem dX4_place_102 : decode cX4_place 102 = .ok (.ireturn, 1) := by decide +kernel
theorem dX4_slope_0 : decode cX4_slope 0 = .ok (.aload_n 0, 1) := by decide +kernel
theorem dX4_slope_1 : decode cX4_slope 1 = .ok (.iload_n 1, 1) := by decide +kernel
theorem dX4_slope_2 : decode cX4_slope 2 = .ok (.invokevirtual 79, 3) := by decide +kernel
theorem dX4_slope_5 : decode cX4_slope 5 = .ok (.ifCond .ne 9, 3) := by decide +kernel
theorem dX4_slope_8 : decode cX4_slope 8 = .ok (.aload_n 0, 1) := by decide +kernel
theorem dX4_slope_9 : decode cX4_slope 9 = .ok (.iconst (-1), 1) := by decide +kernel
theorem dX4_slope_10 : decode cX4_slope 10 = .ok (.invokevirtual 65, 3) := by decide +kernel
theorem dX4_slope_13 : decode cX4_slope 13 = .ok (.ireturn, 1) := by decide +kernel
theorem dX4_slope_14 : decode cX4_slope 14 = .ok (.iload_n 2, 1) := by decide +kernel
theorem dX4_slope_15 : decode cX4_slope 15 = .ok (.ifCond .ge 10, 3) := by decide +kernel
theorem dX4_slope_18 : decode cX4_slope 18 = .ok (.aload_n 0, 1) := by decide +kernel
theorem dX4_slope_19 : decode cX4_slope 19 = .ok (.bipush (-4), 2) := by decide +kernel
theorem dX4_slope_21 : decode cX4_slope 21 = .ok (.invokevirtual 65, 3) := by decide +kernel
theorem dX4_slope_24 : decode cX4_slope 24 = .ok (.ireturn, 1) := by decide +kernel
theorem dX4_slope_25 : decode cX4_slope 25 = .ok (.iload_n 2, 1) := by decide +kernel
theorem dX4_slope_26 : decode cX4_slope 26 = .ok (.bipush 9, 2) := by decide +kernel
theorem dX4_slope_28 : decode cX4_slope 28 = .ok (.if_icmp .le 10, 3) := by decide +kernel
theorem dX4_slope_31 : decode cX4_slope 31 = .ok (.aload_n 0, 1) := by decide +kernel
theorem dX4_slope_32 : decode cX4_slope 32 = .ok (.bipush (-6), 2) := by decide +kernel
theorem dX4_slope_34 : decode cX4_slope 34 = .ok (.invokevirtual 65, 3) := by decide +kernel
theorem dX4_slope_37 : decode cX4_slope 37 = .ok (.ireturn, 1) := by decide +kernel
theorem dX4_slope_38 : decode cX4_slope 38 = .ok (.aload_n 0, 1) := by decide +kernel
theorem dX4_slope_39 : decode cX4_slope 39 = .ok (.getfield 20, 3) := by decide +kernel
theorem dX4_slope_42 : decode cX4_slope 42 = .ok (.getfield 86, 3) := by decide +kernel
theorem dX4_slope_45 : decode cX4_slope 45 = .ok (.iload_n 1, 1) := by decide +kernel
theorem dX4_slope_46 : decode cX4_slope 46 = .ok (.iaload, 1) := by decide +kernel
theorem dX4_slope_47 : decode cX4_slope 47 = .ok (.istore_n 3, 1) := by decide +kernel
theorem dX4_slope_48 : decode cX4_slope 48 = .ok (.aload_n 0, 1) := by decide +kernel
theorem dX4_slope_49 : decode cX4_slope 49 = .ok (.getfield 20, 3) := by decide +kernel
theorem dX4_slope_52 : decode cX4_slope 52 = .ok (.getfield 86, 3) := by decide +kernel
theorem dX4_slope_55 : decode cX4_slope 55 = .ok (.iload_n 1, 1) := by decide +kernel
theorem dX4_slope_56 : decode cX4_slope 56 = .ok (.iload_n 2, 1) := by decide +kernel
theorem dX4_slope_57 : decode cX4_slope 57 = .ok (.iastore, 1) := by decide +kernel
theorem dX4_slope_58 : decode cX4_slope 58 = .ok (.iload_n 3, 1) := by decide +kernel
theorem dX4_slope_59 : decode cX4_slope 59 = .ok (.ireturn, 1) := by decide +kernel
theorem dX4_errand_0 : decode cX4_errand 0 = .ok (.iload_n 1, 1) := by decide +kernel
theorem dX4_errand_1 : decode cX4_errand 1 = .ok (.ifCond .lt 14, 3) := by decide +kernel
theorem dX4_errand_4 : decode cX4_errand 4 = .ok (.iload_n 1, 1) := by decide +kernel
theorem dX4_errand_5 : decode cX4_errand 5 = .ok (.aload_n 0, 1) := by decide +kernel
theorem dX4_errand_6 : decode cX4_errand 6 = .ok (.getfield 20, 3) := by decide +kernel
theorem dX4_errand_9 : decode cX4_errand 9 = .ok (.getfield 98, 3) := by decide +kernel
theorem dX4_errand_12 : decode cX4_errand 12 = .ok (.if_icmp .lt 9, 3) := by decide +kernel
theorem dX4_errand_15 : decode cX4_errand 15 = .ok (.aload_n 0, 1) := by decide +kernel
theorem dX4_errand_16 : decode cX4_errand 16 = .ok (.iconst (-1), 1) := by decide +kernel
theorem dX4_errand_17 : decode cX4_errand 17 = .ok (.invokevirtual 65, 3) := by decide +kernel
theorem dX4_errand_20 : decode cX4_errand 20 = .ok (.ireturn, 1) := by decide +kernel
theorem dX4_errand_21 : decode cX4_errand 21 = .ok (.iload_n 2, 1) := by decide +kernel
theorem dX4_errand_22 : decode cX4_errand 22 = .ok (.tableswitch 70 0 3 #[30, 40, 50, 60], 30) := by decide +kernel
theorem dX4_errand_52 : decode cX4_errand 52 = .ok (.aload_n 0, 1) := by decide +kernel
theorem dX4_errand_53 : decode cX4_errand 53 = .ok (.getfield 20, 3) := by decide +kernel
theorem dX4_errand_56 : decode cX4_errand 56 = .ok (.getfield 101, 3) := by decide +kernel
theorem dX4_errand_59 : decode cX4_errand 59 = .ok (.iload_n 1, 1) := by decide +kernel
theorem dX4_errand_60 : decode cX4_errand 60 = .ok (.iaload, 1) := by decide +kernel
theorem dX4_errand_61 : decode cX4_errand 61 = .ok (.ireturn, 1) := by decide +kernel
theorem dX4_errand_62 : decode cX4_errand 62 = .ok (.aload_n 0, 1) := by decide +kernel
theorem dX4_errand_63 : decode cX4_errand 63 = .ok (.getfield 20, 3) := by decide +kernel
theorem dX4_errand_66 : decode cX4_errand 66 = .ok (.getfield 104, 3) := by decide +kernel
theorem dX4_errand_69 : decode cX4_errand 69 = .ok (.iload_n 1, 1) := by decide +kernel
theorem dX4_errand_70 : decode cX4_errand 70 = .ok (.iaload, 1) := by decide +kernel
theorem dX4_errand_71 : decode cX4_errand 71 = .ok (.ireturn, 1) := by decide +kernel
theorem dX4_errand_72 : decode cX4_errand 72 = .ok (.aload_n 0, 1) := by decide +kernel
theorem dX4_errand_73 : decode cX4_errand 73 = .ok (.getfield 20, 3) := by decide +kernel
theorem dX4_errand_76 : decode cX4_errand 76 = .ok (.getfield 107, 3) := by decide +kernel
theorem dX4_errand_79 : decode cX4_errand 79 = .ok (.iload_n 1, 1) := by decide +kernel
theorem dX4_errand_80 : decode cX4_errand 80 = .ok (.iaload, 1) := by decide +kernel
theorem dX4_errand_81 : decode cX4_errand 81 = .ok (.ireturn, 1) := by decide +kernel
theorem dX4_errand_82 : decode cX4_errand 82 = .ok (.aload_n 0, 1) := by decide +kernel
theorem dX4_errand_83 : decode cX4_errand 83 = .ok (.getfield 20, 3) := by decide +kernel
theorem dX4_errand_86 : decode cX4_errand 86 = .ok (.getfield 110, 3) := by decide +kernel
theorem dX4_errand_89 : decode cX4_errand 89 = .ok (.iload_n 1, 1) := by decide +kernel
theorem dX4_errand_90 : decode cX4_errand 90 = .ok (.iaload, 1) := by decide +kernel
theorem dX4_errand_91 : decode cX4_errand 91 = .ok (.ireturn, 1) := by decide +kernel
theorem dX4_errand_92 : decode cX4_errand 92 = .ok (.aload_n 0, 1) := by decide +kernel
theorem dX4_errand_93 : decode cX4_errand 93 = .ok (.bipush (-2), 2) := by decide +kernel
theorem dX4_errand_95 : decode cX4_errand 95 = .ok (.invokevirtual 65, 3) := by decide +kernel
theorem dX4_errand_98 : decode cX4_errand 98 = .ok (.ireturn, 1) := by decide +kernel
theorem dX4_set_0 : decode cX4_set 0 = .ok (.iload_n 1, 1) := by decide +kernel
theorem dX4_set_1 : decode cX4_set 1 = .ok (.ifCond .lt 8, 3) := by decide +kernel
theorem dX4_set_4 : decode cX4_set 4 = .ok (.iload_n 1, 1) := by decide +kernel
theorem dX4_set_5 : decode cX4_set 5 = .ok (.iconst 2, 1) := by decide +kernel
theorem dX4_set_6 : decode cX4_set 6 = .ok (.if_icmp .le 10, 3) := by decide +kernel
theorem dX4_set_9 : decode cX4_set 9 = .ok (.aload_n 0, 1) := by decide +kernel
theorem dX4_set_10 : decode cX4_set 10 = .ok (.bipush (-2), 2) := by decide +kernel
theorem dX4_set_12 : decode cX4_set 12 = .ok (.invokevirtual 65, 3) := by decide +kernel
theorem dX4_set_15 : decode cX4_set 15 = .ok (.ireturn, 1) := by decide +kernel
theorem dX4_set_16 : decode cX4_set 16 = .ok (.iload_n 2, 1) := by decide +kernel
theorem dX4_set_17 : decode cX4_set 17 = .ok (.ifCond .ge 10, 3) := by decide +kernel
theorem dX4_set_20 : decode cX4_set 20 = .ok (.aload_n 0, 1) := by decide +kernel
theorem dX4_set_21 : decode cX4_set 21 = .ok (.bipush (-4), 2) := by decide +kernel
theorem dX4_set_23 : decode cX4_set 23 = .ok (.invokevirtual 65, 3) := by decide +kernel
theorem dX4_set_26 : decode cX4_set 26 = .ok (.ireturn, 1) := by decide +kernel
theorem dX4_set_27 : decode cX4_set 27 = .ok (.iload_n 2, 1) := by decide +kernel
theorem dX4_set_28 : decode cX4_set 28 = .ok (.iload_n 1, 1) := by decide +kernel
theorem dX4_set_29 : decode cX4_set 29 = .ok (.invokestatic 113, 3) := by decide +kernel
theorem dX4_set_32 : decode cX4_set 32 = .ok (.if_icmp .le 10, 3) := by decide +kernel
theorem dX4_set_35 : decode cX4_set 35 = .ok (.aload_n 0, 1) := by decide +kernel
theorem dX4_set_36 : decode cX4_set 36 = .ok (.bipush (-6), 2) := by decide +kernel
theorem dX4_set_38 : decode cX4_set 38 = .ok (.invokevirtual 65, 3) := by decide +kernel
theorem dX4_set_41 : decode cX4_set 41 = .ok (.ireturn, 1) := by decide +kernel
theorem dX4_set_42 : decode cX4_set 42 = .ok (.aload_n 0, 1) := by decide +kernel
theorem dX4_set_43 : decode cX4_set 43 = .ok (.iload_n 1, 1) := by decide +kernel
theorem dX4_set_44 : decode cX4_set 44 = .ok (.invokevirtual 116, 3) := by decide +kernel
theorem dX4_set_47 : decode cX4_set 47 = .ok (.istore_n 3, 1) := by decide +kernel
theorem dX4_set_48 : decode cX4_set 48 = .ok (.iload_n 1, 1) := by decide +kernel
theorem dX4_set_49 : decode cX4_set 49 = .ok (.ifCond .ne 14, 3) := by decide +kernel
theorem dX4_set_52 : decode cX4_set 52 = .ok (.aload_n 0, 1) := by decide +kernel
theorem dX4_set_53 : decode cX4_set 53 = .ok (.getfield 20, 3) := by decide +kernel
theorem dX4_set_56 : decode cX4_set 56 = .ok (.iload_n 2, 1) := by decide +kernel
theorem dX4_set_57 : decode cX4_set 57 = .ok (.putfield 119, 3) := by decide +kernel
theorem dX4_set_60 : decode cX4_set 60 = .ok (.goto 27, 3) := by decide +kernel
theorem dX4_set_63 : decode cX4_set 63 = .ok (.iload_n 1, 1) := by decide +kernel
theorem dX4_set_64 : decode cX4_set 64 = .ok (.iconst 1, 1) := by decide +kernel
theorem dX4_set_65 : decode cX4_set 65 = .ok (.if_icmp .ne 14, 3) := by decide +kernel
theorem dX4_set_68 : decode cX4_set 68 = .ok (.aload_n 0, 1) := by decide +kernel
theorem dX4_set_69 : decode cX4_set 69 = .ok (.getfield 20, 3) := by decide +kernel
theorem dX4_set_72 : decode cX4_set 72 = .ok (.iload_n 2, 1) := by decide +kernel
theorem dX4_set_73 : decode cX4_set 73 = .ok (.putfield 122, 3) := by decide +kernel
theorem dX4_set_76 : decode cX4_set 76 = .ok (.goto 11, 3) := by decide +kernel
theorem dX4_set_79 : decode cX4_set 79 = .ok (.aload_n 0, 1) := by decide +kernel
theorem dX4_set_80 : decode cX4_set 80 = .ok (.getfield 20, 3) := by decide +kernel
theorem dX4_set_83 : decode cX4_set 83 = .ok (.iload_n 2, 1) := by decide +kernel
theorem dX4_set_84 : decode cX4_set 84 = .ok (.putfield 125, 3) := by decide +kernel
theorem dX4_set_87 : decode cX4_set 87 = .ok (.iload_n 3, 1) := by decide +kernel
theorem dX4_set_88 : decode cX4_set 88 = .ok (.ireturn, 1) := by decide +kernel
theorem dX4_leg_0 : decode cX4_leg 0 = .ok (.aload_n 0, 1) := by decide +kernel
theorem dX4_leg_1 : decode cX4_leg 1 = .ok (.iload_n 1, 1) := by decide +kernel
theorem dX4_leg_2 : decode cX4_leg 2 = .ok (.iload_n 2, 1) := by decide +kernel
theorem dX4_leg_3 : decode cX4_leg 3 = .ok (.iload_n 3, 1) := by decide +kernel
theorem dX4_leg_4 : decode cX4_leg 4 = .ok (.iconst 0, 1) := by decide +kernel
theorem dX4_leg_5 : decode cX4_leg 5 = .ok (.invokevirtual 128, 3) := by decide +kernel
theorem dX4_leg_8 : decode cX4_leg 8 = .ok (.ireturn, 1) := by decide +kernel
theorem dX4_safe_0 : decode cX4_safe 0 = .ok (.aload_n 0, 1) := by decide +kernel
theorem dX4_safe_1 : decode cX4_safe 1 = .ok (.iload_n 1, 1) := by decide +kernel
theorem dX4_safe_2 : decode cX4_safe 2 = .ok (.iload_n 2, 1) := by decide +kernel
theorem dX4_safe_3 : decode cX4_safe 3 = .ok (.iload_n 3, 1) := by decide +kernel
theorem dX4_safe_4 : decode cX4_safe 4 = .ok (.iconst 1, 1) := by decide +kernel
theorem dX4_safe_5 : decode cX4_safe 5 = .ok (.invokevirtual 128, 3) := by decide +kernel
theorem dX4_safe_8 : decode cX4_safe 8 = .ok (.ireturn, 1) := by decide +kernel
theorem dX4_day_0 : decode cX4_day 0 = .ok (.iload_n 1, 1) := by decide +kernel
theorem dX4_day_1 : decode cX4_day 1 = .ok (.ifCond .lt 8, 3) := by decide +kernel
theorem dX4_day_4 : decode cX4_day 4 = .ok (.iload_n 1, 1) := by decide +kernel
theorem dX4_day_5 : decode cX4_day 5 = .ok (.iconst 2, 1) := by decide +kernel
theorem dX4_day_6 : decode cX4_day 6 = .ok (.if_icmp .le 10, 3) := by decide +kernel
theorem dX4_day_9 : decode cX4_day 9 = .ok (.aload_n 0, 1) := by decide +kernel
theorem dX4_day_10 : decode cX4_day 10 = .ok (.bipush (-2), 2) := by decide +kernel
theorem dX4_day_12 : decode cX4_day 12 = .ok (.invokevirtual 65, 3) := by decide +kernel
theorem dX4_day_15 : decode cX4_day 15 = .ok (.ireturn, 1) := by decide +kernel
theorem dX4_day_16 : decode cX4_day 16 = .ok (.aload_n 0, 1) := by decide +kernel
theorem dX4_day_17 : decode cX4_day 17 = .ok (.getfield 20, 3) := by decide +kernel
theorem dX4_day_20 : decode cX4_day 20 = .ok (.getfield 132, 3) := by decide +kernel
theorem dX4_day_23 : decode cX4_day 23 = .ok (.ifCond .ne 10, 3) := by decide +kernel
theorem dX4_day_26 : decode cX4_day 26 = .ok (.aload_n 0, 1) := by decide +kernel
theorem dX4_day_27 : decode cX4_day 27 = .ok (.bipush (-3), 2) := by decide +kernel
theorem dX4_day_29 : decode cX4_day 29 = .ok (.invokevirtual 65, 3) := by decide +kernel
theorem dX4_day_32 : decode cX4_day 32 = .ok (.ireturn, 1) := by decide +kernel
theorem dX4_day_33 : decode cX4_day 33 = .ok (.aload_n 0, 1) := by decide +kernel
theorem dX4_day_34 : decode cX4_day 34 = .ok (.invokevirtual 135, 3) := by decide +kernel
theorem dX4_day_37 : decode cX4_day 37 = .ok (.iload_n 1, 1) := by decide +kernel
theorem dX4_day_38 : decode cX4_day 38 = .ok (.ifCond .ne 11, 3) := by decide +kernel
theorem dX4_day_41 : decode cX4_day 41 = .ok (.aload_n 0, 1) := by decide +kernel
theorem dX4_day_42 : decode cX4_day 42 = .ok (.getfield 10, 3) := by decide +kernel
theorem dX4_day_45 : decode cX4_day 45 = .ok (.getfield 138, 3) := by decide +kernel
theorem dX4_day_48 : decode cX4_day 48 = .ok (.ireturn, 1) := by decide +kernel
theorem dX4_day_49 : decode cX4_day 49 = .ok (.iload_n 1, 1) := by decide +kernel
theorem dX4_day_50 : decode cX4_day 50 = .ok (.iconst 1, 1) := by decide +kernel
theorem dX4_day_51 : decode cX4_day 51 = .ok (.if_icmp .ne 13, 3) := by decide +kernel
theorem dX4_day_54 : decode cX4_day 54 = .ok (.aload_n 0, 1) := by decide +kernel
theorem dX4_day_55 : decode cX4_day 55 = .ok (.getfield 10, 3) := by decide +kernel
theorem dX4_day_58 : decode cX4_day 58 = .ok (.getfield 141, 3) := by decide +kernel
theorem dX4_day_61 : decode cX4_day 61 = .ok (.goto 10, 3) := by decide +kernel
theorem dX4_day_64 : decode cX4_day 64 = .ok (.aload_n 0, 1) := by decide +kernel
theorem dX4_day_65 : decode cX4_day 65 = .ok (.getfield 10, 3) := by decide +kernel
theorem dX4_day_68 : decode cX4_day 68 = .ok (.getfield 144, 3) := by decide +kernel
theorem dX4_day_71 : decode cX4_day 71 = .ok (.ireturn, 1) := by decide +kernel
theorem dX4_likely_0 : decode cX4_likely 0 = .ok (.aload_n 0, 1) := by decide +kernel
theorem dX4_likely_1 : decode cX4_likely 1 = .ok (.iload_n 1, 1) := by decide +kernel
theorem dX4_likely_2 : decode cX4_likely 2 = .ok (.invokevirtual 147, 3) := by decide +kernel
theorem dX4_likely_5 : decode cX4_likely 5 = .ok (.istore_n 2, 1) := by decide +kernel
theorem dX4_likely_6 : decode cX4_likely 6 = .ok (.iload_n 2, 1) := by decide +kernel
theorem dX4_likely_7 : decode cX4_likely 7 = .ok (.ifCond .ge 9, 3) := by decide +kernel
theorem dX4_likely_10 : decode cX4_likely 10 = .ok (.aload_n 0, 1) := by decide +kernel
theorem dX4_likely_11 : decode cX4_likely 11 = .ok (.iload_n 2, 1) := by decide +kernel
theorem dX4_likely_12 : decode cX4_likely 12 = .ok (.invokevirtual 150, 3) := by decide +kernel
theorem dX4_likely_15 : decode cX4_likely 15 = .ok (.lreturn, 1) := by decide +kernel
theorem dX4_likely_16 : decode cX4_likely 16 = .ok (.aload_n 0, 1) := by decide +kernel
theorem dX4_likely_17 : decode cX4_likely 17 = .ok (.invokevirtual 135, 3) := by decide +kernel
theorem dX4_likely_20 : decode cX4_likely 20 = .ok (.aload_n 0, 1) := by decide +kernel
theorem dX4_likely_21 : decode cX4_likely 21 = .ok (.getfield 10, 3) := by decide +kernel
theorem dX4_likely_24 : decode cX4_likely 24 = .ok (.getfield 154, 3) := by decide +kernel
theorem dX4_likely_27 : decode cX4_likely 27 = .ok (.iload_n 1, 1) := by decide +kernel
theorem dX4_likely_28 : decode cX4_likely 28 = .ok (.invokestatic 158, 3) := by decide +kernel
theorem dX4_likely_31 : decode cX4_likely 31 = .ok (.lreturn, 1) := by decide +kernel
theorem dX4_worth_0 : decode cX4_worth 0 = .ok (.aload_n 0, 1) := by decide +kernel
theorem dX4_worth_1 : decode cX4_worth 1 = .ok (.iload_n 1, 1) := by decide +kernel
theorem dX4_worth_2 : decode cX4_worth 2 = .ok (.invokevirtual 147, 3) := by decide +kernel
theorem dX4_worth_5 : decode cX4_worth 5 = .ok (.istore_n 2, 1) := by decide +kernel
theorem dX4_worth_6 : decode cX4_worth 6 = .ok (.iload_n 2, 1) := by decide +kernel
theorem dX4_worth_7 : decode cX4_worth 7 = .ok (.ifCond .ge 9, 3) := by decide +kernel
theorem dX4_worth_10 : decode cX4_worth 10 = .ok (.aload_n 0, 1) := by decide +kernel
theorem dX4_worth_11 : decode cX4_worth 11 = .ok (.iload_n 2, 1) := by decide +kernel
theorem dX4_worth_12 : decode cX4_worth 12 = .ok (.invokevirtual 150, 3) := by decide +kernel
theorem dX4_worth_15 : decode cX4_worth 15 = .ok (.lreturn, 1) := by decide +kernel
theorem dX4_worth_16 : decode cX4_worth 16 = .ok (.aload_n 0, 1) := by decide +kernel
theorem dX4_worth_17 : decode cX4_worth 17 = .ok (.invokevirtual 135, 3) := by decide +kernel
theorem dX4_worth_20 : decode cX4_worth 20 = .ok (.aload_n 0, 1) := by decide +kernel
theorem dX4_worth_21 : decode cX4_worth 21 = .ok (.getfield 10, 3) := by decide +kernel
theorem dX4_worth_24 : decode cX4_worth 24 = .ok (.getfield 162, 3) := by decide +kernel
theorem dX4_worth_27 : decode cX4_worth 27 = .ok (.iload_n 1, 1) := by decide +kernel
theorem dX4_worth_28 : decode cX4_worth 28 = .ok (.invokestatic 158, 3) := by decide +kernel
theorem dX4_worth_31 : decode cX4_worth 31 = .ok (.lreturn, 1) := by decide +kernel
theorem dX4_best_0 : decode cX4_best 0 = .ok (.aload_n 0, 1) := by decide +kernel
theorem dX4_best_1 : decode cX4_best 1 = .ok (.iload_n 1, 1) := by decide +kernel
theorem dX4_best_2 : decode cX4_best 2 = .ok (.invokevirtual 165, 3) := by decide +kernel
theorem dX4_best_5 : decode cX4_best 5 = .ok (.istore_n 3, 1) := by decide +kernel
theorem dX4_best_6 : decode cX4_best 6 = .ok (.iload_n 3, 1) := by decide +kernel
theorem dX4_best_7 : decode cX4_best 7 = .ok (.ifCond .ge 9, 3) := by decide +kernel
theorem dX4_best_10 : decode cX4_best 10 = .ok (.aload_n 0, 1) := by decide +kernel
theorem dX4_best_11 : decode cX4_best 11 = .ok (.iload_n 3, 1) := by decide +kernel
theorem dX4_best_12 : decode cX4_best 12 = .ok (.invokevirtual 65, 3) := by decide +kernel
theorem dX4_best_15 : decode cX4_best 15 = .ok (.ireturn, 1) := by decide +kernel
theorem dX4_best_16 : decode cX4_best 16 = .ok (.iload_n 2, 1) := by decide +kernel
theorem dX4_best_17 : decode cX4_best 17 = .ok (.ifCond .lt 14, 3) := by decide +kernel
theorem dX4_best_20 : decode cX4_best 20 = .ok (.iload_n 2, 1) := by decide +kernel
theorem dX4_best_21 : decode cX4_best 21 = .ok (.aload_n 0, 1) := by decide +kernel
theorem dX4_best_22 : decode cX4_best 22 = .ok (.getfield 20, 3) := by decide +kernel
theorem dX4_best_25 : decode cX4_best 25 = .ok (.getfield 98, 3) := by decide +kernel
theorem dX4_best_28 : decode cX4_best 28 = .ok (.if_icmp .lt 9, 3) := by decide +kernel
theorem dX4_best_31 : decode cX4_best 31 = .ok (.aload_n 0, 1) := by decide +kernel
theorem dX4_best_32 : decode cX4_best 32 = .ok (.iconst (-1), 1) := by decide +kernel
theorem dX4_best_33 : decode cX4_best 33 = .ok (.invokevirtual 65, 3) := by decide +kernel
theorem dX4_best_36 : decode cX4_best 36 = .ok (.ireturn, 1) := by decide +kernel
theorem dX4_best_37 : decode cX4_best 37 = .ok (.aload_n 0, 1) := by decide +kernel
theorem dX4_best_38 : decode cX4_best 38 = .ok (.iload_n 1, 1) := by decide +kernel
theorem dX4_best_39 : decode cX4_best 39 = .ok (.invokevirtual 168, 3) := by decide +kernel
theorem dX4_best_42 : decode cX4_best 42 = .ok (.aload_n 0, 1) := by decide +kernel
theorem dX4_best_43 : decode cX4_best 43 = .ok (.getfield 51, 3) := by decide +kernel
theorem dX4_best_46 : decode cX4_best 46 = .ok (.iload_n 2, 1) := by decide +kernel
theorem dX4_best_47 : decode cX4_best 47 = .ok (.iaload, 1) := by decide +kernel
theorem dX4_best_48 : decode cX4_best 48 = .ok (.ireturn, 1) := by decide +kernel
theorem dX4_bestMinutes_0 : decode cX4_bestMinutes 0 = .ok (.aload_n 0, 1) := by decide +kernel
theorem dX4_bestMinutes_1 : decode cX4_bestMinutes 1 = .ok (.iload_n 1, 1) := by decide +kernel
theorem dX4_bestMinutes_2 : decode cX4_bestMinutes 2 = .ok (.invokevirtual 165, 3) := by decide +kernel
theorem dX4_bestMinutes_5 : decode cX4_bestMinutes 5 = .ok (.istore_n 2, 1) := by decide +kernel
theorem dX4_bestMinutes_6 : decode cX4_bestMinutes 6 = .ok (.iload_n 2, 1) := by decide +kernel
theorem dX4_bestMinutes_7 : decode cX4_bestMinutes 7 = .ok (.ifCond .ge 9, 3) := by decide +kernel
theorem dX4_bestMinutes_10 : decode cX4_bestMinutes 10 = .ok (.aload_n 0, 1) := by decide +kernel
theorem dX4_bestMinutes_11 : decode cX4_bestMinutes 11 = .ok (.iload_n 2, 1) := by decide +kernel
theorem dX4_bestMinutes_12 : decode cX4_bestMinutes 12 = .ok (.invokevirtual 65, 3) := by decide +kernel
theorem dX4_bestMinutes_15 : decode cX4_bestMinutes 15 = .ok (.ireturn, 1) := by decide +kernel
theorem dX4_bestMinutes_16 : decode cX4_bestMinutes 16 = .ok (.aload_n 0, 1) := by decide +kernel
theorem dX4_bestMinutes_17 : decode cX4_bestMinutes 17 = .ok (.iload_n 1, 1) := by decide +kernel
theorem dX4_bestMinutes_18 : decode cX4_bestMinutes 18 = .ok (.invokevirtual 168, 3) := by decide +kernel
theorem dX4_bestMinutes_21 : decode cX4_bestMinutes 21 = .ok (.aload_n 0, 1) := by decide +kernel
theorem dX4_bestMinutes_22 : decode cX4_bestMinutes 22 = .ok (.getfield 10, 3) := by decide +kernel
theorem dX4_bestMinutes_25 : decode cX4_bestMinutes 25 = .ok (.getfield 138, 3) := by decide +kernel
theorem dX4_bestMinutes_28 : decode cX4_bestMinutes 28 = .ok (.ireturn, 1) := by decide +kernel
theorem dX4_bestLikely_0 : decode cX4_bestLikely 0 = .ok (.aload_n 0, 1) := by decide +kernel
theorem dX4_bestLikely_1 : decode cX4_bestLikely 1 = .ok (.iload_n 1, 1) := by decide +kernel
theorem dX4_bestLikely_2 : decode cX4_bestLikely 2 = .ok (.iload_n 2, 1) := by decide +kernel
theorem dX4_bestLikely_3 : decode cX4_bestLikely 3 = .ok (.invokevirtual 172, 3) := by decide +kernel
theorem dX4_bestLikely_6 : decode cX4_bestLikely 6 = .ok (.istore_n 3, 1) := by decide +kernel
theorem dX4_bestLikely_7 : decode cX4_bestLikely 7 = .ok (.iload_n 3, 1) := by decide +kernel
theorem dX4_bestLikely_8 : decode cX4_bestLikely 8 = .ok (.ifCond .ge 9, 3) := by decide +kernel
theorem dX4_bestLikely_11 : decode cX4_bestLikely 11 = .ok (.aload_n 0, 1) := by decide +kernel
theorem dX4_bestLikely_12 : decode cX4_bestLikely 12 = .ok (.iload_n 3, 1) := by decide +kernel
theorem dX4_bestLikely_13 : decode cX4_bestLikely 13 = .ok (.invokevirtual 150, 3) := by decide +kernel
theorem dX4_bestLikely_16 : decode cX4_bestLikely 16 = .ok (.lreturn, 1) := by decide +kernel
theorem dX4_bestLikely_17 : decode cX4_bestLikely 17 = .ok (.aload_n 0, 1) := by decide +kernel
theorem dX4_bestLikely_18 : decode cX4_bestLikely 18 = .ok (.iload_n 1, 1) := by decide +kernel
theorem dX4_bestLikely_19 : decode cX4_bestLikely 19 = .ok (.invokevirtual 168, 3) := by decide +kernel
theorem dX4_bestLikely_22 : decode cX4_bestLikely 22 = .ok (.aload_n 0, 1) := by decide +kernel
theorem dX4_bestLikely_23 : decode cX4_bestLikely 23 = .ok (.getfield 10, 3) := by decide +kernel
theorem dX4_bestLikely_26 : decode cX4_bestLikely 26 = .ok (.getfield 154, 3) := by decide +kernel
theorem dX4_bestLikely_29 : decode cX4_bestLikely 29 = .ok (.iload_n 2, 1) := by decide +kernel
theorem dX4_bestLikely_30 : decode cX4_bestLikely 30 = .ok (.invokestatic 158, 3) := by decide +kernel
theorem dX4_bestLikely_33 : decode cX4_bestLikely 33 = .ok (.lreturn, 1) := by decide +kernel
theorem dX4_bestWorth_0 : decode cX4_bestWorth 0 = .ok (.aload_n 0, 1) := by decide +kernel
theorem dX4_bestWorth_1 : decode cX4_bestWorth 1 = .ok (.iload_n 1, 1) := by decide +kernel
theorem dX4_bestWorth_2 : decode cX4_bestWorth 2 = .ok (.iload_n 2, 1) := by decide +kernel
theorem dX4_bestWorth_3 : decode cX4_bestWorth 3 = .ok (.invokevirtual 172, 3) := by decide +kernel
theorem dX4_bestWorth_6 : decode cX4_bestWorth 6 = .ok (.istore_n 3, 1) := by decide +kernel
theorem dX4_bestWorth_7 : decode cX4_bestWorth 7 = .ok (.iload_n 3, 1) := by decide +kernel
theorem dX4_bestWorth_8 : decode cX4_bestWorth 8 = .ok (.ifCond .ge 9, 3) := by decide +kernel
theorem dX4_bestWorth_11 : decode cX4_bestWorth 11 = .ok (.aload_n 0, 1) := by decide +kernel
theorem dX4_bestWorth_12 : decode cX4_bestWorth 12 = .ok (.iload_n 3, 1) := by decide +kernel
theorem dX4_bestWorth_13 : decode cX4_bestWorth 13 = .ok (.invokevirtual 150, 3) := by decide +kernel
theorem dX4_bestWorth_16 : decode cX4_bestWorth 16 = .ok (.lreturn, 1) := by decide +kernel
theorem dX4_bestWorth_17 : decode cX4_bestWorth 17 = .ok (.aload_n 0, 1) := by decide +kernel
theorem dX4_bestWorth_18 : decode cX4_bestWorth 18 = .ok (.iload_n 1, 1) := by decide +kernel
theorem dX4_bestWorth_19 : decode cX4_bestWorth 19 = .ok (.invokevirtual 168, 3) := by decide +kernel
theorem dX4_bestWorth_22 : decode cX4_bestWorth 22 = .ok (.aload_n 0, 1) := by decide +kernel
theorem dX4_bestWorth_23 : decode cX4_bestWorth 23 = .ok (.getfield 10, 3) := by decide +kernel
theorem dX4_bestWorth_26 : decode cX4_bestWorth 26 = .ok (.getfield 162, 3) := by decide +kernel
theorem dX4_bestWorth_29 : decode cX4_bestWorth 29 = .ok (.iload_n 2, 1) := by decide +kernel
theorem dX4_bestWorth_30 : decode cX4_bestWorth 30 = .ok (.invokestatic 158, 3) := by decide +kernel
theorem dX4_bestWorth_33 : decode cX4_bestWorth 33 = .ok (.lreturn, 1) := by decide +kernel
theorem dX4_sure_0 : decode cX4_sure 0 = .ok (.aload_n 0, 1) := by decide +kernel
theorem dX4_sure_1 : decode cX4_sure 1 = .ok (.getfield 20, 3) := by decide +kernel
theorem dX4_sure_4 : decode cX4_sure 4 = .ok (.getfield 132, 3) := by decide +kernel
theorem dX4_sure_7 : decode cX4_sure 7 = .ok (.ifCond .ne 10, 3) := by decide +kernel
theorem dX4_sure_10 : decode cX4_sure 10 = .ok (.aload_n 0, 1) := by decide +kernel
theorem dX4_sure_11 : decode cX4_sure 11 = .ok (.bipush (-3), 2) := by decide +kernel
theorem dX4_sure_13 : decode cX4_sure 13 = .ok (.invokevirtual 65, 3) := by decide +kernel
theorem dX4_sure_16 : decode cX4_sure 16 = .ok (.ireturn, 1) := by decide +kernel
theorem dX4_sure_17 : decode cX4_sure 17 = .ok (.aload_n 0, 1) := by decide +kernel
theorem dX4_sure_18 : decode cX4_sure 18 = .ok (.getfield 10, 3) := by decide +kernel
theorem dX4_sure_21 : decode cX4_sure 21 = .ok (.invokevirtual 176, 3) := by decide +kernel
theorem dX4_sure_24 : decode cX4_sure 24 = .ok (.iconst 0, 1) := by decide +kernel
theorem dX4_sure_25 : decode cX4_sure 25 = .ok (.istore_n 1, 1) := by decide +kernel
theorem dX4_sure_26 : decode cX4_sure 26 = .ok (.iconst 0, 1) := by decide +kernel
theorem dX4_sure_27 : decode cX4_sure 27 = .ok (.istore_n 2, 1) := by decide +kernel
theorem dX4_sure_28 : decode cX4_sure 28 = .ok (.iload_n 2, 1) := by decide +kernel
theorem dX4_sure_29 : decode cX4_sure 29 = .ok (.aload_n 0, 1) := by decide +kernel
theorem dX4_sure_30 : decode cX4_sure 30 = .ok (.getfield 20, 3) := by decide +kernel
theorem dX4_sure_33 : decode cX4_sure 33 = .ok (.getfield 98, 3) := by decide +kernel
theorem dX4_sure_36 : decode cX4_sure 36 = .ok (.if_icmp .ge 52, 3) := by decide +kernel
theorem dX4_sure_39 : decode cX4_sure 39 = .ok (.aload_n 0, 1) := by decide +kernel
theorem dX4_sure_40 : decode cX4_sure 40 = .ok (.getfield 48, 3) := by decide +kernel
theorem dX4_sure_43 : decode cX4_sure 43 = .ok (.iconst 0, 1) := by decide +kernel
theorem dX4_sure_44 : decode cX4_sure 44 = .ok (.iload_n 2, 1) := by decide +kernel
theorem dX4_sure_45 : decode cX4_sure 45 = .ok (.iastore, 1) := by decide +kernel
theorem dX4_sure_46 : decode cX4_sure 46 = .ok (.aload_n 0, 1) := by decide +kernel
theorem dX4_sure_47 : decode cX4_sure 47 = .ok (.getfield 10, 3) := by decide +kernel
theorem dX4_sure_50 : decode cX4_sure 50 = .ok (.aload_n 0, 1) := by decide +kernel
theorem dX4_sure_51 : decode cX4_sure 51 = .ok (.getfield 48, 3) := by decide +kernel
theorem dX4_sure_54 : decode cX4_sure 54 = .ok (.iconst 1, 1) := by decide +kernel
theorem dX4_sure_55 : decode cX4_sure 55 = .ok (.invokevirtual 179, 3) := by decide +kernel
theorem dX4_sure_58 : decode cX4_sure 58 = .ok (.aload_n 0, 1) := by decide +kernel
theorem dX4_sure_59 : decode cX4_sure 59 = .ok (.getfield 10, 3) := by decide +kernel
theorem dX4_sure_62 : decode cX4_sure 62 = .ok (.getfield 154, 3) := by decide +kernel
theorem dX4_sure_65 : decode cX4_sure 65 = .ok (.ldc2_w 183, 3) := by decide +kernel
theorem dX4_sure_68 : decode cX4_sure 68 = .ok (.lcmp, 1) := by decide +kernel
theorem dX4_sure_69 : decode cX4_sure 69 = .ok (.ifCond .ne 13, 3) := by decide +kernel
theorem dX4_sure_72 : decode cX4_sure 72 = .ok (.iload_n 1, 1) := by decide +kernel
theorem dX4_sure_73 : decode cX4_sure 73 = .ok (.aload_n 0, 1) := by decide +kernel
theorem dX4_sure_74 : decode cX4_sure 74 = .ok (.getfield 10, 3) := by decide +kernel
theorem dX4_sure_77 : decode cX4_sure 77 = .ok (.getfield 141, 3) := by decide +kernel
theorem dX4_sure_80 : decode cX4_sure 80 = .ok (.ior, 1) := by decide +kernel
theorem dX4_sure_81 : decode cX4_sure 81 = .ok (.istore_n 1, 1) := by decide +kernel
theorem dX4_sure_82 : decode cX4_sure 82 = .ok (.iinc 2 1, 3) := by decide +kernel
theorem dX4_sure_85 : decode cX4_sure 85 = .ok (.goto (-57), 3) := by decide +kernel
theorem dX4_sure_88 : decode cX4_sure 88 = .ok (.iload_n 1, 1) := by decide +kernel
theorem dX4_sure_89 : decode cX4_sure 89 = .ok (.ireturn, 1) := by decide +kernel
theorem dX4_bestDriver_0 : decode cX4_bestDriver 0 = .ok (.aload_n 0, 1) := by decide +kernel
theorem dX4_bestDriver_1 : decode cX4_bestDriver 1 = .ok (.getfield 20, 3) := by decide +kernel
theorem dX4_bestDriver_4 : decode cX4_bestDriver 4 = .ok (.getfield 132, 3) := by decide +kernel
theorem dX4_bestDriver_7 : decode cX4_bestDriver 7 = .ok (.ifCond .ne 10, 3) := by decide +kernel
theorem dX4_bestDriver_10 : decode cX4_bestDriver 10 = .ok (.aload_n 0, 1) := by decide +kernel
theorem dX4_bestDriver_11 : decode cX4_bestDriver 11 = .ok (.bipush (-3), 2) := by decide +kernel
theorem dX4_bestDriver_13 : decode cX4_bestDriver 13 = .ok (.invokevirtual 65, 3) := by decide +kernel
theorem dX4_bestDriver_16 : decode cX4_bestDriver 16 = .ok (.ireturn, 1) := by decide +kernel
theorem dX4_bestDriver_17 : decode cX4_bestDriver 17 = .ok (.aload_n 0, 1) := by decide +kernel
theorem dX4_bestDriver_18 : decode cX4_bestDriver 18 = .ok (.bipush (-9), 2) := by decide +kernel
theorem dX4_bestDriver_20 : decode cX4_bestDriver 20 = .ok (.invokevirtual 185, 3) := by decide +kernel
theorem dX4_bestDriver_23 : decode cX4_bestDriver 23 = .ok (.istore_n 1, 1) := by decide +kernel
theorem dX4_bestDriver_24 : decode cX4_bestDriver 24 = .ok (.iconst 0, 1) := by decide +kernel
theorem dX4_bestDriver_25 : decode cX4_bestDriver 25 = .ok (.istore_n 2, 1) := by decide +kernel
theorem dX4_bestDriver_26 : decode cX4_bestDriver 26 = .ok (.lconst 0, 1) := by decide +kernel
theorem dX4_bestDriver_27 : decode cX4_bestDriver 27 = .ok (.lstore_n 3, 1) := by decide +kernel
theorem dX4_bestDriver_28 : decode cX4_bestDriver 28 = .ok (.aload_n 0, 1) := by decide +kernel
theorem dX4_bestDriver_29 : decode cX4_bestDriver 29 = .ok (.getfield 10, 3) := by decide +kernel
theorem dX4_bestDriver_32 : decode cX4_bestDriver 32 = .ok (.invokevirtual 176, 3) := by decide +kernel
theorem dX4_bestDriver_35 : decode cX4_bestDriver 35 = .ok (.iconst 0, 1) := by decide +kernel
theorem dX4_bestDriver_36 : decode cX4_bestDriver 36 = .ok (.istore 5, 2) := by decide +kernel
theorem dX4_bestDriver_38 : decode cX4_bestDriver 38 = .ok (.iload 5, 2) := by decide +kernel
theorem dX4_bestDriver_40 : decode cX4_bestDriver 40 = .ok (.iconst 5, 1) := by decide +kernel
theorem dX4_bestDriver_41 : decode cX4_bestDriver 41 = .ok (.if_icmp .gt 58, 3) := by decide +kernel
theorem dX4_bestDriver_44 : decode cX4_bestDriver 44 = .ok (.aload_n 0, 1) := by decide +kernel
theorem dX4_bestDriver_45 : decode cX4_bestDriver 45 = .ok (.getfield 10, 3) := by decide +kernel
theorem dX4_bestDriver_48 : decode cX4_bestDriver 48 = .ok (.iload 5, 2) := by decide +kernel
theorem dX4_bestDriver_50 : decode cX4_bestDriver 50 = .ok (.putfield 188, 3) := by decide +kernel
theorem dX4_bestDriver_53 : decode cX4_bestDriver 53 = .ok (.aload_n 0, 1) := by decide +kernel
theorem dX4_bestDriver_54 : decode cX4_bestDriver 54 = .ok (.getfield 10, 3) := by decide +kernel
theorem dX4_bestDriver_57 : decode cX4_bestDriver 57 = .ok (.aload_n 0, 1) := by decide +kernel
theorem dX4_bestDriver_58 : decode cX4_bestDriver 58 = .ok (.getfield 48, 3) := by decide +kernel
theorem dX4_bestDriver_61 : decode cX4_bestDriver 61 = .ok (.iload_n 1, 1) := by decide +kernel
theorem dX4_bestDriver_62 : decode cX4_bestDriver 62 = .ok (.invokevirtual 179, 3) := by decide +kernel
theorem dX4_bestDriver_65 : decode cX4_bestDriver 65 = .ok (.iload 5, 2) := by decide +kernel
theorem dX4_bestDriver_67 : decode cX4_bestDriver 67 = .ok (.ifCond .eq 15, 3) := by decide +kernel
theorem dX4_bestDriver_70 : decode cX4_bestDriver 70 = .ok (.aload_n 0, 1) := by decide +kernel
theorem dX4_bestDriver_71 : decode cX4_bestDriver 71 = .ok (.getfield 10, 3) := by decide +kernel
theorem dX4_bestDriver_74 : decode cX4_bestDriver 74 = .ok (.getfield 162, 3) := by decide +kernel
theorem dX4_bestDriver_77 : decode cX4_bestDriver 77 = .ok (.lload_n 3, 1) := by decide +kernel
theorem dX4_bestDriver_78 : decode cX4_bestDriver 78 = .ok (.lcmp, 1) := by decide +kernel
theorem dX4_bestDriver_79 : decode cX4_bestDriver 79 = .ok (.ifCond .le 14, 3) := by decide +kernel
theorem dX4_bestDriver_82 : decode cX4_bestDriver 82 = .ok (.iload 5, 2) := by decide +kernel
theorem dX4_bestDriver_84 : decode cX4_bestDriver 84 = .ok (.istore_n 2, 1) := by decide +kernel
theorem dX4_bestDriver_85 : decode cX4_bestDriver 85 = .ok (.aload_n 0, 1) := by decide +kernel
theorem dX4_bestDriver_86 : decode cX4_bestDriver 86 = .ok (.getfield 10, 3) := by decide +kernel
theorem dX4_bestDriver_89 : decode cX4_bestDriver 89 = .ok (.getfield 162, 3) := by decide +kernel
theorem dX4_bestDriver_92 : decode cX4_bestDriver 92 = .ok (.lstore_n 3, 1) := by decide +kernel
theorem dX4_bestDriver_93 : decode cX4_bestDriver 93 = .ok (.iinc 5 1, 3) := by decide +kernel
theorem dX4_bestDriver_96 : decode cX4_bestDriver 96 = .ok (.goto (-58), 3) := by decide +kernel
theorem dX4_bestDriver_99 : decode cX4_bestDriver 99 = .ok (.iload_n 2, 1) := by decide +kernel
theorem dX4_bestDriver_100 : decode cX4_bestDriver 100 = .ok (.ireturn, 1) := by decide +kernel
theorem dX4_leftOut_0 : decode cX4_leftOut 0 = .ok (.aload_n 0, 1) := by decide +kernel
theorem dX4_leftOut_1 : decode cX4_leftOut 1 = .ok (.getfield 20, 3) := by decide +kernel
theorem dX4_leftOut_4 : decode cX4_leftOut 4 = .ok (.getfield 132, 3) := by decide +kernel
theorem dX4_leftOut_7 : decode cX4_leftOut 7 = .ok (.ifCond .ne 10, 3) := by decide +kernel
theorem dX4_leftOut_10 : decode cX4_leftOut 10 = .ok (.aload_n 0, 1) := by decide +kernel
theorem dX4_leftOut_11 : decode cX4_leftOut 11 = .ok (.bipush (-3), 2) := by decide +kernel
theorem dX4_leftOut_13 : decode cX4_leftOut 13 = .ok (.invokevirtual 65, 3) := by decide +kernel
theorem dX4_leftOut_16 : decode cX4_leftOut 16 = .ok (.ireturn, 1) := by decide +kernel
theorem dX4_leftOut_17 : decode cX4_leftOut 17 = .ok (.aload_n 0, 1) := by decide +kernel
theorem dX4_leftOut_18 : decode cX4_leftOut 18 = .ok (.invokevirtual 135, 3) := by decide +kernel
theorem dX4_leftOut_21 : decode cX4_leftOut 21 = .ok (.bipush (-9), 2) := by decide +kernel
theorem dX4_leftOut_23 : decode cX4_leftOut 23 = .ok (.istore_n 1, 1) := by decide +kernel
theorem dX4_leftOut_24 : decode cX4_leftOut 24 = .ok (.aload_n 0, 1) := by decide +kernel
theorem dX4_leftOut_25 : decode cX4_leftOut 25 = .ok (.getfield 10, 3) := by decide +kernel
theorem dX4_leftOut_28 : decode cX4_leftOut 28 = .ok (.getfield 162, 3) := by decide +kernel
theorem dX4_leftOut_31 : decode cX4_leftOut 31 = .ok (.lstore_n 2, 1) := by decide +kernel
theorem dX4_leftOut_32 : decode cX4_leftOut 32 = .ok (.iconst 0, 1) := by decide +kernel
theorem dX4_leftOut_33 : decode cX4_leftOut 33 = .ok (.istore 4, 2) := by decide +kernel
theorem dX4_leftOut_35 : decode cX4_leftOut 35 = .ok (.iload 4, 2) := by decide +kernel
theorem dX4_leftOut_37 : decode cX4_leftOut 37 = .ok (.aload_n 0, 1) := by decide +kernel
theorem dX4_leftOut_38 : decode cX4_leftOut 38 = .ok (.getfield 57, 3) := by decide +kernel
theorem dX4_leftOut_41 : decode cX4_leftOut 41 = .ok (.if_icmp .ge 59, 3) := by decide +kernel
theorem dX4_leftOut_44 : decode cX4_leftOut 44 = .ok (.aload_n 0, 1) := by decide +kernel
theorem dX4_leftOut_45 : decode cX4_leftOut 45 = .ok (.getfield 10, 3) := by decide +kernel
theorem dX4_leftOut_48 : decode cX4_leftOut 48 = .ok (.aload_n 0, 1) := by decide +kernel
theorem dX4_leftOut_49 : decode cX4_leftOut 49 = .ok (.getfield 48, 3) := by decide +kernel
theorem dX4_leftOut_52 : decode cX4_leftOut 52 = .ok (.aload_n 0, 1) := by decide +kernel
theorem dX4_leftOut_53 : decode cX4_leftOut 53 = .ok (.aload_n 0, 1) := by decide +kernel
theorem dX4_leftOut_54 : decode cX4_leftOut 54 = .ok (.getfield 44, 3) := by decide +kernel
theorem dX4_leftOut_57 : decode cX4_leftOut 57 = .ok (.iload 4, 2) := by decide +kernel
theorem dX4_leftOut_59 : decode cX4_leftOut 59 = .ok (.iaload, 1) := by decide +kernel
theorem dX4_leftOut_60 : decode cX4_leftOut 60 = .ok (.invokevirtual 185, 3) := by decide +kernel
theorem dX4_leftOut_63 : decode cX4_leftOut 63 = .ok (.invokevirtual 179, 3) := by decide +kernel
theorem dX4_leftOut_66 : decode cX4_leftOut 66 = .ok (.aload_n 0, 1) := by decide +kernel
theorem dX4_leftOut_67 : decode cX4_leftOut 67 = .ok (.getfield 10, 3) := by decide +kernel
theorem dX4_leftOut_70 : decode cX4_leftOut 70 = .ok (.getfield 162, 3) := by decide +kernel
theorem dX4_leftOut_73 : decode cX4_leftOut 73 = .ok (.lload_n 2, 1) := by decide +kernel
theorem dX4_leftOut_74 : decode cX4_leftOut 74 = .ok (.lcmp, 1) := by decide +kernel
theorem dX4_leftOut_75 : decode cX4_leftOut 75 = .ok (.ifCond .le 19, 3) := by decide +kernel
theorem dX4_leftOut_78 : decode cX4_leftOut 78 = .ok (.aload_n 0, 1) := by decide +kernel
theorem dX4_leftOut_79 : decode cX4_leftOut 79 = .ok (.getfield 44, 3) := by decide +kernel
theorem dX4_leftOut_82 : decode cX4_leftOut 82 = .ok (.iload 4, 2) := by decide +kernel
theorem dX4_leftOut_84 : decode cX4_leftOut 84 = .ok (.iaload, 1) := by decide +kernel
theorem dX4_leftOut_85 : decode cX4_leftOut 85 = .ok (.istore_n 1, 1) := by decide +kernel
theorem dX4_leftOut_86 : decode cX4_leftOut 86 = .ok (.aload_n 0, 1) := by decide +kernel
theorem dX4_leftOut_87 : decode cX4_leftOut 87 = .ok (.getfield 10, 3) := by decide +kernel
theorem dX4_leftOut_90 : decode cX4_leftOut 90 = .ok (.getfield 162, 3) := by decide +kernel
theorem dX4_leftOut_93 : decode cX4_leftOut 93 = .ok (.lstore_n 2, 1) := by decide +kernel
theorem dX4_leftOut_94 : decode cX4_leftOut 94 = .ok (.iinc 4 1, 3) := by decide +kernel
theorem dX4_leftOut_97 : decode cX4_leftOut 97 = .ok (.goto (-62), 3) := by decide +kernel
theorem dX4_leftOut_100 : decode cX4_leftOut 100 = .ok (.iload_n 1, 1) := by decide +kernel
theorem dX4_leftOut_101 : decode cX4_leftOut 101 = .ok (.ireturn, 1) := by decide +kernel
theorem dX4_runOn_0 : decode cX4_runOn 0 = .ok (.aload_n 0, 1) := by decide +kernel
theorem dX4_runOn_1 : decode cX4_runOn 1 = .ok (.getfield 20, 3) := by decide +kernel
theorem dX4_runOn_4 : decode cX4_runOn 4 = .ok (.getfield 132, 3) := by decide +kernel
theorem dX4_runOn_7 : decode cX4_runOn 7 = .ok (.ifCond .ne 10, 3) := by decide +kernel
theorem dX4_runOn_10 : decode cX4_runOn 10 = .ok (.aload_n 0, 1) := by decide +kernel
theorem dX4_runOn_11 : decode cX4_runOn 11 = .ok (.bipush (-3), 2) := by decide +kernel
theorem dX4_runOn_13 : decode cX4_runOn 13 = .ok (.invokevirtual 65, 3) := by decide +kernel
theorem dX4_runOn_16 : decode cX4_runOn 16 = .ok (.ireturn, 1) := by decide +kernel
theorem dX4_runOn_17 : decode cX4_runOn 17 = .ok (.aload_n 0, 1) := by decide +kernel
theorem dX4_runOn_18 : decode cX4_runOn 18 = .ok (.bipush (-9), 2) := by decide +kernel
theorem dX4_runOn_20 : decode cX4_runOn 20 = .ok (.invokevirtual 185, 3) := by decide +kernel
theorem dX4_runOn_23 : decode cX4_runOn 23 = .ok (.istore_n 1, 1) := by decide +kernel
theorem dX4_runOn_24 : decode cX4_runOn 24 = .ok (.iconst 0, 1) := by decide +kernel
theorem dX4_runOn_25 : decode cX4_runOn 25 = .ok (.istore_n 2, 1) := by decide +kernel
theorem dX4_runOn_26 : decode cX4_runOn 26 = .ok (.lconst 0, 1) := by decide +kernel
theorem dX4_runOn_27 : decode cX4_runOn 27 = .ok (.lstore_n 3, 1) := by decide +kernel
theorem dX4_runOn_28 : decode cX4_runOn 28 = .ok (.aload_n 0, 1) := by decide +kernel
theorem dX4_runOn_29 : decode cX4_runOn 29 = .ok (.getfield 10, 3) := by decide +kernel
theorem dX4_runOn_32 : decode cX4_runOn 32 = .ok (.invokevirtual 176, 3) := by decide +kernel
theorem dX4_runOn_35 : decode cX4_runOn 35 = .ok (.aload_n 0, 1) := by decide +kernel
theorem dX4_runOn_36 : decode cX4_runOn 36 = .ok (.getfield 10, 3) := by decide +kernel
theorem dX4_runOn_39 : decode cX4_runOn 39 = .ok (.iconst 1, 1) := by decide +kernel
theorem dX4_runOn_40 : decode cX4_runOn 40 = .ok (.putfield 188, 3) := by decide +kernel
theorem dX4_runOn_43 : decode cX4_runOn 43 = .ok (.iconst 0, 1) := by decide +kernel
theorem dX4_runOn_44 : decode cX4_runOn 44 = .ok (.istore 5, 2) := by decide +kernel
theorem dX4_runOn_46 : decode cX4_runOn 46 = .ok (.iload 5, 2) := by decide +kernel
theorem dX4_runOn_48 : decode cX4_runOn 48 = .ok (.bipush 60, 2) := by decide +kernel
theorem dX4_runOn_50 : decode cX4_runOn 50 = .ok (.if_icmp .gt 58, 3) := by decide +kernel
theorem dX4_runOn_53 : decode cX4_runOn 53 = .ok (.aload_n 0, 1) := by decide +kernel
theorem dX4_runOn_54 : decode cX4_runOn 54 = .ok (.getfield 10, 3) := by decide +kernel
theorem dX4_runOn_57 : decode cX4_runOn 57 = .ok (.iload 5, 2) := by decide +kernel
theorem dX4_runOn_59 : decode cX4_runOn 59 = .ok (.putfield 189, 3) := by decide +kernel
theorem dX4_runOn_62 : decode cX4_runOn 62 = .ok (.aload_n 0, 1) := by decide +kernel
theorem dX4_runOn_63 : decode cX4_runOn 63 = .ok (.getfield 10, 3) := by decide +kernel
theorem dX4_runOn_66 : decode cX4_runOn 66 = .ok (.aload_n 0, 1) := by decide +kernel
theorem dX4_runOn_67 : decode cX4_runOn 67 = .ok (.getfield 48, 3) := by decide +kernel
theorem dX4_runOn_70 : decode cX4_runOn 70 = .ok (.iload_n 1, 1) := by decide +kernel
theorem dX4_runOn_71 : decode cX4_runOn 71 = .ok (.invokevirtual 179, 3) := by decide +kernel
theorem dX4_runOn_74 : decode cX4_runOn 74 = .ok (.iload 5, 2) := by decide +kernel
theorem dX4_runOn_76 : decode cX4_runOn 76 = .ok (.ifCond .eq 15, 3) := by decide +kernel
theorem dX4_runOn_79 : decode cX4_runOn 79 = .ok (.aload_n 0, 1) := by decide +kernel
theorem dX4_runOn_80 : decode cX4_runOn 80 = .ok (.getfield 10, 3) := by decide +kernel
theorem dX4_runOn_83 : decode cX4_runOn 83 = .ok (.getfield 162, 3) := by decide +kernel
theorem dX4_runOn_86 : decode cX4_runOn 86 = .ok (.lload_n 3, 1) := by decide +kernel
theorem dX4_runOn_87 : decode cX4_runOn 87 = .ok (.lcmp, 1) := by decide +kernel
theorem dX4_runOn_88 : decode cX4_runOn 88 = .ok (.ifCond .le 14, 3) := by decide +kernel
theorem dX4_runOn_91 : decode cX4_runOn 91 = .ok (.iload 5, 2) := by decide +kernel
theorem dX4_runOn_93 : decode cX4_runOn 93 = .ok (.istore_n 2, 1) := by decide +kernel
theorem dX4_runOn_94 : decode cX4_runOn 94 = .ok (.aload_n 0, 1) := by decide +kernel
theorem dX4_runOn_95 : decode cX4_runOn 95 = .ok (.getfield 10, 3) := by decide +kernel
theorem dX4_runOn_98 : decode cX4_runOn 98 = .ok (.getfield 162, 3) := by decide +kernel
theorem dX4_runOn_101 : decode cX4_runOn 101 = .ok (.lstore_n 3, 1) := by decide +kernel
theorem dX4_runOn_102 : decode cX4_runOn 102 = .ok (.iinc 5 1, 3) := by decide +kernel
theorem dX4_runOn_105 : decode cX4_runOn 105 = .ok (.goto (-59), 3) := by decide +kernel
theorem dX4_runOn_108 : decode cX4_runOn 108 = .ok (.iload_n 2, 1) := by decide +kernel
theorem dX4_runOn_109 : decode cX4_runOn 109 = .ok (.ireturn, 1) := by decide +kernel
theorem dX4_push_0 : decode cX4_push 0 = .ok (.aload_n 0, 1) := by decide +kernel
theorem dX4_push_1 : decode cX4_push 1 = .ok (.getfield 20, 3) := by decide +kernel
theorem dX4_push_4 : decode cX4_push 4 = .ok (.getfield 132, 3) := by decide +kernel
theorem dX4_push_7 : decode cX4_push 7 = .ok (.ifCond .ne 10, 3) := by decide +kernel
theorem dX4_push_10 : decode cX4_push 10 = .ok (.aload_n 0, 1) := by decide +kernel
theorem dX4_push_11 : decode cX4_push 11 = .ok (.bipush (-3), 2) := by decide +kernel
theorem dX4_push_13 : decode cX4_push 13 = .ok (.invokevirtual 65, 3) := by decide +kernel
theorem dX4_push_16 : decode cX4_push 16 = .ok (.ireturn, 1) := by decide +kernel
theorem dX4_push_17 : decode cX4_push 17 = .ok (.aload_n 0, 1) := by decide +kernel
theorem dX4_push_18 : decode cX4_push 18 = .ok (.bipush (-9), 2) := by decide +kernel
theorem dX4_push_20 : decode cX4_push 20 = .ok (.invokevirtual 185, 3) := by decide +kernel
theorem dX4_push_23 : decode cX4_push 23 = .ok (.istore_n 1, 1) := by decide +kernel
theorem dX4_push_24 : decode cX4_push 24 = .ok (.aload_n 0, 1) := by decide +kernel
theorem dX4_push_25 : decode cX4_push 25 = .ok (.getfield 10, 3) := by decide +kernel
theorem dX4_push_28 : decode cX4_push 28 = .ok (.invokevirtual 176, 3) := by decide +kernel
theorem dX4_push_31 : decode cX4_push 31 = .ok (.aload_n 0, 1) := by decide +kernel
theorem dX4_push_32 : decode cX4_push 32 = .ok (.getfield 10, 3) := by decide +kernel
theorem dX4_push_35 : decode cX4_push 35 = .ok (.iconst 3, 1) := by decide +kernel
theorem dX4_push_36 : decode cX4_push 36 = .ok (.putfield 188, 3) := by decide +kernel
theorem dX4_push_39 : decode cX4_push 39 = .ok (.aload_n 0, 1) := by decide +kernel
theorem dX4_push_40 : decode cX4_push 40 = .ok (.getfield 10, 3) := by decide +kernel
theorem dX4_push_43 : decode cX4_push 43 = .ok (.aload_n 0, 1) := by decide +kernel
theorem dX4_push_44 : decode cX4_push 44 = .ok (.getfield 48, 3) := by decide +kernel
theorem dX4_push_47 : decode cX4_push 47 = .ok (.iload_n 1, 1) := by decide +kernel
theorem dX4_push_48 : decode cX4_push 48 = .ok (.invokevirtual 179, 3) := by decide +kernel
theorem dX4_push_51 : decode cX4_push 51 = .ok (.bipush (-9), 2) := by decide +kernel
theorem dX4_push_53 : decode cX4_push 53 = .ok (.istore_n 2, 1) := by decide +kernel
theorem dX4_push_54 : decode cX4_push 54 = .ok (.aload_n 0, 1) := by decide +kernel
theorem dX4_push_55 : decode cX4_push 55 = .ok (.getfield 10, 3) := by decide +kernel
theorem dX4_push_58 : decode cX4_push 58 = .ok (.getfield 162, 3) := by decide +kernel
theorem dX4_push_61 : decode cX4_push 61 = .ok (.lstore_n 3, 1) := by decide +kernel
theorem dX4_push_62 : decode cX4_push 62 = .ok (.iconst 0, 1) := by decide +kernel
theorem dX4_push_63 : decode cX4_push 63 = .ok (.istore 5, 2) := by decide +kernel
theorem dX4_push_65 : decode cX4_push 65 = .ok (.iload 5, 2) := by decide +kernel
theorem dX4_push_67 : decode cX4_push 67 = .ok (.aload_n 0, 1) := by decide +kernel
theorem dX4_push_68 : decode cX4_push 68 = .ok (.getfield 20, 3) := by decide +kernel
theorem dX4_push_71 : decode cX4_push 71 = .ok (.getfield 132, 3) := by decide +kernel
theorem dX4_push_74 : decode cX4_push 74 = .ok (.if_icmp .ge 88, 3) := by decide +kernel
theorem dX4_push_77 : decode cX4_push 77 = .ok (.aload_n 0, 1) := by decide +kernel
theorem dX4_push_78 : decode cX4_push 78 = .ok (.getfield 10, 3) := by decide +kernel
theorem dX4_push_81 : decode cX4_push 81 = .ok (.iload 5, 2) := by decide +kernel
theorem dX4_push_83 : decode cX4_push 83 = .ok (.iconst 3, 1) := by decide +kernel
theorem dX4_push_84 : decode cX4_push 84 = .ok (.aload_n 0, 1) := by decide +kernel
theorem dX4_push_85 : decode cX4_push 85 = .ok (.getfield 20, 3) := by decide +kernel
theorem dX4_push_88 : decode cX4_push 88 = .ok (.getfield 89, 3) := by decide +kernel
theorem dX4_push_91 : decode cX4_push 91 = .ok (.iload 5, 2) := by decide +kernel
theorem dX4_push_93 : decode cX4_push 93 = .ok (.iaload, 1) := by decide +kernel
theorem dX4_push_94 : decode cX4_push 94 = .ok (.iconst 1, 1) := by decide +kernel
theorem dX4_push_95 : decode cX4_push 95 = .ok (.iadd, 1) := by decide +kernel
theorem dX4_push_96 : decode cX4_push 96 = .ok (.invokestatic 190, 3) := by decide +kernel
theorem dX4_push_99 : decode cX4_push 99 = .ok (.invokevirtual 195, 3) := by decide +kernel
theorem dX4_push_102 : decode cX4_push 102 = .ok (.aload_n 0, 1) := by decide +kernel
theorem dX4_push_103 : decode cX4_push 103 = .ok (.getfield 10, 3) := by decide +kernel
theorem dX4_push_106 : decode cX4_push 106 = .ok (.aload_n 0, 1) := by decide +kernel
theorem dX4_push_107 : decode cX4_push 107 = .ok (.getfield 48, 3) := by decide +kernel
theorem dX4_push_110 : decode cX4_push 110 = .ok (.iload_n 1, 1) := by decide +kernel
theorem dX4_push_111 : decode cX4_push 111 = .ok (.invokevirtual 179, 3) := by decide +kernel
theorem dX4_push_114 : decode cX4_push 114 = .ok (.aload_n 0, 1) := by decide +kernel
theorem dX4_push_115 : decode cX4_push 115 = .ok (.getfield 10, 3) := by decide +kernel
theorem dX4_push_118 : decode cX4_push 118 = .ok (.iload 5, 2) := by decide +kernel
theorem dX4_push_120 : decode cX4_push 120 = .ok (.aload_n 0, 1) := by decide +kernel
theorem dX4_push_121 : decode cX4_push 121 = .ok (.getfield 20, 3) := by decide +kernel
theorem dX4_push_124 : decode cX4_push 124 = .ok (.getfield 89, 3) := by decide +kernel
theorem dX4_push_127 : decode cX4_push 127 = .ok (.iload 5, 2) := by decide +kernel
theorem dX4_push_129 : decode cX4_push 129 = .ok (.iaload, 1) := by decide +kernel
theorem dX4_push_130 : decode cX4_push 130 = .ok (.invokevirtual 195, 3) := by decide +kernel
theorem dX4_push_133 : decode cX4_push 133 = .ok (.aload_n 0, 1) := by decide +kernel
theorem dX4_push_134 : decode cX4_push 134 = .ok (.getfield 10, 3) := by decide +kernel
theorem dX4_push_137 : decode cX4_push 137 = .ok (.getfield 162, 3) := by decide +kernel
theorem dX4_push_140 : decode cX4_push 140 = .ok (.lload_n 3, 1) := by decide +kernel
theorem dX4_push_141 : decode cX4_push 141 = .ok (.lcmp, 1) := by decide +kernel
theorem dX4_push_142 : decode cX4_push 142 = .ok (.ifCond .le 14, 3) := by decide +kernel
theorem dX4_push_145 : decode cX4_push 145 = .ok (.iload 5, 2) := by decide +kernel
theorem dX4_push_147 : decode cX4_push 147 = .ok (.istore_n 2, 1) := by decide +kernel
theorem dX4_push_148 : decode cX4_push 148 = .ok (.aload_n 0, 1) := by decide +kernel
theorem dX4_push_149 : decode cX4_push 149 = .ok (.getfield 10, 3) := by decide +kernel
theorem dX4_push_152 : decode cX4_push 152 = .ok (.getfield 162, 3) := by decide +kernel
theorem dX4_push_155 : decode cX4_push 155 = .ok (.lstore_n 3, 1) := by decide +kernel
theorem dX4_push_156 : decode cX4_push 156 = .ok (.iinc 5 1, 3) := by decide +kernel
theorem dX4_push_159 : decode cX4_push 159 = .ok (.goto (-94), 3) := by decide +kernel
theorem dX4_push_162 : decode cX4_push 162 = .ok (.iload_n 2, 1) := by decide +kernel
theorem dX4_push_163 : decode cX4_push 163 = .ok (.ireturn, 1) := by decide +kernel
theorem dX4_hill_0 : decode cX4_hill 0 = .ok (.aload_n 0, 1) := by decide +kernel
theorem dX4_hill_1 : decode cX4_hill 1 = .ok (.iload_n 1, 1) := by decide +kernel
theorem dX4_hill_2 : decode cX4_hill 2 = .ok (.invokevirtual 147, 3) := by decide +kernel
theorem dX4_hill_5 : decode cX4_hill 5 = .ok (.istore_n 2, 1) := by decide +kernel
theorem dX4_hill_6 : decode cX4_hill 6 = .ok (.iload_n 2, 1) := by decide +kernel
theorem dX4_hill_7 : decode cX4_hill 7 = .ok (.ifCond .ge 9, 3) := by decide +kernel
theorem dX4_hill_10 : decode cX4_hill 10 = .ok (.aload_n 0, 1) := by decide +kernel
theorem dX4_hill_11 : decode cX4_hill 11 = .ok (.iload_n 2, 1) := by decide +kernel
theorem dX4_hill_12 : decode cX4_hill 12 = .ok (.invokevirtual 150, 3) := by decide +kernel
theorem dX4_hill_15 : decode cX4_hill 15 = .ok (.lreturn, 1) := by decide +kernel
theorem dX4_hill_16 : decode cX4_hill 16 = .ok (.aload_n 0, 1) := by decide +kernel
theorem dX4_hill_17 : decode cX4_hill 17 = .ok (.iconst 0, 1) := by decide +kernel
theorem dX4_hill_18 : decode cX4_hill 18 = .ok (.invokevirtual 199, 3) := by decide +kernel
theorem dX4_hill_21 : decode cX4_hill 21 = .ok (.iload_n 1, 1) := by decide +kernel
theorem dX4_hill_22 : decode cX4_hill 22 = .ok (.invokestatic 158, 3) := by decide +kernel
theorem dX4_hill_25 : decode cX4_hill 25 = .ok (.lreturn, 1) := by decide +kernel
theorem dX4_mend_0 : decode cX4_mend 0 = .ok (.iload_n 1, 1) := by decide +kernel
theorem dX4_mend_1 : decode cX4_mend 1 = .ok (.ifCond .lt 8, 3) := by decide +kernel
theorem dX4_mend_4 : decode cX4_mend 4 = .ok (.iload_n 2, 1) := by decide +kernel
theorem dX4_mend_5 : decode cX4_mend 5 = .ok (.iconst 1, 1) := by decide +kernel
theorem dX4_mend_6 : decode cX4_mend 6 = .ok (.if_icmp .ge 10, 3) := by decide +kernel
theorem dX4_mend_9 : decode cX4_mend 9 = .ok (.aload_n 0, 1) := by decide +kernel
theorem dX4_mend_10 : decode cX4_mend 10 = .ok (.bipush (-4), 2) := by decide +kernel
theorem dX4_mend_12 : decode cX4_mend 12 = .ok (.invokevirtual 65, 3) := by decide +kernel
theorem dX4_mend_15 : decode cX4_mend 15 = .ok (.ireturn, 1) := by decide +kernel
theorem dX4_mend_16 : decode cX4_mend 16 = .ok (.iload_n 1, 1) := by decide +kernel
theorem dX4_mend_17 : decode cX4_mend 17 = .ok (.sipush 999, 3) := by decide +kernel
theorem dX4_mend_20 : decode cX4_mend 20 = .ok (.if_icmp .gt 9, 3) := by decide +kernel
theorem dX4_mend_23 : decode cX4_mend 23 = .ok (.iload_n 2, 1) := by decide +kernel
theorem dX4_mend_24 : decode cX4_mend 24 = .ok (.bipush 99, 2) := by decide +kernel
theorem dX4_mend_26 : decode cX4_mend 26 = .ok (.if_icmp .le 10, 3) := by decide +kernel
theorem dX4_mend_29 : decode cX4_mend 29 = .ok (.aload_n 0, 1) := by decide +kernel
theorem dX4_mend_30 : decode cX4_mend 30 = .ok (.bipush (-6), 2) := by decide +kernel
theorem dX4_mend_32 : decode cX4_mend 32 = .ok (.invokevirtual 65, 3) := by decide +kernel
theorem dX4_mend_35 : decode cX4_mend 35 = .ok (.ireturn, 1) := by decide +kernel
theorem dX4_mend_36 : decode cX4_mend 36 = .ok (.aload_n 0, 1) := by decide +kernel
theorem dX4_mend_37 : decode cX4_mend 37 = .ok (.getfield 20, 3) := by decide +kernel
theorem dX4_mend_40 : decode cX4_mend 40 = .ok (.getfield 132, 3) := by decide +kernel
theorem dX4_mend_43 : decode cX4_mend 43 = .ok (.ifCond .ne 10, 3) := by decide +kernel
theorem dX4_mend_46 : decode cX4_mend 46 = .ok (.aload_n 0, 1) := by decide +kernel
theorem dX4_mend_47 : decode cX4_mend 47 = .ok (.bipush (-3), 2) := by decide +kernel
theorem dX4_mend_49 : decode cX4_mend 49 = .ok (.invokevirtual 65, 3) := by decide +kernel
theorem dX4_mend_52 : decode cX4_mend 52 = .ok (.ireturn, 1) := by decide +kernel
theorem dX4_mend_53 : decode cX4_mend 53 = .ok (.iload_n 2, 1) := by decide +kernel
theorem dX4_mend_54 : decode cX4_mend 54 = .ok (.i2l, 1) := by decide +kernel
theorem dX4_mend_55 : decode cX4_mend 55 = .ok (.aload_n 0, 1) := by decide +kernel
theorem dX4_mend_56 : decode cX4_mend 56 = .ok (.aload_n 0, 1) := by decide +kernel
theorem dX4_mend_57 : decode cX4_mend 57 = .ok (.getfield 20, 3) := by decide +kernel
theorem dX4_mend_60 : decode cX4_mend 60 = .ok (.getfield 132, 3) := by decide +kernel
theorem dX4_mend_63 : decode cX4_mend 63 = .ok (.iconst 1, 1) := by decide +kernel
theorem dX4_mend_64 : decode cX4_mend 64 = .ok (.isub, 1) := by decide +kernel
theorem dX4_mend_65 : decode cX4_mend 65 = .ok (.invokevirtual 199, 3) := by decide +kernel
theorem dX4_mend_68 : decode cX4_mend 68 = .ok (.lmul, 1) := by decide +kernel
theorem dX4_mend_69 : decode cX4_mend 69 = .ok (.iload_n 1, 1) := by decide +kernel
theorem dX4_mend_70 : decode cX4_mend 70 = .ok (.i2l, 1) := by decide +kernel
theorem dX4_mend_71 : decode cX4_mend 71 = .ok (.ldc2_w 183, 3) := by decide +kernel
theorem dX4_mend_74 : decode cX4_mend 74 = .ok (.lmul, 1) := by decide +kernel
theorem dX4_mend_75 : decode cX4_mend 75 = .ok (.lcmp, 1) := by decide +kernel
theorem dX4_mend_76 : decode cX4_mend 76 = .ok (.ifCond .lt 7, 3) := by decide +kernel
theorem dX4_mend_79 : decode cX4_mend 79 = .ok (.iconst 1, 1) := by decide +kernel
theorem dX4_mend_80 : decode cX4_mend 80 = .ok (.goto 4, 3) := by decide +kernel
theorem dX4_mend_83 : decode cX4_mend 83 = .ok (.iconst 0, 1) := by decide +kernel
theorem dX4_mend_84 : decode cX4_mend 84 = .ok (.ireturn, 1) := by decide +kernel
theorem dX4_mendFrom_0 : decode cX4_mendFrom 0 = .ok (.iload_n 1, 1) := by decide +kernel
theorem dX4_mendFrom_1 : decode cX4_mendFrom 1 = .ok (.ifCond .ge 10, 3) := by decide +kernel
theorem dX4_mendFrom_4 : decode cX4_mendFrom 4 = .ok (.aload_n 0, 1) := by decide +kernel
theorem dX4_mendFrom_5 : decode cX4_mendFrom 5 = .ok (.bipush (-4), 2) := by decide +kernel
theorem dX4_mendFrom_7 : decode cX4_mendFrom 7 = .ok (.invokevirtual 65, 3) := by decide +kernel
theorem dX4_mendFrom_10 : decode cX4_mendFrom 10 = .ok (.ireturn, 1) := by decide +kernel
theorem dX4_mendFrom_11 : decode cX4_mendFrom 11 = .ok (.iload_n 1, 1) := by decide +kernel
theorem dX4_mendFrom_12 : decode cX4_mendFrom 12 = .ok (.sipush 999, 3) := by decide +kernel
theorem dX4_mendFrom_15 : decode cX4_mendFrom 15 = .ok (.if_icmp .le 10, 3) := by decide +kernel
theorem dX4_mendFrom_18 : decode cX4_mendFrom 18 = .ok (.aload_n 0, 1) := by decide +kernel
theorem dX4_mendFrom_19 : decode cX4_mendFrom 19 = .ok (.bipush (-6), 2) := by decide +kernel
theorem dX4_mendFrom_21 : decode cX4_mendFrom 21 = .ok (.invokevirtual 65, 3) := by decide +kernel
theorem dX4_mendFrom_24 : decode cX4_mendFrom 24 = .ok (.ireturn, 1) := by decide +kernel
theorem dX4_mendFrom_25 : decode cX4_mendFrom 25 = .ok (.aload_n 0, 1) := by decide +kernel
theorem dX4_mendFrom_26 : decode cX4_mendFrom 26 = .ok (.getfield 20, 3) := by decide +kernel
theorem dX4_mendFrom_29 : decode cX4_mendFrom 29 = .ok (.getfield 132, 3) := by decide +kernel
theorem dX4_mendFrom_32 : decode cX4_mendFrom 32 = .ok (.ifCond .ne 10, 3) := by decide +kernel
theorem dX4_mendFrom_35 : decode cX4_mendFrom 35 = .ok (.aload_n 0, 1) := by decide +kernel
theorem dX4_mendFrom_36 : decode cX4_mendFrom 36 = .ok (.bipush (-3), 2) := by decide +kernel
theorem dX4_mendFrom_38 : decode cX4_mendFrom 38 = .ok (.invokevirtual 65, 3) := by decide +kernel
theorem dX4_mendFrom_41 : decode cX4_mendFrom 41 = .ok (.ireturn, 1) := by decide +kernel
theorem dX4_mendFrom_42 : decode cX4_mendFrom 42 = .ok (.aload_n 0, 1) := by decide +kernel
theorem dX4_mendFrom_43 : decode cX4_mendFrom 43 = .ok (.aload_n 0, 1) := by decide +kernel
theorem dX4_mendFrom_44 : decode cX4_mendFrom 44 = .ok (.getfield 20, 3) := by decide +kernel
theorem dX4_mendFrom_47 : decode cX4_mendFrom 47 = .ok (.getfield 132, 3) := by decide +kernel
theorem dX4_mendFrom_50 : decode cX4_mendFrom 50 = .ok (.iconst 1, 1) := by decide +kernel
theorem dX4_mendFrom_51 : decode cX4_mendFrom 51 = .ok (.isub, 1) := by decide +kernel
theorem dX4_mendFrom_52 : decode cX4_mendFrom 52 = .ok (.invokevirtual 199, 3) := by decide +kernel
theorem dX4_mendFrom_55 : decode cX4_mendFrom 55 = .ok (.lstore_n 2, 1) := by decide +kernel
theorem dX4_mendFrom_56 : decode cX4_mendFrom 56 = .ok (.iconst 1, 1) := by decide +kernel
theorem dX4_mendFrom_57 : decode cX4_mendFrom 57 = .ok (.istore 4, 2) := by decide +kernel
theorem dX4_mendFrom_59 : decode cX4_mendFrom 59 = .ok (.iload 4, 2) := by decide +kernel
theorem dX4_mendFrom_61 : decode cX4_mendFrom 61 = .ok (.bipush 99, 2) := by decide +kernel
theorem dX4_mendFrom_63 : decode cX4_mendFrom 63 = .ok (.if_icmp .gt 27, 3) := by decide +kernel
theorem dX4_mendFrom_66 : decode cX4_mendFrom 66 = .ok (.iload 4, 2) := by decide +kernel
theorem dX4_mendFrom_68 : decode cX4_mendFrom 68 = .ok (.i2l, 1) := by decide +kernel
theorem dX4_mendFrom_69 : decode cX4_mendFrom 69 = .ok (.lload_n 2, 1) := by decide +kernel
theorem dX4_mendFrom_70 : decode cX4_mendFrom 70 = .ok (.lmul, 1) := by decide +kernel
theorem dX4_mendFrom_71 : decode cX4_mendFrom 71 = .ok (.iload_n 1, 1) := by decide +kernel
theorem dX4_mendFrom_72 : decode cX4_mendFrom 72 = .ok (.i2l, 1) := by decide +kernel
theorem dX4_mendFrom_73 : decode cX4_mendFrom 73 = .ok (.ldc2_w 183, 3) := by decide +kernel
theorem dX4_mendFrom_76 : decode cX4_mendFrom 76 = .ok (.lmul, 1) := by decide +kernel
theorem dX4_mendFrom_77 : decode cX4_mendFrom 77 = .ok (.lcmp, 1) := by decide +kernel
theorem dX4_mendFrom_78 : decode cX4_mendFrom 78 = .ok (.ifCond .lt 6, 3) := by decide +kernel
theorem dX4_mendFrom_81 : decode cX4_mendFrom 81 = .ok (.iload 4, 2) := by decide +kernel
theorem dX4_mendFrom_83 : decode cX4_mendFrom 83 = .ok (.ireturn, 1) := by decide +kernel
theorem dX4_mendFrom_84 : decode cX4_mendFrom 84 = .ok (.iinc 4 1, 3) := by decide +kernel
theorem dX4_mendFrom_87 : decode cX4_mendFrom 87 = .ok (.goto (-28), 3) := by decide +kernel
theorem dX4_mendFrom_90 : decode cX4_mendFrom 90 = .ok (.bipush (-9), 2) := by decide +kernel
theorem dX4_mendFrom_92 : decode cX4_mendFrom 92 = .ok (.ireturn, 1) := by decide +kernel
theorem dX4_onFoot_0 : decode cX4_onFoot 0 = .ok (.aload_n 0, 1) := by decide +kernel
theorem dX4_onFoot_1 : decode cX4_onFoot 1 = .ok (.iload_n 1, 1) := by decide +kernel
theorem dX4_onFoot_2 : decode cX4_onFoot 2 = .ok (.invokevirtual 79, 3) := by decide +kernel
theorem dX4_onFoot_5 : decode cX4_onFoot 5 = .ok (.ifCond .eq 11, 3) := by decide +kernel
theorem dX4_onFoot_8 : decode cX4_onFoot 8 = .ok (.aload_n 0, 1) := by decide +kernel
theorem dX4_onFoot_9 : decode cX4_onFoot 9 = .ok (.iload_n 2, 1) := by decide +kernel
theorem dX4_onFoot_10 : decode cX4_onFoot 10 = .ok (.invokevirtual 79, 3) := by decide +kernel
theorem dX4_onFoot_13 : decode cX4_onFoot 13 = .ok (.ifCond .ne 9, 3) := by decide +kernel
theorem dX4_onFoot_16 : decode cX4_onFoot 16 = .ok (.aload_n 0, 1) := by decide +kernel
theorem dX4_onFoot_17 : decode cX4_onFoot 17 = .ok (.iconst (-1), 1) := by decide +kernel
theorem dX4_onFoot_18 : decode cX4_onFoot 18 = .ok (.invokevirtual 65, 3) := by decide +kernel
theorem dX4_onFoot_21 : decode cX4_onFoot 21 = .ok (.ireturn, 1) := by decide +kernel
theorem dX4_onFoot_22 : decode cX4_onFoot 22 = .ok (.iload_n 3, 1) := by decide +kernel
theorem dX4_onFoot_23 : decode cX4_onFoot 23 = .ok (.ifCond .lt 8, 3) := by decide +kernel
theorem dX4_onFoot_26 : decode cX4_onFoot 26 = .ok (.iload_n 3, 1) := by decide +kernel
theorem dX4_onFoot_27 : decode cX4_onFoot 27 = .ok (.iconst 1, 1) := by decide +kernel
theorem dX4_onFoot_28 : decode cX4_onFoot 28 = .ok (.if_icmp .le 10, 3) := by decide +kernel
theorem dX4_onFoot_31 : decode cX4_onFoot 31 = .ok (.aload_n 0, 1) := by decide +kernel
theorem dX4_onFoot_32 : decode cX4_onFoot 32 = .ok (.bipush (-2), 2) := by decide +kernel
theorem dX4_onFoot_34 : decode cX4_onFoot 34 = .ok (.invokevirtual 65, 3) := by decide +kernel
theorem dX4_onFoot_37 : decode cX4_onFoot 37 = .ok (.ireturn, 1) := by decide +kernel
theorem dX4_onFoot_38 : decode cX4_onFoot 38 = .ok (.bipush (-9), 2) := by decide +kernel
theorem dX4_onFoot_40 : decode cX4_onFoot 40 = .ok (.istore 4, 2) := by decide +kernel
theorem dX4_onFoot_42 : decode cX4_onFoot 42 = .ok (.bipush (-9), 2) := by decide +kernel
theorem dX4_onFoot_44 : decode cX4_onFoot 44 = .ok (.istore 5, 2) := by decide +kernel
theorem dX4_onFoot_46 : decode cX4_onFoot 46 = .ok (.iconst 0, 1) := by decide +kernel
theorem dX4_onFoot_47 : decode cX4_onFoot 47 = .ok (.istore 6, 2) := by decide +kernel
theorem dX4_onFoot_49 : decode cX4_onFoot 49 = .ok (.iload 6, 2) := by decide +kernel
theorem dX4_onFoot_51 : decode cX4_onFoot 51 = .ok (.aload_n 0, 1) := by decide +kernel
theorem dX4_onFoot_52 : decode cX4_onFoot 52 = .ok (.getfield 20, 3) := by decide +kernel
theorem dX4_onFoot_55 : decode cX4_onFoot 55 = .ok (.getfield 132, 3) := by decide +kernel
theorem dX4_onFoot_58 : decode cX4_onFoot 58 = .ok (.if_icmp .ge 60, 3) := by decide +kernel
theorem dX4_onFoot_61 : decode cX4_onFoot 61 = .ok (.aload_n 0, 1) := by decide +kernel
theorem dX4_onFoot_62 : decode cX4_onFoot 62 = .ok (.iload 6, 2) := by decide +kernel
theorem dX4_onFoot_64 : decode cX4_onFoot 64 = .ok (.iload_n 1, 1) := by decide +kernel
theorem dX4_onFoot_65 : decode cX4_onFoot 65 = .ok (.iload_n 2, 1) := by decide +kernel
theorem dX4_onFoot_66 : decode cX4_onFoot 66 = .ok (.invokevirtual 202, 3) := by decide +kernel
theorem dX4_onFoot_69 : decode cX4_onFoot 69 = .ok (.istore 7, 2) := by decide +kernel
theorem dX4_onFoot_71 : decode cX4_onFoot 71 = .ok (.iload 7, 2) := by decide +kernel
theorem dX4_onFoot_73 : decode cX4_onFoot 73 = .ok (.ifCond .lt 39, 3) := by decide +kernel
theorem dX4_onFoot_76 : decode cX4_onFoot 76 = .ok (.aload_n 0, 1) := by decide +kernel
theorem dX4_onFoot_77 : decode cX4_onFoot 77 = .ok (.getfield 20, 3) := by decide +kernel
theorem dX4_onFoot_80 : decode cX4_onFoot 80 = .ok (.iload 6, 2) := by decide +kernel
theorem dX4_onFoot_82 : decode cX4_onFoot 82 = .ok (.invokevirtual 92, 3) := by decide +kernel
theorem dX4_onFoot_85 : decode cX4_onFoot 85 = .ok (.bipush 10, 2) := by decide +kernel
theorem dX4_onFoot_87 : decode cX4_onFoot 87 = .ok (.if_icmp .ne 25, 3) := by decide +kernel
theorem dX4_onFoot_90 : decode cX4_onFoot 90 = .ok (.iload 4, 2) := by decide +kernel
theorem dX4_onFoot_92 : decode cX4_onFoot 92 = .ok (.bipush (-9), 2) := by decide +kernel
theorem dX4_onFoot_94 : decode cX4_onFoot 94 = .ok (.if_icmp .eq 10, 3) := by decide +kernel
theorem dX4_onFoot_97 : decode cX4_onFoot 97 = .ok (.iload 7, 2) := by decide +kernel
theorem dX4_onFoot_99 : decode cX4_onFoot 99 = .ok (.iload 5, 2) := by decide +kernel
theorem dX4_onFoot_101 : decode cX4_onFoot 101 = .ok (.if_icmp .ge 11, 3) := by decide +kernel
theorem dX4_onFoot_104 : decode cX4_onFoot 104 = .ok (.iload 6, 2) := by decide +kernel
theorem dX4_onFoot_106 : decode cX4_onFoot 106 = .ok (.istore 4, 2) := by decide +kernel
theorem dX4_onFoot_108 : decode cX4_onFoot 108 = .ok (.iload 7, 2) := by decide +kernel
theorem dX4_onFoot_110 : decode cX4_onFoot 110 = .ok (.istore 5, 2) := by decide +kernel
theorem dX4_onFoot_112 : decode cX4_onFoot 112 = .ok (.iinc 6 1, 3) := by decide +kernel
theorem dX4_onFoot_115 : decode cX4_onFoot 115 = .ok (.goto (-66), 3) := by decide +kernel
theorem dX4_onFoot_118 : decode cX4_onFoot 118 = .ok (.iload_n 3, 1) := by decide +kernel
theorem dX4_onFoot_119 : decode cX4_onFoot 119 = .ok (.ifCond .ne 8, 3) := by decide +kernel
theorem dX4_onFoot_122 : decode cX4_onFoot 122 = .ok (.iload 4, 2) := by decide +kernel
theorem dX4_onFoot_124 : decode cX4_onFoot 124 = .ok (.goto 5, 3) := by decide +kernel
theorem dX4_onFoot_127 : decode cX4_onFoot 127 = .ok (.iload 5, 2) := by decide +kernel
theorem dX4_onFoot_129 : decode cX4_onFoot 129 = .ok (.ireturn, 1) := by decide +kernel
theorem dX4_onTheWay_0 : decode cX4_onTheWay 0 = .ok (.aload_n 0, 1) := by decide +kernel
theorem dX4_onTheWay_1 : decode cX4_onTheWay 1 = .ok (.iload_n 1, 1) := by decide +kernel
theorem dX4_onTheWay_2 : decode cX4_onTheWay 2 = .ok (.invokevirtual 79, 3) := by decide +kernel
theorem dX4_onTheWay_5 : decode cX4_onTheWay 5 = .ok (.ifCond .eq 19, 3) := by decide +kernel
theorem dX4_onTheWay_8 : decode cX4_onTheWay 8 = .ok (.aload_n 0, 1) := by decide +kernel
theorem dX4_onTheWay_9 : decode cX4_onTheWay 9 = .ok (.iload_n 2, 1) := by decide +kernel
theorem dX4_onTheWay_10 : decode cX4_onTheWay 10 = .ok (.invokevirtual 79, 3) := by decide +kernel
theorem dX4_onTheWay_13 : decode cX4_onTheWay 13 = .ok (.ifCond .eq 11, 3) := by decide +kernel
theorem dX4_onTheWay_16 : decode cX4_onTheWay 16 = .ok (.aload_n 0, 1) := by decide +kernel
theorem dX4_onTheWay_17 : decode cX4_onTheWay 17 = .ok (.iload_n 3, 1) := by decide +kernel
theorem dX4_onTheWay_18 : decode cX4_onTheWay 18 = .ok (.invokevirtual 79, 3) := by decide +kernel
theorem dX4_onTheWay_21 : decode cX4_onTheWay 21 = .ok (.ifCond .ne 9, 3) := by decide +kernel
theorem dX4_onTheWay_24 : decode cX4_onTheWay 24 = .ok (.aload_n 0, 1) := by decide +kernel
theorem dX4_onTheWay_25 : decode cX4_onTheWay 25 = .ok (.iconst (-1), 1) := by decide +kernel
theorem dX4_onTheWay_26 : decode cX4_onTheWay 26 = .ok (.invokevirtual 65, 3) := by decide +kernel
theorem dX4_onTheWay_29 : decode cX4_onTheWay 29 = .ok (.ireturn, 1) := by decide +kernel
theorem dX4_onTheWay_30 : decode cX4_onTheWay 30 = .ok (.aload_n 0, 1) := by decide +kernel
theorem dX4_onTheWay_31 : decode cX4_onTheWay 31 = .ok (.getfield 27, 3) := by decide +kernel
theorem dX4_onTheWay_34 : decode cX4_onTheWay 34 = .ok (.iload_n 2, 1) := by decide +kernel
theorem dX4_onTheWay_35 : decode cX4_onTheWay 35 = .ok (.iload_n 1, 1) := by decide +kernel
theorem dX4_onTheWay_36 : decode cX4_onTheWay 36 = .ok (.iconst 0, 1) := by decide +kernel
theorem dX4_onTheWay_37 : decode cX4_onTheWay 37 = .ok (.invokevirtual 206, 3) := by decide +kernel
theorem dX4_onTheWay_40 : decode cX4_onTheWay 40 = .ok (.istore 4, 2) := by decide +kernel
theorem dX4_onTheWay_42 : decode cX4_onTheWay 42 = .ok (.aload_n 0, 1) := by decide +kernel
theorem dX4_onTheWay_43 : decode cX4_onTheWay 43 = .ok (.getfield 27, 3) := by decide +kernel
theorem dX4_onTheWay_46 : decode cX4_onTheWay 46 = .ok (.iload_n 1, 1) := by decide +kernel
theorem dX4_onTheWay_47 : decode cX4_onTheWay 47 = .ok (.iload_n 3, 1) := by decide +kernel
theorem dX4_onTheWay_48 : decode cX4_onTheWay 48 = .ok (.iconst 0, 1) := by decide +kernel
theorem dX4_onTheWay_49 : decode cX4_onTheWay 49 = .ok (.invokevirtual 206, 3) := by decide +kernel
theorem dX4_onTheWay_52 : decode cX4_onTheWay 52 = .ok (.istore 5, 2) := by decide +kernel
theorem dX4_onTheWay_54 : decode cX4_onTheWay 54 = .ok (.iload 4, 2) := by decide +kernel
theorem dX4_onTheWay_56 : decode cX4_onTheWay 56 = .ok (.ifCond .lt 8, 3) := by decide +kernel
theorem dX4_onTheWay_59 : decode cX4_onTheWay 59 = .ok (.iload 5, 2) := by decide +kernel
theorem dX4_onTheWay_61 : decode cX4_onTheWay 61 = .ok (.ifCond .ge 5, 3) := by decide +kernel
theorem dX4_onTheWay_64 : decode cX4_onTheWay 64 = .ok (.iconst 0, 1) := by decide +kernel
theorem dX4_onTheWay_65 : decode cX4_onTheWay 65 = .ok (.ireturn, 1) := by decide +kernel
theorem dX4_onTheWay_66 : decode cX4_onTheWay 66 = .ok (.iload 4, 2) := by decide +kernel
theorem dX4_onTheWay_68 : decode cX4_onTheWay 68 = .ok (.iload 5, 2) := by decide +kernel
theorem dX4_onTheWay_70 : decode cX4_onTheWay 70 = .ok (.iadd, 1) := by decide +kernel
theorem dX4_onTheWay_71 : decode cX4_onTheWay 71 = .ok (.aload_n 0, 1) := by decide +kernel
theorem dX4_onTheWay_72 : decode cX4_onTheWay 72 = .ok (.getfield 27, 3) := by decide +kernel
theorem dX4_onTheWay_75 : decode cX4_onTheWay 75 = .ok (.iload_n 2, 1) := by decide +kernel
theorem dX4_onTheWay_76 : decode cX4_onTheWay 76 = .ok (.iload_n 3, 1) := by decide +kernel
theorem dX4_onTheWay_77 : decode cX4_onTheWay 77 = .ok (.iconst 0, 1) := by decide +kernel
theorem dX4_onTheWay_78 : decode cX4_onTheWay 78 = .ok (.invokevirtual 206, 3) := by decide +kernel
theorem dX4_onTheWay_81 : decode cX4_onTheWay 81 = .ok (.if_icmp .ne 7, 3) := by decide +kernel
theorem dX4_onTheWay_84 : decode cX4_onTheWay 84 = .ok (.iconst 1, 1) := by decide +kernel
theorem dX4_onTheWay_85 : decode cX4_onTheWay 85 = .ok (.goto 4, 3) := by decide +kernel
theorem dX4_onTheWay_88 : decode cX4_onTheWay 88 = .ok (.iconst 0, 1) := by decide +kernel
theorem dX4_onTheWay_89 : decode cX4_onTheWay 89 = .ok (.ireturn, 1) := by decide +kernel
theorem dX4_row_0 : decode cX4_row 0 = .ok (.iload_n 1, 1) := by decide +kernel
theorem dX4_row_1 : decode cX4_row 1 = .ok (.ifCond .ge 10, 3) := by decide +kernel
theorem dX4_row_4 : decode cX4_row 4 = .ok (.aload_n 0, 1) := by decide +kernel
theorem dX4_row_5 : decode cX4_row 5 = .ok (.bipush (-4), 2) := by decide +kernel
theorem dX4_row_7 : decode cX4_row 7 = .ok (.invokevirtual 65, 3) := by decide +kernel
theorem dX4_row_10 : decode cX4_row 10 = .ok (.ireturn, 1) := by decide +kernel
theorem dX4_row_11 : decode cX4_row 11 = .ok (.iload_n 1, 1) := by decide +kernel
theorem dX4_row_12 : decode cX4_row 12 = .ok (.bipush 9, 2) := by decide +kernel
theorem dX4_row_14 : decode cX4_row 14 = .ok (.if_icmp .gt 12, 3) := by decide +kernel
theorem dX4_row_17 : decode cX4_row 17 = .ok (.aload_n 0, 1) := by decide +kernel
theorem dX4_row_18 : decode cX4_row 18 = .ok (.getfield 57, 3) := by decide +kernel
theorem dX4_row_21 : decode cX4_row 21 = .ok (.bipush 10, 2) := by decide +kernel
theorem dX4_row_23 : decode cX4_row 23 = .ok (.if_icmp .lt 10, 3) := by decide +kernel
theorem dX4_row_26 : decode cX4_row 26 = .ok (.aload_n 0, 1) := by decide +kernel
theorem dX4_row_27 : decode cX4_row 27 = .ok (.bipush (-6), 2) := by decide +kernel
theorem dX4_row_29 : decode cX4_row 29 = .ok (.invokevirtual 65, 3) := by decide +kernel
theorem dX4_row_32 : decode cX4_row 32 = .ok (.ireturn, 1) := by decide +kernel
theorem dX4_row_33 : decode cX4_row 33 = .ok (.aload_n 0, 1) := by decide +kernel
theorem dX4_row_34 : decode cX4_row 34 = .ok (.getfield 44, 3) := by decide +kernel
theorem dX4_row_37 : decode cX4_row 37 = .ok (.aload_n 0, 1) := by decide +kernel
theorem dX4_row_38 : decode cX4_row 38 = .ok (.getfield 57, 3) := by decide +kernel
theorem dX4_row_41 : decode cX4_row 41 = .ok (.iload_n 1, 1) := by decide +kernel
theorem dX4_row_42 : decode cX4_row 42 = .ok (.iastore, 1) := by decide +kernel
theorem dX4_row_43 : decode cX4_row 43 = .ok (.aload_n 0, 1) := by decide +kernel
theorem dX4_row_44 : decode cX4_row 44 = .ok (.dup, 1) := by decide +kernel
theorem dX4_row_45 : decode cX4_row 45 = .ok (.getfield 57, 3) := by decide +kernel
theorem dX4_row_48 : decode cX4_row 48 = .ok (.iconst 1, 1) := by decide +kernel
theorem dX4_row_49 : decode cX4_row 49 = .ok (.iadd, 1) := by decide +kernel
theorem dX4_row_50 : decode cX4_row 50 = .ok (.putfield 57, 3) := by decide +kernel
theorem dX4_row_53 : decode cX4_row 53 = .ok (.aload_n 0, 1) := by decide +kernel
theorem dX4_row_54 : decode cX4_row 54 = .ok (.getfield 57, 3) := by decide +kernel
theorem dX4_row_57 : decode cX4_row 57 = .ok (.ireturn, 1) := by decide +kernel
theorem dX4_clear_0 : decode cX4_clear 0 = .ok (.aload_n 0, 1) := by decide +kernel
theorem dX4_clear_1 : decode cX4_clear 1 = .ok (.getfield 57, 3) := by decide +kernel
theorem dX4_clear_4 : decode cX4_clear 4 = .ok (.istore_n 1, 1) := by decide +kernel
theorem dX4_clear_5 : decode cX4_clear 5 = .ok (.aload_n 0, 1) := by decide +kernel
theorem dX4_clear_6 : decode cX4_clear 6 = .ok (.iconst 0, 1) := by decide +kernel
theorem dX4_clear_7 : decode cX4_clear 7 = .ok (.putfield 57, 3) := by decide +kernel
theorem dX4_clear_10 : decode cX4_clear 10 = .ok (.iload_n 1, 1) := by decide +kernel
theorem dX4_clear_11 : decode cX4_clear 11 = .ok (.ireturn, 1) := by decide +kernel
theorem dX4_judge_0 : decode cX4_judge 0 = .ok (.aload_n 0, 1) := by decide +kernel
theorem dX4_judge_1 : decode cX4_judge 1 = .ok (.getfield 20, 3) := by decide +kernel
theorem dX4_judge_4 : decode cX4_judge 4 = .ok (.getfield 132, 3) := by decide +kernel
theorem dX4_judge_7 : decode cX4_judge 7 = .ok (.ifCond .ne 10, 3) := by decide +kernel
theorem dX4_judge_10 : decode cX4_judge 10 = .ok (.aload_n 0, 1) := by decide +kernel
theorem dX4_judge_11 : decode cX4_judge 11 = .ok (.bipush (-3), 2) := by decide +kernel
theorem dX4_judge_13 : decode cX4_judge 13 = .ok (.invokevirtual 65, 3) := by decide +kernel
theorem dX4_judge_16 : decode cX4_judge 16 = .ok (.ireturn, 1) := by decide +kernel
theorem dX4_judge_17 : decode cX4_judge 17 = .ok (.aload_n 0, 1) := by decide +kernel
theorem dX4_judge_18 : decode cX4_judge 18 = .ok (.invokevirtual 135, 3) := by decide +kernel
theorem dX4_judge_21 : decode cX4_judge 21 = .ok (.aload_n 0, 1) := by decide +kernel
theorem dX4_judge_22 : decode cX4_judge 22 = .ok (.getfield 10, 3) := by decide +kernel
theorem dX4_judge_25 : decode cX4_judge 25 = .ok (.getfield 141, 3) := by decide +kernel
theorem dX4_judge_28 : decode cX4_judge 28 = .ok (.istore_n 1, 1) := by decide +kernel
theorem dX4_judge_29 : decode cX4_judge 29 = .ok (.iconst 0, 1) := by decide +kernel
theorem dX4_judge_30 : decode cX4_judge 30 = .ok (.istore_n 2, 1) := by decide +kernel
theorem dX4_judge_31 : decode cX4_judge 31 = .ok (.iload_n 2, 1) := by decide +kernel
theorem dX4_judge_32 : decode cX4_judge 32 = .ok (.aload_n 0, 1) := by decide +kernel
theorem dX4_judge_33 : decode cX4_judge 33 = .ok (.getfield 57, 3) := by decide +kernel
theorem dX4_judge_36 : decode cX4_judge 36 = .ok (.if_icmp .ge 32, 3) := by decide +kernel
theorem dX4_judge_39 : decode cX4_judge 39 = .ok (.iconst 1, 1) := by decide +kernel
theorem dX4_judge_40 : decode cX4_judge 40 = .ok (.aload_n 0, 1) := by decide +kernel
theorem dX4_judge_41 : decode cX4_judge 41 = .ok (.getfield 44, 3) := by decide +kernel
theorem dX4_judge_44 : decode cX4_judge 44 = .ok (.iload_n 2, 1) := by decide +kernel
theorem dX4_judge_45 : decode cX4_judge 45 = .ok (.iaload, 1) := by decide +kernel
theorem dX4_judge_46 : decode cX4_judge 46 = .ok (.ishl, 1) := by decide +kernel
theorem dX4_judge_47 : decode cX4_judge 47 = .ok (.istore_n 3, 1) := by decide +kernel
theorem dX4_judge_48 : decode cX4_judge 48 = .ok (.iload_n 1, 1) := by decide +kernel
theorem dX4_judge_49 : decode cX4_judge 49 = .ok (.iload_n 3, 1) := by decide +kernel
theorem dX4_judge_50 : decode cX4_judge 50 = .ok (.iand, 1) := by decide +kernel
theorem dX4_judge_51 : decode cX4_judge 51 = .ok (.ifCond .ne 5, 3) := by decide +kernel
theorem dX4_judge_54 : decode cX4_judge 54 = .ok (.iload_n 2, 1) := by decide +kernel
theorem dX4_judge_55 : decode cX4_judge 55 = .ok (.ireturn, 1) := by decide +kernel
theorem dX4_judge_56 : decode cX4_judge 56 = .ok (.iload_n 1, 1) := by decide +kernel
theorem dX4_judge_57 : decode cX4_judge 57 = .ok (.iload_n 3, 1) := by decide +kernel
theorem dX4_judge_58 : decode cX4_judge 58 = .ok (.iconst (-1), 1) := by decide +kernel
theorem dX4_judge_59 : decode cX4_judge 59 = .ok (.ixor, 1) := by decide +kernel
theorem dX4_judge_60 : decode cX4_judge 60 = .ok (.iand, 1) := by decide +kernel
theorem dX4_judge_61 : decode cX4_judge 61 = .ok (.istore_n 1, 1) := by decide +kernel
theorem dX4_judge_62 : decode cX4_judge 62 = .ok (.iinc 2 1, 3) := by decide +kernel
theorem dX4_judge_65 : decode cX4_judge 65 = .ok (.goto (-34), 3) := by decide +kernel
theorem dX4_judge_68 : decode cX4_judge 68 = .ok (.bipush (-9), 2) := by decide +kernel
theorem dX4_judge_70 : decode cX4_judge 70 = .ok (.ireturn, 1) := by decide +kernel
theorem dX4_lots_0 : decode cX4_lots 0 = .ok (.iload_n 1, 1) := by decide +kernel
theorem dX4_lots_1 : decode cX4_lots 1 = .ok (.iconst 1, 1) := by decide +kernel
theorem dX4_lots_2 : decode cX4_lots 2 = .ok (.if_icmp .ge 10, 3) := by decide +kernel
theorem dX4_lots_5 : decode cX4_lots 5 = .ok (.aload_n 0, 1) := by decide +kernel
theorem dX4_lots_6 : decode cX4_lots 6 = .ok (.bipush (-4), 2) := by decide +kernel
theorem dX4_lots_8 : decode cX4_lots 8 = .ok (.invokevirtual 65, 3) := by decide +kernel
theorem dX4_lots_11 : decode cX4_lots 11 = .ok (.ireturn, 1) := by decide +kernel
theorem dX4_lots_12 : decode cX4_lots 12 = .ok (.iload_n 1, 1) := by decide +kernel
theorem dX4_lots_13 : decode cX4_lots 13 = .ok (.bipush 20, 2) := by decide +kernel
theorem dX4_lots_15 : decode cX4_lots 15 = .ok (.if_icmp .le 10, 3) := by decide +kernel
theorem dX4_lots_18 : decode cX4_lots 18 = .ok (.aload_n 0, 1) := by decide +kernel
theorem dX4_lots_19 : decode cX4_lots 19 = .ok (.bipush (-6), 2) := by decide +kernel
theorem dX4_lots_21 : decode cX4_lots 21 = .ok (.invokevirtual 65, 3) := by decide +kernel
theorem dX4_lots_24 : decode cX4_lots 24 = .ok (.ireturn, 1) := by decide +kernel
theorem dX4_lots_25 : decode cX4_lots 25 = .ok (.aload_n 0, 1) := by decide +kernel
theorem dX4_lots_26 : decode cX4_lots 26 = .ok (.getfield 20, 3) := by decide +kernel
theorem dX4_lots_29 : decode cX4_lots 29 = .ok (.getfield 132, 3) := by decide +kernel
theorem dX4_lots_32 : decode cX4_lots 32 = .ok (.ifCond .ne 10, 3) := by decide +kernel
theorem dX4_lots_35 : decode cX4_lots 35 = .ok (.aload_n 0, 1) := by decide +kernel
theorem dX4_lots_36 : decode cX4_lots 36 = .ok (.bipush (-3), 2) := by decide +kernel
theorem dX4_lots_38 : decode cX4_lots 38 = .ok (.invokevirtual 65, 3) := by decide +kernel
theorem dX4_lots_41 : decode cX4_lots 41 = .ok (.ireturn, 1) := by decide +kernel
theorem dX4_lots_42 : decode cX4_lots 42 = .ok (.aload_n 0, 1) := by decide +kernel
theorem dX4_lots_43 : decode cX4_lots 43 = .ok (.invokevirtual 135, 3) := by decide +kernel
theorem dX4_lots_46 : decode cX4_lots 46 = .ok (.aload_n 0, 1) := by decide +kernel
theorem dX4_lots_47 : decode cX4_lots 47 = .ok (.getfield 10, 3) := by decide +kernel
theorem dX4_lots_50 : decode cX4_lots 50 = .ok (.iload_n 1, 1) := by decide +kernel
theorem dX4_lots_51 : decode cX4_lots 51 = .ok (.iload_n 2, 1) := by decide +kernel
theorem dX4_lots_52 : decode cX4_lots 52 = .ok (.invokevirtual 212, 3) := by decide +kernel
theorem dX4_lots_55 : decode cX4_lots 55 = .ok (.ireturn, 1) := by decide +kernel
theorem dX4_image_0 : decode cX4_image 0 = .ok (.aload_n 0, 1) := by decide +kernel
theorem dX4_image_1 : decode cX4_image 1 = .ok (.getfield 31, 3) := by decide +kernel
theorem dX4_image_4 : decode cX4_image 4 = .ok (.aload_n 0, 1) := by decide +kernel
theorem dX4_image_5 : decode cX4_image 5 = .ok (.getfield 20, 3) := by decide +kernel
theorem dX4_image_8 : decode cX4_image 8 = .ok (.invokevirtual 215, 3) := by decide +kernel
theorem dX4_image_11 : decode cX4_image 11 = .ok (.aload_n 0, 1) := by decide +kernel
theorem dX4_image_12 : decode cX4_image 12 = .ok (.iconst 1, 1) := by decide +kernel
theorem dX4_image_13 : decode cX4_image 13 = .ok (.putfield 61, 3) := by decide +kernel
theorem dX4_image_16 : decode cX4_image 16 = .ok (.aload_n 0, 1) := by decide +kernel
theorem dX4_image_17 : decode cX4_image 17 = .ok (.getfield 20, 3) := by decide +kernel
theorem dX4_image_20 : decode cX4_image 20 = .ok (.getfield 132, 3) := by decide +kernel
theorem dX4_image_23 : decode cX4_image 23 = .ok (.ireturn, 1) := by decide +kernel
theorem dX4_on_0 : decode cX4_on 0 = .ok (.aload_n 0, 1) := by decide +kernel
theorem dX4_on_1 : decode cX4_on 1 = .ok (.getfield 61, 3) := by decide +kernel
theorem dX4_on_4 : decode cX4_on 4 = .ok (.ifCond .ne 10, 3) := by decide +kernel
theorem dX4_on_7 : decode cX4_on 7 = .ok (.aload_n 0, 1) := by decide +kernel
theorem dX4_on_8 : decode cX4_on 8 = .ok (.bipush (-3), 2) := by decide +kernel
theorem dX4_on_10 : decode cX4_on 10 = .ok (.invokevirtual 65, 3) := by decide +kernel
theorem dX4_on_13 : decode cX4_on 13 = .ok (.ireturn, 1) := by decide +kernel
theorem dX4_on_14 : decode cX4_on 14 = .ok (.aload_n 0, 1) := by decide +kernel
theorem dX4_on_15 : decode cX4_on 15 = .ok (.getfield 20, 3) := by decide +kernel
theorem dX4_on_18 : decode cX4_on 18 = .ok (.aload_n 0, 1) := by decide +kernel
theorem dX4_on_19 : decode cX4_on 19 = .ok (.getfield 31, 3) := by decide +kernel
theorem dX4_on_22 : decode cX4_on 22 = .ok (.invokevirtual 215, 3) := by decide +kernel
theorem dX4_on_25 : decode cX4_on 25 = .ok (.aload_n 0, 1) := by decide +kernel
theorem dX4_on_26 : decode cX4_on 26 = .ok (.getfield 27, 3) := by decide +kernel
theorem dX4_on_29 : decode cX4_on 29 = .ok (.aload_n 0, 1) := by decide +kernel
theorem dX4_on_30 : decode cX4_on 30 = .ok (.getfield 20, 3) := by decide +kernel
theorem dX4_on_33 : decode cX4_on 33 = .ok (.invokevirtual 219, 3) := by decide +kernel
theorem dX4_on_36 : decode cX4_on 36 = .ok (.aload_n 0, 1) := by decide +kernel
theorem dX4_on_37 : decode cX4_on 37 = .ok (.getfield 20, 3) := by decide +kernel
theorem dX4_on_40 : decode cX4_on 40 = .ok (.getfield 132, 3) := by decide +kernel
theorem dX4_on_43 : decode cX4_on 43 = .ok (.ireturn, 1) := by decide +kernel
theorem dX4_count_0 : decode cX4_count 0 = .ok (.iload_n 1, 1) := by decide +kernel
theorem dX4_count_1 : decode cX4_count 1 = .ok (.bipush 11, 2) := by decide +kernel
theorem dX4_count_3 : decode cX4_count 3 = .ok (.if_icmp .lt 19, 3) := by decide +kernel
theorem dX4_count_6 : decode cX4_count 6 = .ok (.iload_n 1, 1) := by decide +kernel
theorem dX4_count_7 : decode cX4_count 7 = .ok (.bipush 16, 2) := by decide +kernel
theorem dX4_count_9 : decode cX4_count 9 = .ok (.if_icmp .gt 13, 3) := by decide +kernel
theorem dX4_count_12 : decode cX4_count 12 = .ok (.aload_n 0, 1) := by decide +kernel
theorem dX4_count_13 : decode cX4_count 13 = .ok (.getfield 54, 3) := by decide +kernel
theorem dX4_count_16 : decode cX4_count 16 = .ok (.iload_n 1, 1) := by decide +kernel
theorem dX4_count_17 : decode cX4_count 17 = .ok (.bipush 10, 2) := by decide +kernel
theorem dX4_count_19 : decode cX4_count 19 = .ok (.isub, 1) := by decide +kernel
theorem dX4_count_20 : decode cX4_count 20 = .ok (.iaload, 1) := by decide +kernel
theorem dX4_count_21 : decode cX4_count 21 = .ok (.ireturn, 1) := by decide +kernel
theorem dX4_count_22 : decode cX4_count 22 = .ok (.iload_n 1, 1) := by decide +kernel
theorem dX4_count_23 : decode cX4_count 23 = .ok (.tableswitch 102 0 8 #[49, 57, 65, 73, 73, 73, 81, 89, 94], 49) := by decide +kernel
theorem dX4_count_72 : decode cX4_count 72 = .ok (.aload_n 0, 1) := by decide +kernel
theorem dX4_count_73 : decode cX4_count 73 = .ok (.getfield 20, 3) := by decide +kernel
theorem dX4_count_76 : decode cX4_count 76 = .ok (.getfield 132, 3) := by decide +kernel
theorem dX4_count_79 : decode cX4_count 79 = .ok (.ireturn, 1) := by decide +kernel
theorem dX4_count_80 : decode cX4_count 80 = .ok (.aload_n 0, 1) := by decide +kernel
theorem dX4_count_81 : decode cX4_count 81 = .ok (.getfield 20, 3) := by decide +kernel
theorem dX4_count_84 : decode cX4_count 84 = .ok (.getfield 222, 3) := by decide +kernel
theorem dX4_count_87 : decode cX4_count 87 = .ok (.ireturn, 1) := by decide +kernel
theorem dX4_count_88 : decode cX4_count 88 = .ok (.aload_n 0, 1) := by decide +kernel
theorem dX4_count_89 : decode cX4_count 89 = .ok (.getfield 20, 3) := by decide +kernel
theorem dX4_count_92 : decode cX4_count 92 = .ok (.getfield 98, 3) := by decide +kernel
theorem dX4_count_95 : decode cX4_count 95 = .ok (.ireturn, 1) := by decide +kernel
theorem dX4_count_96 : decode cX4_count 96 = .ok (.aload_n 0, 1) := by decide +kernel
theorem dX4_count_97 : decode cX4_count 97 = .ok (.iload_n 1, 1) := by decide +kernel
theorem dX4_count_98 : decode cX4_count 98 = .ok (.iconst 3, 1) := by decide +kernel
theorem dX4_count_99 : decode cX4_count 99 = .ok (.isub, 1) := by decide +kernel
theorem dX4_count_100 : decode cX4_count 100 = .ok (.invokevirtual 116, 3) := by decide +kernel
theorem dX4_count_103 : decode cX4_count 103 = .ok (.ireturn, 1) := by decide +kernel
theorem dX4_count_104 : decode cX4_count 104 = .ok (.aload_n 0, 1) := by decide +kernel
theorem dX4_count_105 : decode cX4_count 105 = .ok (.getfield 20, 3) := by decide +kernel
theorem dX4_count_108 : decode cX4_count 108 = .ok (.invokevirtual 225, 3) := by decide +kernel
theorem dX4_count_111 : decode cX4_count 111 = .ok (.ireturn, 1) := by decide +kernel
theorem dX4_count_112 : decode cX4_count 112 = .ok (.aload_n 0, 1) := by decide +kernel
theorem dX4_count_113 : decode cX4_count 113 = .ok (.getfield 57, 3) := by decide +kernel
theorem dX4_count_116 : decode cX4_count 116 = .ok (.ireturn, 1) := by decide +kernel
theorem dX4_count_117 : decode cX4_count 117 = .ok (.aload_n 0, 1) := by decide +kernel
theorem dX4_count_118 : decode cX4_count 118 = .ok (.getfield 40, 3) := by decide +kernel
theorem dX4_count_121 : decode cX4_count 121 = .ok (.getfield 69, 3) := by decide +kernel
theorem dX4_count_124 : decode cX4_count 124 = .ok (.ireturn, 1) := by decide +kernel
theorem dX4_count_125 : decode cX4_count 125 = .ok (.bipush (-9), 2) := by decide +kernel
theorem dX4_count_127 : decode cX4_count 127 = .ok (.ireturn, 1) := by decide +kernel
theorem dX4_refuse_0 : decode cX4_refuse 0 = .ok (.iload_n 1, 1) := by decide +kernel
theorem dX4_refuse_1 : decode cX4_refuse 1 = .ok (.ineg, 1) := by decide +kernel
theorem dX4_refuse_2 : decode cX4_refuse 2 = .ok (.istore_n 2, 1) := by decide +kernel
theorem dX4_refuse_3 : decode cX4_refuse 3 = .ok (.iload_n 2, 1) := by decide +kernel
theorem dX4_refuse_4 : decode cX4_refuse 4 = .ok (.iconst 1, 1) := by decide +kernel
theorem dX4_refuse_5 : decode cX4_refuse 5 = .ok (.if_icmp .lt 22, 3) := by decide +kernel
theorem dX4_refuse_8 : decode cX4_refuse 8 = .ok (.iload_n 2, 1) := by decide +kernel
theorem dX4_refuse_9 : decode cX4_refuse 9 = .ok (.aload_n 0, 1) := by decide +kernel
theorem dX4_refuse_10 : decode cX4_refuse 10 = .ok (.getfield 54, 3) := by decide +kernel
theorem dX4_refuse_13 : decode cX4_refuse 13 = .ok (.arraylength, 1) := by decide +kernel
theorem dX4_refuse_14 : decode cX4_refuse 14 = .ok (.if_icmp .ge 13, 3) := by decide +kernel
theorem dX4_refuse_17 : decode cX4_refuse 17 = .ok (.aload_n 0, 1) := by decide +kernel
theorem dX4_refuse_18 : decode cX4_refuse 18 = .ok (.getfield 54, 3) := by decide +kernel
theorem dX4_refuse_21 : decode cX4_refuse 21 = .ok (.iload_n 2, 1) := by decide +kernel
theorem dX4_refuse_22 : decode cX4_refuse 22 = .ok (.dup2, 1) := by decide +kernel
theorem dX4_refuse_23 : decode cX4_refuse 23 = .ok (.iaload, 1) := by decide +kernel
theorem dX4_refuse_24 : decode cX4_refuse 24 = .ok (.iconst 1, 1) := by decide +kernel
theorem dX4_refuse_25 : decode cX4_refuse 25 = .ok (.iadd, 1) := by decide +kernel
theorem dX4_refuse_26 : decode cX4_refuse 26 = .ok (.iastore, 1) := by decide +kernel
theorem dX4_refuse_27 : decode cX4_refuse 27 = .ok (.iload_n 1, 1) := by decide +kernel
theorem dX4_refuse_28 : decode cX4_refuse 28 = .ok (.ireturn, 1) := by decide +kernel
theorem dX4_refuseLong_0 : decode cX4_refuseLong 0 = .ok (.ldc2_w 228, 3) := by decide +kernel
theorem dX4_refuseLong_3 : decode cX4_refuseLong 3 = .ok (.aload_n 0, 1) := by decide +kernel
theorem dX4_refuseLong_4 : decode cX4_refuseLong 4 = .ok (.iload_n 1, 1) := by decide +kernel
theorem dX4_refuseLong_5 : decode cX4_refuseLong 5 = .ok (.invokevirtual 65, 3) := by decide +kernel
theorem dX4_refuseLong_8 : decode cX4_refuseLong 8 = .ok (.i2l, 1) := by decide +kernel
theorem dX4_refuseLong_9 : decode cX4_refuseLong 9 = .ok (.lsub, 1) := by decide +kernel
theorem dX4_refuseLong_10 : decode cX4_refuseLong 10 = .ok (.lreturn, 1) := by decide +kernel
theorem dX4_refusalOfPart_0 : decode cX4_refusalOfPart 0 = .ok (.iload_n 1, 1) := by decide +kernel
theorem dX4_refusalOfPart_1 : decode cX4_refusalOfPart 1 = .ok (.ifCond .lt 8, 3) := by decide +kernel
theorem dX4_refusalOfPart_4 : decode cX4_refusalOfPart 4 = .ok (.iload_n 1, 1) := by decide +kernel
theorem dX4_refusalOfPart_5 : decode cX4_refusalOfPart 5 = .ok (.iconst 1, 1) := by decide +kernel
theorem dX4_refusalOfPart_6 : decode cX4_refusalOfPart 6 = .ok (.if_icmp .le 6, 3) := by decide +kernel
theorem dX4_refusalOfPart_9 : decode cX4_refusalOfPart 9 = .ok (.bipush (-2), 2) := by decide +kernel
theorem dX4_refusalOfPart_11 : decode cX4_refusalOfPart 11 = .ok (.ireturn, 1) := by decide +kernel
theorem dX4_refusalOfPart_12 : decode cX4_refusalOfPart 12 = .ok (.aload_n 0, 1) := by decide +kernel
theorem dX4_refusalOfPart_13 : decode cX4_refusalOfPart 13 = .ok (.getfield 20, 3) := by decide +kernel
theorem dX4_refusalOfPart_16 : decode cX4_refusalOfPart 16 = .ok (.getfield 132, 3) := by decide +kernel
theorem dX4_refusalOfPart_19 : decode cX4_refusalOfPart 19 = .ok (.ifCond .ne 8, 3) := by decide +kernel
theorem dX4_refusalOfPart_22 : decode cX4_refusalOfPart 22 = .ok (.bipush (-3), 2) := by decide +kernel
theorem dX4_refusalOfPart_24 : decode cX4_refusalOfPart 24 = .ok (.goto 4, 3) := by decide +kernel
theorem dX4_refusalOfPart_27 : decode cX4_refusalOfPart 27 = .ok (.iconst 0, 1) := by decide +kernel
theorem dX4_refusalOfPart_28 : decode cX4_refusalOfPart 28 = .ok (.ireturn, 1) := by decide +kernel
theorem dX4_refusalOfBest_0 : decode cX4_refusalOfBest 0 = .ok (.iload_n 1, 1) := by decide +kernel
theorem dX4_refusalOfBest_1 : decode cX4_refusalOfBest 1 = .ok (.ifCond .lt 8, 3) := by decide +kernel
theorem dX4_refusalOfBest_4 : decode cX4_refusalOfBest 4 = .ok (.iload_n 1, 1) := by decide +kernel
theorem dX4_refusalOfBest_5 : decode cX4_refusalOfBest 5 = .ok (.iconst 2, 1) := by decide +kernel
theorem dX4_refusalOfBest_6 : decode cX4_refusalOfBest 6 = .ok (.if_icmp .le 6, 3) := by decide +kernel
theorem dX4_refusalOfBest_9 : decode cX4_refusalOfBest 9 = .ok (.bipush (-2), 2) := by decide +kernel
theorem dX4_refusalOfBest_11 : decode cX4_refusalOfBest 11 = .ok (.ireturn, 1) := by decide +kernel
theorem dX4_refusalOfBest_12 : decode cX4_refusalOfBest 12 = .ok (.aload_n 0, 1) := by decide +kernel
theorem dX4_refusalOfBest_13 : decode cX4_refusalOfBest 13 = .ok (.getfield 20, 3) := by decide +kernel
theorem dX4_refusalOfBest_16 : decode cX4_refusalOfBest 16 = .ok (.getfield 132, 3) := by decide +kernel
theorem dX4_refusalOfBest_19 : decode cX4_refusalOfBest 19 = .ok (.ifCond .ne 8, 3) := by decide +kernel
theorem dX4_refusalOfBest_22 : decode cX4_refusalOfBest 22 = .ok (.bipush (-3), 2) := by decide +kernel
theorem dX4_refusalOfBest_24 : decode cX4_refusalOfBest 24 = .ok (.goto 4, 3) := by decide +kernel
theorem dX4_refusalOfBest_27 : decode cX4_refusalOfBest 27 = .ok (.iconst 0, 1) := by decide +kernel
theorem dX4_refusalOfBest_28 : decode cX4_refusalOfBest 28 = .ok (.ireturn, 1) := by decide +kernel
theorem dX4_refusalOfBestPart_0 : decode cX4_refusalOfBestPart 0 = .ok (.iload_n 1, 1) := by decide +kernel
theorem dX4_refusalOfBestPart_1 : decode cX4_refusalOfBestPart 1 = .ok (.ifCond .lt 8, 3) := by decide +kernel
theorem dX4_refusalOfBestPart_4 : decode cX4_refusalOfBestPart 4 = .ok (.iload_n 1, 1) := by decide +kernel
theorem dX4_refusalOfBestPart_5 : decode cX4_refusalOfBestPart 5 = .ok (.iconst 2, 1) := by decide +kernel
theorem dX4_refusalOfBestPart_6 : decode cX4_refusalOfBestPart 6 = .ok (.if_icmp .le 6, 3) := by decide +kernel
theorem dX4_refusalOfBestPart_9 : decode cX4_refusalOfBestPart 9 = .ok (.bipush (-2), 2) := by decide +kernel
theorem dX4_refusalOfBestPart_11 : decode cX4_refusalOfBestPart 11 = .ok (.ireturn, 1) := by decide +kernel
theorem dX4_refusalOfBestPart_12 : decode cX4_refusalOfBestPart 12 = .ok (.aload_n 0, 1) := by decide +kernel
theorem dX4_refusalOfBestPart_13 : decode cX4_refusalOfBestPart 13 = .ok (.iload_n 2, 1) := by decide +kernel
theorem dX4_refusalOfBestPart_14 : decode cX4_refusalOfBestPart 14 = .ok (.invokevirtual 147, 3) := by decide +kernel
theorem dX4_refusalOfBestPart_17 : decode cX4_refusalOfBestPart 17 = .ok (.ireturn, 1) := by decide +kernel
theorem dX4_isPlace_0 : decode cX4_isPlace 0 = .ok (.iload_n 1, 1) := by decide +kernel
theorem dX4_isPlace_1 : decode cX4_isPlace 1 = .ok (.ifCond .lt 18, 3) := by decide +kernel
theorem dX4_isPlace_4 : decode cX4_isPlace 4 = .ok (.iload_n 1, 1) := by decide +kernel
theorem dX4_isPlace_5 : decode cX4_isPlace 5 = .ok (.aload_n 0, 1) := by decide +kernel
theorem dX4_isPlace_6 : decode cX4_isPlace 6 = .ok (.getfield 20, 3) := by decide +kernel
theorem dX4_isPlace_9 : decode cX4_isPlace 9 = .ok (.getfield 132, 3) := by decide +kernel
theorem dX4_isPlace_12 : decode cX4_isPlace 12 = .ok (.if_icmp .ge 7, 3) := by decide +kernel
theorem dX4_isPlace_15 : decode cX4_isPlace 15 = .ok (.iconst 1, 1) := by decide +kernel
theorem dX4_isPlace_16 : decode cX4_isPlace 16 = .ok (.goto 4, 3) := by decide +kernel
theorem dX4_isPlace_19 : decode cX4_isPlace 19 = .ok (.iconst 0, 1) := by decide +kernel
theorem dX4_isPlace_20 : decode cX4_isPlace 20 = .ok (.ireturn, 1) := by decide +kernel
theorem dX4_mostOfSetting_0 : decode cX4_mostOfSetting 0 = .ok (.iload_n 0, 1) := by decide +kernel
theorem dX4_mostOfSetting_1 : decode cX4_mostOfSetting 1 = .ok (.ifCond .ne 6, 3) := by decide +kernel
theorem dX4_mostOfSetting_4 : decode cX4_mostOfSetting 4 = .ok (.bipush 9, 2) := by decide +kernel
theorem dX4_mostOfSetting_6 : decode cX4_mostOfSetting 6 = .ok (.ireturn, 1) := by decide +kernel
theorem dX4_mostOfSetting_7 : decode cX4_mostOfSetting 7 = .ok (.iload_n 0, 1) := by decide +kernel
theorem dX4_mostOfSetting_8 : decode cX4_mostOfSetting 8 = .ok (.iconst 1, 1) := by decide +kernel
theorem dX4_mostOfSetting_9 : decode cX4_mostOfSetting 9 = .ok (.if_icmp .ne 8, 3) := by decide +kernel
theorem dX4_mostOfSetting_12 : decode cX4_mostOfSetting 12 = .ok (.bipush 60, 2) := by decide +kernel
theorem dX4_mostOfSetting_14 : decode cX4_mostOfSetting 14 = .ok (.goto 4, 3) := by decide +kernel
theorem dX4_mostOfSetting_17 : decode cX4_mostOfSetting 17 = .ok (.iconst 5, 1) := by decide +kernel
theorem dX4_mostOfSetting_18 : decode cX4_mostOfSetting 18 = .ok (.ireturn, 1) := by decide +kernel
theorem dX4_settingOf_0 : decode cX4_settingOf 0 = .ok (.iload_n 1, 1) := by decide +kernel
theorem dX4_settingOf_1 : decode cX4_settingOf 1 = .ok (.ifCond .ne 11, 3) := by decide +kernel
theorem dX4_settingOf_4 : decode cX4_settingOf 4 = .ok (.aload_n 0, 1) := by decide +kernel
theorem dX4_settingOf_5 : decode cX4_settingOf 5 = .ok (.getfield 20, 3) := by decide +kernel
theorem dX4_settingOf_8 : decode cX4_settingOf 8 = .ok (.getfield 119, 3) := by decide +kernel
theorem dX4_settingOf_11 : decode cX4_settingOf 11 = .ok (.ireturn, 1) := by decide +kernel
theorem dX4_settingOf_12 : decode cX4_settingOf 12 = .ok (.iload_n 1, 1) := by decide +kernel
theorem dX4_settingOf_13 : decode cX4_settingOf 13 = .ok (.iconst 1, 1) := by decide +kernel
theorem dX4_settingOf_14 : decode cX4_settingOf 14 = .ok (.if_icmp .ne 13, 3) := by decide +kernel
theorem dX4_settingOf_17 : decode cX4_settingOf 17 = .ok (.aload_n 0, 1) := by decide +kernel
theorem dX4_settingOf_18 : decode cX4_settingOf 18 = .ok (.getfield 20, 3) := by decide +kernel
theorem dX4_settingOf_21 : decode cX4_settingOf 21 = .ok (.getfield 122, 3) := by decide +kernel
theorem dX4_settingOf_24 : decode cX4_settingOf 24 = .ok (.goto 10, 3) := by decide +kernel
theorem dX4_settingOf_27 : decode cX4_settingOf 27 = .ok (.aload_n 0, 1) := by decide +kernel
theorem dX4_settingOf_28 : decode cX4_settingOf 28 = .ok (.getfield 20, 3) := by decide +kernel
theorem dX4_settingOf_31 : decode cX4_settingOf 31 = .ok (.getfield 125, 3) := by decide +kernel
theorem dX4_settingOf_34 : decode cX4_settingOf 34 = .ok (.ireturn, 1) := by decide +kernel
theorem dX4_tellTown_0 : decode cX4_tellTown 0 = .ok (.aload_n 0, 1) := by decide +kernel
theorem dX4_tellTown_1 : decode cX4_tellTown 1 = .ok (.getfield 40, 3) := by decide +kernel
theorem dX4_tellTown_4 : decode cX4_tellTown 4 = .ok (.invokevirtual 230, 3) := by decide +kernel
theorem dX4_tellTown_7 : decode cX4_tellTown 7 = .ok (.istore_n 1, 1) := by decide +kernel
theorem dX4_tellTown_8 : decode cX4_tellTown 8 = .ok (.iload_n 1, 1) := by decide +kernel
theorem dX4_tellTown_9 : decode cX4_tellTown 9 = .ok (.ifCond .lt 9, 3) := by decide +kernel
theorem dX4_tellTown_12 : decode cX4_tellTown 12 = .ok (.sipush (-1000), 3) := by decide +kernel
theorem dX4_tellTown_15 : decode cX4_tellTown 15 = .ok (.iload_n 1, 1) := by decide +kernel
theorem dX4_tellTown_16 : decode cX4_tellTown 16 = .ok (.isub, 1) := by decide +kernel
theorem dX4_tellTown_17 : decode cX4_tellTown 17 = .ok (.ireturn, 1) := by decide +kernel
theorem dX4_tellTown_18 : decode cX4_tellTown 18 = .ok (.aload_n 0, 1) := by decide +kernel
theorem dX4_tellTown_19 : decode cX4_tellTown 19 = .ok (.getfield 34, 3) := by decide +kernel
theorem dX4_tellTown_22 : decode cX4_tellTown 22 = .ok (.aload_n 0, 1) := by decide +kernel
theorem dX4_tellTown_23 : decode cX4_tellTown 23 = .ok (.getfield 20, 3) := by decide +kernel
theorem dX4_tellTown_26 : decode cX4_tellTown 26 = .ok (.invokevirtual 215, 3) := by decide +kernel
theorem dX4_tellTown_29 : decode cX4_tellTown 29 = .ok (.aload_n 0, 1) := by decide +kernel
theorem dX4_tellTown_30 : decode cX4_tellTown 30 = .ok (.getfield 40, 3) := by decide +kernel
theorem dX4_tellTown_33 : decode cX4_tellTown 33 = .ok (.aload_n 0, 1) := by decide +kernel
theorem dX4_tellTown_34 : decode cX4_tellTown 34 = .ok (.getfield 34, 3) := by decide +kernel
theorem dX4_tellTown_37 : decode cX4_tellTown 37 = .ok (.invokevirtual 233, 3) := by decide +kernel
theorem dX4_tellTown_40 : decode cX4_tellTown 40 = .ok (.istore_n 2, 1) := by decide +kernel
theorem dX4_tellTown_41 : decode cX4_tellTown 41 = .ok (.iload_n 2, 1) := by decide +kernel
theorem dX4_tellTown_42 : decode cX4_tellTown 42 = .ok (.ifCond .lt 9, 3) := by decide +kernel
theorem dX4_tellTown_45 : decode cX4_tellTown 45 = .ok (.sipush (-2000), 3) := by decide +kernel
theorem dX4_tellTown_48 : decode cX4_tellTown 48 = .ok (.iload_n 2, 1) := by decide +kernel
theorem dX4_tellTown_49 : decode cX4_tellTown 49 = .ok (.isub, 1) := by decide +kernel
theorem dX4_tellTown_50 : decode cX4_tellTown 50 = .ok (.ireturn, 1) := by decide +kernel
theorem dX4_tellTown_51 : decode cX4_tellTown 51 = .ok (.aload_n 0, 1) := by decide +kernel
theorem dX4_tellTown_52 : decode cX4_tellTown 52 = .ok (.getfield 20, 3) := by decide +kernel
theorem dX4_tellTown_55 : decode cX4_tellTown 55 = .ok (.aload_n 0, 1) := by decide +kernel
theorem dX4_tellTown_56 : decode cX4_tellTown 56 = .ok (.getfield 34, 3) := by decide +kernel
theorem dX4_tellTown_59 : decode cX4_tellTown 59 = .ok (.invokevirtual 215, 3) := by decide +kernel
theorem dX4_tellTown_62 : decode cX4_tellTown 62 = .ok (.aload_n 0, 1) := by decide +kernel
theorem dX4_tellTown_63 : decode cX4_tellTown 63 = .ok (.getfield 27, 3) := by decide +kernel
theorem dX4_tellTown_66 : decode cX4_tellTown 66 = .ok (.aload_n 0, 1) := by decide +kernel
theorem dX4_tellTown_67 : decode cX4_tellTown 67 = .ok (.getfield 20, 3) := by decide +kernel
theorem dX4_tellTown_70 : decode cX4_tellTown 70 = .ok (.invokevirtual 219, 3) := by decide +kernel
theorem dX4_tellTown_73 : decode cX4_tellTown 73 = .ok (.aload_n 0, 1) := by decide +kernel
theorem dX4_tellTown_74 : decode cX4_tellTown 74 = .ok (.getfield 40, 3) := by decide +kernel
theorem dX4_tellTown_77 : decode cX4_tellTown 77 = .ok (.invokevirtual 237, 3) := by decide +kernel
theorem dX4_tellTown_80 : decode cX4_tellTown 80 = .ok (.ireturn, 1) := by decide +kernel
theorem dX4_between_0 : decode cX4_between 0 = .ok (.aload_n 0, 1) := by decide +kernel
theorem dX4_between_1 : decode cX4_between 1 = .ok (.iload_n 1, 1) := by decide +kernel
theorem dX4_between_2 : decode cX4_between 2 = .ok (.invokevirtual 79, 3) := by decide +kernel
theorem dX4_between_5 : decode cX4_between 5 = .ok (.ifCond .eq 11, 3) := by decide +kernel
theorem dX4_between_8 : decode cX4_between 8 = .ok (.aload_n 0, 1) := by decide +kernel
theorem dX4_between_9 : decode cX4_between 9 = .ok (.iload_n 2, 1) := by decide +kernel
theorem dX4_between_10 : decode cX4_between 10 = .ok (.invokevirtual 79, 3) := by decide +kernel
theorem dX4_between_13 : decode cX4_between 13 = .ok (.ifCond .ne 9, 3) := by decide +kernel
theorem dX4_between_16 : decode cX4_between 16 = .ok (.aload_n 0, 1) := by decide +kernel
theorem dX4_between_17 : decode cX4_between 17 = .ok (.iconst (-1), 1) := by decide +kernel
theorem dX4_between_18 : decode cX4_between 18 = .ok (.invokevirtual 65, 3) := by decide +kernel
theorem dX4_between_21 : decode cX4_between 21 = .ok (.ireturn, 1) := by decide +kernel
theorem dX4_between_22 : decode cX4_between 22 = .ok (.iload_n 3, 1) := by decide +kernel
theorem dX4_between_23 : decode cX4_between 23 = .ok (.ifCond .lt 8, 3) := by decide +kernel
theorem dX4_between_26 : decode cX4_between 26 = .ok (.iload_n 3, 1) := by decide +kernel
theorem dX4_between_27 : decode cX4_between 27 = .ok (.iconst 1, 1) := by decide +kernel
theorem dX4_between_28 : decode cX4_between 28 = .ok (.if_icmp .le 10, 3) := by decide +kernel
theorem dX4_between_31 : decode cX4_between 31 = .ok (.aload_n 0, 1) := by decide +kernel
theorem dX4_between_32 : decode cX4_between 32 = .ok (.bipush (-2), 2) := by decide +kernel
theorem dX4_between_34 : decode cX4_between 34 = .ok (.invokevirtual 65, 3) := by decide +kernel
theorem dX4_between_37 : decode cX4_between 37 = .ok (.ireturn, 1) := by decide +kernel
theorem dX4_between_38 : decode cX4_between 38 = .ok (.iload_n 3, 1) := by decide +kernel
theorem dX4_between_39 : decode cX4_between 39 = .ok (.ifCond .ne 17, 3) := by decide +kernel
theorem dX4_between_42 : decode cX4_between 42 = .ok (.aload_n 0, 1) := by decide +kernel
theorem dX4_between_43 : decode cX4_between 43 = .ok (.getfield 27, 3) := by decide +kernel
theorem dX4_between_46 : decode cX4_between 46 = .ok (.iload_n 1, 1) := by decide +kernel
theorem dX4_between_47 : decode cX4_between 47 = .ok (.iload_n 2, 1) := by decide +kernel
theorem dX4_between_48 : decode cX4_between 48 = .ok (.iload 4, 2) := by decide +kernel
theorem dX4_between_50 : decode cX4_between 50 = .ok (.invokevirtual 206, 3) := by decide +kernel
theorem dX4_between_53 : decode cX4_between 53 = .ok (.goto 14, 3) := by decide +kernel
theorem dX4_between_56 : decode cX4_between 56 = .ok (.aload_n 0, 1) := by decide +kernel
theorem dX4_between_57 : decode cX4_between 57 = .ok (.getfield 27, 3) := by decide +kernel
theorem dX4_between_60 : decode cX4_between 60 = .ok (.iload_n 1, 1) := by decide +kernel
theorem dX4_between_61 : decode cX4_between 61 = .ok (.iload_n 2, 1) := by decide +kernel
theorem dX4_between_62 : decode cX4_between 62 = .ok (.iload 4, 2) := by decide +kernel
theorem dX4_between_64 : decode cX4_between 64 = .ok (.invokevirtual 240, 3) := by decide +kernel
theorem dX4_between_67 : decode cX4_between 67 = .ok (.ireturn, 1) := by decide +kernel
theorem dX4_walkedFrom_0 : decode cX4_walkedFrom 0 = .ok (.aload_n 0, 1) := by decide +kernel
theorem dX4_walkedFrom_1 : decode cX4_walkedFrom 1 = .ok (.getfield 27, 3) := by decide +kernel
theorem dX4_walkedFrom_4 : decode cX4_walkedFrom 4 = .ok (.iload_n 1, 1) := by decide +kernel
theorem dX4_walkedFrom_5 : decode cX4_walkedFrom 5 = .ok (.iload_n 2, 1) := by decide +kernel
theorem dX4_walkedFrom_6 : decode cX4_walkedFrom 6 = .ok (.iconst 0, 1) := by decide +kernel
theorem dX4_walkedFrom_7 : decode cX4_walkedFrom 7 = .ok (.invokevirtual 206, 3) := by decide +kernel
theorem dX4_walkedFrom_10 : decode cX4_walkedFrom 10 = .ok (.istore 4, 2) := by decide +kernel
theorem dX4_walkedFrom_12 : decode cX4_walkedFrom 12 = .ok (.aload_n 0, 1) := by decide +kernel
theorem dX4_walkedFrom_13 : decode cX4_walkedFrom 13 = .ok (.getfield 27, 3) := by decide +kernel
theorem dX4_walkedFrom_16 : decode cX4_walkedFrom 16 = .ok (.iload_n 1, 1) := by decide +kernel
theorem dX4_walkedFrom_17 : decode cX4_walkedFrom 17 = .ok (.iload_n 3, 1) := by decide +kernel
theorem dX4_walkedFrom_18 : decode cX4_walkedFrom 18 = .ok (.iconst 0, 1) := by decide +kernel
theorem dX4_walkedFrom_19 : decode cX4_walkedFrom 19 = .ok (.invokevirtual 206, 3) := by decide +kernel
theorem dX4_walkedFrom_22 : decode cX4_walkedFrom 22 = .ok (.istore 5, 2) := by decide +kernel
theorem dX4_walkedFrom_24 : decode cX4_walkedFrom 24 = .ok (.iload 4, 2) := by decide +kernel
theorem dX4_walkedFrom_26 : decode cX4_walkedFrom 26 = .ok (.ifCond .lt 8, 3) := by decide +kernel
theorem dX4_walkedFrom_29 : decode cX4_walkedFrom 29 = .ok (.iload 5, 2) := by decide +kernel
theorem dX4_walkedFrom_31 : decode cX4_walkedFrom 31 = .ok (.ifCond .ge 6, 3) := by decide +kernel
theorem dX4_walkedFrom_34 : decode cX4_walkedFrom 34 = .ok (.bipush (-9), 2) := by decide +kernel
theorem dX4_walkedFrom_36 : decode cX4_walkedFrom 36 = .ok (.ireturn, 1) := by decide +kernel
theorem dX4_walkedFrom_37 : decode cX4_walkedFrom 37 = .ok (.iconst 5, 1) := by decide +kernel
theorem dX4_walkedFrom_38 : decode cX4_walkedFrom 38 = .ok (.iconst 2, 1) := by decide +kernel
theorem dX4_walkedFrom_39 : decode cX4_walkedFrom 39 = .ok (.iload 4, 2) := by decide +kernel
theorem dX4_walkedFrom_41 : decode cX4_walkedFrom 41 = .ok (.imul, 1) := by decide +kernel
theorem dX4_walkedFrom_42 : decode cX4_walkedFrom 42 = .ok (.iconst 2, 1) := by decide +kernel
theorem dX4_walkedFrom_43 : decode cX4_walkedFrom 43 = .ok (.iload 5, 2) := by decide +kernel
theorem dX4_walkedFrom_45 : decode cX4_walkedFrom 45 = .ok (.imul, 1) := by decide +kernel
theorem dX4_walkedFrom_46 : decode cX4_walkedFrom 46 = .ok (.iadd, 1) := by decide +kernel
theorem dX4_walkedFrom_47 : decode cX4_walkedFrom 47 = .ok (.imul, 1) := by decide +kernel
theorem dX4_walkedFrom_48 : decode cX4_walkedFrom 48 = .ok (.ireturn, 1) := by decide +kernel
theorem dX4_orderOfRow_0 : decode cX4_orderOfRow 0 = .ok (.iconst 0, 1) := by decide +kernel
theorem dX4_orderOfRow_1 : decode cX4_orderOfRow 1 = .ok (.istore_n 2, 1) := by decide +kernel
theorem dX4_orderOfRow_2 : decode cX4_orderOfRow 2 = .ok (.iconst 0, 1) := by decide +kernel
theorem dX4_orderOfRow_3 : decode cX4_orderOfRow 3 = .ok (.istore_n 3, 1) := by decide +kernel
theorem dX4_orderOfRow_4 : decode cX4_orderOfRow 4 = .ok (.iconst 0, 1) := by decide +kernel
theorem dX4_orderOfRow_5 : decode cX4_orderOfRow 5 = .ok (.istore 4, 2) := by decide +kernel
theorem dX4_orderOfRow_7 : decode cX4_orderOfRow 7 = .ok (.iload 4, 2) := by decide +kernel
theorem dX4_orderOfRow_9 : decode cX4_orderOfRow 9 = .ok (.aload_n 0, 1) := by decide +kernel
theorem dX4_orderOfRow_10 : decode cX4_orderOfRow 10 = .ok (.getfield 57, 3) := by decide +kernel
theorem dX4_orderOfRow_13 : decode cX4_orderOfRow 13 = .ok (.if_icmp .ge 74, 3) := by decide +kernel
theorem dX4_orderOfRow_16 : decode cX4_orderOfRow 16 = .ok (.aload_n 0, 1) := by decide +kernel
theorem dX4_orderOfRow_17 : decode cX4_orderOfRow 17 = .ok (.getfield 44, 3) := by decide +kernel
theorem dX4_orderOfRow_20 : decode cX4_orderOfRow 20 = .ok (.iload 4, 2) := by decide +kernel
theorem dX4_orderOfRow_22 : decode cX4_orderOfRow 22 = .ok (.iaload, 1) := by decide +kernel
theorem dX4_orderOfRow_23 : decode cX4_orderOfRow 23 = .ok (.istore 5, 2) := by decide +kernel
theorem dX4_orderOfRow_25 : decode cX4_orderOfRow 25 = .ok (.iconst 1, 1) := by decide +kernel
theorem dX4_orderOfRow_26 : decode cX4_orderOfRow 26 = .ok (.iload 5, 2) := by decide +kernel
theorem dX4_orderOfRow_28 : decode cX4_orderOfRow 28 = .ok (.ishl, 1) := by decide +kernel
theorem dX4_orderOfRow_29 : decode cX4_orderOfRow 29 = .ok (.istore 6, 2) := by decide +kernel
theorem dX4_orderOfRow_31 : decode cX4_orderOfRow 31 = .ok (.iload 5, 2) := by decide +kernel
theorem dX4_orderOfRow_33 : decode cX4_orderOfRow 33 = .ok (.aload_n 0, 1) := by decide +kernel
theorem dX4_orderOfRow_34 : decode cX4_orderOfRow 34 = .ok (.getfield 20, 3) := by decide +kernel
theorem dX4_orderOfRow_37 : decode cX4_orderOfRow 37 = .ok (.getfield 98, 3) := by decide +kernel
theorem dX4_orderOfRow_40 : decode cX4_orderOfRow 40 = .ok (.if_icmp .ge 41, 3) := by decide +kernel
theorem dX4_orderOfRow_43 : decode cX4_orderOfRow 43 = .ok (.iload 5, 2) := by decide +kernel
theorem dX4_orderOfRow_45 : decode cX4_orderOfRow 45 = .ok (.iload_n 1, 1) := by decide +kernel
theorem dX4_orderOfRow_46 : decode cX4_orderOfRow 46 = .ok (.if_icmp .eq 35, 3) := by decide +kernel
theorem dX4_orderOfRow_49 : decode cX4_orderOfRow 49 = .ok (.iload_n 3, 1) := by decide +kernel
theorem dX4_orderOfRow_50 : decode cX4_orderOfRow 50 = .ok (.iload 6, 2) := by decide +kernel
theorem dX4_orderOfRow_52 : decode cX4_orderOfRow 52 = .ok (.iand, 1) := by decide +kernel
theorem dX4_orderOfRow_53 : decode cX4_orderOfRow 53 = .ok (.ifCond .ne 28, 3) := by decide +kernel
theorem dX4_orderOfRow_56 : decode cX4_orderOfRow 56 = .ok (.iload_n 2, 1) := by decide +kernel
theorem dX4_orderOfRow_57 : decode cX4_orderOfRow 57 = .ok (.aload_n 0, 1) := by decide +kernel
theorem dX4_orderOfRow_58 : decode cX4_orderOfRow 58 = .ok (.getfield 48, 3) := by decide +kernel
theorem dX4_orderOfRow_61 : decode cX4_orderOfRow 61 = .ok (.arraylength, 1) := by decide +kernel
theorem dX4_orderOfRow_62 : decode cX4_orderOfRow 62 = .ok (.if_icmp .ge 19, 3) := by decide +kernel
theorem dX4_orderOfRow_65 : decode cX4_orderOfRow 65 = .ok (.iload_n 3, 1) := by decide +kernel
theorem dX4_orderOfRow_66 : decode cX4_orderOfRow 66 = .ok (.iload 6, 2) := by decide +kernel
theorem dX4_orderOfRow_68 : decode cX4_orderOfRow 68 = .ok (.ior, 1) := by decide +kernel
theorem dX4_orderOfRow_69 : decode cX4_orderOfRow 69 = .ok (.istore_n 3, 1) := by decide +kernel
theorem dX4_orderOfRow_70 : decode cX4_orderOfRow 70 = .ok (.aload_n 0, 1) := by decide +kernel
theorem dX4_orderOfRow_71 : decode cX4_orderOfRow 71 = .ok (.getfield 48, 3) := by decide +kernel
theorem dX4_orderOfRow_74 : decode cX4_orderOfRow 74 = .ok (.iload_n 2, 1) := by decide +kernel
theorem dX4_orderOfRow_75 : decode cX4_orderOfRow 75 = .ok (.iload 5, 2) := by decide +kernel
theorem dX4_orderOfRow_77 : decode cX4_orderOfRow 77 = .ok (.iastore, 1) := by decide +kernel
theorem dX4_orderOfRow_78 : decode cX4_orderOfRow 78 = .ok (.iinc 2 1, 3) := by decide +kernel
theorem dX4_orderOfRow_81 : decode cX4_orderOfRow 81 = .ok (.iinc 4 1, 3) := by decide +kernel
theorem dX4_orderOfRow_84 : decode cX4_orderOfRow 84 = .ok (.goto (-77), 3) := by decide +kernel
theorem dX4_orderOfRow_87 : decode cX4_orderOfRow 87 = .ok (.iload_n 2, 1) := by decide +kernel
theorem dX4_orderOfRow_88 : decode cX4_orderOfRow 88 = .ok (.ireturn, 1) := by decide +kernel
theorem dX4_goByRow_0 : decode cX4_goByRow 0 = .ok (.aload_n 0, 1) := by decide +kernel
theorem dX4_goByRow_1 : decode cX4_goByRow 1 = .ok (.getfield 10, 3) := by decide +kernel
theorem dX4_goByRow_4 : decode cX4_goByRow 4 = .ok (.invokevirtual 176, 3) := by decide +kernel
theorem dX4_goByRow_7 : decode cX4_goByRow 7 = .ok (.aload_n 0, 1) := by decide +kernel
theorem dX4_goByRow_8 : decode cX4_goByRow 8 = .ok (.getfield 10, 3) := by decide +kernel
theorem dX4_goByRow_11 : decode cX4_goByRow 11 = .ok (.aload_n 0, 1) := by decide +kernel
theorem dX4_goByRow_12 : decode cX4_goByRow 12 = .ok (.getfield 48, 3) := by decide +kernel
theorem dX4_goByRow_15 : decode cX4_goByRow 15 = .ok (.aload_n 0, 1) := by decide +kernel
theorem dX4_goByRow_16 : decode cX4_goByRow 16 = .ok (.bipush (-9), 2) := by decide +kernel
theorem dX4_goByRow_18 : decode cX4_goByRow 18 = .ok (.invokevirtual 185, 3) := by decide +kernel
theorem dX4_goByRow_21 : decode cX4_goByRow 21 = .ok (.invokevirtual 179, 3) := by decide +kernel
theorem dX4_goByRow_24 : decode cX4_goByRow 24 = .ok (.return_, 1) := by decide +kernel
theorem dX4_goByBest_0 : decode cX4_goByBest 0 = .ok (.aload_n 0, 1) := by decide +kernel
theorem dX4_goByBest_1 : decode cX4_goByBest 1 = .ok (.getfield 20, 3) := by decide +kernel
theorem dX4_goByBest_4 : decode cX4_goByBest 4 = .ok (.getfield 98, 3) := by decide +kernel
theorem dX4_goByBest_7 : decode cX4_goByBest 7 = .ok (.istore_n 2, 1) := by decide +kernel
theorem dX4_goByBest_8 : decode cX4_goByBest 8 = .ok (.iconst 0, 1) := by decide +kernel
theorem dX4_goByBest_9 : decode cX4_goByBest 9 = .ok (.istore_n 3, 1) := by decide +kernel
theorem dX4_goByBest_10 : decode cX4_goByBest 10 = .ok (.iload_n 3, 1) := by decide +kernel
theorem dX4_goByBest_11 : decode cX4_goByBest 11 = .ok (.iload_n 2, 1) := by decide +kernel
theorem dX4_goByBest_12 : decode cX4_goByBest 12 = .ok (.if_icmp .ge 16, 3) := by decide +kernel
theorem dX4_goByBest_15 : decode cX4_goByBest 15 = .ok (.aload_n 0, 1) := by decide +kernel
theorem dX4_goByBest_16 : decode cX4_goByBest 16 = .ok (.getfield 48, 3) := by decide +kernel
theorem dX4_goByBest_19 : decode cX4_goByBest 19 = .ok (.iload_n 3, 1) := by decide +kernel
theorem dX4_goByBest_20 : decode cX4_goByBest 20 = .ok (.iload_n 3, 1) := by decide +kernel
theorem dX4_goByBest_21 : decode cX4_goByBest 21 = .ok (.iastore, 1) := by decide +kernel
theorem dX4_goByBest_22 : decode cX4_goByBest 22 = .ok (.iinc 3 1, 3) := by decide +kernel
theorem dX4_goByBest_25 : decode cX4_goByBest 25 = .ok (.goto (-15), 3) := by decide +kernel
theorem dX4_goByBest_28 : decode cX4_goByBest 28 = .ok (.aload_n 0, 1) := by decide +kernel
theorem dX4_goByBest_29 : decode cX4_goByBest 29 = .ok (.getfield 10, 3) := by decide +kernel
theorem dX4_goByBest_32 : decode cX4_goByBest 32 = .ok (.invokevirtual 176, 3) := by decide +kernel
theorem dX4_goByBest_35 : decode cX4_goByBest 35 = .ok (.lconst 0, 1) := by decide +kernel
theorem dX4_goByBest_36 : decode cX4_goByBest 36 = .ok (.lstore_n 3, 1) := by decide +kernel
theorem dX4_goByBest_37 : decode cX4_goByBest 37 = .ok (.iconst 1, 1) := by decide +kernel
theorem dX4_goByBest_38 : decode cX4_goByBest 38 = .ok (.istore 5, 2) := by decide +kernel
theorem dX4_goByBest_40 : decode cX4_goByBest 40 = .ok (.iconst 0, 1) := by decide +kernel
theorem dX4_goByBest_41 : decode cX4_goByBest 41 = .ok (.istore 6, 2) := by decide +kernel
theorem dX4_goByBest_43 : decode cX4_goByBest 43 = .ok (.iload 6, 2) := by decide +kernel
theorem dX4_goByBest_45 : decode cX4_goByBest 45 = .ok (.bipush 120, 2) := by decide +kernel
theorem dX4_goByBest_47 : decode cX4_goByBest 47 = .ok (.if_icmp .ge 69, 3) := by decide +kernel
theorem dX4_goByBest_50 : decode cX4_goByBest 50 = .ok (.iload 5, 2) := by decide +kernel
theorem dX4_goByBest_52 : decode cX4_goByBest 52 = .ok (.ifCond .eq 64, 3) := by decide +kernel
theorem dX4_goByBest_55 : decode cX4_goByBest 55 = .ok (.aload_n 0, 1) := by decide +kernel
theorem dX4_goByBest_56 : decode cX4_goByBest 56 = .ok (.getfield 10, 3) := by decide +kernel
theorem dX4_goByBest_59 : decode cX4_goByBest 59 = .ok (.aload_n 0, 1) := by decide +kernel
theorem dX4_goByBest_60 : decode cX4_goByBest 60 = .ok (.getfield 48, 3) := by decide +kernel
theorem dX4_goByBest_63 : decode cX4_goByBest 63 = .ok (.iload_n 2, 1) := by decide +kernel
theorem dX4_goByBest_64 : decode cX4_goByBest 64 = .ok (.invokevirtual 179, 3) := by decide +kernel
theorem dX4_goByBest_67 : decode cX4_goByBest 67 = .ok (.aload_n 0, 1) := by decide +kernel
theorem dX4_goByBest_68 : decode cX4_goByBest 68 = .ok (.iload_n 1, 1) := by decide +kernel
theorem dX4_goByBest_69 : decode cX4_goByBest 69 = .ok (.invokevirtual 243, 3) := by decide +kernel
theorem dX4_goByBest_72 : decode cX4_goByBest 72 = .ok (.lstore 7, 2) := by decide +kernel
theorem dX4_goByBest_74 : decode cX4_goByBest 74 = .ok (.iload 6, 2) := by decide +kernel
theorem dX4_goByBest_76 : decode cX4_goByBest 76 = .ok (.ifCond .eq 10, 3) := by decide +kernel
theorem dX4_goByBest_79 : decode cX4_goByBest 79 = .ok (.lload 7, 2) := by decide +kernel
theorem dX4_goByBest_81 : decode cX4_goByBest 81 = .ok (.lload_n 3, 1) := by decide +kernel
theorem dX4_goByBest_82 : decode cX4_goByBest 82 = .ok (.lcmp, 1) := by decide +kernel
theorem dX4_goByBest_83 : decode cX4_goByBest 83 = .ok (.ifCond .le 20, 3) := by decide +kernel
theorem dX4_goByBest_86 : decode cX4_goByBest 86 = .ok (.lload 7, 2) := by decide +kernel
theorem dX4_goByBest_88 : decode cX4_goByBest 88 = .ok (.lstore_n 3, 1) := by decide +kernel
theorem dX4_goByBest_89 : decode cX4_goByBest 89 = .ok (.aload_n 0, 1) := by decide +kernel
theorem dX4_goByBest_90 : decode cX4_goByBest 90 = .ok (.getfield 48, 3) := by decide +kernel
theorem dX4_goByBest_93 : decode cX4_goByBest 93 = .ok (.iconst 0, 1) := by decide +kernel
theorem dX4_goByBest_94 : decode cX4_goByBest 94 = .ok (.aload_n 0, 1) := by decide +kernel
theorem dX4_goByBest_95 : decode cX4_goByBest 95 = .ok (.getfield 51, 3) := by decide +kernel
theorem dX4_goByBest_98 : decode cX4_goByBest 98 = .ok (.iconst 0, 1) := by decide +kernel
theorem dX4_goByBest_99 : decode cX4_goByBest 99 = .ok (.iload_n 2, 1) := by decide +kernel
theorem dX4_goByBest_100 : decode cX4_goByBest 100 = .ok (.invokestatic 246, 3) := by decide +kernel
theorem dX4_goByBest_103 : decode cX4_goByBest 103 = .ok (.aload_n 0, 1) := by decide +kernel
theorem dX4_goByBest_104 : decode cX4_goByBest 104 = .ok (.iload_n 2, 1) := by decide +kernel
theorem dX4_goByBest_105 : decode cX4_goByBest 105 = .ok (.invokevirtual 252, 3) := by decide +kernel
theorem dX4_goByBest_108 : decode cX4_goByBest 108 = .ok (.istore 5, 2) := by decide +kernel
theorem dX4_goByBest_110 : decode cX4_goByBest 110 = .ok (.iinc 6 1, 3) := by decide +kernel
theorem dX4_goByBest_113 : decode cX4_goByBest 113 = .ok (.goto (-70), 3) := by decide +kernel
theorem dX4_goByBest_116 : decode cX4_goByBest 116 = .ok (.aload_n 0, 1) := by decide +kernel
theorem dX4_goByBest_117 : decode cX4_goByBest 117 = .ok (.getfield 10, 3) := by decide +kernel
theorem dX4_goByBest_120 : decode cX4_goByBest 120 = .ok (.aload_n 0, 1) := by decide +kernel
theorem dX4_goByBest_121 : decode cX4_goByBest 121 = .ok (.getfield 51, 3) := by decide +kernel
theorem dX4_goByBest_124 : decode cX4_goByBest 124 = .ok (.iload_n 2, 1) := by decide +kernel
theorem dX4_goByBest_125 : decode cX4_goByBest 125 = .ok (.invokevirtual 179, 3) := by decide +kernel
theorem dX4_goByBest_128 : decode cX4_goByBest 128 = .ok (.return_, 1) := by decide +kernel
theorem dX4_ratingBy_0 : decode cX4_ratingBy 0 = .ok (.iload_n 1, 1) := by decide +kernel
theorem dX4_ratingBy_1 : decode cX4_ratingBy 1 = .ok (.ifCond .ne 13, 3) := by decide +kernel
theorem dX4_ratingBy_4 : decode cX4_ratingBy 4 = .ok (.aload_n 0, 1) := by decide +kernel
theorem dX4_ratingBy_5 : decode cX4_ratingBy 5 = .ok (.getfield 10, 3) := by decide +kernel
theorem dX4_ratingBy_8 : decode cX4_ratingBy 8 = .ok (.getfield 138, 3) := by decide +kernel
theorem dX4_ratingBy_11 : decode cX4_ratingBy 11 = .ok (.ineg, 1) := by decide +kernel
theorem dX4_ratingBy_12 : decode cX4_ratingBy 12 = .ok (.i2l, 1) := by decide +kernel
theorem dX4_ratingBy_13 : decode cX4_ratingBy 13 = .ok (.lreturn, 1) := by decide +kernel
theorem dX4_ratingBy_14 : decode cX4_ratingBy 14 = .ok (.iload_n 1, 1) := by decide +kernel
theorem dX4_ratingBy_15 : decode cX4_ratingBy 15 = .ok (.iconst 1, 1) := by decide +kernel
theorem dX4_ratingBy_16 : decode cX4_ratingBy 16 = .ok (.if_icmp .ne 13, 3) := by decide +kernel
theorem dX4_ratingBy_19 : decode cX4_ratingBy 19 = .ok (.aload_n 0, 1) := by decide +kernel
theorem dX4_ratingBy_20 : decode cX4_ratingBy 20 = .ok (.getfield 10, 3) := by decide +kernel
theorem dX4_ratingBy_23 : decode cX4_ratingBy 23 = .ok (.getfield 154, 3) := by decide +kernel
theorem dX4_ratingBy_26 : decode cX4_ratingBy 26 = .ok (.goto 10, 3) := by decide +kernel
theorem dX4_ratingBy_29 : decode cX4_ratingBy 29 = .ok (.aload_n 0, 1) := by decide +kernel
theorem dX4_ratingBy_30 : decode cX4_ratingBy 30 = .ok (.getfield 10, 3) := by decide +kernel
theorem dX4_ratingBy_33 : decode cX4_ratingBy 33 = .ok (.getfield 162, 3) := by decide +kernel
theorem dX4_ratingBy_36 : decode cX4_ratingBy 36 = .ok (.lreturn, 1) := by decide +kernel
theorem dX4_turnToNextOrder_0 : decode cX4_turnToNextOrder 0 = .ok (.iload_n 1, 1) := by decide +kernel
theorem dX4_turnToNextOrder_1 : decode cX4_turnToNextOrder 1 = .ok (.iconst 2, 1) := by decide +kernel
theorem dX4_turnToNextOrder_2 : decode cX4_turnToNextOrder 2 = .ok (.isub, 1) := by decide +kernel
theorem dX4_turnToNextOrder_3 : decode cX4_turnToNextOrder 3 = .ok (.istore_n 2, 1) := by decide +kernel
theorem dX4_turnToNextOrder_4 : decode cX4_turnToNextOrder 4 = .ok (.iload_n 2, 1) := by decide +kernel
theorem dX4_turnToNextOrder_5 : decode cX4_turnToNextOrder 5 = .ok (.ifCond .lt 26, 3) := by decide +kernel
theorem dX4_turnToNextOrder_8 : decode cX4_turnToNextOrder 8 = .ok (.aload_n 0, 1) := by decide +kernel
theorem dX4_turnToNextOrder_9 : decode cX4_turnToNextOrder 9 = .ok (.getfield 48, 3) := by decide +kernel
theorem dX4_turnToNextOrder_12 : decode cX4_turnToNextOrder 12 = .ok (.iload_n 2, 1) := by decide +kernel
theorem dX4_turnToNextOrder_13 : decode cX4_turnToNextOrder 13 = .ok (.iaload, 1) := by decide +kernel
theorem dX4_turnToNextOrder_14 : decode cX4_turnToNextOrder 14 = .ok (.aload_n 0, 1) := by decide +kernel
theorem dX4_turnToNextOrder_15 : decode cX4_turnToNextOrder 15 = .ok (.getfield 48, 3) := by decide +kernel
theorem dX4_turnToNextOrder_18 : decode cX4_turnToNextOrder 18 = .ok (.iload_n 2, 1) := by decide +kernel
theorem dX4_turnToNextOrder_19 : decode cX4_turnToNextOrder 19 = .ok (.iconst 1, 1) := by decide +kernel
theorem dX4_turnToNextOrder_20 : decode cX4_turnToNextOrder 20 = .ok (.iadd, 1) := by decide +kernel
theorem dX4_turnToNextOrder_21 : decode cX4_turnToNextOrder 21 = .ok (.iaload, 1) := by decide +kernel
theorem dX4_turnToNextOrder_22 : decode cX4_turnToNextOrder 22 = .ok (.if_icmp .le 9, 3) := by decide +kernel
theorem dX4_turnToNextOrder_25 : decode cX4_turnToNextOrder 25 = .ok (.iinc 2 (-1), 3) := by decide +kernel
theorem dX4_turnToNextOrder_28 : decode cX4_turnToNextOrder 28 = .ok (.goto (-24), 3) := by decide +kernel
theorem dX4_turnToNextOrder_31 : decode cX4_turnToNextOrder 31 = .ok (.iload_n 2, 1) := by decide +kernel
theorem dX4_turnToNextOrder_32 : decode cX4_turnToNextOrder 32 = .ok (.ifCond .ge 5, 3) := by decide +kernel
theorem dX4_turnToNextOrder_35 : decode cX4_turnToNextOrder 35 = .ok (.iconst 0, 1) := by decide +kernel
theorem dX4_turnToNextOrder_36 : decode cX4_turnToNextOrder 36 = .ok (.ireturn, 1) := by decide +kernel
theorem dX4_turnToNextOrder_37 : decode cX4_turnToNextOrder 37 = .ok (.iload_n 1, 1) := by decide +kernel
theorem dX4_turnToNextOrder_38 : decode cX4_turnToNextOrder 38 = .ok (.iconst 1, 1) := by decide +kernel
theorem dX4_turnToNextOrder_39 : decode cX4_turnToNextOrder 39 = .ok (.isub, 1) := by decide +kernel
theorem dX4_turnToNextOrder_40 : decode cX4_turnToNextOrder 40 = .ok (.istore_n 3, 1) := by decide +kernel
theorem dX4_turnToNextOrder_41 : decode cX4_turnToNextOrder 41 = .ok (.iload_n 3, 1) := by decide +kernel
theorem dX4_turnToNextOrder_42 : decode cX4_turnToNextOrder 42 = .ok (.iload_n 2, 1) := by decide +kernel
theorem dX4_turnToNextOrder_43 : decode cX4_turnToNextOrder 43 = .ok (.if_icmp .le 24, 3) := by decide +kernel
theorem dX4_turnToNextOrder_46 : decode cX4_turnToNextOrder 46 = .ok (.aload_n 0, 1) := by decide +kernel
theorem dX4_turnToNextOrder_47 : decode cX4_turnToNextOrder 47 = .ok (.getfield 48, 3) := by decide +kernel
theorem dX4_turnToNextOrder_50 : decode cX4_turnToNextOrder 50 = .ok (.iload_n 3, 1) := by decide +kernel
theorem dX4_turnToNextOrder_51 : decode cX4_turnToNextOrder 51 = .ok (.iaload, 1) := by decide +kernel
theorem dX4_turnToNextOrder_52 : decode cX4_turnToNextOrder 52 = .ok (.aload_n 0, 1) := by decide +kernel
theorem dX4_turnToNextOrder_53 : decode cX4_turnToNextOrder 53 = .ok (.getfield 48, 3) := by decide +kernel
theorem dX4_turnToNextOrder_56 : decode cX4_turnToNextOrder 56 = .ok (.iload_n 2, 1) := by decide +kernel
theorem dX4_turnToNextOrder_57 : decode cX4_turnToNextOrder 57 = .ok (.iaload, 1) := by decide +kernel
theorem dX4_turnToNextOrder_58 : decode cX4_turnToNextOrder 58 = .ok (.if_icmp .ge 9, 3) := by decide +kernel
theorem dX4_turnToNextOrder_61 : decode cX4_turnToNextOrder 61 = .ok (.iinc 3 (-1), 3) := by decide +kernel
theorem dX4_turnToNextOrder_64 : decode cX4_turnToNextOrder 64 = .ok (.goto (-23), 3) := by decide +kernel
theorem dX4_turnToNextOrder_67 : decode cX4_turnToNextOrder 67 = .ok (.aload_n 0, 1) := by decide +kernel
theorem dX4_turnToNextOrder_68 : decode cX4_turnToNextOrder 68 = .ok (.iload_n 2, 1) := by decide +kernel
theorem dX4_turnToNextOrder_69 : decode cX4_turnToNextOrder 69 = .ok (.iload_n 3, 1) := by decide +kernel
theorem dX4_turnToNextOrder_70 : decode cX4_turnToNextOrder 70 = .ok (.invokevirtual 255, 3) := by decide +kernel
theorem dX4_turnToNextOrder_73 : decode cX4_turnToNextOrder 73 = .ok (.iload_n 2, 1) := by decide +kernel
theorem dX4_turnToNextOrder_74 : decode cX4_turnToNextOrder 74 = .ok (.iconst 1, 1) := by decide +kernel
theorem dX4_turnToNextOrder_75 : decode cX4_turnToNextOrder 75 = .ok (.iadd, 1) := by decide +kernel
theorem dX4_turnToNextOrder_76 : decode cX4_turnToNextOrder 76 = .ok (.istore 4, 2) := by decide +kernel
theorem dX4_turnToNextOrder_78 : decode cX4_turnToNextOrder 78 = .ok (.iload_n 1, 1) := by decide +kernel
theorem dX4_turnToNextOrder_79 : decode cX4_turnToNextOrder 79 = .ok (.iconst 1, 1) := by decide +kernel
theorem dX4_turnToNextOrder_80 : decode cX4_turnToNextOrder 80 = .ok (.isub, 1) := by decide +kernel
theorem dX4_turnToNextOrder_81 : decode cX4_turnToNextOrder 81 = .ok (.istore 5, 2) := by decide +kernel
theorem dX4_turnToNextOrder_83 : decode cX4_turnToNextOrder 83 = .ok (.iload 4, 2) := by decide +kernel
theorem dX4_turnToNextOrder_85 : decode cX4_turnToNextOrder 85 = .ok (.iload 5, 2) := by decide +kernel
theorem dX4_turnToNextOrder_87 : decode cX4_turnToNextOrder 87 = .ok (.if_icmp .ge 20, 3) := by decide +kernel
theorem dX4_turnToNextOrder_90 : decode cX4_turnToNextOrder 90 = .ok (.aload_n 0, 1) := by decide +kernel
theorem dX4_turnToNextOrder_91 : decode cX4_turnToNextOrder 91 = .ok (.iload 4, 2) := by decide +kernel
theorem dX4_turnToNextOrder_93 : decode cX4_turnToNextOrder 93 = .ok (.iload 5, 2) := by decide +kernel
theorem dX4_turnToNextOrder_95 : decode cX4_turnToNextOrder 95 = .ok (.invokevirtual 255, 3) := by decide +kernel
theorem dX4_turnToNextOrder_98 : decode cX4_turnToNextOrder 98 = .ok (.iinc 4 1, 3) := by decide +kernel
theorem dX4_turnToNextOrder_101 : decode cX4_turnToNextOrder 101 = .ok (.iinc 5 (-1), 3) := by decide +kernel
theorem dX4_turnToNextOrder_104 : decode cX4_turnToNextOrder 104 = .ok (.goto (-21), 3) := by decide +kernel
theorem dX4_turnToNextOrder_107 : decode cX4_turnToNextOrder 107 = .ok (.iconst 1, 1) := by decide +kernel
theorem dX4_turnToNextOrder_108 : decode cX4_turnToNextOrder 108 = .ok (.ireturn, 1) := by decide +kernel
theorem dX4_swapInOrder_0 : decode cX4_swapInOrder 0 = .ok (.aload_n 0, 1) := by decide +kernel
theorem dX4_swapInOrder_1 : decode cX4_swapInOrder 1 = .ok (.getfield 48, 3) := by decide +kernel
theorem dX4_swapInOrder_4 : decode cX4_swapInOrder 4 = .ok (.iload_n 1, 1) := by decide +kernel
theorem dX4_swapInOrder_5 : decode cX4_swapInOrder 5 = .ok (.iaload, 1) := by decide +kernel
theorem dX4_swapInOrder_6 : decode cX4_swapInOrder 6 = .ok (.istore_n 3, 1) := by decide +kernel
theorem dX4_swapInOrder_7 : decode cX4_swapInOrder 7 = .ok (.aload_n 0, 1) := by decide +kernel
theorem dX4_swapInOrder_8 : decode cX4_swapInOrder 8 = .ok (.getfield 48, 3) := by decide +kernel
theorem dX4_swapInOrder_11 : decode cX4_swapInOrder 11 = .ok (.iload_n 1, 1) := by decide +kernel
theorem dX4_swapInOrder_12 : decode cX4_swapInOrder 12 = .ok (.aload_n 0, 1) := by decide +kernel
theorem dX4_swapInOrder_13 : decode cX4_swapInOrder 13 = .ok (.getfield 48, 3) := by decide +kernel
theorem dX4_swapInOrder_16 : decode cX4_swapInOrder 16 = .ok (.iload_n 2, 1) := by decide +kernel
theorem dX4_swapInOrder_17 : decode cX4_swapInOrder 17 = .ok (.iaload, 1) := by decide +kernel
theorem dX4_swapInOrder_18 : decode cX4_swapInOrder 18 = .ok (.iastore, 1) := by decide +kernel
