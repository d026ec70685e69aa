theorem dX4_swapInOrder_19 : decode cX4_swapInOrder 19 = .ok (.aload_n 0, 1) := by decide +kernel
theorem dX4_swapInOrder_20 : decode cX4_swapInOrder 20 = .ok (.getfield 48, 3) := by decide +kernel
theorem dX4_swapInOrder_23 : decode cX4_swapInOrder 23 = .ok (.iload_n 2, 1) := by decide +kernel
theorem dX4_swapInOrder_24 : decode cX4_swapInOrder 24 = .ok (.iload_n 3, 1) := by decide +kernel
theorem dX4_swapInOrder_25 : decode cX4_swapInOrder 25 = .ok (.iastore, 1) := by decide +kernel
theorem dX4_swapInOrder_26 : decode cX4_swapInOrder 26 = .ok (.return_, 1) := by decide +kernel
theorem dX4_gainIfSureUpTo_0 : decode cX4_gainIfSureUpTo 0 = .ok (.aload_n 0, 1) := by decide +kernel
theorem dX4_gainIfSureUpTo_1 : decode cX4_gainIfSureUpTo 1 = .ok (.invokevirtual 135, 3) := by decide +kernel
theorem dX4_gainIfSureUpTo_4 : decode cX4_gainIfSureUpTo 4 = .ok (.aload_n 0, 1) := by decide +kernel
theorem dX4_gainIfSureUpTo_5 : decode cX4_gainIfSureUpTo 5 = .ok (.getfield 10, 3) := by decide +kernel
theorem dX4_gainIfSureUpTo_8 : decode cX4_gainIfSureUpTo 8 = .ok (.getfield 162, 3) := by decide +kernel
theorem dX4_gainIfSureUpTo_11 : decode cX4_gainIfSureUpTo 11 = .ok (.lstore_n 2, 1) := by decide +kernel
theorem dX4_gainIfSureUpTo_12 : decode cX4_gainIfSureUpTo 12 = .ok (.iconst 0, 1) := by decide +kernel
theorem dX4_gainIfSureUpTo_13 : decode cX4_gainIfSureUpTo 13 = .ok (.istore 4, 2) := by decide +kernel
theorem dX4_gainIfSureUpTo_15 : decode cX4_gainIfSureUpTo 15 = .ok (.iload 4, 2) := by decide +kernel
theorem dX4_gainIfSureUpTo_17 : decode cX4_gainIfSureUpTo 17 = .ok (.iload_n 1, 1) := by decide +kernel
theorem dX4_gainIfSureUpTo_18 : decode cX4_gainIfSureUpTo 18 = .ok (.if_icmp .gt 30, 3) := by decide +kernel
theorem dX4_gainIfSureUpTo_21 : decode cX4_gainIfSureUpTo 21 = .ok (.iload 4, 2) := by decide +kernel
theorem dX4_gainIfSureUpTo_23 : decode cX4_gainIfSureUpTo 23 = .ok (.aload_n 0, 1) := by decide +kernel
theorem dX4_gainIfSureUpTo_24 : decode cX4_gainIfSureUpTo 24 = .ok (.getfield 20, 3) := by decide +kernel
theorem dX4_gainIfSureUpTo_27 : decode cX4_gainIfSureUpTo 27 = .ok (.getfield 132, 3) := by decide +kernel
theorem dX4_gainIfSureUpTo_30 : decode cX4_gainIfSureUpTo 30 = .ok (.if_icmp .ge 18, 3) := by decide +kernel
theorem dX4_gainIfSureUpTo_33 : decode cX4_gainIfSureUpTo 33 = .ok (.aload_n 0, 1) := by decide +kernel
theorem dX4_gainIfSureUpTo_34 : decode cX4_gainIfSureUpTo 34 = .ok (.getfield 10, 3) := by decide +kernel
theorem dX4_gainIfSureUpTo_37 : decode cX4_gainIfSureUpTo 37 = .ok (.iload 4, 2) := by decide +kernel
theorem dX4_gainIfSureUpTo_39 : decode cX4_gainIfSureUpTo 39 = .ok (.invokevirtual 258, 3) := by decide +kernel
theorem dX4_gainIfSureUpTo_42 : decode cX4_gainIfSureUpTo 42 = .ok (.iinc 4 1, 3) := by decide +kernel
theorem dX4_gainIfSureUpTo_45 : decode cX4_gainIfSureUpTo 45 = .ok (.goto (-30), 3) := by decide +kernel
theorem dX4_gainIfSureUpTo_48 : decode cX4_gainIfSureUpTo 48 = .ok (.aload_n 0, 1) := by decide +kernel
theorem dX4_gainIfSureUpTo_49 : decode cX4_gainIfSureUpTo 49 = .ok (.getfield 10, 3) := by decide +kernel
theorem dX4_gainIfSureUpTo_52 : decode cX4_gainIfSureUpTo 52 = .ok (.aload_n 0, 1) := by decide +kernel
theorem dX4_gainIfSureUpTo_53 : decode cX4_gainIfSureUpTo 53 = .ok (.getfield 48, 3) := by decide +kernel
theorem dX4_gainIfSureUpTo_56 : decode cX4_gainIfSureUpTo 56 = .ok (.aload_n 0, 1) := by decide +kernel
theorem dX4_gainIfSureUpTo_57 : decode cX4_gainIfSureUpTo 57 = .ok (.bipush (-9), 2) := by decide +kernel
theorem dX4_gainIfSureUpTo_59 : decode cX4_gainIfSureUpTo 59 = .ok (.invokevirtual 185, 3) := by decide +kernel
theorem dX4_gainIfSureUpTo_62 : decode cX4_gainIfSureUpTo 62 = .ok (.invokevirtual 179, 3) := by decide +kernel
theorem dX4_gainIfSureUpTo_65 : decode cX4_gainIfSureUpTo 65 = .ok (.aload_n 0, 1) := by decide +kernel
theorem dX4_gainIfSureUpTo_66 : decode cX4_gainIfSureUpTo 66 = .ok (.getfield 10, 3) := by decide +kernel
theorem dX4_gainIfSureUpTo_69 : decode cX4_gainIfSureUpTo 69 = .ok (.getfield 162, 3) := by decide +kernel
theorem dX4_gainIfSureUpTo_72 : decode cX4_gainIfSureUpTo 72 = .ok (.lload_n 2, 1) := by decide +kernel
theorem dX4_gainIfSureUpTo_73 : decode cX4_gainIfSureUpTo 73 = .ok (.lsub, 1) := by decide +kernel
theorem dX4_gainIfSureUpTo_74 : decode cX4_gainIfSureUpTo 74 = .ok (.lreturn, 1) := by decide +kernel
theorem dX4_partOf_0 : decode cX4_partOf 0 = .ok (.lload_n 0, 1) := by decide +kernel
theorem dX4_partOf_1 : decode cX4_partOf 1 = .ok (.lstore_n 3, 1) := by decide +kernel
theorem dX4_partOf_2 : decode cX4_partOf 2 = .ok (.ldc2_w 183, 3) := by decide +kernel
theorem dX4_partOf_5 : decode cX4_partOf 5 = .ok (.lstore 5, 2) := by decide +kernel
theorem dX4_partOf_7 : decode cX4_partOf 7 = .ok (.iconst 0, 1) := by decide +kernel
theorem dX4_partOf_8 : decode cX4_partOf 8 = .ok (.istore 7, 2) := by decide +kernel
theorem dX4_partOf_10 : decode cX4_partOf 10 = .ok (.iload 7, 2) := by decide +kernel
theorem dX4_partOf_12 : decode cX4_partOf 12 = .ok (.bipush 12, 2) := by decide +kernel
theorem dX4_partOf_14 : decode cX4_partOf 14 = .ok (.if_icmp .ge 79, 3) := by decide +kernel
theorem dX4_partOf_17 : decode cX4_partOf 17 = .ok (.lload_n 3, 1) := by decide +kernel
theorem dX4_partOf_18 : decode cX4_partOf 18 = .ok (.ldc2_w 261, 3) := by decide +kernel
theorem dX4_partOf_21 : decode cX4_partOf 21 = .ok (.lrem, 1) := by decide +kernel
theorem dX4_partOf_22 : decode cX4_partOf 22 = .ok (.lconst 0, 1) := by decide +kernel
theorem dX4_partOf_23 : decode cX4_partOf 23 = .ok (.lcmp, 1) := by decide +kernel
theorem dX4_partOf_24 : decode cX4_partOf 24 = .ok (.ifCond .ne 28, 3) := by decide +kernel
theorem dX4_partOf_27 : decode cX4_partOf 27 = .ok (.lload 5, 2) := by decide +kernel
theorem dX4_partOf_29 : decode cX4_partOf 29 = .ok (.ldc2_w 261, 3) := by decide +kernel
theorem dX4_partOf_32 : decode cX4_partOf 32 = .ok (.lrem, 1) := by decide +kernel
theorem dX4_partOf_33 : decode cX4_partOf 33 = .ok (.lconst 0, 1) := by decide +kernel
theorem dX4_partOf_34 : decode cX4_partOf 34 = .ok (.lcmp, 1) := by decide +kernel
theorem dX4_partOf_35 : decode cX4_partOf 35 = .ok (.ifCond .ne 17, 3) := by decide +kernel
theorem dX4_partOf_38 : decode cX4_partOf 38 = .ok (.lload_n 3, 1) := by decide +kernel
theorem dX4_partOf_39 : decode cX4_partOf 39 = .ok (.ldc2_w 261, 3) := by decide +kernel
theorem dX4_partOf_42 : decode cX4_partOf 42 = .ok (.ldiv, 1) := by decide +kernel
theorem dX4_partOf_43 : decode cX4_partOf 43 = .ok (.lstore_n 3, 1) := by decide +kernel
theorem dX4_partOf_44 : decode cX4_partOf 44 = .ok (.lload 5, 2) := by decide +kernel
theorem dX4_partOf_46 : decode cX4_partOf 46 = .ok (.ldc2_w 261, 3) := by decide +kernel
theorem dX4_partOf_49 : decode cX4_partOf 49 = .ok (.ldiv, 1) := by decide +kernel
theorem dX4_partOf_50 : decode cX4_partOf 50 = .ok (.lstore 5, 2) := by decide +kernel
theorem dX4_partOf_52 : decode cX4_partOf 52 = .ok (.lload_n 3, 1) := by decide +kernel
theorem dX4_partOf_53 : decode cX4_partOf 53 = .ok (.ldc2_w 263, 3) := by decide +kernel
theorem dX4_partOf_56 : decode cX4_partOf 56 = .ok (.lrem, 1) := by decide +kernel
theorem dX4_partOf_57 : decode cX4_partOf 57 = .ok (.lconst 0, 1) := by decide +kernel
theorem dX4_partOf_58 : decode cX4_partOf 58 = .ok (.lcmp, 1) := by decide +kernel
theorem dX4_partOf_59 : decode cX4_partOf 59 = .ok (.ifCond .ne 28, 3) := by decide +kernel
theorem dX4_partOf_62 : decode cX4_partOf 62 = .ok (.lload 5, 2) := by decide +kernel
theorem dX4_partOf_64 : decode cX4_partOf 64 = .ok (.ldc2_w 263, 3) := by decide +kernel
theorem dX4_partOf_67 : decode cX4_partOf 67 = .ok (.lrem, 1) := by decide +kernel
theorem dX4_partOf_68 : decode cX4_partOf 68 = .ok (.lconst 0, 1) := by decide +kernel
theorem dX4_partOf_69 : decode cX4_partOf 69 = .ok (.lcmp, 1) := by decide +kernel
theorem dX4_partOf_70 : decode cX4_partOf 70 = .ok (.ifCond .ne 17, 3) := by decide +kernel
theorem dX4_partOf_73 : decode cX4_partOf 73 = .ok (.lload_n 3, 1) := by decide +kernel
theorem dX4_partOf_74 : decode cX4_partOf 74 = .ok (.ldc2_w 263, 3) := by decide +kernel
theorem dX4_partOf_77 : decode cX4_partOf 77 = .ok (.ldiv, 1) := by decide +kernel
theorem dX4_partOf_78 : decode cX4_partOf 78 = .ok (.lstore_n 3, 1) := by decide +kernel
theorem dX4_partOf_79 : decode cX4_partOf 79 = .ok (.lload 5, 2) := by decide +kernel
theorem dX4_partOf_81 : decode cX4_partOf 81 = .ok (.ldc2_w 263, 3) := by decide +kernel
theorem dX4_partOf_84 : decode cX4_partOf 84 = .ok (.ldiv, 1) := by decide +kernel
theorem dX4_partOf_85 : decode cX4_partOf 85 = .ok (.lstore 5, 2) := by decide +kernel
theorem dX4_partOf_87 : decode cX4_partOf 87 = .ok (.iinc 7 1, 3) := by decide +kernel
theorem dX4_partOf_90 : decode cX4_partOf 90 = .ok (.goto (-80), 3) := by decide +kernel
theorem dX4_partOf_93 : decode cX4_partOf 93 = .ok (.iload_n 2, 1) := by decide +kernel
theorem dX4_partOf_94 : decode cX4_partOf 94 = .ok (.ifCond .ne 7, 3) := by decide +kernel
theorem dX4_partOf_97 : decode cX4_partOf 97 = .ok (.lload_n 3, 1) := by decide +kernel
theorem dX4_partOf_98 : decode cX4_partOf 98 = .ok (.goto 5, 3) := by decide +kernel
theorem dX4_partOf_101 : decode cX4_partOf 101 = .ok (.lload 5, 2) := by decide +kernel
theorem dX4_partOf_103 : decode cX4_partOf 103 = .ok (.lreturn, 1) := by decide +kernel
theorem dX5_no_0 : decode cX5_no 0 = .ok (.aload_n 0, 1) := by decide +kernel
theorem dX5_no_1 : decode cX5_no 1 = .ok (.getfield 1, 3) := by decide +kernel
theorem dX5_no_4 : decode cX5_no 4 = .ok (.iload_n 1, 1) := by decide +kernel
theorem dX5_no_5 : decode cX5_no 5 = .ok (.ineg, 1) := by decide +kernel
theorem dX5_no_6 : decode cX5_no 6 = .ok (.dup2, 1) := by decide +kernel
theorem dX5_no_7 : decode cX5_no 7 = .ok (.iaload, 1) := by decide +kernel
theorem dX5_no_8 : decode cX5_no 8 = .ok (.iconst 1, 1) := by decide +kernel
theorem dX5_no_9 : decode cX5_no 9 = .ok (.iadd, 1) := by decide +kernel
theorem dX5_no_10 : decode cX5_no 10 = .ok (.iastore, 1) := by decide +kernel
theorem dX5_no_11 : decode cX5_no 11 = .ok (.iload_n 1, 1) := by decide +kernel
theorem dX5_no_12 : decode cX5_no 12 = .ok (.ireturn, 1) := by decide +kernel
theorem dX5_noLong_0 : decode cX5_noLong 0 = .ok (.ldc2_w 7, 3) := by decide +kernel
theorem dX5_noLong_3 : decode cX5_noLong 3 = .ok (.aload_n 0, 1) := by decide +kernel
theorem dX5_noLong_4 : decode cX5_noLong 4 = .ok (.iload_n 1, 1) := by decide +kernel
theorem dX5_noLong_5 : decode cX5_noLong 5 = .ok (.invokevirtual 9, 3) := by decide +kernel
theorem dX5_noLong_8 : decode cX5_noLong 8 = .ok (.i2l, 1) := by decide +kernel
theorem dX5_noLong_9 : decode cX5_noLong 9 = .ok (.lsub, 1) := by decide +kernel
theorem dX5_noLong_10 : decode cX5_noLong 10 = .ok (.lreturn, 1) := by decide +kernel
theorem dX5_init_0 : decode cX5_init 0 = .ok (.aload_n 0, 1) := by decide +kernel
theorem dX5_init_1 : decode cX5_init 1 = .ok (.invokespecial 13, 3) := by decide +kernel
theorem dX5_init_4 : decode cX5_init 4 = .ok (.aload_n 0, 1) := by decide +kernel
theorem dX5_init_5 : decode cX5_init 5 = .ok (.bipush 7, 2) := by decide +kernel
theorem dX5_init_7 : decode cX5_init 7 = .ok (.newarray .int, 2) := by decide +kernel
theorem dX5_init_9 : decode cX5_init 9 = .ok (.putfield 1, 3) := by decide +kernel
theorem dX5_init_12 : decode cX5_init 12 = .ok (.aload_n 0, 1) := by decide +kernel
theorem dX5_init_13 : decode cX5_init 13 = .ok (.sipush 200, 3) := by decide +kernel
theorem dX5_init_16 : decode cX5_init 16 = .ok (.newarray .int, 2) := by decide +kernel
theorem dX5_init_18 : decode cX5_init 18 = .ok (.putfield 19, 3) := by decide +kernel
theorem dX5_init_21 : decode cX5_init 21 = .ok (.aload_n 0, 1) := by decide +kernel
theorem dX5_init_22 : decode cX5_init 22 = .ok (.sipush 200, 3) := by decide +kernel
theorem dX5_init_25 : decode cX5_init 25 = .ok (.newarray .int, 2) := by decide +kernel
theorem dX5_init_27 : decode cX5_init 27 = .ok (.putfield 22, 3) := by decide +kernel
theorem dX5_init_30 : decode cX5_init 30 = .ok (.aload_n 0, 1) := by decide +kernel
theorem dX5_init_31 : decode cX5_init 31 = .ok (.bipush 96, 2) := by decide +kernel
theorem dX5_init_33 : decode cX5_init 33 = .ok (.newarray .int, 2) := by decide +kernel
theorem dX5_init_35 : decode cX5_init 35 = .ok (.putfield 25, 3) := by decide +kernel
theorem dX5_init_38 : decode cX5_init 38 = .ok (.aload_n 0, 1) := by decide +kernel
theorem dX5_init_39 : decode cX5_init 39 = .ok (.iconst 5, 1) := by decide +kernel
theorem dX5_init_40 : decode cX5_init 40 = .ok (.newarray .char, 2) := by decide +kernel
theorem dX5_init_42 : decode cX5_init 42 = .ok (.dup, 1) := by decide +kernel
theorem dX5_init_43 : decode cX5_init 43 = .ok (.iconst 0, 1) := by decide +kernel
theorem dX5_init_44 : decode cX5_init 44 = .ok (.bipush 112, 2) := by decide +kernel
theorem dX5_init_46 : decode cX5_init 46 = .ok (.castore, 1) := by decide +kernel
theorem dX5_init_47 : decode cX5_init 47 = .ok (.dup, 1) := by decide +kernel
theorem dX5_init_48 : decode cX5_init 48 = .ok (.iconst 1, 1) := by decide +kernel
theorem dX5_init_49 : decode cX5_init 49 = .ok (.bipush 119, 2) := by decide +kernel
theorem dX5_init_51 : decode cX5_init 51 = .ok (.castore, 1) := by decide +kernel
theorem dX5_init_52 : decode cX5_init 52 = .ok (.dup, 1) := by decide +kernel
theorem dX5_init_53 : decode cX5_init 53 = .ok (.iconst 2, 1) := by decide +kernel
theorem dX5_init_54 : decode cX5_init 54 = .ok (.bipush 101, 2) := by decide +kernel
theorem dX5_init_56 : decode cX5_init 56 = .ok (.castore, 1) := by decide +kernel
theorem dX5_init_57 : decode cX5_init 57 = .ok (.dup, 1) := by decide +kernel
theorem dX5_init_58 : decode cX5_init 58 = .ok (.iconst 3, 1) := by decide +kernel
theorem dX5_init_59 : decode cX5_init 59 = .ok (.bipush 102, 2) := by decide +kernel
theorem dX5_init_61 : decode cX5_init 61 = .ok (.castore, 1) := by decide +kernel
theorem dX5_init_62 : decode cX5_init 62 = .ok (.dup, 1) := by decide +kernel
theorem dX5_init_63 : decode cX5_init 63 = .ok (.iconst 4, 1) := by decide +kernel
theorem dX5_init_64 : decode cX5_init 64 = .ok (.bipush 100, 2) := by decide +kernel
theorem dX5_init_66 : decode cX5_init 66 = .ok (.castore, 1) := by decide +kernel
theorem dX5_init_67 : decode cX5_init 67 = .ok (.putfield 28, 3) := by decide +kernel
theorem dX5_init_70 : decode cX5_init 70 = .ok (.aload_n 0, 1) := by decide +kernel
theorem dX5_init_71 : decode cX5_init 71 = .ok (.bipush 6, 2) := by decide +kernel
theorem dX5_init_73 : decode cX5_init 73 = .ok (.newarray .char, 2) := by decide +kernel
theorem dX5_init_75 : decode cX5_init 75 = .ok (.dup, 1) := by decide +kernel
theorem dX5_init_76 : decode cX5_init 76 = .ok (.iconst 0, 1) := by decide +kernel
theorem dX5_init_77 : decode cX5_init 77 = .ok (.bipush 112, 2) := by decide +kernel
theorem dX5_init_79 : decode cX5_init 79 = .ok (.castore, 1) := by decide +kernel
theorem dX5_init_80 : decode cX5_init 80 = .ok (.dup, 1) := by decide +kernel
theorem dX5_init_81 : decode cX5_init 81 = .ok (.iconst 1, 1) := by decide +kernel
theorem dX5_init_82 : decode cX5_init 82 = .ok (.bipush 119, 2) := by decide +kernel
theorem dX5_init_84 : decode cX5_init 84 = .ok (.castore, 1) := by decide +kernel
theorem dX5_init_85 : decode cX5_init 85 = .ok (.dup, 1) := by decide +kernel
theorem dX5_init_86 : decode cX5_init 86 = .ok (.iconst 2, 1) := by decide +kernel
theorem dX5_init_87 : decode cX5_init 87 = .ok (.bipush 98, 2) := by decide +kernel
theorem dX5_init_89 : decode cX5_init 89 = .ok (.castore, 1) := by decide +kernel
theorem dX5_init_90 : decode cX5_init 90 = .ok (.dup, 1) := by decide +kernel
theorem dX5_init_91 : decode cX5_init 91 = .ok (.iconst 3, 1) := by decide +kernel
theorem dX5_init_92 : decode cX5_init 92 = .ok (.bipush 104, 2) := by decide +kernel
theorem dX5_init_94 : decode cX5_init 94 = .ok (.castore, 1) := by decide +kernel
theorem dX5_init_95 : decode cX5_init 95 = .ok (.dup, 1) := by decide +kernel
theorem dX5_init_96 : decode cX5_init 96 = .ok (.iconst 4, 1) := by decide +kernel
theorem dX5_init_97 : decode cX5_init 97 = .ok (.bipush 107, 2) := by decide +kernel
theorem dX5_init_99 : decode cX5_init 99 = .ok (.castore, 1) := by decide +kernel
theorem dX5_init_100 : decode cX5_init 100 = .ok (.dup, 1) := by decide +kernel
theorem dX5_init_101 : decode cX5_init 101 = .ok (.iconst 5, 1) := by decide +kernel
theorem dX5_init_102 : decode cX5_init 102 = .ok (.bipush 110, 2) := by decide +kernel
theorem dX5_init_104 : decode cX5_init 104 = .ok (.castore, 1) := by decide +kernel
theorem dX5_init_105 : decode cX5_init 105 = .ok (.putfield 32, 3) := by decide +kernel
theorem dX5_init_108 : decode cX5_init 108 = .ok (.aload_n 0, 1) := by decide +kernel
theorem dX5_init_109 : decode cX5_init 109 = .ok (.iconst 4, 1) := by decide +kernel
theorem dX5_init_110 : decode cX5_init 110 = .ok (.newarray .int, 2) := by decide +kernel
theorem dX5_init_112 : decode cX5_init 112 = .ok (.putfield 35, 3) := by decide +kernel
theorem dX5_init_115 : decode cX5_init 115 = .ok (.aload_n 0, 1) := by decide +kernel
theorem dX5_init_116 : decode cX5_init 116 = .ok (.sipush 200, 3) := by decide +kernel
theorem dX5_init_119 : decode cX5_init 119 = .ok (.newarray .int, 2) := by decide +kernel
theorem dX5_init_121 : decode cX5_init 121 = .ok (.putfield 38, 3) := by decide +kernel
theorem dX5_init_124 : decode cX5_init 124 = .ok (.aload_n 0, 1) := by decide +kernel
theorem dX5_init_125 : decode cX5_init 125 = .ok (.bipush (-9), 2) := by decide +kernel
theorem dX5_init_127 : decode cX5_init 127 = .ok (.putfield 41, 3) := by decide +kernel
theorem dX5_init_130 : decode cX5_init 130 = .ok (.aload_n 0, 1) := by decide +kernel
theorem dX5_init_131 : decode cX5_init 131 = .ok (.bipush 64, 2) := by decide +kernel
theorem dX5_init_133 : decode cX5_init 133 = .ok (.newarray .int, 2) := by decide +kernel
theorem dX5_init_135 : decode cX5_init 135 = .ok (.putfield 45, 3) := by decide +kernel
theorem dX5_init_138 : decode cX5_init 138 = .ok (.aload_n 0, 1) := by decide +kernel
theorem dX5_init_139 : decode cX5_init 139 = .ok (.bipush 64, 2) := by decide +kernel
theorem dX5_init_141 : decode cX5_init 141 = .ok (.newarray .int, 2) := by decide +kernel
theorem dX5_init_143 : decode cX5_init 143 = .ok (.putfield 48, 3) := by decide +kernel
theorem dX5_init_146 : decode cX5_init 146 = .ok (.aload_n 0, 1) := by decide +kernel
theorem dX5_init_147 : decode cX5_init 147 = .ok (.bipush 64, 2) := by decide +kernel
theorem dX5_init_149 : decode cX5_init 149 = .ok (.newarray .int, 2) := by decide +kernel
theorem dX5_init_151 : decode cX5_init 151 = .ok (.putfield 51, 3) := by decide +kernel
theorem dX5_init_154 : decode cX5_init 154 = .ok (.aload_n 0, 1) := by decide +kernel
theorem dX5_init_155 : decode cX5_init 155 = .ok (.bipush 64, 2) := by decide +kernel
theorem dX5_init_157 : decode cX5_init 157 = .ok (.newarray .int, 2) := by decide +kernel
theorem dX5_init_159 : decode cX5_init 159 = .ok (.putfield 54, 3) := by decide +kernel
theorem dX5_init_162 : decode cX5_init 162 = .ok (.aload_n 0, 1) := by decide +kernel
theorem dX5_init_163 : decode cX5_init 163 = .ok (.bipush 10, 2) := by decide +kernel
theorem dX5_init_165 : decode cX5_init 165 = .ok (.newarray .int, 2) := by decide +kernel
theorem dX5_init_167 : decode cX5_init 167 = .ok (.putfield 57, 3) := by decide +kernel
theorem dX5_init_170 : decode cX5_init 170 = .ok (.aload_n 0, 1) := by decide +kernel
theorem dX5_init_171 : decode cX5_init 171 = .ok (.bipush 10, 2) := by decide +kernel
theorem dX5_init_173 : decode cX5_init 173 = .ok (.newarray .int, 2) := by decide +kernel
theorem dX5_init_175 : decode cX5_init 175 = .ok (.putfield 60, 3) := by decide +kernel
theorem dX5_init_178 : decode cX5_init 178 = .ok (.aload_n 0, 1) := by decide +kernel
theorem dX5_init_179 : decode cX5_init 179 = .ok (.iconst 5, 1) := by decide +kernel
theorem dX5_init_180 : decode cX5_init 180 = .ok (.newarray .int, 2) := by decide +kernel
theorem dX5_init_182 : decode cX5_init 182 = .ok (.putfield 63, 3) := by decide +kernel
theorem dX5_init_185 : decode cX5_init 185 = .ok (.aload_n 0, 1) := by decide +kernel
theorem dX5_init_186 : decode cX5_init 186 = .ok (.getfield 19, 3) := by decide +kernel
theorem dX5_init_189 : decode cX5_init 189 = .ok (.iconst 3, 1) := by decide +kernel
theorem dX5_init_190 : decode cX5_init 190 = .ok (.iconst 1, 1) := by decide +kernel
theorem dX5_init_191 : decode cX5_init 191 = .ok (.iastore, 1) := by decide +kernel
theorem dX5_init_192 : decode cX5_init 192 = .ok (.aload_n 0, 1) := by decide +kernel
theorem dX5_init_193 : decode cX5_init 193 = .ok (.getfield 19, 3) := by decide +kernel
theorem dX5_init_196 : decode cX5_init 196 = .ok (.iconst 4, 1) := by decide +kernel
theorem dX5_init_197 : decode cX5_init 197 = .ok (.bipush 10, 2) := by decide +kernel
theorem dX5_init_199 : decode cX5_init 199 = .ok (.iastore, 1) := by decide +kernel
theorem dX5_init_200 : decode cX5_init 200 = .ok (.return_, 1) := by decide +kernel
theorem dX5_move_0 : decode cX5_move 0 = .ok (.iconst 0, 1) := by decide +kernel
theorem dX5_move_1 : decode cX5_move 1 = .ok (.istore_n 2, 1) := by decide +kernel
theorem dX5_move_2 : decode cX5_move 2 = .ok (.iload_n 2, 1) := by decide +kernel
theorem dX5_move_3 : decode cX5_move 3 = .ok (.sipush 200, 3) := by decide +kernel
theorem dX5_move_6 : decode cX5_move 6 = .ok (.if_icmp .ge 15, 3) := by decide +kernel
theorem dX5_move_9 : decode cX5_move 9 = .ok (.aload_n 1, 1) := by decide +kernel
theorem dX5_move_10 : decode cX5_move 10 = .ok (.iload_n 2, 1) := by decide +kernel
theorem dX5_move_11 : decode cX5_move 11 = .ok (.aload_n 0, 1) := by decide +kernel
theorem dX5_move_12 : decode cX5_move 12 = .ok (.iload_n 2, 1) := by decide +kernel
theorem dX5_move_13 : decode cX5_move 13 = .ok (.iaload, 1) := by decide +kernel
theorem dX5_move_14 : decode cX5_move 14 = .ok (.iastore, 1) := by decide +kernel
theorem dX5_move_15 : decode cX5_move 15 = .ok (.iinc 2 1, 3) := by decide +kernel
theorem dX5_move_18 : decode cX5_move 18 = .ok (.goto (-16), 3) := by decide +kernel
theorem dX5_move_21 : decode cX5_move 21 = .ok (.return_, 1) := by decide +kernel
theorem dX5_image_0 : decode cX5_image 0 = .ok (.aload_n 0, 1) := by decide +kernel
theorem dX5_image_1 : decode cX5_image 1 = .ok (.iconst 1, 1) := by decide +kernel
theorem dX5_image_2 : decode cX5_image 2 = .ok (.putfield 66, 3) := by decide +kernel
theorem dX5_image_5 : decode cX5_image 5 = .ok (.aload_n 0, 1) := by decide +kernel
theorem dX5_image_6 : decode cX5_image 6 = .ok (.getfield 19, 3) := by decide +kernel
theorem dX5_image_9 : decode cX5_image 9 = .ok (.aload_n 0, 1) := by decide +kernel
theorem dX5_image_10 : decode cX5_image 10 = .ok (.getfield 22, 3) := by decide +kernel
theorem dX5_image_13 : decode cX5_image 13 = .ok (.invokestatic 70, 3) := by decide +kernel
theorem dX5_image_16 : decode cX5_image 16 = .ok (.aload_n 0, 1) := by decide +kernel
theorem dX5_image_17 : decode cX5_image 17 = .ok (.getfield 19, 3) := by decide +kernel
theorem dX5_image_20 : decode cX5_image 20 = .ok (.iconst 0, 1) := by decide +kernel
theorem dX5_image_21 : decode cX5_image 21 = .ok (.iaload, 1) := by decide +kernel
theorem dX5_image_22 : decode cX5_image 22 = .ok (.ireturn, 1) := by decide +kernel
theorem dX5_on_0 : decode cX5_on 0 = .ok (.aload_n 0, 1) := by decide +kernel
theorem dX5_on_1 : decode cX5_on 1 = .ok (.getfield 66, 3) := by decide +kernel
theorem dX5_on_4 : decode cX5_on 4 = .ok (.ifCond .ne 10, 3) := by decide +kernel
theorem dX5_on_7 : decode cX5_on 7 = .ok (.aload_n 0, 1) := by decide +kernel
theorem dX5_on_8 : decode cX5_on 8 = .ok (.bipush (-3), 2) := by decide +kernel
theorem dX5_on_10 : decode cX5_on 10 = .ok (.invokevirtual 9, 3) := by decide +kernel
theorem dX5_on_13 : decode cX5_on 13 = .ok (.ireturn, 1) := by decide +kernel
theorem dX5_on_14 : decode cX5_on 14 = .ok (.aload_n 0, 1) := by decide +kernel
theorem dX5_on_15 : decode cX5_on 15 = .ok (.getfield 22, 3) := by decide +kernel
theorem dX5_on_18 : decode cX5_on 18 = .ok (.aload_n 0, 1) := by decide +kernel
theorem dX5_on_19 : decode cX5_on 19 = .ok (.getfield 19, 3) := by decide +kernel
theorem dX5_on_22 : decode cX5_on 22 = .ok (.invokestatic 70, 3) := by decide +kernel
theorem dX5_on_25 : decode cX5_on 25 = .ok (.aload_n 0, 1) := by decide +kernel
theorem dX5_on_26 : decode cX5_on 26 = .ok (.getfield 19, 3) := by decide +kernel
theorem dX5_on_29 : decode cX5_on 29 = .ok (.iconst 0, 1) := by decide +kernel
theorem dX5_on_30 : decode cX5_on 30 = .ok (.iaload, 1) := by decide +kernel
theorem dX5_on_31 : decode cX5_on 31 = .ok (.ireturn, 1) := by decide +kernel
theorem dX5_letter_0 : decode cX5_letter 0 = .ok (.iload_n 1, 1) := by decide +kernel
theorem dX5_letter_1 : decode cX5_letter 1 = .ok (.ifCond .ge 10, 3) := by decide +kernel
theorem dX5_letter_4 : decode cX5_letter 4 = .ok (.aload_n 0, 1) := by decide +kernel
theorem dX5_letter_5 : decode cX5_letter 5 = .ok (.bipush (-4), 2) := by decide +kernel
theorem dX5_letter_7 : decode cX5_letter 7 = .ok (.invokevirtual 9, 3) := by decide +kernel
theorem dX5_letter_10 : decode cX5_letter 10 = .ok (.ireturn, 1) := by decide +kernel
theorem dX5_letter_11 : decode cX5_letter 11 = .ok (.iload_n 1, 1) := by decide +kernel
theorem dX5_letter_12 : decode cX5_letter 12 = .ok (.sipush 255, 3) := by decide +kernel
theorem dX5_letter_15 : decode cX5_letter 15 = .ok (.if_icmp .gt 12, 3) := by decide +kernel
theorem dX5_letter_18 : decode cX5_letter 18 = .ok (.aload_n 0, 1) := by decide +kernel
theorem dX5_letter_19 : decode cX5_letter 19 = .ok (.getfield 74, 3) := by decide +kernel
theorem dX5_letter_22 : decode cX5_letter 22 = .ok (.bipush 96, 2) := by decide +kernel
theorem dX5_letter_24 : decode cX5_letter 24 = .ok (.if_icmp .ne 10, 3) := by decide +kernel
theorem dX5_letter_27 : decode cX5_letter 27 = .ok (.aload_n 0, 1) := by decide +kernel
theorem dX5_letter_28 : decode cX5_letter 28 = .ok (.bipush (-6), 2) := by decide +kernel
theorem dX5_letter_30 : decode cX5_letter 30 = .ok (.invokevirtual 9, 3) := by decide +kernel
theorem dX5_letter_33 : decode cX5_letter 33 = .ok (.ireturn, 1) := by decide +kernel
theorem dX5_letter_34 : decode cX5_letter 34 = .ok (.aload_n 0, 1) := by decide +kernel
theorem dX5_letter_35 : decode cX5_letter 35 = .ok (.getfield 25, 3) := by decide +kernel
theorem dX5_letter_38 : decode cX5_letter 38 = .ok (.aload_n 0, 1) := by decide +kernel
theorem dX5_letter_39 : decode cX5_letter 39 = .ok (.getfield 74, 3) := by decide +kernel
theorem dX5_letter_42 : decode cX5_letter 42 = .ok (.iload_n 1, 1) := by decide +kernel
theorem dX5_letter_43 : decode cX5_letter 43 = .ok (.iastore, 1) := by decide +kernel
theorem dX5_letter_44 : decode cX5_letter 44 = .ok (.aload_n 0, 1) := by decide +kernel
theorem dX5_letter_45 : decode cX5_letter 45 = .ok (.dup, 1) := by decide +kernel
theorem dX5_letter_46 : decode cX5_letter 46 = .ok (.getfield 74, 3) := by decide +kernel
theorem dX5_letter_49 : decode cX5_letter 49 = .ok (.iconst 1, 1) := by decide +kernel
theorem dX5_letter_50 : decode cX5_letter 50 = .ok (.iadd, 1) := by decide +kernel
theorem dX5_letter_51 : decode cX5_letter 51 = .ok (.putfield 74, 3) := by decide +kernel
theorem dX5_letter_54 : decode cX5_letter 54 = .ok (.aload_n 0, 1) := by decide +kernel
theorem dX5_letter_55 : decode cX5_letter 55 = .ok (.getfield 74, 3) := by decide +kernel
theorem dX5_letter_58 : decode cX5_letter 58 = .ok (.ireturn, 1) := by decide +kernel
theorem dX5_oneOf_0 : decode cX5_oneOf 0 = .ok (.iconst 0, 1) := by decide +kernel
theorem dX5_oneOf_1 : decode cX5_oneOf 1 = .ok (.istore_n 2, 1) := by decide +kernel
theorem dX5_oneOf_2 : decode cX5_oneOf 2 = .ok (.iload_n 2, 1) := by decide +kernel
theorem dX5_oneOf_3 : decode cX5_oneOf 3 = .ok (.aload_n 1, 1) := by decide +kernel
theorem dX5_oneOf_4 : decode cX5_oneOf 4 = .ok (.arraylength, 1) := by decide +kernel
theorem dX5_oneOf_5 : decode cX5_oneOf 5 = .ok (.if_icmp .ge 54, 3) := by decide +kernel
theorem dX5_oneOf_8 : decode cX5_oneOf 8 = .ok (.aload_n 0, 1) := by decide +kernel
theorem dX5_oneOf_9 : decode cX5_oneOf 9 = .ok (.getfield 77, 3) := by decide +kernel
theorem dX5_oneOf_12 : decode cX5_oneOf 12 = .ok (.ifCond .eq 41, 3) := by decide +kernel
theorem dX5_oneOf_15 : decode cX5_oneOf 15 = .ok (.aload_n 0, 1) := by decide +kernel
theorem dX5_oneOf_16 : decode cX5_oneOf 16 = .ok (.getfield 80, 3) := by decide +kernel
theorem dX5_oneOf_19 : decode cX5_oneOf 19 = .ok (.aload_n 0, 1) := by decide +kernel
theorem dX5_oneOf_20 : decode cX5_oneOf 20 = .ok (.getfield 74, 3) := by decide +kernel
theorem dX5_oneOf_23 : decode cX5_oneOf 23 = .ok (.if_icmp .ge 30, 3) := by decide +kernel
theorem dX5_oneOf_26 : decode cX5_oneOf 26 = .ok (.aload_n 0, 1) := by decide +kernel
theorem dX5_oneOf_27 : decode cX5_oneOf 27 = .ok (.getfield 25, 3) := by decide +kernel
theorem dX5_oneOf_30 : decode cX5_oneOf 30 = .ok (.aload_n 0, 1) := by decide +kernel
theorem dX5_oneOf_31 : decode cX5_oneOf 31 = .ok (.getfield 80, 3) := by decide +kernel
theorem dX5_oneOf_34 : decode cX5_oneOf 34 = .ok (.iaload, 1) := by decide +kernel
theorem dX5_oneOf_35 : decode cX5_oneOf 35 = .ok (.aload_n 1, 1) := by decide +kernel
theorem dX5_oneOf_36 : decode cX5_oneOf 36 = .ok (.iload_n 2, 1) := by decide +kernel
theorem dX5_oneOf_37 : decode cX5_oneOf 37 = .ok (.caload, 1) := by decide +kernel
theorem dX5_oneOf_38 : decode cX5_oneOf 38 = .ok (.if_icmp .ne 15, 3) := by decide +kernel
theorem dX5_oneOf_41 : decode cX5_oneOf 41 = .ok (.aload_n 0, 1) := by decide +kernel
theorem dX5_oneOf_42 : decode cX5_oneOf 42 = .ok (.dup, 1) := by decide +kernel
theorem dX5_oneOf_43 : decode cX5_oneOf 43 = .ok (.getfield 80, 3) := by decide +kernel
theorem dX5_oneOf_46 : decode cX5_oneOf 46 = .ok (.iconst 1, 1) := by decide +kernel
theorem dX5_oneOf_47 : decode cX5_oneOf 47 = .ok (.iadd, 1) := by decide +kernel
theorem dX5_oneOf_48 : decode cX5_oneOf 48 = .ok (.putfield 80, 3) := by decide +kernel
theorem dX5_oneOf_51 : decode cX5_oneOf 51 = .ok (.iload_n 2, 1) := by decide +kernel
theorem dX5_oneOf_52 : decode cX5_oneOf 52 = .ok (.ireturn, 1) := by decide +kernel
theorem dX5_oneOf_53 : decode cX5_oneOf 53 = .ok (.iinc 2 1, 3) := by decide +kernel
theorem dX5_oneOf_56 : decode cX5_oneOf 56 = .ok (.goto (-54), 3) := by decide +kernel
theorem dX5_oneOf_59 : decode cX5_oneOf 59 = .ok (.aload_n 0, 1) := by decide +kernel
theorem dX5_oneOf_60 : decode cX5_oneOf 60 = .ok (.iconst 0, 1) := by decide +kernel
theorem dX5_oneOf_61 : decode cX5_oneOf 61 = .ok (.putfield 77, 3) := by decide +kernel
theorem dX5_oneOf_64 : decode cX5_oneOf 64 = .ok (.iconst 0, 1) := by decide +kernel
theorem dX5_oneOf_65 : decode cX5_oneOf 65 = .ok (.ireturn, 1) := by decide +kernel
theorem dX5_figures_0 : decode cX5_figures 0 = .ok (.iconst 0, 1) := by decide +kernel
theorem dX5_figures_1 : decode cX5_figures 1 = .ok (.istore_n 2, 1) := by decide +kernel
theorem dX5_figures_2 : decode cX5_figures 2 = .ok (.iconst 0, 1) := by decide +kernel
theorem dX5_figures_3 : decode cX5_figures 3 = .ok (.istore_n 3, 1) := by decide +kernel
theorem dX5_figures_4 : decode cX5_figures 4 = .ok (.iload_n 3, 1) := by decide +kernel
theorem dX5_figures_5 : decode cX5_figures 5 = .ok (.iload_n 1, 1) := by decide +kernel
theorem dX5_figures_6 : decode cX5_figures 6 = .ok (.if_icmp .ge 91, 3) := by decide +kernel
theorem dX5_figures_9 : decode cX5_figures 9 = .ok (.aload_n 0, 1) := by decide +kernel
theorem dX5_figures_10 : decode cX5_figures 10 = .ok (.getfield 77, 3) := by decide +kernel
theorem dX5_figures_13 : decode cX5_figures 13 = .ok (.ifCond .eq 73, 3) := by decide +kernel
theorem dX5_figures_16 : decode cX5_figures 16 = .ok (.aload_n 0, 1) := by decide +kernel
theorem dX5_figures_17 : decode cX5_figures 17 = .ok (.getfield 80, 3) := by decide +kernel
theorem dX5_figures_20 : decode cX5_figures 20 = .ok (.aload_n 0, 1) := by decide +kernel
theorem dX5_figures_21 : decode cX5_figures 21 = .ok (.getfield 74, 3) := by decide +kernel
theorem dX5_figures_24 : decode cX5_figures 24 = .ok (.if_icmp .ge 62, 3) := by decide +kernel
theorem dX5_figures_27 : decode cX5_figures 27 = .ok (.aload_n 0, 1) := by decide +kernel
theorem dX5_figures_28 : decode cX5_figures 28 = .ok (.getfield 25, 3) := by decide +kernel
theorem dX5_figures_31 : decode cX5_figures 31 = .ok (.aload_n 0, 1) := by decide +kernel
theorem dX5_figures_32 : decode cX5_figures 32 = .ok (.getfield 80, 3) := by decide +kernel
theorem dX5_figures_35 : decode cX5_figures 35 = .ok (.iaload, 1) := by decide +kernel
theorem dX5_figures_36 : decode cX5_figures 36 = .ok (.bipush 48, 2) := by decide +kernel
theorem dX5_figures_38 : decode cX5_figures 38 = .ok (.if_icmp .lt 48, 3) := by decide +kernel
theorem dX5_figures_41 : decode cX5_figures 41 = .ok (.aload_n 0, 1) := by decide +kernel
theorem dX5_figures_42 : decode cX5_figures 42 = .ok (.getfield 25, 3) := by decide +kernel
theorem dX5_figures_45 : decode cX5_figures 45 = .ok (.aload_n 0, 1) := by decide +kernel
theorem dX5_figures_46 : decode cX5_figures 46 = .ok (.getfield 80, 3) := by decide +kernel
theorem dX5_figures_49 : decode cX5_figures 49 = .ok (.iaload, 1) := by decide +kernel
theorem dX5_figures_50 : decode cX5_figures 50 = .ok (.bipush 57, 2) := by decide +kernel
theorem dX5_figures_52 : decode cX5_figures 52 = .ok (.if_icmp .gt 34, 3) := by decide +kernel
theorem dX5_figures_55 : decode cX5_figures 55 = .ok (.bipush 10, 2) := by decide +kernel
theorem dX5_figures_57 : decode cX5_figures 57 = .ok (.iload_n 2, 1) := by decide +kernel
theorem dX5_figures_58 : decode cX5_figures 58 = .ok (.imul, 1) := by decide +kernel
theorem dX5_figures_59 : decode cX5_figures 59 = .ok (.aload_n 0, 1) := by decide +kernel
theorem dX5_figures_60 : decode cX5_figures 60 = .ok (.getfield 25, 3) := by decide +kernel
theorem dX5_figures_63 : decode cX5_figures 63 = .ok (.aload_n 0, 1) := by decide +kernel
theorem dX5_figures_64 : decode cX5_figures 64 = .ok (.getfield 80, 3) := by decide +kernel
theorem dX5_figures_67 : decode cX5_figures 67 = .ok (.iaload, 1) := by decide +kernel
theorem dX5_figures_68 : decode cX5_figures 68 = .ok (.iadd, 1) := by decide +kernel
theorem dX5_figures_69 : decode cX5_figures 69 = .ok (.bipush 48, 2) := by decide +kernel
theorem dX5_figures_71 : decode cX5_figures 71 = .ok (.isub, 1) := by decide +kernel
theorem dX5_figures_72 : decode cX5_figures 72 = .ok (.istore_n 2, 1) := by decide +kernel
theorem dX5_figures_73 : decode cX5_figures 73 = .ok (.aload_n 0, 1) := by decide +kernel
theorem dX5_figures_74 : decode cX5_figures 74 = .ok (.dup, 1) := by decide +kernel
theorem dX5_figures_75 : decode cX5_figures 75 = .ok (.getfield 80, 3) := by decide +kernel
theorem dX5_figures_78 : decode cX5_figures 78 = .ok (.iconst 1, 1) := by decide +kernel
theorem dX5_figures_79 : decode cX5_figures 79 = .ok (.iadd, 1) := by decide +kernel
theorem dX5_figures_80 : decode cX5_figures 80 = .ok (.putfield 80, 3) := by decide +kernel
theorem dX5_figures_83 : decode cX5_figures 83 = .ok (.goto 8, 3) := by decide +kernel
theorem dX5_figures_86 : decode cX5_figures 86 = .ok (.aload_n 0, 1) := by decide +kernel
theorem dX5_figures_87 : decode cX5_figures 87 = .ok (.iconst 0, 1) := by decide +kernel
theorem dX5_figures_88 : decode cX5_figures 88 = .ok (.putfield 77, 3) := by decide +kernel
theorem dX5_figures_91 : decode cX5_figures 91 = .ok (.iinc 3 1, 3) := by decide +kernel
theorem dX5_figures_94 : decode cX5_figures 94 = .ok (.goto (-90), 3) := by decide +kernel
theorem dX5_figures_97 : decode cX5_figures 97 = .ok (.iload_n 2, 1) := by decide +kernel
theorem dX5_figures_98 : decode cX5_figures 98 = .ok (.ireturn, 1) := by decide +kernel
theorem dX5_statement_0 : decode cX5_statement 0 = .ok (.aload_n 0, 1) := by decide +kernel
theorem dX5_statement_1 : decode cX5_statement 1 = .ok (.aload_n 0, 1) := by decide +kernel
theorem dX5_statement_2 : decode cX5_statement 2 = .ok (.aload_n 0, 1) := by decide +kernel
theorem dX5_statement_3 : decode cX5_statement 3 = .ok (.getfield 28, 3) := by decide +kernel
theorem dX5_statement_6 : decode cX5_statement 6 = .ok (.invokevirtual 83, 3) := by decide +kernel
theorem dX5_statement_9 : decode cX5_statement 9 = .ok (.putfield 87, 3) := by decide +kernel
theorem dX5_statement_12 : decode cX5_statement 12 = .ok (.aload_n 0, 1) := by decide +kernel
theorem dX5_statement_13 : decode cX5_statement 13 = .ok (.getfield 87, 3) := by decide +kernel
theorem dX5_statement_16 : decode cX5_statement 16 = .ok (.tableswitch 190 0 3 #[32, 71, 118, 165], 32) := by decide +kernel
theorem dX5_statement_48 : decode cX5_statement 48 = .ok (.aload_n 0, 1) := by decide +kernel
theorem dX5_statement_49 : decode cX5_statement 49 = .ok (.getfield 35, 3) := by decide +kernel
theorem dX5_statement_52 : decode cX5_statement 52 = .ok (.iconst 0, 1) := by decide +kernel
theorem dX5_statement_53 : decode cX5_statement 53 = .ok (.aload_n 0, 1) := by decide +kernel
theorem dX5_statement_54 : decode cX5_statement 54 = .ok (.aload_n 0, 1) := by decide +kernel
theorem dX5_statement_55 : decode cX5_statement 55 = .ok (.getfield 32, 3) := by decide +kernel
theorem dX5_statement_58 : decode cX5_statement 58 = .ok (.invokevirtual 83, 3) := by decide +kernel
theorem dX5_statement_61 : decode cX5_statement 61 = .ok (.iastore, 1) := by decide +kernel
theorem dX5_statement_62 : decode cX5_statement 62 = .ok (.aload_n 0, 1) := by decide +kernel
theorem dX5_statement_63 : decode cX5_statement 63 = .ok (.getfield 35, 3) := by decide +kernel
theorem dX5_statement_66 : decode cX5_statement 66 = .ok (.iconst 1, 1) := by decide +kernel
theorem dX5_statement_67 : decode cX5_statement 67 = .ok (.aload_n 0, 1) := by decide +kernel
theorem dX5_statement_68 : decode cX5_statement 68 = .ok (.iconst 1, 1) := by decide +kernel
theorem dX5_statement_69 : decode cX5_statement 69 = .ok (.invokevirtual 90, 3) := by decide +kernel
theorem dX5_statement_72 : decode cX5_statement 72 = .ok (.iastore, 1) := by decide +kernel
theorem dX5_statement_73 : decode cX5_statement 73 = .ok (.aload_n 0, 1) := by decide +kernel
theorem dX5_statement_74 : decode cX5_statement 74 = .ok (.getfield 35, 3) := by decide +kernel
theorem dX5_statement_77 : decode cX5_statement 77 = .ok (.iconst 2, 1) := by decide +kernel
theorem dX5_statement_78 : decode cX5_statement 78 = .ok (.aload_n 0, 1) := by decide +kernel
theorem dX5_statement_79 : decode cX5_statement 79 = .ok (.iconst 1, 1) := by decide +kernel
theorem dX5_statement_80 : decode cX5_statement 80 = .ok (.invokevirtual 90, 3) := by decide +kernel
theorem dX5_statement_83 : decode cX5_statement 83 = .ok (.iastore, 1) := by decide +kernel
theorem dX5_statement_84 : decode cX5_statement 84 = .ok (.goto 133, 3) := by decide +kernel
theorem dX5_statement_87 : decode cX5_statement 87 = .ok (.aload_n 0, 1) := by decide +kernel
theorem dX5_statement_88 : decode cX5_statement 88 = .ok (.getfield 35, 3) := by decide +kernel
theorem dX5_statement_91 : decode cX5_statement 91 = .ok (.iconst 0, 1) := by decide +kernel
theorem dX5_statement_92 : decode cX5_statement 92 = .ok (.aload_n 0, 1) := by decide +kernel
theorem dX5_statement_93 : decode cX5_statement 93 = .ok (.iconst 1, 1) := by decide +kernel
theorem dX5_statement_94 : decode cX5_statement 94 = .ok (.invokevirtual 90, 3) := by decide +kernel
theorem dX5_statement_97 : decode cX5_statement 97 = .ok (.iastore, 1) := by decide +kernel
theorem dX5_statement_98 : decode cX5_statement 98 = .ok (.aload_n 0, 1) := by decide +kernel
theorem dX5_statement_99 : decode cX5_statement 99 = .ok (.getfield 35, 3) := by decide +kernel
theorem dX5_statement_102 : decode cX5_statement 102 = .ok (.iconst 1, 1) := by decide +kernel
theorem dX5_statement_103 : decode cX5_statement 103 = .ok (.aload_n 0, 1) := by decide +kernel
theorem dX5_statement_104 : decode cX5_statement 104 = .ok (.iconst 1, 1) := by decide +kernel
theorem dX5_statement_105 : decode cX5_statement 105 = .ok (.invokevirtual 90, 3) := by decide +kernel
theorem dX5_statement_108 : decode cX5_statement 108 = .ok (.iastore, 1) := by decide +kernel
theorem dX5_statement_109 : decode cX5_statement 109 = .ok (.aload_n 0, 1) := by decide +kernel
theorem dX5_statement_110 : decode cX5_statement 110 = .ok (.getfield 35, 3) := by decide +kernel
theorem dX5_statement_113 : decode cX5_statement 113 = .ok (.iconst 2, 1) := by decide +kernel
theorem dX5_statement_114 : decode cX5_statement 114 = .ok (.aload_n 0, 1) := by decide +kernel
theorem dX5_statement_115 : decode cX5_statement 115 = .ok (.iconst 2, 1) := by decide +kernel
theorem dX5_statement_116 : decode cX5_statement 116 = .ok (.invokevirtual 90, 3) := by decide +kernel
theorem dX5_statement_119 : decode cX5_statement 119 = .ok (.iastore, 1) := by decide +kernel
theorem dX5_statement_120 : decode cX5_statement 120 = .ok (.aload_n 0, 1) := by decide +kernel
theorem dX5_statement_121 : decode cX5_statement 121 = .ok (.getfield 35, 3) := by decide +kernel
theorem dX5_statement_124 : decode cX5_statement 124 = .ok (.iconst 3, 1) := by decide +kernel
theorem dX5_statement_125 : decode cX5_statement 125 = .ok (.aload_n 0, 1) := by decide +kernel
theorem dX5_statement_126 : decode cX5_statement 126 = .ok (.iconst 1, 1) := by decide +kernel
theorem dX5_statement_127 : decode cX5_statement 127 = .ok (.invokevirtual 90, 3) := by decide +kernel
theorem dX5_statement_130 : decode cX5_statement 130 = .ok (.iastore, 1) := by decide +kernel
theorem dX5_statement_131 : decode cX5_statement 131 = .ok (.goto 86, 3) := by decide +kernel
theorem dX5_statement_134 : decode cX5_statement 134 = .ok (.aload_n 0, 1) := by decide +kernel
theorem dX5_statement_135 : decode cX5_statement 135 = .ok (.getfield 35, 3) := by decide +kernel
theorem dX5_statement_138 : decode cX5_statement 138 = .ok (.iconst 0, 1) := by decide +kernel
theorem dX5_statement_139 : decode cX5_statement 139 = .ok (.aload_n 0, 1) := by decide +kernel
theorem dX5_statement_140 : decode cX5_statement 140 = .ok (.iconst 1, 1) := by decide +kernel
theorem dX5_statement_141 : decode cX5_statement 141 = .ok (.invokevirtual 90, 3) := by decide +kernel
theorem dX5_statement_144 : decode cX5_statement 144 = .ok (.iastore, 1) := by decide +kernel
theorem dX5_statement_145 : decode cX5_statement 145 = .ok (.aload_n 0, 1) := by decide +kernel
theorem dX5_statement_146 : decode cX5_statement 146 = .ok (.getfield 35, 3) := by decide +kernel
theorem dX5_statement_149 : decode cX5_statement 149 = .ok (.iconst 1, 1) := by decide +kernel
theorem dX5_statement_150 : decode cX5_statement 150 = .ok (.aload_n 0, 1) := by decide +kernel
theorem dX5_statement_151 : decode cX5_statement 151 = .ok (.iconst 2, 1) := by decide +kernel
theorem dX5_statement_152 : decode cX5_statement 152 = .ok (.invokevirtual 90, 3) := by decide +kernel
theorem dX5_statement_155 : decode cX5_statement 155 = .ok (.iastore, 1) := by decide +kernel
theorem dX5_statement_156 : decode cX5_statement 156 = .ok (.aload_n 0, 1) := by decide +kernel
theorem dX5_statement_157 : decode cX5_statement 157 = .ok (.getfield 35, 3) := by decide +kernel
theorem dX5_statement_160 : decode cX5_statement 160 = .ok (.iconst 2, 1) := by decide +kernel
theorem dX5_statement_161 : decode cX5_statement 161 = .ok (.aload_n 0, 1) := by decide +kernel
theorem dX5_statement_162 : decode cX5_statement 162 = .ok (.iconst 2, 1) := by decide +kernel
theorem dX5_statement_163 : decode cX5_statement 163 = .ok (.invokevirtual 90, 3) := by decide +kernel
theorem dX5_statement_166 : decode cX5_statement 166 = .ok (.iastore, 1) := by decide +kernel
theorem dX5_statement_167 : decode cX5_statement 167 = .ok (.aload_n 0, 1) := by decide +kernel
theorem dX5_statement_168 : decode cX5_statement 168 = .ok (.getfield 35, 3) := by decide +kernel
theorem dX5_statement_171 : decode cX5_statement 171 = .ok (.iconst 3, 1) := by decide +kernel
theorem dX5_statement_172 : decode cX5_statement 172 = .ok (.aload_n 0, 1) := by decide +kernel
theorem dX5_statement_173 : decode cX5_statement 173 = .ok (.iconst 3, 1) := by decide +kernel
theorem dX5_statement_174 : decode cX5_statement 174 = .ok (.invokevirtual 90, 3) := by decide +kernel
theorem dX5_statement_177 : decode cX5_statement 177 = .ok (.iastore, 1) := by decide +kernel
theorem dX5_statement_178 : decode cX5_statement 178 = .ok (.goto 39, 3) := by decide +kernel
theorem dX5_statement_181 : decode cX5_statement 181 = .ok (.aload_n 0, 1) := by decide +kernel
theorem dX5_statement_182 : decode cX5_statement 182 = .ok (.getfield 35, 3) := by decide +kernel
theorem dX5_statement_185 : decode cX5_statement 185 = .ok (.iconst 0, 1) := by decide +kernel
theorem dX5_statement_186 : decode cX5_statement 186 = .ok (.aload_n 0, 1) := by decide +kernel
theorem dX5_statement_187 : decode cX5_statement 187 = .ok (.iconst 1, 1) := by decide +kernel
theorem dX5_statement_188 : decode cX5_statement 188 = .ok (.invokevirtual 90, 3) := by decide +kernel
theorem dX5_statement_191 : decode cX5_statement 191 = .ok (.iastore, 1) := by decide +kernel
theorem dX5_statement_192 : decode cX5_statement 192 = .ok (.aload_n 0, 1) := by decide +kernel
theorem dX5_statement_193 : decode cX5_statement 193 = .ok (.getfield 35, 3) := by decide +kernel
theorem dX5_statement_196 : decode cX5_statement 196 = .ok (.iconst 1, 1) := by decide +kernel
theorem dX5_statement_197 : decode cX5_statement 197 = .ok (.aload_n 0, 1) := by decide +kernel
theorem dX5_statement_198 : decode cX5_statement 198 = .ok (.iconst 2, 1) := by decide +kernel
theorem dX5_statement_199 : decode cX5_statement 199 = .ok (.invokevirtual 90, 3) := by decide +kernel
theorem dX5_statement_202 : decode cX5_statement 202 = .ok (.iastore, 1) := by decide +kernel
theorem dX5_statement_203 : decode cX5_statement 203 = .ok (.goto 14, 3) := by decide +kernel
theorem dX5_statement_206 : decode cX5_statement 206 = .ok (.aload_n 0, 1) := by decide +kernel
theorem dX5_statement_207 : decode cX5_statement 207 = .ok (.getfield 35, 3) := by decide +kernel
theorem dX5_statement_210 : decode cX5_statement 210 = .ok (.iconst 0, 1) := by decide +kernel
theorem dX5_statement_211 : decode cX5_statement 211 = .ok (.aload_n 0, 1) := by decide +kernel
theorem dX5_statement_212 : decode cX5_statement 212 = .ok (.iconst 1, 1) := by decide +kernel
theorem dX5_statement_213 : decode cX5_statement 213 = .ok (.invokevirtual 90, 3) := by decide +kernel
theorem dX5_statement_216 : decode cX5_statement 216 = .ok (.iastore, 1) := by decide +kernel
theorem dX5_statement_217 : decode cX5_statement 217 = .ok (.aload_n 0, 1) := by decide +kernel
theorem dX5_statement_218 : decode cX5_statement 218 = .ok (.getfield 77, 3) := by decide +kernel
theorem dX5_statement_221 : decode cX5_statement 221 = .ok (.ifCond .eq 41, 3) := by decide +kernel
theorem dX5_statement_224 : decode cX5_statement 224 = .ok (.aload_n 0, 1) := by decide +kernel
theorem dX5_statement_225 : decode cX5_statement 225 = .ok (.getfield 80, 3) := by decide +kernel
theorem dX5_statement_228 : decode cX5_statement 228 = .ok (.aload_n 0, 1) := by decide +kernel
theorem dX5_statement_229 : decode cX5_statement 229 = .ok (.getfield 74, 3) := by decide +kernel
theorem dX5_statement_232 : decode cX5_statement 232 = .ok (.if_icmp .ge 30, 3) := by decide +kernel
theorem dX5_statement_235 : decode cX5_statement 235 = .ok (.aload_n 0, 1) := by decide +kernel
theorem dX5_statement_236 : decode cX5_statement 236 = .ok (.getfield 25, 3) := by decide +kernel
theorem dX5_statement_239 : decode cX5_statement 239 = .ok (.aload_n 0, 1) := by decide +kernel
theorem dX5_statement_240 : decode cX5_statement 240 = .ok (.getfield 80, 3) := by decide +kernel
theorem dX5_statement_243 : decode cX5_statement 243 = .ok (.iaload, 1) := by decide +kernel
theorem dX5_statement_244 : decode cX5_statement 244 = .ok (.bipush 59, 2) := by decide +kernel
theorem dX5_statement_246 : decode cX5_statement 246 = .ok (.if_icmp .ne 16, 3) := by decide +kernel
theorem dX5_statement_249 : decode cX5_statement 249 = .ok (.aload_n 0, 1) := by decide +kernel
theorem dX5_statement_250 : decode cX5_statement 250 = .ok (.dup, 1) := by decide +kernel
theorem dX5_statement_251 : decode cX5_statement 251 = .ok (.getfield 80, 3) := by decide +kernel
theorem dX5_statement_254 : decode cX5_statement 254 = .ok (.iconst 1, 1) := by decide +kernel
theorem dX5_statement_255 : decode cX5_statement 255 = .ok (.iadd, 1) := by decide +kernel
theorem dX5_statement_256 : decode cX5_statement 256 = .ok (.putfield 80, 3) := by decide +kernel
theorem dX5_statement_259 : decode cX5_statement 259 = .ok (.goto 8, 3) := by decide +kernel
theorem dX5_statement_262 : decode cX5_statement 262 = .ok (.aload_n 0, 1) := by decide +kernel
theorem dX5_statement_263 : decode cX5_statement 263 = .ok (.iconst 0, 1) := by decide +kernel
theorem dX5_statement_264 : decode cX5_statement 264 = .ok (.putfield 77, 3) := by decide +kernel
theorem dX5_statement_267 : decode cX5_statement 267 = .ok (.return_, 1) := by decide +kernel
theorem dX5_isAsItMustBe_0 : decode cX5_isAsItMustBe 0 = .ok (.aload_n 0, 1) := by decide +kernel
theorem dX5_isAsItMustBe_1 : decode cX5_isAsItMustBe 1 = .ok (.getfield 87, 3) := by decide +kernel
theorem dX5_isAsItMustBe_4 : decode cX5_isAsItMustBe 4 = .ok (.tableswitch 240 0 3 #[32, 59, 171, 223], 32) := by decide +kernel
theorem dX5_isAsItMustBe_36 : decode cX5_isAsItMustBe 36 = .ok (.aload_n 0, 1) := by decide +kernel
theorem dX5_isAsItMustBe_37 : decode cX5_isAsItMustBe 37 = .ok (.getfield 35, 3) := by decide +kernel
theorem dX5_isAsItMustBe_40 : decode cX5_isAsItMustBe 40 = .ok (.iconst 2, 1) := by decide +kernel
theorem dX5_isAsItMustBe_41 : decode cX5_isAsItMustBe 41 = .ok (.iaload, 1) := by decide +kernel
theorem dX5_isAsItMustBe_42 : decode cX5_isAsItMustBe 42 = .ok (.iconst 3, 1) := by decide +kernel
theorem dX5_isAsItMustBe_43 : decode cX5_isAsItMustBe 43 = .ok (.if_icmp .gt 18, 3) := by decide +kernel
theorem dX5_isAsItMustBe_46 : decode cX5_isAsItMustBe 46 = .ok (.aload_n 0, 1) := by decide +kernel
theorem dX5_isAsItMustBe_47 : decode cX5_isAsItMustBe 47 = .ok (.getfield 19, 3) := by decide +kernel
theorem dX5_isAsItMustBe_50 : decode cX5_isAsItMustBe 50 = .ok (.iconst 0, 1) := by decide +kernel
theorem dX5_isAsItMustBe_51 : decode cX5_isAsItMustBe 51 = .ok (.iaload, 1) := by decide +kernel
theorem dX5_isAsItMustBe_52 : decode cX5_isAsItMustBe 52 = .ok (.bipush 8, 2) := by decide +kernel
theorem dX5_isAsItMustBe_54 : decode cX5_isAsItMustBe 54 = .ok (.if_icmp .ge 7, 3) := by decide +kernel
theorem dX5_isAsItMustBe_57 : decode cX5_isAsItMustBe 57 = .ok (.iconst 1, 1) := by decide +kernel
theorem dX5_isAsItMustBe_58 : decode cX5_isAsItMustBe 58 = .ok (.goto 4, 3) := by decide +kernel
theorem dX5_isAsItMustBe_61 : decode cX5_isAsItMustBe 61 = .ok (.iconst 0, 1) := by decide +kernel
theorem dX5_isAsItMustBe_62 : decode cX5_isAsItMustBe 62 = .ok (.ireturn, 1) := by decide +kernel
theorem dX5_isAsItMustBe_63 : decode cX5_isAsItMustBe 63 = .ok (.aload_n 0, 1) := by decide +kernel
theorem dX5_isAsItMustBe_64 : decode cX5_isAsItMustBe 64 = .ok (.getfield 35, 3) := by decide +kernel
theorem dX5_isAsItMustBe_67 : decode cX5_isAsItMustBe 67 = .ok (.iconst 0, 1) := by decide +kernel
theorem dX5_isAsItMustBe_68 : decode cX5_isAsItMustBe 68 = .ok (.iaload, 1) := by decide +kernel
theorem dX5_isAsItMustBe_69 : decode cX5_isAsItMustBe 69 = .ok (.aload_n 0, 1) := by decide +kernel
theorem dX5_isAsItMustBe_70 : decode cX5_isAsItMustBe 70 = .ok (.getfield 19, 3) := by decide +kernel
theorem dX5_isAsItMustBe_73 : decode cX5_isAsItMustBe 73 = .ok (.iconst 0, 1) := by decide +kernel
theorem dX5_isAsItMustBe_74 : decode cX5_isAsItMustBe 74 = .ok (.iaload, 1) := by decide +kernel
theorem dX5_isAsItMustBe_75 : decode cX5_isAsItMustBe 75 = .ok (.if_icmp .ge 54, 3) := by decide +kernel
theorem dX5_isAsItMustBe_78 : decode cX5_isAsItMustBe 78 = .ok (.aload_n 0, 1) := by decide +kernel
theorem dX5_isAsItMustBe_79 : decode cX5_isAsItMustBe 79 = .ok (.getfield 35, 3) := by decide +kernel
theorem dX5_isAsItMustBe_82 : decode cX5_isAsItMustBe 82 = .ok (.iconst 1, 1) := by decide +kernel
theorem dX5_isAsItMustBe_83 : decode cX5_isAsItMustBe 83 = .ok (.iaload, 1) := by decide +kernel
theorem dX5_isAsItMustBe_84 : decode cX5_isAsItMustBe 84 = .ok (.aload_n 0, 1) := by decide +kernel
theorem dX5_isAsItMustBe_85 : decode cX5_isAsItMustBe 85 = .ok (.getfield 19, 3) := by decide +kernel
theorem dX5_isAsItMustBe_88 : decode cX5_isAsItMustBe 88 = .ok (.iconst 0, 1) := by decide +kernel
theorem dX5_isAsItMustBe_89 : decode cX5_isAsItMustBe 89 = .ok (.iaload, 1) := by decide +kernel
theorem dX5_isAsItMustBe_90 : decode cX5_isAsItMustBe 90 = .ok (.if_icmp .ge 39, 3) := by decide +kernel
theorem dX5_isAsItMustBe_93 : decode cX5_isAsItMustBe 93 = .ok (.aload_n 0, 1) := by decide +kernel
theorem dX5_isAsItMustBe_94 : decode cX5_isAsItMustBe 94 = .ok (.getfield 35, 3) := by decide +kernel
theorem dX5_isAsItMustBe_97 : decode cX5_isAsItMustBe 97 = .ok (.iconst 0, 1) := by decide +kernel
theorem dX5_isAsItMustBe_98 : decode cX5_isAsItMustBe 98 = .ok (.iaload, 1) := by decide +kernel
theorem dX5_isAsItMustBe_99 : decode cX5_isAsItMustBe 99 = .ok (.aload_n 0, 1) := by decide +kernel
theorem dX5_isAsItMustBe_100 : decode cX5_isAsItMustBe 100 = .ok (.getfield 35, 3) := by decide +kernel
theorem dX5_isAsItMustBe_103 : decode cX5_isAsItMustBe 103 = .ok (.iconst 1, 1) := by decide +kernel
theorem dX5_isAsItMustBe_104 : decode cX5_isAsItMustBe 104 = .ok (.iaload, 1) := by decide +kernel
theorem dX5_isAsItMustBe_105 : decode cX5_isAsItMustBe 105 = .ok (.if_icmp .eq 24, 3) := by decide +kernel
theorem dX5_isAsItMustBe_108 : decode cX5_isAsItMustBe 108 = .ok (.aload_n 0, 1) := by decide +kernel
theorem dX5_isAsItMustBe_109 : decode cX5_isAsItMustBe 109 = .ok (.getfield 35, 3) := by decide +kernel
theorem dX5_isAsItMustBe_112 : decode cX5_isAsItMustBe 112 = .ok (.iconst 2, 1) := by decide +kernel
theorem dX5_isAsItMustBe_113 : decode cX5_isAsItMustBe 113 = .ok (.iaload, 1) := by decide +kernel
theorem dX5_isAsItMustBe_114 : decode cX5_isAsItMustBe 114 = .ok (.iconst 1, 1) := by decide +kernel
theorem dX5_isAsItMustBe_115 : decode cX5_isAsItMustBe 115 = .ok (.if_icmp .lt 14, 3) := by decide +kernel
theorem dX5_isAsItMustBe_118 : decode cX5_isAsItMustBe 118 = .ok (.aload_n 0, 1) := by decide +kernel
theorem dX5_isAsItMustBe_119 : decode cX5_isAsItMustBe 119 = .ok (.getfield 35, 3) := by decide +kernel
theorem dX5_isAsItMustBe_122 : decode cX5_isAsItMustBe 122 = .ok (.iconst 2, 1) := by decide +kernel
theorem dX5_isAsItMustBe_123 : decode cX5_isAsItMustBe 123 = .ok (.iaload, 1) := by decide +kernel
theorem dX5_isAsItMustBe_124 : decode cX5_isAsItMustBe 124 = .ok (.bipush 60, 2) := by decide +kernel
theorem dX5_isAsItMustBe_126 : decode cX5_isAsItMustBe 126 = .ok (.if_icmp .le 5, 3) := by decide +kernel
theorem dX5_isAsItMustBe_129 : decode cX5_isAsItMustBe 129 = .ok (.iconst 0, 1) := by decide +kernel
theorem dX5_isAsItMustBe_130 : decode cX5_isAsItMustBe 130 = .ok (.ireturn, 1) := by decide +kernel
theorem dX5_isAsItMustBe_131 : decode cX5_isAsItMustBe 131 = .ok (.aload_n 0, 1) := by decide +kernel
theorem dX5_isAsItMustBe_132 : decode cX5_isAsItMustBe 132 = .ok (.getfield 19, 3) := by decide +kernel
theorem dX5_isAsItMustBe_135 : decode cX5_isAsItMustBe 135 = .ok (.bipush 60, 2) := by decide +kernel
theorem dX5_isAsItMustBe_137 : decode cX5_isAsItMustBe 137 = .ok (.bipush 8, 2) := by decide +kernel
theorem dX5_isAsItMustBe_139 : decode cX5_isAsItMustBe 139 = .ok (.aload_n 0, 1) := by decide +kernel
theorem dX5_isAsItMustBe_140 : decode cX5_isAsItMustBe 140 = .ok (.getfield 35, 3) := by decide +kernel
theorem dX5_isAsItMustBe_143 : decode cX5_isAsItMustBe 143 = .ok (.iconst 0, 1) := by decide +kernel
theorem dX5_isAsItMustBe_144 : decode cX5_isAsItMustBe 144 = .ok (.iaload, 1) := by decide +kernel
theorem dX5_isAsItMustBe_145 : decode cX5_isAsItMustBe 145 = .ok (.imul, 1) := by decide +kernel
theorem dX5_isAsItMustBe_146 : decode cX5_isAsItMustBe 146 = .ok (.iadd, 1) := by decide +kernel
theorem dX5_isAsItMustBe_147 : decode cX5_isAsItMustBe 147 = .ok (.aload_n 0, 1) := by decide +kernel
theorem dX5_isAsItMustBe_148 : decode cX5_isAsItMustBe 148 = .ok (.getfield 35, 3) := by decide +kernel
theorem dX5_isAsItMustBe_151 : decode cX5_isAsItMustBe 151 = .ok (.iconst 1, 1) := by decide +kernel
theorem dX5_isAsItMustBe_152 : decode cX5_isAsItMustBe 152 = .ok (.iaload, 1) := by decide +kernel
theorem dX5_isAsItMustBe_153 : decode cX5_isAsItMustBe 153 = .ok (.iadd, 1) := by decide +kernel
theorem dX5_isAsItMustBe_154 : decode cX5_isAsItMustBe 154 = .ok (.iaload, 1) := by decide +kernel
theorem dX5_isAsItMustBe_155 : decode cX5_isAsItMustBe 155 = .ok (.ifCond .ne 18, 3) := by decide +kernel
theorem dX5_isAsItMustBe_158 : decode cX5_isAsItMustBe 158 = .ok (.aload_n 0, 1) := by decide +kernel
theorem dX5_isAsItMustBe_159 : decode cX5_isAsItMustBe 159 = .ok (.getfield 19, 3) := by decide +kernel
theorem dX5_isAsItMustBe_162 : decode cX5_isAsItMustBe 162 = .ok (.iconst 1, 1) := by decide +kernel
theorem dX5_isAsItMustBe_163 : decode cX5_isAsItMustBe 163 = .ok (.iaload, 1) := by decide +kernel
theorem dX5_isAsItMustBe_164 : decode cX5_isAsItMustBe 164 = .ok (.bipush 14, 2) := by decide +kernel
theorem dX5_isAsItMustBe_166 : decode cX5_isAsItMustBe 166 = .ok (.if_icmp .ge 7, 3) := by decide +kernel
theorem dX5_isAsItMustBe_169 : decode cX5_isAsItMustBe 169 = .ok (.iconst 1, 1) := by decide +kernel
theorem dX5_isAsItMustBe_170 : decode cX5_isAsItMustBe 170 = .ok (.goto 4, 3) := by decide +kernel
theorem dX5_isAsItMustBe_173 : decode cX5_isAsItMustBe 173 = .ok (.iconst 0, 1) := by decide +kernel
theorem dX5_isAsItMustBe_174 : decode cX5_isAsItMustBe 174 = .ok (.ireturn, 1) := by decide +kernel
theorem dX5_isAsItMustBe_175 : decode cX5_isAsItMustBe 175 = .ok (.aload_n 0, 1) := by decide +kernel
theorem dX5_isAsItMustBe_176 : decode cX5_isAsItMustBe 176 = .ok (.getfield 35, 3) := by decide +kernel
theorem dX5_isAsItMustBe_179 : decode cX5_isAsItMustBe 179 = .ok (.iconst 0, 1) := by decide +kernel
theorem dX5_isAsItMustBe_180 : decode cX5_isAsItMustBe 180 = .ok (.iaload, 1) := by decide +kernel
theorem dX5_isAsItMustBe_181 : decode cX5_isAsItMustBe 181 = .ok (.aload_n 0, 1) := by decide +kernel
theorem dX5_isAsItMustBe_182 : decode cX5_isAsItMustBe 182 = .ok (.getfield 19, 3) := by decide +kernel
theorem dX5_isAsItMustBe_185 : decode cX5_isAsItMustBe 185 = .ok (.iconst 0, 1) := by decide +kernel
theorem dX5_isAsItMustBe_186 : decode cX5_isAsItMustBe 186 = .ok (.iaload, 1) := by decide +kernel
theorem dX5_isAsItMustBe_187 : decode cX5_isAsItMustBe 187 = .ok (.if_icmp .ge 38, 3) := by decide +kernel
theorem dX5_isAsItMustBe_190 : decode cX5_isAsItMustBe 190 = .ok (.aload_n 0, 1) := by decide +kernel
theorem dX5_isAsItMustBe_191 : decode cX5_isAsItMustBe 191 = .ok (.getfield 35, 3) := by decide +kernel
theorem dX5_isAsItMustBe_194 : decode cX5_isAsItMustBe 194 = .ok (.iconst 1, 1) := by decide +kernel
theorem dX5_isAsItMustBe_195 : decode cX5_isAsItMustBe 195 = .ok (.iaload, 1) := by decide +kernel
theorem dX5_isAsItMustBe_196 : decode cX5_isAsItMustBe 196 = .ok (.iconst 1, 1) := by decide +kernel
theorem dX5_isAsItMustBe_197 : decode cX5_isAsItMustBe 197 = .ok (.if_icmp .lt 28, 3) := by decide +kernel
theorem dX5_isAsItMustBe_200 : decode cX5_isAsItMustBe 200 = .ok (.aload_n 0, 1) := by decide +kernel
theorem dX5_isAsItMustBe_201 : decode cX5_isAsItMustBe 201 = .ok (.getfield 35, 3) := by decide +kernel
theorem dX5_isAsItMustBe_204 : decode cX5_isAsItMustBe 204 = .ok (.iconst 1, 1) := by decide +kernel
theorem dX5_isAsItMustBe_205 : decode cX5_isAsItMustBe 205 = .ok (.iaload, 1) := by decide +kernel
theorem dX5_isAsItMustBe_206 : decode cX5_isAsItMustBe 206 = .ok (.bipush 60, 2) := by decide +kernel
theorem dX5_isAsItMustBe_208 : decode cX5_isAsItMustBe 208 = .ok (.if_icmp .gt 17, 3) := by decide +kernel
theorem dX5_isAsItMustBe_211 : decode cX5_isAsItMustBe 211 = .ok (.aload_n 0, 1) := by decide +kernel
theorem dX5_isAsItMustBe_212 : decode cX5_isAsItMustBe 212 = .ok (.getfield 19, 3) := by decide +kernel
theorem dX5_isAsItMustBe_215 : decode cX5_isAsItMustBe 215 = .ok (.iconst 2, 1) := by decide +kernel
theorem dX5_isAsItMustBe_216 : decode cX5_isAsItMustBe 216 = .ok (.iaload, 1) := by decide +kernel
theorem dX5_isAsItMustBe_217 : decode cX5_isAsItMustBe 217 = .ok (.iconst 5, 1) := by decide +kernel
theorem dX5_isAsItMustBe_218 : decode cX5_isAsItMustBe 218 = .ok (.if_icmp .ge 7, 3) := by decide +kernel
theorem dX5_isAsItMustBe_221 : decode cX5_isAsItMustBe 221 = .ok (.iconst 1, 1) := by decide +kernel
theorem dX5_isAsItMustBe_222 : decode cX5_isAsItMustBe 222 = .ok (.goto 4, 3) := by decide +kernel
theorem dX5_isAsItMustBe_225 : decode cX5_isAsItMustBe 225 = .ok (.iconst 0, 1) := by decide +kernel
theorem dX5_isAsItMustBe_226 : decode cX5_isAsItMustBe 226 = .ok (.ireturn, 1) := by decide +kernel
theorem dX5_isAsItMustBe_227 : decode cX5_isAsItMustBe 227 = .ok (.aload_n 0, 1) := by decide +kernel
theorem dX5_isAsItMustBe_228 : decode cX5_isAsItMustBe 228 = .ok (.getfield 35, 3) := by decide +kernel
theorem dX5_isAsItMustBe_231 : decode cX5_isAsItMustBe 231 = .ok (.iconst 1, 1) := by decide +kernel
theorem dX5_isAsItMustBe_232 : decode cX5_isAsItMustBe 232 = .ok (.iaload, 1) := by decide +kernel
theorem dX5_isAsItMustBe_233 : decode cX5_isAsItMustBe 233 = .ok (.bipush 60, 2) := by decide +kernel
theorem dX5_isAsItMustBe_235 : decode cX5_isAsItMustBe 235 = .ok (.if_icmp .gt 7, 3) := by decide +kernel
theorem dX5_isAsItMustBe_238 : decode cX5_isAsItMustBe 238 = .ok (.iconst 1, 1) := by decide +kernel
theorem dX5_isAsItMustBe_239 : decode cX5_isAsItMustBe 239 = .ok (.goto 4, 3) := by decide +kernel
theorem dX5_isAsItMustBe_242 : decode cX5_isAsItMustBe 242 = .ok (.iconst 0, 1) := by decide +kernel
theorem dX5_isAsItMustBe_243 : decode cX5_isAsItMustBe 243 = .ok (.ireturn, 1) := by decide +kernel
theorem dX5_isAsItMustBe_244 : decode cX5_isAsItMustBe 244 = .ok (.aload_n 0, 1) := by decide +kernel
theorem dX5_isAsItMustBe_245 : decode cX5_isAsItMustBe 245 = .ok (.getfield 35, 3) := by decide +kernel
theorem dX5_isAsItMustBe_248 : decode cX5_isAsItMustBe 248 = .ok (.iconst 0, 1) := by decide +kernel
theorem dX5_isAsItMustBe_249 : decode cX5_isAsItMustBe 249 = .ok (.iaload, 1) := by decide +kernel
theorem dX5_isAsItMustBe_250 : decode cX5_isAsItMustBe 250 = .ok (.iconst 5, 1) := by decide +kernel
theorem dX5_isAsItMustBe_251 : decode cX5_isAsItMustBe 251 = .ok (.if_icmp .gt 7, 3) := by decide +kernel
theorem dX5_isAsItMustBe_254 : decode cX5_isAsItMustBe 254 = .ok (.iconst 1, 1) := by decide +kernel
theorem dX5_isAsItMustBe_255 : decode cX5_isAsItMustBe 255 = .ok (.goto 4, 3) := by decide +kernel
theorem dX5_isAsItMustBe_258 : decode cX5_isAsItMustBe 258 = .ok (.iconst 0, 1) := by decide +kernel
theorem dX5_isAsItMustBe_259 : decode cX5_isAsItMustBe 259 = .ok (.ireturn, 1) := by decide +kernel
theorem dX5_take_0 : decode cX5_take 0 = .ok (.aload_n 0, 1) := by decide +kernel
theorem dX5_take_1 : decode cX5_take 1 = .ok (.getfield 87, 3) := by decide +kernel
theorem dX5_take_4 : decode cX5_take 4 = .ok (.tableswitch 235 0 3 #[32, 82, 158, 208], 32) := by decide +kernel
theorem dX5_take_36 : decode cX5_take 36 = .ok (.iconst 0, 1) := by decide +kernel
theorem dX5_take_37 : decode cX5_take 37 = .ok (.istore_n 1, 1) := by decide +kernel
theorem dX5_take_38 : decode cX5_take 38 = .ok (.iload_n 1, 1) := by decide +kernel
theorem dX5_take_39 : decode cX5_take 39 = .ok (.iconst 3, 1) := by decide +kernel
theorem dX5_take_40 : decode cX5_take 40 = .ok (.if_icmp .ge 33, 3) := by decide +kernel
theorem dX5_take_43 : decode cX5_take 43 = .ok (.aload_n 0, 1) := by decide +kernel
theorem dX5_take_44 : decode cX5_take 44 = .ok (.getfield 19, 3) := by decide +kernel
theorem dX5_take_47 : decode cX5_take 47 = .ok (.bipush 10, 2) := by decide +kernel
theorem dX5_take_49 : decode cX5_take 49 = .ok (.iconst 3, 1) := by decide +kernel
theorem dX5_take_50 : decode cX5_take 50 = .ok (.aload_n 0, 1) := by decide +kernel
theorem dX5_take_51 : decode cX5_take 51 = .ok (.getfield 19, 3) := by decide +kernel
theorem dX5_take_54 : decode cX5_take 54 = .ok (.iconst 0, 1) := by decide +kernel
theorem dX5_take_55 : decode cX5_take 55 = .ok (.iaload, 1) := by decide +kernel
theorem dX5_take_56 : decode cX5_take 56 = .ok (.imul, 1) := by decide +kernel
theorem dX5_take_57 : decode cX5_take 57 = .ok (.iadd, 1) := by decide +kernel
theorem dX5_take_58 : decode cX5_take 58 = .ok (.iload_n 1, 1) := by decide +kernel
theorem dX5_take_59 : decode cX5_take 59 = .ok (.iadd, 1) := by decide +kernel
theorem dX5_take_60 : decode cX5_take 60 = .ok (.aload_n 0, 1) := by decide +kernel
theorem dX5_take_61 : decode cX5_take 61 = .ok (.getfield 35, 3) := by decide +kernel
theorem dX5_take_64 : decode cX5_take 64 = .ok (.iload_n 1, 1) := by decide +kernel
theorem dX5_take_65 : decode cX5_take 65 = .ok (.iaload, 1) := by decide +kernel
theorem dX5_take_66 : decode cX5_take 66 = .ok (.iastore, 1) := by decide +kernel
theorem dX5_take_67 : decode cX5_take 67 = .ok (.iinc 1 1, 3) := by decide +kernel
theorem dX5_take_70 : decode cX5_take 70 = .ok (.goto (-32), 3) := by decide +kernel
theorem dX5_take_73 : decode cX5_take 73 = .ok (.aload_n 0, 1) := by decide +kernel
theorem dX5_take_74 : decode cX5_take 74 = .ok (.getfield 19, 3) := by decide +kernel
theorem dX5_take_77 : decode cX5_take 77 = .ok (.iconst 0, 1) := by decide +kernel
theorem dX5_take_78 : decode cX5_take 78 = .ok (.dup2, 1) := by decide +kernel
theorem dX5_take_79 : decode cX5_take 79 = .ok (.iaload, 1) := by decide +kernel
theorem dX5_take_80 : decode cX5_take 80 = .ok (.iconst 1, 1) := by decide +kernel
theorem dX5_take_81 : decode cX5_take 81 = .ok (.iadd, 1) := by decide +kernel
theorem dX5_take_82 : decode cX5_take 82 = .ok (.iastore, 1) := by decide +kernel
theorem dX5_take_83 : decode cX5_take 83 = .ok (.goto 168, 3) := by decide +kernel
theorem dX5_take_86 : decode cX5_take 86 = .ok (.iconst 0, 1) := by decide +kernel
theorem dX5_take_87 : decode cX5_take 87 = .ok (.istore_n 1, 1) := by decide +kernel
theorem dX5_take_88 : decode cX5_take 88 = .ok (.iload_n 1, 1) := by decide +kernel
theorem dX5_take_89 : decode cX5_take 89 = .ok (.iconst 2, 1) := by decide +kernel
theorem dX5_take_90 : decode cX5_take 90 = .ok (.if_icmp .ge 59, 3) := by decide +kernel
theorem dX5_take_93 : decode cX5_take 93 = .ok (.bipush 8, 2) := by decide +kernel
theorem dX5_take_95 : decode cX5_take 95 = .ok (.aload_n 0, 1) := by decide +kernel
theorem dX5_take_96 : decode cX5_take 96 = .ok (.getfield 35, 3) := by decide +kernel
theorem dX5_take_99 : decode cX5_take 99 = .ok (.iload_n 1, 1) := by decide +kernel
theorem dX5_take_100 : decode cX5_take 100 = .ok (.iaload, 1) := by decide +kernel
theorem dX5_take_101 : decode cX5_take 101 = .ok (.imul, 1) := by decide +kernel
theorem dX5_take_102 : decode cX5_take 102 = .ok (.aload_n 0, 1) := by decide +kernel
theorem dX5_take_103 : decode cX5_take 103 = .ok (.getfield 35, 3) := by decide +kernel
theorem dX5_take_106 : decode cX5_take 106 = .ok (.iconst 1, 1) := by decide +kernel
theorem dX5_take_107 : decode cX5_take 107 = .ok (.iload_n 1, 1) := by decide +kernel
theorem dX5_take_108 : decode cX5_take 108 = .ok (.isub, 1) := by decide +kernel
theorem dX5_take_109 : decode cX5_take 109 = .ok (.iaload, 1) := by decide +kernel
theorem dX5_take_110 : decode cX5_take 110 = .ok (.iadd, 1) := by decide +kernel
theorem dX5_take_111 : decode cX5_take 111 = .ok (.istore_n 2, 1) := by decide +kernel
theorem dX5_take_112 : decode cX5_take 112 = .ok (.aload_n 0, 1) := by decide +kernel
theorem dX5_take_113 : decode cX5_take 113 = .ok (.getfield 19, 3) := by decide +kernel
theorem dX5_take_116 : decode cX5_take 116 = .ok (.bipush 60, 2) := by decide +kernel
theorem dX5_take_118 : decode cX5_take 118 = .ok (.iload_n 2, 1) := by decide +kernel
theorem dX5_take_119 : decode cX5_take 119 = .ok (.iadd, 1) := by decide +kernel
theorem dX5_take_120 : decode cX5_take 120 = .ok (.aload_n 0, 1) := by decide +kernel
theorem dX5_take_121 : decode cX5_take 121 = .ok (.getfield 35, 3) := by decide +kernel
theorem dX5_take_124 : decode cX5_take 124 = .ok (.iconst 2, 1) := by decide +kernel
theorem dX5_take_125 : decode cX5_take 125 = .ok (.iaload, 1) := by decide +kernel
theorem dX5_take_126 : decode cX5_take 126 = .ok (.iastore, 1) := by decide +kernel
theorem dX5_take_127 : decode cX5_take 127 = .ok (.aload_n 0, 1) := by decide +kernel
theorem dX5_take_128 : decode cX5_take 128 = .ok (.getfield 19, 3) := by decide +kernel
theorem dX5_take_131 : decode cX5_take 131 = .ok (.sipush 130, 3) := by decide +kernel
theorem dX5_take_134 : decode cX5_take 134 = .ok (.iload_n 2, 1) := by decide +kernel
theorem dX5_take_135 : decode cX5_take 135 = .ok (.iadd, 1) := by decide +kernel
theorem dX5_take_136 : decode cX5_take 136 = .ok (.aload_n 0, 1) := by decide +kernel
theorem dX5_take_137 : decode cX5_take 137 = .ok (.getfield 35, 3) := by decide +kernel
theorem dX5_take_140 : decode cX5_take 140 = .ok (.iconst 3, 1) := by decide +kernel
theorem dX5_take_141 : decode cX5_take 141 = .ok (.iaload, 1) := by decide +kernel
theorem dX5_take_142 : decode cX5_take 142 = .ok (.iastore, 1) := by decide +kernel
theorem dX5_take_143 : decode cX5_take 143 = .ok (.iinc 1 1, 3) := by decide +kernel
theorem dX5_take_146 : decode cX5_take 146 = .ok (.goto (-58), 3) := by decide +kernel
theorem dX5_take_149 : decode cX5_take 149 = .ok (.aload_n 0, 1) := by decide +kernel
theorem dX5_take_150 : decode cX5_take 150 = .ok (.getfield 19, 3) := by decide +kernel
theorem dX5_take_153 : decode cX5_take 153 = .ok (.iconst 1, 1) := by decide +kernel
theorem dX5_take_154 : decode cX5_take 154 = .ok (.dup2, 1) := by decide +kernel
theorem dX5_take_155 : decode cX5_take 155 = .ok (.iaload, 1) := by decide +kernel
theorem dX5_take_156 : decode cX5_take 156 = .ok (.iconst 1, 1) := by decide +kernel
theorem dX5_take_157 : decode cX5_take 157 = .ok (.iadd, 1) := by decide +kernel
theorem dX5_take_158 : decode cX5_take 158 = .ok (.iastore, 1) := by decide +kernel
theorem dX5_take_159 : decode cX5_take 159 = .ok (.goto 92, 3) := by decide +kernel
theorem dX5_take_162 : decode cX5_take 162 = .ok (.iconst 0, 1) := by decide +kernel
theorem dX5_take_163 : decode cX5_take 163 = .ok (.istore_n 1, 1) := by decide +kernel
theorem dX5_take_164 : decode cX5_take 164 = .ok (.iload_n 1, 1) := by decide +kernel
theorem dX5_take_165 : decode cX5_take 165 = .ok (.iconst 4, 1) := by decide +kernel
theorem dX5_take_166 : decode cX5_take 166 = .ok (.if_icmp .ge 33, 3) := by decide +kernel
theorem dX5_take_169 : decode cX5_take 169 = .ok (.aload_n 0, 1) := by decide +kernel
theorem dX5_take_170 : decode cX5_take 170 = .ok (.getfield 19, 3) := by decide +kernel
theorem dX5_take_173 : decode cX5_take 173 = .ok (.bipush 40, 2) := by decide +kernel
theorem dX5_take_175 : decode cX5_take 175 = .ok (.iconst 4, 1) := by decide +kernel
theorem dX5_take_176 : decode cX5_take 176 = .ok (.aload_n 0, 1) := by decide +kernel
theorem dX5_take_177 : decode cX5_take 177 = .ok (.getfield 19, 3) := by decide +kernel
theorem dX5_take_180 : decode cX5_take 180 = .ok (.iconst 2, 1) := by decide +kernel
theorem dX5_take_181 : decode cX5_take 181 = .ok (.iaload, 1) := by decide +kernel
theorem dX5_take_182 : decode cX5_take 182 = .ok (.imul, 1) := by decide +kernel
theorem dX5_take_183 : decode cX5_take 183 = .ok (.iadd, 1) := by decide +kernel
theorem dX5_take_184 : decode cX5_take 184 = .ok (.iload_n 1, 1) := by decide +kernel
theorem dX5_take_185 : decode cX5_take 185 = .ok (.iadd, 1) := by decide +kernel
theorem dX5_take_186 : decode cX5_take 186 = .ok (.aload_n 0, 1) := by decide +kernel
theorem dX5_take_187 : decode cX5_take 187 = .ok (.getfield 35, 3) := by decide +kernel
theorem dX5_take_190 : decode cX5_take 190 = .ok (.iload_n 1, 1) := by decide +kernel
theorem dX5_take_191 : decode cX5_take 191 = .ok (.iaload, 1) := by decide +kernel
theorem dX5_take_192 : decode cX5_take 192 = .ok (.iastore, 1) := by decide +kernel
theorem dX5_take_193 : decode cX5_take 193 = .ok (.iinc 1 1, 3) := by decide +kernel
theorem dX5_take_196 : decode cX5_take 196 = .ok (.goto (-32), 3) := by decide +kernel
theorem dX5_take_199 : decode cX5_take 199 = .ok (.aload_n 0, 1) := by decide +kernel
theorem dX5_take_200 : decode cX5_take 200 = .ok (.getfield 19, 3) := by decide +kernel
theorem dX5_take_203 : decode cX5_take 203 = .ok (.iconst 2, 1) := by decide +kernel
theorem dX5_take_204 : decode cX5_take 204 = .ok (.dup2, 1) := by decide +kernel
theorem dX5_take_205 : decode cX5_take 205 = .ok (.iaload, 1) := by decide +kernel
theorem dX5_take_206 : decode cX5_take 206 = .ok (.iconst 1, 1) := by decide +kernel
theorem dX5_take_207 : decode cX5_take 207 = .ok (.iadd, 1) := by decide +kernel
theorem dX5_take_208 : decode cX5_take 208 = .ok (.iastore, 1) := by decide +kernel
theorem dX5_take_209 : decode cX5_take 209 = .ok (.goto 42, 3) := by decide +kernel
theorem dX5_take_212 : decode cX5_take 212 = .ok (.aload_n 0, 1) := by decide +kernel
theorem dX5_take_213 : decode cX5_take 213 = .ok (.getfield 19, 3) := by decide +kernel
theorem dX5_take_216 : decode cX5_take 216 = .ok (.iconst 3, 1) := by decide +kernel
theorem dX5_take_217 : decode cX5_take 217 = .ok (.aload_n 0, 1) := by decide +kernel
theorem dX5_take_218 : decode cX5_take 218 = .ok (.getfield 35, 3) := by decide +kernel
theorem dX5_take_221 : decode cX5_take 221 = .ok (.iconst 0, 1) := by decide +kernel
theorem dX5_take_222 : decode cX5_take 222 = .ok (.iaload, 1) := by decide +kernel
theorem dX5_take_223 : decode cX5_take 223 = .ok (.iastore, 1) := by decide +kernel
theorem dX5_take_224 : decode cX5_take 224 = .ok (.aload_n 0, 1) := by decide +kernel
theorem dX5_take_225 : decode cX5_take 225 = .ok (.getfield 19, 3) := by decide +kernel
theorem dX5_take_228 : decode cX5_take 228 = .ok (.iconst 4, 1) := by decide +kernel
theorem dX5_take_229 : decode cX5_take 229 = .ok (.aload_n 0, 1) := by decide +kernel
theorem dX5_take_230 : decode cX5_take 230 = .ok (.getfield 35, 3) := by decide +kernel
theorem dX5_take_233 : decode cX5_take 233 = .ok (.iconst 1, 1) := by decide +kernel
theorem dX5_take_234 : decode cX5_take 234 = .ok (.iaload, 1) := by decide +kernel
theorem dX5_take_235 : decode cX5_take 235 = .ok (.iastore, 1) := by decide +kernel
theorem dX5_take_236 : decode cX5_take 236 = .ok (.goto 15, 3) := by decide +kernel
theorem dX5_take_239 : decode cX5_take 239 = .ok (.aload_n 0, 1) := by decide +kernel
theorem dX5_take_240 : decode cX5_take 240 = .ok (.getfield 19, 3) := by decide +kernel
theorem dX5_take_243 : decode cX5_take 243 = .ok (.iconst 5, 1) := by decide +kernel
theorem dX5_take_244 : decode cX5_take 244 = .ok (.aload_n 0, 1) := by decide +kernel
theorem dX5_take_245 : decode cX5_take 245 = .ok (.getfield 35, 3) := by decide +kernel
theorem dX5_take_248 : decode cX5_take 248 = .ok (.iconst 0, 1) := by decide +kernel
theorem dX5_take_249 : decode cX5_take 249 = .ok (.iaload, 1) := by decide +kernel
theorem dX5_take_250 : decode cX5_take 250 = .ok (.iastore, 1) := by decide +kernel
theorem dX5_take_251 : decode cX5_take 251 = .ok (.return_, 1) := by decide +kernel
theorem dX5_read_0 : decode cX5_read 0 = .ok (.iconst 0, 1) := by decide +kernel
theorem dX5_read_1 : decode cX5_read 1 = .ok (.istore_n 1, 1) := by decide +kernel
theorem dX5_read_2 : decode cX5_read 2 = .ok (.aload_n 0, 1) := by decide +kernel
theorem dX5_read_3 : decode cX5_read 3 = .ok (.iconst 0, 1) := by decide +kernel
theorem dX5_read_4 : decode cX5_read 4 = .ok (.putfield 80, 3) := by decide +kernel
theorem dX5_read_7 : decode cX5_read 7 = .ok (.aload_n 0, 1) := by decide +kernel
theorem dX5_read_8 : decode cX5_read 8 = .ok (.iconst 1, 1) := by decide +kernel
theorem dX5_read_9 : decode cX5_read 9 = .ok (.putfield 77, 3) := by decide +kernel
theorem dX5_read_12 : decode cX5_read 12 = .ok (.aload_n 0, 1) := by decide +kernel
theorem dX5_read_13 : decode cX5_read 13 = .ok (.invokevirtual 93, 3) := by decide +kernel
theorem dX5_read_16 : decode cX5_read 16 = .ok (.iinc 1 1, 3) := by decide +kernel
theorem dX5_read_19 : decode cX5_read 19 = .ok (.aload_n 0, 1) := by decide +kernel
theorem dX5_read_20 : decode cX5_read 20 = .ok (.getfield 77, 3) := by decide +kernel
theorem dX5_read_23 : decode cX5_read 23 = .ok (.ifCond .eq 14, 3) := by decide +kernel
theorem dX5_read_26 : decode cX5_read 26 = .ok (.aload_n 0, 1) := by decide +kernel
theorem dX5_read_27 : decode cX5_read 27 = .ok (.getfield 80, 3) := by decide +kernel
theorem dX5_read_30 : decode cX5_read 30 = .ok (.aload_n 0, 1) := by decide +kernel
theorem dX5_read_31 : decode cX5_read 31 = .ok (.getfield 74, 3) := by decide +kernel
theorem dX5_read_34 : decode cX5_read 34 = .ok (.if_icmp .lt (-22), 3) := by decide +kernel
theorem dX5_read_37 : decode cX5_read 37 = .ok (.aload_n 0, 1) := by decide +kernel
theorem dX5_read_38 : decode cX5_read 38 = .ok (.getfield 77, 3) := by decide +kernel
theorem dX5_read_41 : decode cX5_read 41 = .ok (.ifCond .ne 12, 3) := by decide +kernel
theorem dX5_read_44 : decode cX5_read 44 = .ok (.sipush (-1000), 3) := by decide +kernel
theorem dX5_read_47 : decode cX5_read 47 = .ok (.aload_n 0, 1) := by decide +kernel
theorem dX5_read_48 : decode cX5_read 48 = .ok (.getfield 80, 3) := by decide +kernel
theorem dX5_read_51 : decode cX5_read 51 = .ok (.isub, 1) := by decide +kernel
theorem dX5_read_52 : decode cX5_read 52 = .ok (.ireturn, 1) := by decide +kernel
theorem dX5_read_53 : decode cX5_read 53 = .ok (.aload_n 0, 1) := by decide +kernel
theorem dX5_read_54 : decode cX5_read 54 = .ok (.iconst 0, 1) := by decide +kernel
theorem dX5_read_55 : decode cX5_read 55 = .ok (.putfield 80, 3) := by decide +kernel
theorem dX5_read_58 : decode cX5_read 58 = .ok (.aload_n 0, 1) := by decide +kernel
theorem dX5_read_59 : decode cX5_read 59 = .ok (.getfield 19, 3) := by decide +kernel
theorem dX5_read_62 : decode cX5_read 62 = .ok (.aload_n 0, 1) := by decide +kernel
theorem dX5_read_63 : decode cX5_read 63 = .ok (.getfield 38, 3) := by decide +kernel
theorem dX5_read_66 : decode cX5_read 66 = .ok (.invokestatic 70, 3) := by decide +kernel
theorem dX5_read_69 : decode cX5_read 69 = .ok (.aload_n 0, 1) := by decide +kernel
theorem dX5_read_70 : decode cX5_read 70 = .ok (.getfield 80, 3) := by decide +kernel
theorem dX5_read_73 : decode cX5_read 73 = .ok (.aload_n 0, 1) := by decide +kernel
theorem dX5_read_74 : decode cX5_read 74 = .ok (.getfield 74, 3) := by decide +kernel
theorem dX5_read_77 : decode cX5_read 77 = .ok (.if_icmp .ge 43, 3) := by decide +kernel
theorem dX5_read_80 : decode cX5_read 80 = .ok (.aload_n 0, 1) := by decide +kernel
theorem dX5_read_81 : decode cX5_read 81 = .ok (.getfield 80, 3) := by decide +kernel
theorem dX5_read_84 : decode cX5_read 84 = .ok (.istore_n 2, 1) := by decide +kernel
theorem dX5_read_85 : decode cX5_read 85 = .ok (.aload_n 0, 1) := by decide +kernel
theorem dX5_read_86 : decode cX5_read 86 = .ok (.invokevirtual 93, 3) := by decide +kernel
theorem dX5_read_89 : decode cX5_read 89 = .ok (.aload_n 0, 1) := by decide +kernel
theorem dX5_read_90 : decode cX5_read 90 = .ok (.invokevirtual 96, 3) := by decide +kernel
theorem dX5_read_93 : decode cX5_read 93 = .ok (.ifCond .ne 20, 3) := by decide +kernel
theorem dX5_read_96 : decode cX5_read 96 = .ok (.aload_n 0, 1) := by decide +kernel
theorem dX5_read_97 : decode cX5_read 97 = .ok (.getfield 38, 3) := by decide +kernel
theorem dX5_read_100 : decode cX5_read 100 = .ok (.aload_n 0, 1) := by decide +kernel
theorem dX5_read_101 : decode cX5_read 101 = .ok (.getfield 19, 3) := by decide +kernel
theorem dX5_read_104 : decode cX5_read 104 = .ok (.invokestatic 70, 3) := by decide +kernel
theorem dX5_read_107 : decode cX5_read 107 = .ok (.sipush (-2000), 3) := by decide +kernel
theorem dX5_read_110 : decode cX5_read 110 = .ok (.iload_n 2, 1) := by decide +kernel
theorem dX5_read_111 : decode cX5_read 111 = .ok (.isub, 1) := by decide +kernel
theorem dX5_read_112 : decode cX5_read 112 = .ok (.ireturn, 1) := by decide +kernel
theorem dX5_read_113 : decode cX5_read 113 = .ok (.aload_n 0, 1) := by decide +kernel
theorem dX5_read_114 : decode cX5_read 114 = .ok (.invokevirtual 100, 3) := by decide +kernel
theorem dX5_read_117 : decode cX5_read 117 = .ok (.goto (-48), 3) := by decide +kernel
theorem dX5_read_120 : decode cX5_read 120 = .ok (.iload_n 1, 1) := by decide +kernel
theorem dX5_read_121 : decode cX5_read 121 = .ok (.ireturn, 1) := by decide +kernel
theorem dX5_town_0 : decode cX5_town 0 = .ok (.aload_n 0, 1) := by decide +kernel
theorem dX5_town_1 : decode cX5_town 1 = .ok (.invokevirtual 103, 3) := by decide +kernel
theorem dX5_town_4 : decode cX5_town 4 = .ok (.istore_n 1, 1) := by decide +kernel
theorem dX5_town_5 : decode cX5_town 5 = .ok (.aload_n 0, 1) := by decide +kernel
theorem dX5_town_6 : decode cX5_town 6 = .ok (.iconst 0, 1) := by decide +kernel
theorem dX5_town_7 : decode cX5_town 7 = .ok (.putfield 74, 3) := by decide +kernel
theorem dX5_town_10 : decode cX5_town 10 = .ok (.iload_n 1, 1) := by decide +kernel
theorem dX5_town_11 : decode cX5_town 11 = .ok (.ireturn, 1) := by decide +kernel
theorem dX5_pushers_0 : decode cX5_pushers 0 = .ok (.aload_n 0, 1) := by decide +kernel
theorem dX5_pushers_1 : decode cX5_pushers 1 = .ok (.getfield 19, 3) := by decide +kernel
theorem dX5_pushers_4 : decode cX5_pushers 4 = .ok (.bipush 10, 2) := by decide +kernel
theorem dX5_pushers_6 : decode cX5_pushers 6 = .ok (.iconst 3, 1) := by decide +kernel
theorem dX5_pushers_7 : decode cX5_pushers 7 = .ok (.iload_n 1, 1) := by decide +kernel
theorem dX5_pushers_8 : decode cX5_pushers 8 = .ok (.imul, 1) := by decide +kernel
theorem dX5_pushers_9 : decode cX5_pushers 9 = .ok (.iadd, 1) := by decide +kernel
theorem dX5_pushers_10 : decode cX5_pushers 10 = .ok (.iconst 2, 1) := by decide +kernel
theorem dX5_pushers_11 : decode cX5_pushers 11 = .ok (.iadd, 1) := by decide +kernel
theorem dX5_pushers_12 : decode cX5_pushers 12 = .ok (.iaload, 1) := by decide +kernel
theorem dX5_pushers_13 : decode cX5_pushers 13 = .ok (.iload_n 1, 1) := by decide +kernel
theorem dX5_pushers_14 : decode cX5_pushers 14 = .ok (.aload_n 0, 1) := by decide +kernel
theorem dX5_pushers_15 : decode cX5_pushers 15 = .ok (.getfield 41, 3) := by decide +kernel
theorem dX5_pushers_18 : decode cX5_pushers 18 = .ok (.if_icmp .ne 7, 3) := by decide +kernel
theorem dX5_pushers_21 : decode cX5_pushers 21 = .ok (.iconst 1, 1) := by decide +kernel
theorem dX5_pushers_22 : decode cX5_pushers 22 = .ok (.goto 4, 3) := by decide +kernel
theorem dX5_pushers_25 : decode cX5_pushers 25 = .ok (.iconst 0, 1) := by decide +kernel
theorem dX5_pushers_26 : decode cX5_pushers 26 = .ok (.iadd, 1) := by decide +kernel
theorem dX5_pushers_27 : decode cX5_pushers 27 = .ok (.ireturn, 1) := by decide +kernel
theorem dX5_starts_0 : decode cX5_starts 0 = .ok (.aload_n 0, 1) := by decide +kernel
theorem dX5_starts_1 : decode cX5_starts 1 = .ok (.getfield 107, 3) := by decide +kernel
theorem dX5_starts_4 : decode cX5_starts 4 = .ok (.ifCond .ne 14, 3) := by decide +kernel
theorem dX5_starts_7 : decode cX5_starts 7 = .ok (.aload_n 0, 1) := by decide +kernel
theorem dX5_starts_8 : decode cX5_starts 8 = .ok (.getfield 110, 3) := by decide +kernel
theorem dX5_starts_11 : decode cX5_starts 11 = .ok (.ifCond .eq 10, 3) := by decide +kernel
theorem dX5_starts_14 : decode cX5_starts 14 = .ok (.iload_n 1, 1) := by decide +kernel
theorem dX5_starts_15 : decode cX5_starts 15 = .ok (.ifCond .ne 6, 3) := by decide +kernel
theorem dX5_starts_18 : decode cX5_starts 18 = .ok (.bipush 10, 2) := by decide +kernel
theorem dX5_starts_20 : decode cX5_starts 20 = .ok (.ireturn, 1) := by decide +kernel
theorem dX5_starts_21 : decode cX5_starts 21 = .ok (.aload_n 0, 1) := by decide +kernel
theorem dX5_starts_22 : decode cX5_starts 22 = .ok (.getfield 19, 3) := by decide +kernel
theorem dX5_starts_25 : decode cX5_starts 25 = .ok (.bipush 10, 2) := by decide +kernel
theorem dX5_starts_27 : decode cX5_starts 27 = .ok (.iconst 3, 1) := by decide +kernel
theorem dX5_starts_28 : decode cX5_starts 28 = .ok (.iload_n 1, 1) := by decide +kernel
theorem dX5_starts_29 : decode cX5_starts 29 = .ok (.imul, 1) := by decide +kernel
theorem dX5_starts_30 : decode cX5_starts 30 = .ok (.iadd, 1) := by decide +kernel
theorem dX5_starts_31 : decode cX5_starts 31 = .ok (.iconst 1, 1) := by decide +kernel
theorem dX5_starts_32 : decode cX5_starts 32 = .ok (.iadd, 1) := by decide +kernel
theorem dX5_starts_33 : decode cX5_starts 33 = .ok (.iaload, 1) := by decide +kernel
theorem dX5_starts_34 : decode cX5_starts 34 = .ok (.istore_n 2, 1) := by decide +kernel
theorem dX5_starts_35 : decode cX5_starts 35 = .ok (.bipush 10, 2) := by decide +kernel
theorem dX5_starts_37 : decode cX5_starts 37 = .ok (.iconst 2, 1) := by decide +kernel
theorem dX5_starts_38 : decode cX5_starts 38 = .ok (.iload_n 2, 1) := by decide +kernel
theorem dX5_starts_39 : decode cX5_starts 39 = .ok (.imul, 1) := by decide +kernel
theorem dX5_starts_40 : decode cX5_starts 40 = .ok (.invokestatic 113, 3) := by decide +kernel
theorem dX5_starts_43 : decode cX5_starts 43 = .ok (.istore_n 3, 1) := by decide +kernel
theorem dX5_starts_44 : decode cX5_starts 44 = .ok (.iconst 0, 1) := by decide +kernel
theorem dX5_starts_45 : decode cX5_starts 45 = .ok (.iload_n 3, 1) := by decide +kernel
theorem dX5_starts_46 : decode cX5_starts 46 = .ok (.iconst 2, 1) := by decide +kernel
theorem dX5_starts_47 : decode cX5_starts 47 = .ok (.isub, 1) := by decide +kernel
theorem dX5_starts_48 : decode cX5_starts 48 = .ok (.invokestatic 119, 3) := by decide +kernel
theorem dX5_starts_51 : decode cX5_starts 51 = .ok (.istore 4, 2) := by decide +kernel
theorem dX5_starts_53 : decode cX5_starts 53 = .ok (.bipush 10, 2) := by decide +kernel
theorem dX5_starts_55 : decode cX5_starts 55 = .ok (.iload_n 3, 1) := by decide +kernel
theorem dX5_starts_56 : decode cX5_starts 56 = .ok (.iconst 1, 1) := by decide +kernel
theorem dX5_starts_57 : decode cX5_starts 57 = .ok (.iadd, 1) := by decide +kernel
theorem dX5_starts_58 : decode cX5_starts 58 = .ok (.invokestatic 113, 3) := by decide +kernel
theorem dX5_starts_61 : decode cX5_starts 61 = .ok (.istore 5, 2) := by decide +kernel
theorem dX5_starts_63 : decode cX5_starts 63 = .ok (.aload_n 0, 1) := by decide +kernel
theorem dX5_starts_64 : decode cX5_starts 64 = .ok (.getfield 19, 3) := by decide +kernel
theorem dX5_starts_67 : decode cX5_starts 67 = .ok (.bipush 10, 2) := by decide +kernel
theorem dX5_starts_69 : decode cX5_starts 69 = .ok (.iconst 3, 1) := by decide +kernel
theorem dX5_starts_70 : decode cX5_starts 70 = .ok (.iload_n 1, 1) := by decide +kernel
theorem dX5_starts_71 : decode cX5_starts 71 = .ok (.imul, 1) := by decide +kernel
theorem dX5_starts_72 : decode cX5_starts 72 = .ok (.iadd, 1) := by decide +kernel
theorem dX5_starts_73 : decode cX5_starts 73 = .ok (.iaload, 1) := by decide +kernel
theorem dX5_starts_74 : decode cX5_starts 74 = .ok (.tableswitch 59 0 4 #[34, 36, 39, 42, 54], 34) := by decide +kernel
theorem dX5_starts_108 : decode cX5_starts 108 = .ok (.iload_n 3, 1) := by decide +kernel
theorem dX5_starts_109 : decode cX5_starts 109 = .ok (.ireturn, 1) := by decide +kernel
theorem dX5_starts_110 : decode cX5_starts 110 = .ok (.iload 4, 2) := by decide +kernel
theorem dX5_starts_112 : decode cX5_starts 112 = .ok (.ireturn, 1) := by decide +kernel
theorem dX5_starts_113 : decode cX5_starts 113 = .ok (.iload 5, 2) := by decide +kernel
theorem dX5_starts_115 : decode cX5_starts 115 = .ok (.ireturn, 1) := by decide +kernel
theorem dX5_starts_116 : decode cX5_starts 116 = .ok (.iload_n 2, 1) := by decide +kernel
theorem dX5_starts_117 : decode cX5_starts 117 = .ok (.ifCond .le 8, 3) := by decide +kernel
theorem dX5_starts_120 : decode cX5_starts 120 = .ok (.bipush 10, 2) := by decide +kernel
theorem dX5_starts_122 : decode cX5_starts 122 = .ok (.goto 5, 3) := by decide +kernel
theorem dX5_starts_125 : decode cX5_starts 125 = .ok (.iload 5, 2) := by decide +kernel
theorem dX5_starts_127 : decode cX5_starts 127 = .ok (.ireturn, 1) := by decide +kernel
theorem dX5_starts_128 : decode cX5_starts 128 = .ok (.iload 4, 2) := by decide +kernel
theorem dX5_starts_130 : decode cX5_starts 130 = .ok (.iconst 2, 1) := by decide +kernel
theorem dX5_starts_131 : decode cX5_starts 131 = .ok (.idiv, 1) := by decide +kernel
theorem dX5_starts_132 : decode cX5_starts 132 = .ok (.ireturn, 1) := by decide +kernel
theorem dX5_starts_133 : decode cX5_starts 133 = .ok (.iconst 0, 1) := by decide +kernel
theorem dX5_starts_134 : decode cX5_starts 134 = .ok (.iload 5, 2) := by decide +kernel
theorem dX5_starts_136 : decode cX5_starts 136 = .ok (.iconst 3, 1) := by decide +kernel
theorem dX5_starts_137 : decode cX5_starts 137 = .ok (.iconst 0, 1) := by decide +kernel
theorem dX5_starts_138 : decode cX5_starts 138 = .ok (.iconst 2, 1) := by decide +kernel
theorem dX5_starts_139 : decode cX5_starts 139 = .ok (.aload_n 0, 1) := by decide +kernel
theorem dX5_starts_140 : decode cX5_starts 140 = .ok (.iload_n 1, 1) := by decide +kernel
theorem dX5_starts_141 : decode cX5_starts 141 = .ok (.invokevirtual 122, 3) := by decide +kernel
theorem dX5_starts_144 : decode cX5_starts 144 = .ok (.isub, 1) := by decide +kernel
theorem dX5_starts_145 : decode cX5_starts 145 = .ok (.invokestatic 119, 3) := by decide +kernel
theorem dX5_starts_148 : decode cX5_starts 148 = .ok (.imul, 1) := by decide +kernel
theorem dX5_starts_149 : decode cX5_starts 149 = .ok (.isub, 1) := by decide +kernel
theorem dX5_starts_150 : decode cX5_starts 150 = .ok (.invokestatic 119, 3) := by decide +kernel
theorem dX5_starts_153 : decode cX5_starts 153 = .ok (.ireturn, 1) := by decide +kernel
theorem dX5_pushed_0 : decode cX5_pushed 0 = .ok (.bipush 10, 2) := by decide +kernel
theorem dX5_pushed_2 : decode cX5_pushed 2 = .ok (.aload_n 0, 1) := by decide +kernel
theorem dX5_pushed_3 : decode cX5_pushed 3 = .ok (.iload_n 1, 1) := by decide +kernel
theorem dX5_pushed_4 : decode cX5_pushed 4 = .ok (.invokevirtual 125, 3) := by decide +kernel
theorem dX5_pushed_7 : decode cX5_pushed 7 = .ok (.iconst 2, 1) := by decide +kernel
theorem dX5_pushed_8 : decode cX5_pushed 8 = .ok (.aload_n 0, 1) := by decide +kernel
theorem dX5_pushed_9 : decode cX5_pushed 9 = .ok (.iload_n 1, 1) := by decide +kernel
theorem dX5_pushed_10 : decode cX5_pushed 10 = .ok (.invokevirtual 122, 3) := by decide +kernel
theorem dX5_pushed_13 : decode cX5_pushed 13 = .ok (.imul, 1) := by decide +kernel
theorem dX5_pushed_14 : decode cX5_pushed 14 = .ok (.iadd, 1) := by decide +kernel
theorem dX5_pushed_15 : decode cX5_pushed 15 = .ok (.invokestatic 113, 3) := by decide +kernel
theorem dX5_pushed_18 : decode cX5_pushed 18 = .ok (.ireturn, 1) := by decide +kernel
theorem dX5_isNoPlace_0 : decode cX5_isNoPlace 0 = .ok (.iload_n 1, 1) := by decide +kernel
theorem dX5_isNoPlace_1 : decode cX5_isNoPlace 1 = .ok (.ifCond .lt 13, 3) := by decide +kernel
theorem dX5_isNoPlace_4 : decode cX5_isNoPlace 4 = .ok (.iload_n 1, 1) := by decide +kernel
theorem dX5_isNoPlace_5 : decode cX5_isNoPlace 5 = .ok (.aload_n 0, 1) := by decide +kernel
theorem dX5_isNoPlace_6 : decode cX5_isNoPlace 6 = .ok (.getfield 19, 3) := by decide +kernel
theorem dX5_isNoPlace_9 : decode cX5_isNoPlace 9 = .ok (.iconst 0, 1) := by decide +kernel
theorem dX5_isNoPlace_10 : decode cX5_isNoPlace 10 = .ok (.iaload, 1) := by decide +kernel
theorem dX5_isNoPlace_11 : decode cX5_isNoPlace 11 = .ok (.if_icmp .lt 7, 3) := by decide +kernel
theorem dX5_isNoPlace_14 : decode cX5_isNoPlace 14 = .ok (.iconst 1, 1) := by decide +kernel
theorem dX5_isNoPlace_15 : decode cX5_isNoPlace 15 = .ok (.goto 4, 3) := by decide +kernel
theorem dX5_isNoPlace_18 : decode cX5_isNoPlace 18 = .ok (.iconst 0, 1) := by decide +kernel
theorem dX5_isNoPlace_19 : decode cX5_isNoPlace 19 = .ok (.ireturn, 1) := by decide +kernel
theorem dX5_place_0 : decode cX5_place 0 = .ok (.aload_n 0, 1) := by decide +kernel
theorem dX5_place_1 : decode cX5_place 1 = .ok (.iload_n 1, 1) := by decide +kernel
theorem dX5_place_2 : decode cX5_place 2 = .ok (.invokevirtual 128, 3) := by decide +kernel
theorem dX5_place_5 : decode cX5_place 5 = .ok (.ifCond .eq 9, 3) := by decide +kernel
theorem dX5_place_8 : decode cX5_place 8 = .ok (.aload_n 0, 1) := by decide +kernel
theorem dX5_place_9 : decode cX5_place 9 = .ok (.iconst (-1), 1) := by decide +kernel
theorem dX5_place_10 : decode cX5_place 10 = .ok (.invokevirtual 9, 3) := by decide +kernel
theorem dX5_place_13 : decode cX5_place 13 = .ok (.ireturn, 1) := by decide +kernel
theorem dX5_place_14 : decode cX5_place 14 = .ok (.iload_n 2, 1) := by decide +kernel
theorem dX5_place_15 : decode cX5_place 15 = .ok (.tableswitch 59 0 4 #[33, 33, 33, 47, 53], 33) := by decide +kernel
theorem dX5_place_48 : decode cX5_place 48 = .ok (.aload_n 0, 1) := by decide +kernel
theorem dX5_place_49 : decode cX5_place 49 = .ok (.getfield 19, 3) := by decide +kernel
theorem dX5_place_52 : decode cX5_place 52 = .ok (.bipush 10, 2) := by decide +kernel
theorem dX5_place_54 : decode cX5_place 54 = .ok (.iconst 3, 1) := by decide +kernel
theorem dX5_place_55 : decode cX5_place 55 = .ok (.iload_n 1, 1) := by decide +kernel
theorem dX5_place_56 : decode cX5_place 56 = .ok (.imul, 1) := by decide +kernel
theorem dX5_place_57 : decode cX5_place 57 = .ok (.iadd, 1) := by decide +kernel
theorem dX5_place_58 : decode cX5_place 58 = .ok (.iload_n 2, 1) := by decide +kernel
theorem dX5_place_59 : decode cX5_place 59 = .ok (.iadd, 1) := by decide +kernel
theorem dX5_place_60 : decode cX5_place 60 = .ok (.iaload, 1) := by decide +kernel
theorem dX5_place_61 : decode cX5_place 61 = .ok (.ireturn, 1) := by decide +kernel
theorem dX5_place_62 : decode cX5_place 62 = .ok (.aload_n 0, 1) := by decide +kernel
theorem dX5_place_63 : decode cX5_place 63 = .ok (.iload_n 1, 1) := by decide +kernel
theorem dX5_place_64 : decode cX5_place 64 = .ok (.invokevirtual 125, 3) := by decide +kernel
theorem dX5_place_67 : decode cX5_place 67 = .ok (.ireturn, 1) := by decide +kernel
theorem dX5_place_68 : decode cX5_place 68 = .ok (.aload_n 0, 1) := by decide +kernel
theorem dX5_place_69 : decode cX5_place 69 = .ok (.iload_n 1, 1) := by decide +kernel
theorem dX5_place_70 : decode cX5_place 70 = .ok (.invokevirtual 132, 3) := by decide +kernel
theorem dX5_place_73 : decode cX5_place 73 = .ok (.ireturn, 1) := by decide +kernel
theorem dX5_place_74 : decode cX5_place 74 = .ok (.aload_n 0, 1) := by decide +kernel
theorem dX5_place_75 : decode cX5_place 75 = .ok (.bipush (-2), 2) := by decide +kernel
theorem dX5_place_77 : decode cX5_place 77 = .ok (.invokevirtual 9, 3) := by decide +kernel
theorem dX5_place_80 : decode cX5_place 80 = .ok (.ireturn, 1) := by decide +kernel
theorem dX5_change_0 : decode cX5_change 0 = .ok (.iload_n 2, 1) := by decide +kernel
theorem dX5_change_1 : decode cX5_change 1 = .ok (.ifCond .ge 10, 3) := by decide +kernel
theorem dX5_change_4 : decode cX5_change 4 = .ok (.aload_n 0, 1) := by decide +kernel
theorem dX5_change_5 : decode cX5_change 5 = .ok (.bipush (-4), 2) := by decide +kernel
theorem dX5_change_7 : decode cX5_change 7 = .ok (.invokevirtual 9, 3) := by decide +kernel
theorem dX5_change_10 : decode cX5_change 10 = .ok (.ireturn, 1) := by decide +kernel
theorem dX5_change_11 : decode cX5_change 11 = .ok (.iload_n 2, 1) := by decide +kernel
theorem dX5_change_12 : decode cX5_change 12 = .ok (.iload_n 3, 1) := by decide +kernel
theorem dX5_change_13 : decode cX5_change 13 = .ok (.if_icmp .le 10, 3) := by decide +kernel
theorem dX5_change_16 : decode cX5_change 16 = .ok (.aload_n 0, 1) := by decide +kernel
theorem dX5_change_17 : decode cX5_change 17 = .ok (.bipush (-6), 2) := by decide +kernel
theorem dX5_change_19 : decode cX5_change 19 = .ok (.invokevirtual 9, 3) := by decide +kernel
theorem dX5_change_22 : decode cX5_change 22 = .ok (.ireturn, 1) := by decide +kernel
theorem dX5_change_23 : decode cX5_change 23 = .ok (.aload_n 0, 1) := by decide +kernel
theorem dX5_change_24 : decode cX5_change 24 = .ok (.getfield 19, 3) := by decide +kernel
theorem dX5_change_27 : decode cX5_change 27 = .ok (.iload_n 1, 1) := by decide +kernel
theorem dX5_change_28 : decode cX5_change 28 = .ok (.iaload, 1) := by decide +kernel
theorem dX5_change_29 : decode cX5_change 29 = .ok (.istore 4, 2) := by decide +kernel
theorem dX5_change_31 : decode cX5_change 31 = .ok (.aload_n 0, 1) := by decide +kernel
theorem dX5_change_32 : decode cX5_change 32 = .ok (.getfield 19, 3) := by decide +kernel
theorem dX5_change_35 : decode cX5_change 35 = .ok (.iload_n 1, 1) := by decide +kernel
theorem dX5_change_36 : decode cX5_change 36 = .ok (.iload_n 2, 1) := by decide +kernel
theorem dX5_change_37 : decode cX5_change 37 = .ok (.iastore, 1) := by decide +kernel
theorem dX5_change_38 : decode cX5_change 38 = .ok (.iload 4, 2) := by decide +kernel
theorem dX5_change_40 : decode cX5_change 40 = .ok (.ireturn, 1) := by decide +kernel
theorem dX5_slope_0 : decode cX5_slope 0 = .ok (.aload_n 0, 1) := by decide +kernel
theorem dX5_slope_1 : decode cX5_slope 1 = .ok (.iload_n 1, 1) := by decide +kernel
theorem dX5_slope_2 : decode cX5_slope 2 = .ok (.invokevirtual 128, 3) := by decide +kernel
theorem dX5_slope_5 : decode cX5_slope 5 = .ok (.ifCond .eq 11, 3) := by decide +kernel
theorem dX5_slope_8 : decode cX5_slope 8 = .ok (.aload_n 0, 1) := by decide +kernel
theorem dX5_slope_9 : decode cX5_slope 9 = .ok (.iconst (-1), 1) := by decide +kernel
theorem dX5_slope_10 : decode cX5_slope 10 = .ok (.invokevirtual 9, 3) := by decide +kernel
theorem dX5_slope_13 : decode cX5_slope 13 = .ok (.goto 18, 3) := by decide +kernel
theorem dX5_slope_16 : decode cX5_slope 16 = .ok (.aload_n 0, 1) := by decide +kernel
theorem dX5_slope_17 : decode cX5_slope 17 = .ok (.bipush 10, 2) := by decide +kernel
theorem dX5_slope_19 : decode cX5_slope 19 = .ok (.iconst 3, 1) := by decide +kernel
theorem dX5_slope_20 : decode cX5_slope 20 = .ok (.iload_n 1, 1) := by decide +kernel
theorem dX5_slope_21 : decode cX5_slope 21 = .ok (.imul, 1) := by decide +kernel
theorem dX5_slope_22 : decode cX5_slope 22 = .ok (.iadd, 1) := by decide +kernel
theorem dX5_slope_23 : decode cX5_slope 23 = .ok (.iconst 1, 1) := by decide +kernel
theorem dX5_slope_24 : decode cX5_slope 24 = .ok (.iadd, 1) := by decide +kernel
theorem dX5_slope_25 : decode cX5_slope 25 = .ok (.iload_n 2, 1) := by decide +kernel
theorem dX5_slope_26 : decode cX5_slope 26 = .ok (.bipush 9, 2) := by decide +kernel
theorem dX5_slope_28 : decode cX5_slope 28 = .ok (.invokevirtual 135, 3) := by decide +kernel
theorem dX5_slope_31 : decode cX5_slope 31 = .ok (.ireturn, 1) := by decide +kernel
theorem dX5_errand_0 : decode cX5_errand 0 = .ok (.iload_n 1, 1) := by decide +kernel
theorem dX5_errand_1 : decode cX5_errand 1 = .ok (.ifCond .lt 13, 3) := by decide +kernel
theorem dX5_errand_4 : decode cX5_errand 4 = .ok (.iload_n 1, 1) := by decide +kernel
theorem dX5_errand_5 : decode cX5_errand 5 = .ok (.aload_n 0, 1) := by decide +kernel
theorem dX5_errand_6 : decode cX5_errand 6 = .ok (.getfield 19, 3) := by decide +kernel
theorem dX5_errand_9 : decode cX5_errand 9 = .ok (.iconst 2, 1) := by decide +kernel
theorem dX5_errand_10 : decode cX5_errand 10 = .ok (.iaload, 1) := by decide +kernel
theorem dX5_errand_11 : decode cX5_errand 11 = .ok (.if_icmp .lt 9, 3) := by decide +kernel
theorem dX5_errand_14 : decode cX5_errand 14 = .ok (.aload_n 0, 1) := by decide +kernel
theorem dX5_errand_15 : decode cX5_errand 15 = .ok (.iconst (-1), 1) := by decide +kernel
theorem dX5_errand_16 : decode cX5_errand 16 = .ok (.invokevirtual 9, 3) := by decide +kernel
theorem dX5_errand_19 : decode cX5_errand 19 = .ok (.ireturn, 1) := by decide +kernel
theorem dX5_errand_20 : decode cX5_errand 20 = .ok (.iload_n 2, 1) := by decide +kernel
theorem dX5_errand_21 : decode cX5_errand 21 = .ok (.ifCond .lt 8, 3) := by decide +kernel
theorem dX5_errand_24 : decode cX5_errand 24 = .ok (.iload_n 2, 1) := by decide +kernel
theorem dX5_errand_25 : decode cX5_errand 25 = .ok (.iconst 3, 1) := by decide +kernel
theorem dX5_errand_26 : decode cX5_errand 26 = .ok (.if_icmp .le 12, 3) := by decide +kernel
theorem dX5_errand_29 : decode cX5_errand 29 = .ok (.aload_n 0, 1) := by decide +kernel
theorem dX5_errand_30 : decode cX5_errand 30 = .ok (.bipush (-2), 2) := by decide +kernel
theorem dX5_errand_32 : decode cX5_errand 32 = .ok (.invokevirtual 9, 3) := by decide +kernel
theorem dX5_errand_35 : decode cX5_errand 35 = .ok (.goto 16, 3) := by decide +kernel
theorem dX5_errand_38 : decode cX5_errand 38 = .ok (.aload_n 0, 1) := by decide +kernel
theorem dX5_errand_39 : decode cX5_errand 39 = .ok (.getfield 19, 3) := by decide +kernel
theorem dX5_errand_42 : decode cX5_errand 42 = .ok (.bipush 40, 2) := by decide +kernel
theorem dX5_errand_44 : decode cX5_errand 44 = .ok (.iconst 4, 1) := by decide +kernel
theorem dX5_errand_45 : decode cX5_errand 45 = .ok (.iload_n 1, 1) := by decide +kernel
theorem dX5_errand_46 : decode cX5_errand 46 = .ok (.imul, 1) := by decide +kernel
theorem dX5_errand_47 : decode cX5_errand 47 = .ok (.iadd, 1) := by decide +kernel
theorem dX5_errand_48 : decode cX5_errand 48 = .ok (.iload_n 2, 1) := by decide +kernel
theorem dX5_errand_49 : decode cX5_errand 49 = .ok (.iadd, 1) := by decide +kernel
theorem dX5_errand_50 : decode cX5_errand 50 = .ok (.iaload, 1) := by decide +kernel
theorem dX5_errand_51 : decode cX5_errand 51 = .ok (.ireturn, 1) := by decide +kernel
theorem dX5_set_0 : decode cX5_set 0 = .ok (.iload_n 1, 1) := by decide +kernel
theorem dX5_set_1 : decode cX5_set 1 = .ok (.ifCond .lt 8, 3) := by decide +kernel
theorem dX5_set_4 : decode cX5_set 4 = .ok (.iload_n 1, 1) := by decide +kernel
theorem dX5_set_5 : decode cX5_set 5 = .ok (.iconst 2, 1) := by decide +kernel
theorem dX5_set_6 : decode cX5_set 6 = .ok (.if_icmp .le 10, 3) := by decide +kernel
theorem dX5_set_9 : decode cX5_set 9 = .ok (.aload_n 0, 1) := by decide +kernel
theorem dX5_set_10 : decode cX5_set 10 = .ok (.bipush (-2), 2) := by decide +kernel
theorem dX5_set_12 : decode cX5_set 12 = .ok (.invokevirtual 9, 3) := by decide +kernel
theorem dX5_set_15 : decode cX5_set 15 = .ok (.ireturn, 1) := by decide +kernel
theorem dX5_set_16 : decode cX5_set 16 = .ok (.aload_n 0, 1) := by decide +kernel
theorem dX5_set_17 : decode cX5_set 17 = .ok (.iconst 3, 1) := by decide +kernel
theorem dX5_set_18 : decode cX5_set 18 = .ok (.iload_n 1, 1) := by decide +kernel
theorem dX5_set_19 : decode cX5_set 19 = .ok (.iadd, 1) := by decide +kernel
theorem dX5_set_20 : decode cX5_set 20 = .ok (.iload_n 2, 1) := by decide +kernel
theorem dX5_set_21 : decode cX5_set 21 = .ok (.iload_n 1, 1) := by decide +kernel
theorem dX5_set_22 : decode cX5_set 22 = .ok (.ifCond .ne 8, 3) := by decide +kernel
theorem dX5_set_25 : decode cX5_set 25 = .ok (.bipush 9, 2) := by decide +kernel
theorem dX5_set_27 : decode cX5_set 27 = .ok (.goto 14, 3) := by decide +kernel
theorem dX5_set_30 : decode cX5_set 30 = .ok (.iload_n 1, 1) := by decide +kernel
theorem dX5_set_31 : decode cX5_set 31 = .ok (.iconst 1, 1) := by decide +kernel
theorem dX5_set_32 : decode cX5_set 32 = .ok (.if_icmp .ne 8, 3) := by decide +kernel
theorem dX5_set_35 : decode cX5_set 35 = .ok (.bipush 60, 2) := by decide +kernel
theorem dX5_set_37 : decode cX5_set 37 = .ok (.goto 4, 3) := by decide +kernel
theorem dX5_set_40 : decode cX5_set 40 = .ok (.iconst 5, 1) := by decide +kernel
theorem dX5_set_41 : decode cX5_set 41 = .ok (.invokevirtual 135, 3) := by decide +kernel
theorem dX5_set_44 : decode cX5_set 44 = .ok (.ireturn, 1) := by decide +kernel
theorem dX5_over_0 : decode cX5_over 0 = .ok (.iconst 0, 1) := by decide +kernel
theorem dX5_over_1 : decode cX5_over 1 = .ok (.istore_n 2, 1) := by decide +kernel
theorem dX5_over_2 : decode cX5_over 2 = .ok (.iload_n 2, 1) := by decide +kernel
theorem dX5_over_3 : decode cX5_over 3 = .ok (.bipush 8, 2) := by decide +kernel
theorem dX5_over_5 : decode cX5_over 5 = .ok (.if_icmp .ge 134, 3) := by decide +kernel
theorem dX5_over_8 : decode cX5_over 8 = .ok (.iconst 0, 1) := by decide +kernel
theorem dX5_over_9 : decode cX5_over 9 = .ok (.istore_n 3, 1) := by decide +kernel
theorem dX5_over_10 : decode cX5_over 10 = .ok (.iload_n 3, 1) := by decide +kernel
theorem dX5_over_11 : decode cX5_over 11 = .ok (.bipush 8, 2) := by decide +kernel
theorem dX5_over_13 : decode cX5_over 13 = .ok (.if_icmp .ge 120, 3) := by decide +kernel
theorem dX5_over_16 : decode cX5_over 16 = .ok (.bipush 8, 2) := by decide +kernel
theorem dX5_over_18 : decode cX5_over 18 = .ok (.iload_n 2, 1) := by decide +kernel
theorem dX5_over_19 : decode cX5_over 19 = .ok (.imul, 1) := by decide +kernel
theorem dX5_over_20 : decode cX5_over 20 = .ok (.iload_n 3, 1) := by decide +kernel
theorem dX5_over_21 : decode cX5_over 21 = .ok (.iadd, 1) := by decide +kernel
theorem dX5_over_22 : decode cX5_over 22 = .ok (.istore 4, 2) := by decide +kernel
theorem dX5_over_24 : decode cX5_over 24 = .ok (.aload_n 0, 1) := by decide +kernel
theorem dX5_over_25 : decode cX5_over 25 = .ok (.getfield 19, 3) := by decide +kernel
theorem dX5_over_28 : decode cX5_over 28 = .ok (.bipush 60, 2) := by decide +kernel
theorem dX5_over_30 : decode cX5_over 30 = .ok (.iload 4, 2) := by decide +kernel
theorem dX5_over_32 : decode cX5_over 32 = .ok (.iadd, 1) := by decide +kernel
theorem dX5_over_33 : decode cX5_over 33 = .ok (.iaload, 1) := by decide +kernel
theorem dX5_over_34 : decode cX5_over 34 = .ok (.ifCond .le 22, 3) := by decide +kernel
theorem dX5_over_37 : decode cX5_over 37 = .ok (.aload_n 0, 1) := by decide +kernel
theorem dX5_over_38 : decode cX5_over 38 = .ok (.getfield 19, 3) := by decide +kernel
theorem dX5_over_41 : decode cX5_over 41 = .ok (.sipush 130, 3) := by decide +kernel
theorem dX5_over_44 : decode cX5_over 44 = .ok (.iload 4, 2) := by decide +kernel
theorem dX5_over_46 : decode cX5_over 46 = .ok (.iadd, 1) := by decide +kernel
theorem dX5_over_47 : decode cX5_over 47 = .ok (.iaload, 1) := by decide +kernel
theorem dX5_over_48 : decode cX5_over 48 = .ok (.iload_n 1, 1) := by decide +kernel
theorem dX5_over_49 : decode cX5_over 49 = .ok (.if_icmp .gt 7, 3) := by decide +kernel
theorem dX5_over_52 : decode cX5_over 52 = .ok (.iconst 1, 1) := by decide +kernel
theorem dX5_over_53 : decode cX5_over 53 = .ok (.goto 4, 3) := by decide +kernel
theorem dX5_over_56 : decode cX5_over 56 = .ok (.iconst 0, 1) := by decide +kernel
theorem dX5_over_57 : decode cX5_over 57 = .ok (.istore 5, 2) := by decide +kernel
theorem dX5_over_59 : decode cX5_over 59 = .ok (.aload_n 0, 1) := by decide +kernel
theorem dX5_over_60 : decode cX5_over 60 = .ok (.getfield 45, 3) := by decide +kernel
theorem dX5_over_63 : decode cX5_over 63 = .ok (.iload 4, 2) := by decide +kernel
theorem dX5_over_65 : decode cX5_over 65 = .ok (.iload_n 2, 1) := by decide +kernel
theorem dX5_over_66 : decode cX5_over 66 = .ok (.iload_n 3, 1) := by decide +kernel
theorem dX5_over_67 : decode cX5_over 67 = .ok (.if_icmp .ne 7, 3) := by decide +kernel
theorem dX5_over_70 : decode cX5_over 70 = .ok (.iconst 0, 1) := by decide +kernel
theorem dX5_over_71 : decode cX5_over 71 = .ok (.goto 23, 3) := by decide +kernel
theorem dX5_over_74 : decode cX5_over 74 = .ok (.iload 5, 2) := by decide +kernel
theorem dX5_over_76 : decode cX5_over 76 = .ok (.ifCond .eq 16, 3) := by decide +kernel
theorem dX5_over_79 : decode cX5_over 79 = .ok (.aload_n 0, 1) := by decide +kernel
theorem dX5_over_80 : decode cX5_over 80 = .ok (.getfield 19, 3) := by decide +kernel
theorem dX5_over_83 : decode cX5_over 83 = .ok (.bipush 60, 2) := by decide +kernel
theorem dX5_over_85 : decode cX5_over 85 = .ok (.iload 4, 2) := by decide +kernel
theorem dX5_over_87 : decode cX5_over 87 = .ok (.iadd, 1) := by decide +kernel
theorem dX5_over_88 : decode cX5_over 88 = .ok (.iaload, 1) := by decide +kernel
theorem dX5_over_89 : decode cX5_over 89 = .ok (.goto 5, 3) := by decide +kernel
theorem dX5_over_92 : decode cX5_over 92 = .ok (.ldc 139, 2) := by decide +kernel
theorem dX5_over_94 : decode cX5_over 94 = .ok (.iastore, 1) := by decide +kernel
theorem dX5_over_95 : decode cX5_over 95 = .ok (.aload_n 0, 1) := by decide +kernel
theorem dX5_over_96 : decode cX5_over 96 = .ok (.getfield 48, 3) := by decide +kernel
theorem dX5_over_99 : decode cX5_over 99 = .ok (.iload 4, 2) := by decide +kernel
theorem dX5_over_101 : decode cX5_over 101 = .ok (.iload_n 2, 1) := by decide +kernel
theorem dX5_over_102 : decode cX5_over 102 = .ok (.iload_n 3, 1) := by decide +kernel
theorem dX5_over_103 : decode cX5_over 103 = .ok (.if_icmp .eq 22, 3) := by decide +kernel
theorem dX5_over_106 : decode cX5_over 106 = .ok (.iload 5, 2) := by decide +kernel
theorem dX5_over_108 : decode cX5_over 108 = .ok (.ifCond .eq 17, 3) := by decide +kernel
theorem dX5_over_111 : decode cX5_over 111 = .ok (.aload_n 0, 1) := by decide +kernel
theorem dX5_over_112 : decode cX5_over 112 = .ok (.getfield 19, 3) := by decide +kernel
theorem dX5_over_115 : decode cX5_over 115 = .ok (.sipush 130, 3) := by decide +kernel
theorem dX5_over_118 : decode cX5_over 118 = .ok (.iload 4, 2) := by decide +kernel
theorem dX5_over_120 : decode cX5_over 120 = .ok (.iadd, 1) := by decide +kernel
theorem dX5_over_121 : decode cX5_over 121 = .ok (.iaload, 1) := by decide +kernel
theorem dX5_over_122 : decode cX5_over 122 = .ok (.goto 4, 3) := by decide +kernel
theorem dX5_over_125 : decode cX5_over 125 = .ok (.iconst 0, 1) := by decide +kernel
theorem dX5_over_126 : decode cX5_over 126 = .ok (.iastore, 1) := by decide +kernel
theorem dX5_over_127 : decode cX5_over 127 = .ok (.iinc 3 1, 3) := by decide +kernel
theorem dX5_over_130 : decode cX5_over 130 = .ok (.goto (-120), 3) := by decide +kernel
theorem dX5_over_133 : decode cX5_over 133 = .ok (.iinc 2 1, 3) := by decide +kernel
theorem dX5_over_136 : decode cX5_over 136 = .ok (.goto (-134), 3) := by decide +kernel
theorem dX5_over_139 : decode cX5_over 139 = .ok (.iconst 0, 1) := by decide +kernel
theorem dX5_over_140 : decode cX5_over 140 = .ok (.istore_n 2, 1) := by decide +kernel
theorem dX5_over_141 : decode cX5_over 141 = .ok (.iload_n 2, 1) := by decide +kernel
theorem dX5_over_142 : decode cX5_over 142 = .ok (.bipush 8, 2) := by decide +kernel
theorem dX5_over_144 : decode cX5_over 144 = .ok (.if_icmp .ge 163, 3) := by decide +kernel
theorem dX5_over_147 : decode cX5_over 147 = .ok (.iconst 0, 1) := by decide +kernel
theorem dX5_over_148 : decode cX5_over 148 = .ok (.istore_n 3, 1) := by decide +kernel
theorem dX5_over_149 : decode cX5_over 149 = .ok (.iload_n 3, 1) := by decide +kernel
theorem dX5_over_150 : decode cX5_over 150 = .ok (.bipush 8, 2) := by decide +kernel
theorem dX5_over_152 : decode cX5_over 152 = .ok (.if_icmp .ge 149, 3) := by decide +kernel
theorem dX5_over_155 : decode cX5_over 155 = .ok (.iconst 0, 1) := by decide +kernel
theorem dX5_over_156 : decode cX5_over 156 = .ok (.istore 4, 2) := by decide +kernel
theorem dX5_over_158 : decode cX5_over 158 = .ok (.iload 4, 2) := by decide +kernel
theorem dX5_over_160 : decode cX5_over 160 = .ok (.bipush 8, 2) := by decide +kernel
theorem dX5_over_162 : decode cX5_over 162 = .ok (.if_icmp .ge 133, 3) := by decide +kernel
theorem dX5_over_165 : decode cX5_over 165 = .ok (.aload_n 0, 1) := by decide +kernel
theorem dX5_over_166 : decode cX5_over 166 = .ok (.getfield 45, 3) := by decide +kernel
theorem dX5_over_169 : decode cX5_over 169 = .ok (.bipush 8, 2) := by decide +kernel
theorem dX5_over_171 : decode cX5_over 171 = .ok (.iload_n 3, 1) := by decide +kernel
theorem dX5_over_172 : decode cX5_over 172 = .ok (.imul, 1) := by decide +kernel
theorem dX5_over_173 : decode cX5_over 173 = .ok (.iload_n 2, 1) := by decide +kernel
theorem dX5_over_174 : decode cX5_over 174 = .ok (.iadd, 1) := by decide +kernel
theorem dX5_over_175 : decode cX5_over 175 = .ok (.iaload, 1) := by decide +kernel
theorem dX5_over_176 : decode cX5_over 176 = .ok (.aload_n 0, 1) := by decide +kernel
theorem dX5_over_177 : decode cX5_over 177 = .ok (.getfield 45, 3) := by decide +kernel
theorem dX5_over_180 : decode cX5_over 180 = .ok (.bipush 8, 2) := by decide +kernel
theorem dX5_over_182 : decode cX5_over 182 = .ok (.iload_n 2, 1) := by decide +kernel
theorem dX5_over_183 : decode cX5_over 183 = .ok (.imul, 1) := by decide +kernel
theorem dX5_over_184 : decode cX5_over 184 = .ok (.iload 4, 2) := by decide +kernel
theorem dX5_over_186 : decode cX5_over 186 = .ok (.iadd, 1) := by decide +kernel
theorem dX5_over_187 : decode cX5_over 187 = .ok (.iaload, 1) := by decide +kernel
theorem dX5_over_188 : decode cX5_over 188 = .ok (.iadd, 1) := by decide +kernel
theorem dX5_over_189 : decode cX5_over 189 = .ok (.istore 5, 2) := by decide +kernel
theorem dX5_over_191 : decode cX5_over 191 = .ok (.aload_n 0, 1) := by decide +kernel
theorem dX5_over_192 : decode cX5_over 192 = .ok (.getfield 48, 3) := by decide +kernel
theorem dX5_over_195 : decode cX5_over 195 = .ok (.bipush 8, 2) := by decide +kernel
theorem dX5_over_197 : decode cX5_over 197 = .ok (.iload_n 3, 1) := by decide +kernel
theorem dX5_over_198 : decode cX5_over 198 = .ok (.imul, 1) := by decide +kernel
theorem dX5_over_199 : decode cX5_over 199 = .ok (.iload_n 2, 1) := by decide +kernel
theorem dX5_over_200 : decode cX5_over 200 = .ok (.iadd, 1) := by decide +kernel
theorem dX5_over_201 : decode cX5_over 201 = .ok (.iaload, 1) := by decide +kernel
theorem dX5_over_202 : decode cX5_over 202 = .ok (.aload_n 0, 1) := by decide +kernel
theorem dX5_over_203 : decode cX5_over 203 = .ok (.getfield 48, 3) := by decide +kernel
theorem dX5_over_206 : decode cX5_over 206 = .ok (.bipush 8, 2) := by decide +kernel
theorem dX5_over_208 : decode cX5_over 208 = .ok (.iload_n 2, 1) := by decide +kernel
theorem dX5_over_209 : decode cX5_over 209 = .ok (.imul, 1) := by decide +kernel
theorem dX5_over_210 : decode cX5_over 210 = .ok (.iload 4, 2) := by decide +kernel
theorem dX5_over_212 : decode cX5_over 212 = .ok (.iadd, 1) := by decide +kernel
theorem dX5_over_213 : decode cX5_over 213 = .ok (.iaload, 1) := by decide +kernel
theorem dX5_over_214 : decode cX5_over 214 = .ok (.invokestatic 119, 3) := by decide +kernel
theorem dX5_over_217 : decode cX5_over 217 = .ok (.istore 6, 2) := by decide +kernel
theorem dX5_over_219 : decode cX5_over 219 = .ok (.bipush 8, 2) := by decide +kernel
theorem dX5_over_221 : decode cX5_over 221 = .ok (.iload_n 3, 1) := by decide +kernel
theorem dX5_over_222 : decode cX5_over 222 = .ok (.imul, 1) := by decide +kernel
theorem dX5_over_223 : decode cX5_over 223 = .ok (.iload 4, 2) := by decide +kernel
theorem dX5_over_225 : decode cX5_over 225 = .ok (.iadd, 1) := by decide +kernel
theorem dX5_over_226 : decode cX5_over 226 = .ok (.istore 7, 2) := by decide +kernel
theorem dX5_over_228 : decode cX5_over 228 = .ok (.iload 5, 2) := by decide +kernel
theorem dX5_over_230 : decode cX5_over 230 = .ok (.ldc 139, 2) := by decide +kernel
theorem dX5_over_232 : decode cX5_over 232 = .ok (.if_icmp .ge 57, 3) := by decide +kernel
theorem dX5_over_235 : decode cX5_over 235 = .ok (.iload 5, 2) := by decide +kernel
theorem dX5_over_237 : decode cX5_over 237 = .ok (.aload_n 0, 1) := by decide +kernel
theorem dX5_over_238 : decode cX5_over 238 = .ok (.getfield 45, 3) := by decide +kernel
theorem dX5_over_241 : decode cX5_over 241 = .ok (.iload 7, 2) := by decide +kernel
theorem dX5_over_243 : decode cX5_over 243 = .ok (.iaload, 1) := by decide +kernel
theorem dX5_over_244 : decode cX5_over 244 = .ok (.if_icmp .lt 27, 3) := by decide +kernel
theorem dX5_over_247 : decode cX5_over 247 = .ok (.iload 5, 2) := by decide +kernel
theorem dX5_over_249 : decode cX5_over 249 = .ok (.aload_n 0, 1) := by decide +kernel
theorem dX5_over_250 : decode cX5_over 250 = .ok (.getfield 45, 3) := by decide +kernel
theorem dX5_over_253 : decode cX5_over 253 = .ok (.iload 7, 2) := by decide +kernel
theorem dX5_over_255 : decode cX5_over 255 = .ok (.iaload, 1) := by decide +kernel
theorem dX5_over_256 : decode cX5_over 256 = .ok (.if_icmp .ne 33, 3) := by decide +kernel
theorem dX5_over_259 : decode cX5_over 259 = .ok (.iload 6, 2) := by decide +kernel
theorem dX5_over_261 : decode cX5_over 261 = .ok (.aload_n 0, 1) := by decide +kernel
theorem dX5_over_262 : decode cX5_over 262 = .ok (.getfield 48, 3) := by decide +kernel
theorem dX5_over_265 : decode cX5_over 265 = .ok (.iload 7, 2) := by decide +kernel
theorem dX5_over_267 : decode cX5_over 267 = .ok (.iaload, 1) := by decide +kernel
theorem dX5_over_268 : decode cX5_over 268 = .ok (.if_icmp .ge 21, 3) := by decide +kernel
theorem dX5_over_271 : decode cX5_over 271 = .ok (.aload_n 0, 1) := by decide +kernel
theorem dX5_over_272 : decode cX5_over 272 = .ok (.getfield 45, 3) := by decide +kernel
theorem dX5_over_275 : decode cX5_over 275 = .ok (.iload 7, 2) := by decide +kernel
theorem dX5_over_277 : decode cX5_over 277 = .ok (.iload 5, 2) := by decide +kernel
theorem dX5_over_279 : decode cX5_over 279 = .ok (.iastore, 1) := by decide +kernel
theorem dX5_over_280 : decode cX5_over 280 = .ok (.aload_n 0, 1) := by decide +kernel
theorem dX5_over_281 : decode cX5_over 281 = .ok (.getfield 48, 3) := by decide +kernel
theorem dX5_over_284 : decode cX5_over 284 = .ok (.iload 7, 2) := by decide +kernel
theorem dX5_over_286 : decode cX5_over 286 = .ok (.iload 6, 2) := by decide +kernel
theorem dX5_over_288 : decode cX5_over 288 = .ok (.iastore, 1) := by decide +kernel
theorem dX5_over_289 : decode cX5_over 289 = .ok (.iinc 4 1, 3) := by decide +kernel
theorem dX5_over_292 : decode cX5_over 292 = .ok (.goto (-134), 3) := by decide +kernel
theorem dX5_over_295 : decode cX5_over 295 = .ok (.iinc 3 1, 3) := by decide +kernel
theorem dX5_over_298 : decode cX5_over 298 = .ok (.goto (-149), 3) := by decide +kernel
theorem dX5_over_301 : decode cX5_over 301 = .ok (.iinc 2 1, 3) := by decide +kernel
theorem dX5_over_304 : decode cX5_over 304 = .ok (.goto (-163), 3) := by decide +kernel
theorem dX5_over_307 : decode cX5_over 307 = .ok (.return_, 1) := by decide +kernel
theorem dX5_legs_0 : decode cX5_legs 0 = .ok (.iconst 0, 1) := by decide +kernel
theorem dX5_legs_1 : decode cX5_legs 1 = .ok (.istore_n 1, 1) := by decide +kernel
theorem dX5_legs_2 : decode cX5_legs 2 = .ok (.iload_n 1, 1) := by decide +kernel
theorem dX5_legs_3 : decode cX5_legs 3 = .ok (.bipush 64, 2) := by decide +kernel
theorem dX5_legs_5 : decode cX5_legs 5 = .ok (.if_icmp .ge 24, 3) := by decide +kernel
theorem dX5_legs_8 : decode cX5_legs 8 = .ok (.aload_n 0, 1) := by decide +kernel
theorem dX5_legs_9 : decode cX5_legs 9 = .ok (.getfield 51, 3) := by decide +kernel
theorem dX5_legs_12 : decode cX5_legs 12 = .ok (.iload_n 1, 1) := by decide +kernel
theorem dX5_legs_13 : decode cX5_legs 13 = .ok (.ldc 139, 2) := by decide +kernel
theorem dX5_legs_15 : decode cX5_legs 15 = .ok (.iastore, 1) := by decide +kernel
theorem dX5_legs_16 : decode cX5_legs 16 = .ok (.aload_n 0, 1) := by decide +kernel
theorem dX5_legs_17 : decode cX5_legs 17 = .ok (.getfield 54, 3) := by decide +kernel
theorem dX5_legs_20 : decode cX5_legs 20 = .ok (.iload_n 1, 1) := by decide +kernel
theorem dX5_legs_21 : decode cX5_legs 21 = .ok (.iconst 0, 1) := by decide +kernel
theorem dX5_legs_22 : decode cX5_legs 22 = .ok (.iastore, 1) := by decide +kernel
theorem dX5_legs_23 : decode cX5_legs 23 = .ok (.iinc 1 1, 3) := by decide +kernel
theorem dX5_legs_26 : decode cX5_legs 26 = .ok (.goto (-24), 3) := by decide +kernel
theorem dX5_legs_29 : decode cX5_legs 29 = .ok (.iconst 0, 1) := by decide +kernel
theorem dX5_legs_30 : decode cX5_legs 30 = .ok (.istore_n 1, 1) := by decide +kernel
theorem dX5_legs_31 : decode cX5_legs 31 = .ok (.iload_n 1, 1) := by decide +kernel
theorem dX5_legs_32 : decode cX5_legs 32 = .ok (.bipush 10, 2) := by decide +kernel
theorem dX5_legs_34 : decode cX5_legs 34 = .ok (.if_icmp .ge 80, 3) := by decide +kernel
theorem dX5_legs_37 : decode cX5_legs 37 = .ok (.aload_n 0, 1) := by decide +kernel
theorem dX5_legs_38 : decode cX5_legs 38 = .ok (.iload_n 1, 1) := by decide +kernel
theorem dX5_legs_39 : decode cX5_legs 39 = .ok (.invokevirtual 140, 3) := by decide +kernel
theorem dX5_legs_42 : decode cX5_legs 42 = .ok (.iconst 0, 1) := by decide +kernel
theorem dX5_legs_43 : decode cX5_legs 43 = .ok (.istore_n 2, 1) := by decide +kernel
theorem dX5_legs_44 : decode cX5_legs 44 = .ok (.iload_n 2, 1) := by decide +kernel
theorem dX5_legs_45 : decode cX5_legs 45 = .ok (.bipush 64, 2) := by decide +kernel
theorem dX5_legs_47 : decode cX5_legs 47 = .ok (.if_icmp .ge 61, 3) := by decide +kernel
theorem dX5_legs_50 : decode cX5_legs 50 = .ok (.aload_n 0, 1) := by decide +kernel
theorem dX5_legs_51 : decode cX5_legs 51 = .ok (.getfield 51, 3) := by decide +kernel
theorem dX5_legs_54 : decode cX5_legs 54 = .ok (.iload_n 2, 1) := by decide +kernel
theorem dX5_legs_55 : decode cX5_legs 55 = .ok (.iaload, 1) := by decide +kernel
theorem dX5_legs_56 : decode cX5_legs 56 = .ok (.ldc 139, 2) := by decide +kernel
theorem dX5_legs_58 : decode cX5_legs 58 = .ok (.if_icmp .ne 44, 3) := by decide +kernel
theorem dX5_legs_61 : decode cX5_legs 61 = .ok (.aload_n 0, 1) := by decide +kernel
theorem dX5_legs_62 : decode cX5_legs 62 = .ok (.getfield 45, 3) := by decide +kernel
theorem dX5_legs_65 : decode cX5_legs 65 = .ok (.iload_n 2, 1) := by decide +kernel
theorem dX5_legs_66 : decode cX5_legs 66 = .ok (.iaload, 1) := by decide +kernel
theorem dX5_legs_67 : decode cX5_legs 67 = .ok (.ldc 139, 2) := by decide +kernel
theorem dX5_legs_69 : decode cX5_legs 69 = .ok (.if_icmp .ge 33, 3) := by decide +kernel
theorem dX5_legs_72 : decode cX5_legs 72 = .ok (.aload_n 0, 1) := by decide +kernel
theorem dX5_legs_73 : decode cX5_legs 73 = .ok (.getfield 51, 3) := by decide +kernel
theorem dX5_legs_76 : decode cX5_legs 76 = .ok (.iload_n 2, 1) := by decide +kernel
theorem dX5_legs_77 : decode cX5_legs 77 = .ok (.aload_n 0, 1) := by decide +kernel
theorem dX5_legs_78 : decode cX5_legs 78 = .ok (.getfield 45, 3) := by decide +kernel
theorem dX5_legs_81 : decode cX5_legs 81 = .ok (.iload_n 2, 1) := by decide +kernel
theorem dX5_legs_82 : decode cX5_legs 82 = .ok (.iaload, 1) := by decide +kernel
theorem dX5_legs_83 : decode cX5_legs 83 = .ok (.iastore, 1) := by decide +kernel
theorem dX5_legs_84 : decode cX5_legs 84 = .ok (.aload_n 0, 1) := by decide +kernel
theorem dX5_legs_85 : decode cX5_legs 85 = .ok (.getfield 54, 3) := by decide +kernel
theorem dX5_legs_88 : decode cX5_legs 88 = .ok (.iload_n 2, 1) := by decide +kernel
theorem dX5_legs_89 : decode cX5_legs 89 = .ok (.iload_n 2, 1) := by decide +kernel
theorem dX5_legs_90 : decode cX5_legs 90 = .ok (.bipush 9, 2) := by decide +kernel
theorem dX5_legs_92 : decode cX5_legs 92 = .ok (.irem, 1) := by decide +kernel
theorem dX5_legs_93 : decode cX5_legs 93 = .ok (.ifCond .ne 7, 3) := by decide +kernel
theorem dX5_legs_96 : decode cX5_legs 96 = .ok (.iconst 0, 1) := by decide +kernel
theorem dX5_legs_97 : decode cX5_legs 97 = .ok (.goto 4, 3) := by decide +kernel
theorem dX5_legs_100 : decode cX5_legs 100 = .ok (.iload_n 1, 1) := by decide +kernel
theorem dX5_legs_101 : decode cX5_legs 101 = .ok (.iastore, 1) := by decide +kernel
theorem dX5_legs_102 : decode cX5_legs 102 = .ok (.iinc 2 1, 3) := by decide +kernel
theorem dX5_legs_105 : decode cX5_legs 105 = .ok (.goto (-61), 3) := by decide +kernel
theorem dX5_legs_108 : decode cX5_legs 108 = .ok (.iinc 1 1, 3) := by decide +kernel
theorem dX5_legs_111 : decode cX5_legs 111 = .ok (.goto (-80), 3) := by decide +kernel
theorem dX5_legs_114 : decode cX5_legs 114 = .ok (.return_, 1) := by decide +kernel
theorem dX5_legTold_0 : decode cX5_legTold 0 = .ok (.aload_n 0, 1) := by decide +kernel
theorem dX5_legTold_1 : decode cX5_legTold 1 = .ok (.iload_n 1, 1) := by decide +kernel
theorem dX5_legTold_2 : decode cX5_legTold 2 = .ok (.invokevirtual 128, 3) := by decide +kernel
theorem dX5_legTold_5 : decode cX5_legTold 5 = .ok (.ifCond .ne 11, 3) := by decide +kernel
theorem dX5_legTold_8 : decode cX5_legTold 8 = .ok (.aload_n 0, 1) := by decide +kernel
theorem dX5_legTold_9 : decode cX5_legTold 9 = .ok (.iload_n 2, 1) := by decide +kernel
theorem dX5_legTold_10 : decode cX5_legTold 10 = .ok (.invokevirtual 128, 3) := by decide +kernel
theorem dX5_legTold_13 : decode cX5_legTold 13 = .ok (.ifCond .eq 9, 3) := by decide +kernel
theorem dX5_legTold_16 : decode cX5_legTold 16 = .ok (.aload_n 0, 1) := by decide +kernel
theorem dX5_legTold_17 : decode cX5_legTold 17 = .ok (.iconst (-1), 1) := by decide +kernel
theorem dX5_legTold_18 : decode cX5_legTold 18 = .ok (.invokevirtual 9, 3) := by decide +kernel
theorem dX5_legTold_21 : decode cX5_legTold 21 = .ok (.ireturn, 1) := by decide +kernel
theorem dX5_legTold_22 : decode cX5_legTold 22 = .ok (.iload_n 3, 1) := by decide +kernel
theorem dX5_legTold_23 : decode cX5_legTold 23 = .ok (.ifCond .eq 15, 3) := by decide +kernel
theorem dX5_legTold_26 : decode cX5_legTold 26 = .ok (.iload_n 3, 1) := by decide +kernel
theorem dX5_legTold_27 : decode cX5_legTold 27 = .ok (.iconst 1, 1) := by decide +kernel
theorem dX5_legTold_28 : decode cX5_legTold 28 = .ok (.if_icmp .eq 10, 3) := by decide +kernel
theorem dX5_legTold_31 : decode cX5_legTold 31 = .ok (.aload_n 0, 1) := by decide +kernel
theorem dX5_legTold_32 : decode cX5_legTold 32 = .ok (.bipush (-2), 2) := by decide +kernel
theorem dX5_legTold_34 : decode cX5_legTold 34 = .ok (.invokevirtual 9, 3) := by decide +kernel
theorem dX5_legTold_37 : decode cX5_legTold 37 = .ok (.ireturn, 1) := by decide +kernel
theorem dX5_legTold_38 : decode cX5_legTold 38 = .ok (.aload_n 0, 1) := by decide +kernel
theorem dX5_legTold_39 : decode cX5_legTold 39 = .ok (.invokevirtual 144, 3) := by decide +kernel
theorem dX5_legTold_42 : decode cX5_legTold 42 = .ok (.bipush 8, 2) := by decide +kernel
theorem dX5_legTold_44 : decode cX5_legTold 44 = .ok (.iload_n 1, 1) := by decide +kernel
theorem dX5_legTold_45 : decode cX5_legTold 45 = .ok (.imul, 1) := by decide +kernel
theorem dX5_legTold_46 : decode cX5_legTold 46 = .ok (.iload_n 2, 1) := by decide +kernel
theorem dX5_legTold_47 : decode cX5_legTold 47 = .ok (.iadd, 1) := by decide +kernel
theorem dX5_legTold_48 : decode cX5_legTold 48 = .ok (.istore 5, 2) := by decide +kernel
theorem dX5_legTold_50 : decode cX5_legTold 50 = .ok (.aload_n 0, 1) := by decide +kernel
theorem dX5_legTold_51 : decode cX5_legTold 51 = .ok (.getfield 45, 3) := by decide +kernel
theorem dX5_legTold_54 : decode cX5_legTold 54 = .ok (.iload 5, 2) := by decide +kernel
theorem dX5_legTold_56 : decode cX5_legTold 56 = .ok (.iaload, 1) := by decide +kernel
theorem dX5_legTold_57 : decode cX5_legTold 57 = .ok (.ldc 139, 2) := by decide +kernel
theorem dX5_legTold_59 : decode cX5_legTold 59 = .ok (.if_icmp .ne 6, 3) := by decide +kernel
theorem dX5_legTold_62 : decode cX5_legTold 62 = .ok (.bipush (-9), 2) := by decide +kernel
theorem dX5_legTold_64 : decode cX5_legTold 64 = .ok (.ireturn, 1) := by decide +kernel
theorem dX5_legTold_65 : decode cX5_legTold 65 = .ok (.iload 4, 2) := by decide +kernel
theorem dX5_legTold_67 : decode cX5_legTold 67 = .ok (.ifCond .eq 27, 3) := by decide +kernel
theorem dX5_legTold_70 : decode cX5_legTold 70 = .ok (.iload_n 3, 1) := by decide +kernel
theorem dX5_legTold_71 : decode cX5_legTold 71 = .ok (.ifCond .ne 13, 3) := by decide +kernel
theorem dX5_legTold_74 : decode cX5_legTold 74 = .ok (.aload_n 0, 1) := by decide +kernel
theorem dX5_legTold_75 : decode cX5_legTold 75 = .ok (.getfield 51, 3) := by decide +kernel
theorem dX5_legTold_78 : decode cX5_legTold 78 = .ok (.iload 5, 2) := by decide +kernel
theorem dX5_legTold_80 : decode cX5_legTold 80 = .ok (.iaload, 1) := by decide +kernel
theorem dX5_legTold_81 : decode cX5_legTold 81 = .ok (.goto 34, 3) := by decide +kernel
theorem dX5_legTold_84 : decode cX5_legTold 84 = .ok (.aload_n 0, 1) := by decide +kernel
theorem dX5_legTold_85 : decode cX5_legTold 85 = .ok (.getfield 54, 3) := by decide +kernel
theorem dX5_legTold_88 : decode cX5_legTold 88 = .ok (.iload 5, 2) := by decide +kernel
theorem dX5_legTold_90 : decode cX5_legTold 90 = .ok (.iaload, 1) := by decide +kernel
theorem dX5_legTold_91 : decode cX5_legTold 91 = .ok (.goto 24, 3) := by decide +kernel
theorem dX5_legTold_94 : decode cX5_legTold 94 = .ok (.iload_n 3, 1) := by decide +kernel
theorem dX5_legTold_95 : decode cX5_legTold 95 = .ok (.ifCond .ne 13, 3) := by decide +kernel
theorem dX5_legTold_98 : decode cX5_legTold 98 = .ok (.aload_n 0, 1) := by decide +kernel
theorem dX5_legTold_99 : decode cX5_legTold 99 = .ok (.getfield 45, 3) := by decide +kernel
theorem dX5_legTold_102 : decode cX5_legTold 102 = .ok (.iload 5, 2) := by decide +kernel
theorem dX5_legTold_104 : decode cX5_legTold 104 = .ok (.iaload, 1) := by decide +kernel
theorem dX5_legTold_105 : decode cX5_legTold 105 = .ok (.goto 10, 3) := by decide +kernel
theorem dX5_legTold_108 : decode cX5_legTold 108 = .ok (.aload_n 0, 1) := by decide +kernel
theorem dX5_legTold_109 : decode cX5_legTold 109 = .ok (.getfield 48, 3) := by decide +kernel
theorem dX5_legTold_112 : decode cX5_legTold 112 = .ok (.iload 5, 2) := by decide +kernel
theorem dX5_legTold_114 : decode cX5_legTold 114 = .ok (.iaload, 1) := by decide +kernel
theorem dX5_legTold_115 : decode cX5_legTold 115 = .ok (.ireturn, 1) := by decide +kernel
theorem dX5_leg_0 : decode cX5_leg 0 = .ok (.aload_n 0, 1) := by decide +kernel
theorem dX5_leg_1 : decode cX5_leg 1 = .ok (.iload_n 1, 1) := by decide +kernel
theorem dX5_leg_2 : decode cX5_leg 2 = .ok (.iload_n 2, 1) := by decide +kernel
theorem dX5_leg_3 : decode cX5_leg 3 = .ok (.iload_n 3, 1) := by decide +kernel
theorem dX5_leg_4 : decode cX5_leg 4 = .ok (.iconst 0, 1) := by decide +kernel
theorem dX5_leg_5 : decode cX5_leg 5 = .ok (.invokevirtual 147, 3) := by decide +kernel
theorem dX5_leg_8 : decode cX5_leg 8 = .ok (.ireturn, 1) := by decide +kernel
theorem dX5_safe_0 : decode cX5_safe 0 = .ok (.aload_n 0, 1) := by decide +kernel
theorem dX5_safe_1 : decode cX5_safe 1 = .ok (.iload_n 1, 1) := by decide +kernel
theorem dX5_safe_2 : decode cX5_safe 2 = .ok (.iload_n 2, 1) := by decide +kernel
theorem dX5_safe_3 : decode cX5_safe 3 = .ok (.iload_n 3, 1) := by decide +kernel
theorem dX5_safe_4 : decode cX5_safe 4 = .ok (.iconst 1, 1) := by decide +kernel
theorem dX5_safe_5 : decode cX5_safe 5 = .ok (.invokevirtual 147, 3) := by decide +kernel
theorem dX5_safe_8 : decode cX5_safe 8 = .ok (.ireturn, 1) := by decide +kernel
theorem dX5_draw_0 : decode cX5_draw 0 = .ok (.aload_n 0, 1) := by decide +kernel
theorem dX5_draw_1 : decode cX5_draw 1 = .ok (.aload_n 0, 1) := by decide +kernel
theorem dX5_draw_2 : decode cX5_draw 2 = .ok (.getfield 151, 3) := by decide +kernel
theorem dX5_draw_5 : decode cX5_draw 5 = .ok (.ldc 154, 2) := by decide +kernel
theorem dX5_draw_7 : decode cX5_draw 7 = .ok (.imul, 1) := by decide +kernel
theorem dX5_draw_8 : decode cX5_draw 8 = .ok (.ldc 155, 2) := by decide +kernel
theorem dX5_draw_10 : decode cX5_draw 10 = .ok (.iadd, 1) := by decide +kernel
theorem dX5_draw_11 : decode cX5_draw 11 = .ok (.putfield 151, 3) := by decide +kernel
theorem dX5_draw_14 : decode cX5_draw 14 = .ok (.aload_n 0, 1) := by decide +kernel
theorem dX5_draw_15 : decode cX5_draw 15 = .ok (.getfield 151, 3) := by decide +kernel
theorem dX5_draw_18 : decode cX5_draw 18 = .ok (.ldc 156, 2) := by decide +kernel
theorem dX5_draw_20 : decode cX5_draw 20 = .ok (.iand, 1) := by decide +kernel
theorem dX5_draw_21 : decode cX5_draw 21 = .ok (.sipush 256, 3) := by decide +kernel
theorem dX5_draw_24 : decode cX5_draw 24 = .ok (.idiv, 1) := by decide +kernel
theorem dX5_draw_25 : decode cX5_draw 25 = .ok (.iload_n 1, 1) := by decide +kernel
theorem dX5_draw_26 : decode cX5_draw 26 = .ok (.irem, 1) := by decide +kernel
theorem dX5_draw_27 : decode cX5_draw 27 = .ok (.ireturn, 1) := by decide +kernel
theorem dX5_happens_0 : decode cX5_happens 0 = .ok (.aload_n 0, 1) := by decide +kernel
theorem dX5_happens_1 : decode cX5_happens 1 = .ok (.aload_n 0, 1) := by decide +kernel
theorem dX5_happens_2 : decode cX5_happens 2 = .ok (.getfield 157, 3) := by decide +kernel
theorem dX5_happens_5 : decode cX5_happens 5 = .ok (.iload_n 2, 1) := by decide +kernel
theorem dX5_happens_6 : decode cX5_happens 6 = .ok (.ifCond .eq 7, 3) := by decide +kernel
theorem dX5_happens_9 : decode cX5_happens 9 = .ok (.iload_n 1, 1) := by decide +kernel
theorem dX5_happens_10 : decode cX5_happens 10 = .ok (.goto 7, 3) := by decide +kernel
theorem dX5_happens_13 : decode cX5_happens 13 = .ok (.bipush 10, 2) := by decide +kernel
theorem dX5_happens_15 : decode cX5_happens 15 = .ok (.iload_n 1, 1) := by decide +kernel
theorem dX5_happens_16 : decode cX5_happens 16 = .ok (.isub, 1) := by decide +kernel
theorem dX5_happens_17 : decode cX5_happens 17 = .ok (.i2l, 1) := by decide +kernel
theorem dX5_happens_18 : decode cX5_happens 18 = .ok (.lmul, 1) := by decide +kernel
theorem dX5_happens_19 : decode cX5_happens 19 = .ok (.ldc2_w 161, 3) := by decide +kernel
theorem dX5_happens_22 : decode cX5_happens 22 = .ok (.ldiv, 1) := by decide +kernel
theorem dX5_happens_23 : decode cX5_happens 23 = .ok (.putfield 157, 3) := by decide +kernel
theorem dX5_happens_26 : decode cX5_happens 26 = .ok (.aload_n 0, 1) := by decide +kernel
theorem dX5_happens_27 : decode cX5_happens 27 = .ok (.getfield 163, 3) := by decide +kernel
theorem dX5_happens_30 : decode cX5_happens 30 = .ok (.ifCond .eq 50, 3) := by decide +kernel
theorem dX5_happens_33 : decode cX5_happens 33 = .ok (.aload_n 0, 1) := by decide +kernel
theorem dX5_happens_34 : decode cX5_happens 34 = .ok (.getfield 166, 3) := by decide +kernel
theorem dX5_happens_37 : decode cX5_happens 37 = .ok (.ifCond .eq 43, 3) := by decide +kernel
theorem dX5_happens_40 : decode cX5_happens 40 = .ok (.iload_n 1, 1) := by decide +kernel
theorem dX5_happens_41 : decode cX5_happens 41 = .ok (.bipush 10, 2) := by decide +kernel
theorem dX5_happens_43 : decode cX5_happens 43 = .ok (.if_icmp .eq 17, 3) := by decide +kernel
theorem dX5_happens_46 : decode cX5_happens 46 = .ok (.iload_n 1, 1) := by decide +kernel
theorem dX5_happens_47 : decode cX5_happens 47 = .ok (.ifCond .le 17, 3) := by decide +kernel
theorem dX5_happens_50 : decode cX5_happens 50 = .ok (.aload_n 0, 1) := by decide +kernel
theorem dX5_happens_51 : decode cX5_happens 51 = .ok (.bipush 10, 2) := by decide +kernel
theorem dX5_happens_53 : decode cX5_happens 53 = .ok (.invokevirtual 169, 3) := by decide +kernel
theorem dX5_happens_56 : decode cX5_happens 56 = .ok (.iload_n 1, 1) := by decide +kernel
theorem dX5_happens_57 : decode cX5_happens 57 = .ok (.if_icmp .ge 7, 3) := by decide +kernel
theorem dX5_happens_60 : decode cX5_happens 60 = .ok (.iconst 1, 1) := by decide +kernel
theorem dX5_happens_61 : decode cX5_happens 61 = .ok (.goto 4, 3) := by decide +kernel
theorem dX5_happens_64 : decode cX5_happens 64 = .ok (.iconst 0, 1) := by decide +kernel
theorem dX5_happens_65 : decode cX5_happens 65 = .ok (.istore_n 3, 1) := by decide +kernel
theorem dX5_happens_66 : decode cX5_happens 66 = .ok (.aload_n 0, 1) := by decide +kernel
theorem dX5_happens_67 : decode cX5_happens 67 = .ok (.iload_n 3, 1) := by decide +kernel
theorem dX5_happens_68 : decode cX5_happens 68 = .ok (.iload_n 2, 1) := by decide +kernel
theorem dX5_happens_69 : decode cX5_happens 69 = .ok (.if_icmp .ne 7, 3) := by decide +kernel
theorem dX5_happens_72 : decode cX5_happens 72 = .ok (.iconst 1, 1) := by decide +kernel
theorem dX5_happens_73 : decode cX5_happens 73 = .ok (.goto 4, 3) := by decide +kernel
theorem dX5_happens_76 : decode cX5_happens 76 = .ok (.iconst 0, 1) := by decide +kernel
theorem dX5_happens_77 : decode cX5_happens 77 = .ok (.putfield 166, 3) := by decide +kernel
theorem dX5_happens_80 : decode cX5_happens 80 = .ok (.return_, 1) := by decide +kernel
theorem dX5_start_0 : decode cX5_start 0 = .ok (.aload_n 0, 1) := by decide +kernel
theorem dX5_start_1 : decode cX5_start 1 = .ok (.aload_n 0, 1) := by decide +kernel
theorem dX5_start_2 : decode cX5_start 2 = .ok (.getfield 172, 3) := by decide +kernel
theorem dX5_start_5 : decode cX5_start 5 = .ok (.iconst 3, 1) := by decide +kernel
theorem dX5_start_6 : decode cX5_start 6 = .ok (.if_icmp .ne 11, 3) := by decide +kernel
theorem dX5_start_9 : decode cX5_start 9 = .ok (.aload_n 0, 1) := by decide +kernel
theorem dX5_start_10 : decode cX5_start 10 = .ok (.iload_n 1, 1) := by decide +kernel
theorem dX5_start_11 : decode cX5_start 11 = .ok (.invokevirtual 132, 3) := by decide +kernel
theorem dX5_start_14 : decode cX5_start 14 = .ok (.goto 8, 3) := by decide +kernel
theorem dX5_start_17 : decode cX5_start 17 = .ok (.aload_n 0, 1) := by decide +kernel
theorem dX5_start_18 : decode cX5_start 18 = .ok (.iload_n 1, 1) := by decide +kernel
theorem dX5_start_19 : decode cX5_start 19 = .ok (.invokevirtual 125, 3) := by decide +kernel
theorem dX5_start_22 : decode cX5_start 22 = .ok (.iconst 1, 1) := by decide +kernel
theorem dX5_start_23 : decode cX5_start 23 = .ok (.invokevirtual 175, 3) := by decide +kernel
theorem dX5_start_26 : decode cX5_start 26 = .ok (.return_, 1) := by decide +kernel
theorem dX5_goesIn_0 : decode cX5_goesIn 0 = .ok (.bipush 8, 2) := by decide +kernel
theorem dX5_goesIn_2 : decode cX5_goesIn 2 = .ok (.iload_n 1, 1) := by decide +kernel
theorem dX5_goesIn_3 : decode cX5_goesIn 3 = .ok (.imul, 1) := by decide +kernel
theorem dX5_goesIn_4 : decode cX5_goesIn 4 = .ok (.iload_n 2, 1) := by decide +kernel
theorem dX5_goesIn_5 : decode cX5_goesIn 5 = .ok (.iadd, 1) := by decide +kernel
theorem dX5_goesIn_6 : decode cX5_goesIn 6 = .ok (.istore_n 3, 1) := by decide +kernel
theorem dX5_goesIn_7 : decode cX5_goesIn 7 = .ok (.aload_n 0, 1) := by decide +kernel
theorem dX5_goesIn_8 : decode cX5_goesIn 8 = .ok (.aload_n 0, 1) := by decide +kernel
theorem dX5_goesIn_9 : decode cX5_goesIn 9 = .ok (.getfield 172, 3) := by decide +kernel
theorem dX5_goesIn_12 : decode cX5_goesIn 12 = .ok (.iconst 5, 1) := by decide +kernel
theorem dX5_goesIn_13 : decode cX5_goesIn 13 = .ok (.if_icmp .ne 12, 3) := by decide +kernel
theorem dX5_goesIn_16 : decode cX5_goesIn 16 = .ok (.aload_n 0, 1) := by decide +kernel
theorem dX5_goesIn_17 : decode cX5_goesIn 17 = .ok (.getfield 54, 3) := by decide +kernel
theorem dX5_goesIn_20 : decode cX5_goesIn 20 = .ok (.iload_n 3, 1) := by decide +kernel
theorem dX5_goesIn_21 : decode cX5_goesIn 21 = .ok (.iaload, 1) := by decide +kernel
theorem dX5_goesIn_22 : decode cX5_goesIn 22 = .ok (.goto 9, 3) := by decide +kernel
theorem dX5_goesIn_25 : decode cX5_goesIn 25 = .ok (.aload_n 0, 1) := by decide +kernel
theorem dX5_goesIn_26 : decode cX5_goesIn 26 = .ok (.getfield 48, 3) := by decide +kernel
theorem dX5_goesIn_29 : decode cX5_goesIn 29 = .ok (.iload_n 3, 1) := by decide +kernel
theorem dX5_goesIn_30 : decode cX5_goesIn 30 = .ok (.iaload, 1) := by decide +kernel
theorem dX5_goesIn_31 : decode cX5_goesIn 31 = .ok (.iconst 0, 1) := by decide +kernel
theorem dX5_goesIn_32 : decode cX5_goesIn 32 = .ok (.invokevirtual 175, 3) := by decide +kernel
theorem dX5_goesIn_35 : decode cX5_goesIn 35 = .ok (.aload_n 0, 1) := by decide +kernel
theorem dX5_goesIn_36 : decode cX5_goesIn 36 = .ok (.getfield 172, 3) := by decide +kernel
theorem dX5_goesIn_39 : decode cX5_goesIn 39 = .ok (.iconst 5, 1) := by decide +kernel
theorem dX5_goesIn_40 : decode cX5_goesIn 40 = .ok (.if_icmp .ne 12, 3) := by decide +kernel
theorem dX5_goesIn_43 : decode cX5_goesIn 43 = .ok (.aload_n 0, 1) := by decide +kernel
theorem dX5_goesIn_44 : decode cX5_goesIn 44 = .ok (.getfield 51, 3) := by decide +kernel
theorem dX5_goesIn_47 : decode cX5_goesIn 47 = .ok (.iload_n 3, 1) := by decide +kernel
theorem dX5_goesIn_48 : decode cX5_goesIn 48 = .ok (.iaload, 1) := by decide +kernel
theorem dX5_goesIn_49 : decode cX5_goesIn 49 = .ok (.goto 9, 3) := by decide +kernel
theorem dX5_goesIn_52 : decode cX5_goesIn 52 = .ok (.aload_n 0, 1) := by decide +kernel
theorem dX5_goesIn_53 : decode cX5_goesIn 53 = .ok (.getfield 45, 3) := by decide +kernel
theorem dX5_goesIn_56 : decode cX5_goesIn 56 = .ok (.iload_n 3, 1) := by decide +kernel
theorem dX5_goesIn_57 : decode cX5_goesIn 57 = .ok (.iaload, 1) := by decide +kernel
theorem dX5_goesIn_58 : decode cX5_goesIn 58 = .ok (.ireturn, 1) := by decide +kernel
theorem dX5_runsOn_0 : decode cX5_runsOn 0 = .ok (.aload_n 0, 1) := by decide +kernel
theorem dX5_runsOn_1 : decode cX5_runsOn 1 = .ok (.getfield 172, 3) := by decide +kernel
theorem dX5_runsOn_4 : decode cX5_runsOn 4 = .ok (.iconst 1, 1) := by decide +kernel
theorem dX5_runsOn_5 : decode cX5_runsOn 5 = .ok (.if_icmp .eq 21, 3) := by decide +kernel
theorem dX5_runsOn_8 : decode cX5_runsOn 8 = .ok (.aload_n 0, 1) := by decide +kernel
theorem dX5_runsOn_9 : decode cX5_runsOn 9 = .ok (.getfield 172, 3) := by decide +kernel
theorem dX5_runsOn_12 : decode cX5_runsOn 12 = .ok (.iconst 2, 1) := by decide +kernel
theorem dX5_runsOn_13 : decode cX5_runsOn 13 = .ok (.if_icmp .ne 25, 3) := by decide +kernel
theorem dX5_runsOn_16 : decode cX5_runsOn 16 = .ok (.aload_n 0, 1) := by decide +kernel
theorem dX5_runsOn_17 : decode cX5_runsOn 17 = .ok (.iload_n 1, 1) := by decide +kernel
theorem dX5_runsOn_18 : decode cX5_runsOn 18 = .ok (.invokevirtual 125, 3) := by decide +kernel
theorem dX5_runsOn_21 : decode cX5_runsOn 21 = .ok (.bipush 10, 2) := by decide +kernel
theorem dX5_runsOn_23 : decode cX5_runsOn 23 = .ok (.if_icmp .ge 15, 3) := by decide +kernel
theorem dX5_runsOn_26 : decode cX5_runsOn 26 = .ok (.iload_n 2, 1) := by decide +kernel
theorem dX5_runsOn_27 : decode cX5_runsOn 27 = .ok (.aload_n 0, 1) := by decide +kernel
theorem dX5_runsOn_28 : decode cX5_runsOn 28 = .ok (.getfield 179, 3) := by decide +kernel
theorem dX5_runsOn_31 : decode cX5_runsOn 31 = .ok (.if_icmp .gt 7, 3) := by decide +kernel
theorem dX5_runsOn_34 : decode cX5_runsOn 34 = .ok (.iconst 1, 1) := by decide +kernel
theorem dX5_runsOn_35 : decode cX5_runsOn 35 = .ok (.goto 4, 3) := by decide +kernel
theorem dX5_runsOn_38 : decode cX5_runsOn 38 = .ok (.iconst 0, 1) := by decide +kernel
theorem dX5_runsOn_39 : decode cX5_runsOn 39 = .ok (.ireturn, 1) := by decide +kernel
theorem dX5_go_0 : decode cX5_go 0 = .ok (.aload_n 0, 1) := by decide +kernel
theorem dX5_go_1 : decode cX5_go 1 = .ok (.iload_n 1, 1) := by decide +kernel
theorem dX5_go_2 : decode cX5_go 2 = .ok (.putfield 172, 3) := by decide +kernel
theorem dX5_go_5 : decode cX5_go 5 = .ok (.aload_n 0, 1) := by decide +kernel
theorem dX5_go_6 : decode cX5_go 6 = .ok (.aload_n 0, 1) := by decide +kernel
theorem dX5_go_7 : decode cX5_go 7 = .ok (.getfield 19, 3) := by decide +kernel
theorem dX5_go_10 : decode cX5_go 10 = .ok (.iconst 4, 1) := by decide +kernel
theorem dX5_go_11 : decode cX5_go 11 = .ok (.iaload, 1) := by decide +kernel
theorem dX5_go_12 : decode cX5_go 12 = .ok (.putfield 179, 3) := by decide +kernel
theorem dX5_go_15 : decode cX5_go 15 = .ok (.aload_n 0, 1) := by decide +kernel
theorem dX5_go_16 : decode cX5_go 16 = .ok (.iconst 0, 1) := by decide +kernel
theorem dX5_go_17 : decode cX5_go 17 = .ok (.putfield 182, 3) := by decide +kernel
theorem dX5_go_20 : decode cX5_go 20 = .ok (.aload_n 0, 1) := by decide +kernel
theorem dX5_go_21 : decode cX5_go 21 = .ok (.iconst 0, 1) := by decide +kernel
theorem dX5_go_22 : decode cX5_go 22 = .ok (.putfield 185, 3) := by decide +kernel
theorem dX5_go_25 : decode cX5_go 25 = .ok (.aload_n 0, 1) := by decide +kernel
theorem dX5_go_26 : decode cX5_go 26 = .ok (.iconst 0, 1) := by decide +kernel
theorem dX5_go_27 : decode cX5_go 27 = .ok (.putfield 188, 3) := by decide +kernel
theorem dX5_go_30 : decode cX5_go 30 = .ok (.aload_n 0, 1) := by decide +kernel
theorem dX5_go_31 : decode cX5_go 31 = .ok (.ldc2_w 191, 3) := by decide +kernel
theorem dX5_go_34 : decode cX5_go 34 = .ok (.putfield 157, 3) := by decide +kernel
theorem dX5_go_37 : decode cX5_go 37 = .ok (.aload_n 0, 1) := by decide +kernel
theorem dX5_go_38 : decode cX5_go 38 = .ok (.lconst 0, 1) := by decide +kernel
theorem dX5_go_39 : decode cX5_go 39 = .ok (.putfield 193, 3) := by decide +kernel
theorem dX5_go_42 : decode cX5_go 42 = .ok (.aload_n 0, 1) := by decide +kernel
theorem dX5_go_43 : decode cX5_go 43 = .ok (.iconst 0, 1) := by decide +kernel
theorem dX5_go_44 : decode cX5_go 44 = .ok (.invokevirtual 196, 3) := by decide +kernel
theorem dX5_go_47 : decode cX5_go 47 = .ok (.iconst 0, 1) := by decide +kernel
theorem dX5_go_48 : decode cX5_go 48 = .ok (.istore_n 2, 1) := by decide +kernel
theorem dX5_go_49 : decode cX5_go 49 = .ok (.iconst 0, 1) := by decide +kernel
theorem dX5_go_50 : decode cX5_go 50 = .ok (.istore_n 3, 1) := by decide +kernel
theorem dX5_go_51 : decode cX5_go 51 = .ok (.iload_n 3, 1) := by decide +kernel
theorem dX5_go_52 : decode cX5_go 52 = .ok (.aload_n 0, 1) := by decide +kernel
theorem dX5_go_53 : decode cX5_go 53 = .ok (.getfield 199, 3) := by decide +kernel
theorem dX5_go_56 : decode cX5_go 56 = .ok (.if_icmp .ge 232, 3) := by decide +kernel
theorem dX5_go_59 : decode cX5_go 59 = .ok (.bipush 40, 2) := by decide +kernel
theorem dX5_go_61 : decode cX5_go 61 = .ok (.iconst 4, 1) := by decide +kernel
theorem dX5_go_62 : decode cX5_go 62 = .ok (.aload_n 0, 1) := by decide +kernel
theorem dX5_go_63 : decode cX5_go 63 = .ok (.getfield 57, 3) := by decide +kernel
theorem dX5_go_66 : decode cX5_go 66 = .ok (.iload_n 3, 1) := by decide +kernel
theorem dX5_go_67 : decode cX5_go 67 = .ok (.iaload, 1) := by decide +kernel
theorem dX5_go_68 : decode cX5_go 68 = .ok (.imul, 1) := by decide +kernel
theorem dX5_go_69 : decode cX5_go 69 = .ok (.iadd, 1) := by decide +kernel
theorem dX5_go_70 : decode cX5_go 70 = .ok (.istore 4, 2) := by decide +kernel
theorem dX5_go_72 : decode cX5_go 72 = .ok (.aload_n 0, 1) := by decide +kernel
theorem dX5_go_73 : decode cX5_go 73 = .ok (.getfield 19, 3) := by decide +kernel
theorem dX5_go_76 : decode cX5_go 76 = .ok (.iload 4, 2) := by decide +kernel
theorem dX5_go_78 : decode cX5_go 78 = .ok (.iaload, 1) := by decide +kernel
theorem dX5_go_79 : decode cX5_go 79 = .ok (.istore 5, 2) := by decide +kernel
theorem dX5_go_81 : decode cX5_go 81 = .ok (.aload_n 0, 1) := by decide +kernel
theorem dX5_go_82 : decode cX5_go 82 = .ok (.getfield 172, 3) := by decide +kernel
theorem dX5_go_85 : decode cX5_go 85 = .ok (.iconst 3, 1) := by decide +kernel
theorem dX5_go_86 : decode cX5_go 86 = .ok (.if_icmp .le 14, 3) := by decide +kernel
theorem dX5_go_89 : decode cX5_go 89 = .ok (.aload_n 0, 1) := by decide +kernel
theorem dX5_go_90 : decode cX5_go 90 = .ok (.iload 5, 2) := by decide +kernel
theorem dX5_go_92 : decode cX5_go 92 = .ok (.invokevirtual 125, 3) := by decide +kernel
theorem dX5_go_95 : decode cX5_go 95 = .ok (.bipush 10, 2) := by decide +kernel
theorem dX5_go_97 : decode cX5_go 97 = .ok (.if_icmp .lt 20, 3) := by decide +kernel
theorem dX5_go_100 : decode cX5_go 100 = .ok (.aload_n 0, 1) := by decide +kernel
theorem dX5_go_101 : decode cX5_go 101 = .ok (.getfield 45, 3) := by decide +kernel
theorem dX5_go_104 : decode cX5_go 104 = .ok (.bipush 8, 2) := by decide +kernel
theorem dX5_go_106 : decode cX5_go 106 = .ok (.iload_n 2, 1) := by decide +kernel
theorem dX5_go_107 : decode cX5_go 107 = .ok (.imul, 1) := by decide +kernel
theorem dX5_go_108 : decode cX5_go 108 = .ok (.iload 5, 2) := by decide +kernel
theorem dX5_go_110 : decode cX5_go 110 = .ok (.iadd, 1) := by decide +kernel
theorem dX5_go_111 : decode cX5_go 111 = .ok (.iaload, 1) := by decide +kernel
theorem dX5_go_112 : decode cX5_go 112 = .ok (.ldc 139, 2) := by decide +kernel
theorem dX5_go_114 : decode cX5_go 114 = .ok (.if_icmp .ne 7, 3) := by decide +kernel
theorem dX5_go_117 : decode cX5_go 117 = .ok (.iconst 1, 1) := by decide +kernel
theorem dX5_go_118 : decode cX5_go 118 = .ok (.goto 4, 3) := by decide +kernel
theorem dX5_go_121 : decode cX5_go 121 = .ok (.iconst 0, 1) := by decide +kernel
theorem dX5_go_122 : decode cX5_go 122 = .ok (.istore 6, 2) := by decide +kernel
theorem dX5_go_124 : decode cX5_go 124 = .ok (.iload 6, 2) := by decide +kernel
theorem dX5_go_126 : decode cX5_go 126 = .ok (.ifCond .ne 156, 3) := by decide +kernel
theorem dX5_go_129 : decode cX5_go 129 = .ok (.aload_n 0, 1) := by decide +kernel
theorem dX5_go_130 : decode cX5_go 130 = .ok (.dup, 1) := by decide +kernel
theorem dX5_go_131 : decode cX5_go 131 = .ok (.getfield 182, 3) := by decide +kernel
theorem dX5_go_134 : decode cX5_go 134 = .ok (.aload_n 0, 1) := by decide +kernel
theorem dX5_go_135 : decode cX5_go 135 = .ok (.iload_n 2, 1) := by decide +kernel
theorem dX5_go_136 : decode cX5_go 136 = .ok (.iload 5, 2) := by decide +kernel
theorem dX5_go_138 : decode cX5_go 138 = .ok (.invokevirtual 202, 3) := by decide +kernel
theorem dX5_go_141 : decode cX5_go 141 = .ok (.iadd, 1) := by decide +kernel
theorem dX5_go_142 : decode cX5_go 142 = .ok (.putfield 182, 3) := by decide +kernel
theorem dX5_go_145 : decode cX5_go 145 = .ok (.iload 5, 2) := by decide +kernel
theorem dX5_go_147 : decode cX5_go 147 = .ok (.istore_n 2, 1) := by decide +kernel
theorem dX5_go_148 : decode cX5_go 148 = .ok (.aload_n 0, 1) := by decide +kernel
theorem dX5_go_149 : decode cX5_go 149 = .ok (.getfield 182, 3) := by decide +kernel
theorem dX5_go_152 : decode cX5_go 152 = .ok (.aload_n 0, 1) := by decide +kernel
theorem dX5_go_153 : decode cX5_go 153 = .ok (.getfield 19, 3) := by decide +kernel
theorem dX5_go_156 : decode cX5_go 156 = .ok (.iload 4, 2) := by decide +kernel
theorem dX5_go_158 : decode cX5_go 158 = .ok (.iconst 3, 1) := by decide +kernel
theorem dX5_go_159 : decode cX5_go 159 = .ok (.iadd, 1) := by decide +kernel
theorem dX5_go_160 : decode cX5_go 160 = .ok (.iaload, 1) := by decide +kernel
theorem dX5_go_161 : decode cX5_go 161 = .ok (.if_icmp .gt 121, 3) := by decide +kernel
theorem dX5_go_164 : decode cX5_go 164 = .ok (.aload_n 0, 1) := by decide +kernel
theorem dX5_go_165 : decode cX5_go 165 = .ok (.getfield 19, 3) := by decide +kernel
theorem dX5_go_168 : decode cX5_go 168 = .ok (.iload 4, 2) := by decide +kernel
theorem dX5_go_170 : decode cX5_go 170 = .ok (.iconst 1, 1) := by decide +kernel
theorem dX5_go_171 : decode cX5_go 171 = .ok (.iadd, 1) := by decide +kernel
theorem dX5_go_172 : decode cX5_go 172 = .ok (.iaload, 1) := by decide +kernel
theorem dX5_go_173 : decode cX5_go 173 = .ok (.istore 7, 2) := by decide +kernel
theorem dX5_go_175 : decode cX5_go 175 = .ok (.aload_n 0, 1) := by decide +kernel
theorem dX5_go_176 : decode cX5_go 176 = .ok (.iload 5, 2) := by decide +kernel
theorem dX5_go_178 : decode cX5_go 178 = .ok (.iload 7, 2) := by decide +kernel
theorem dX5_go_180 : decode cX5_go 180 = .ok (.invokevirtual 205, 3) := by decide +kernel
theorem dX5_go_183 : decode cX5_go 183 = .ok (.istore 8, 2) := by decide +kernel
theorem dX5_go_185 : decode cX5_go 185 = .ok (.iload 8, 2) := by decide +kernel
theorem dX5_go_187 : decode cX5_go 187 = .ok (.ifCond .eq 15, 3) := by decide +kernel
theorem dX5_go_190 : decode cX5_go 190 = .ok (.aload_n 0, 1) := by decide +kernel
theorem dX5_go_191 : decode cX5_go 191 = .ok (.getfield 19, 3) := by decide +kernel
theorem dX5_go_194 : decode cX5_go 194 = .ok (.iconst 3, 1) := by decide +kernel
theorem dX5_go_195 : decode cX5_go 195 = .ok (.iaload, 1) := by decide +kernel
theorem dX5_go_196 : decode cX5_go 196 = .ok (.iload 7, 2) := by decide +kernel
theorem dX5_go_198 : decode cX5_go 198 = .ok (.imul, 1) := by decide +kernel
theorem dX5_go_199 : decode cX5_go 199 = .ok (.goto 4, 3) := by decide +kernel
theorem dX5_go_202 : decode cX5_go 202 = .ok (.iconst 0, 1) := by decide +kernel
theorem dX5_go_203 : decode cX5_go 203 = .ok (.istore 9, 2) := by decide +kernel
theorem dX5_go_205 : decode cX5_go 205 = .ok (.aload_n 0, 1) := by decide +kernel
theorem dX5_go_206 : decode cX5_go 206 = .ok (.dup, 1) := by decide +kernel
theorem dX5_go_207 : decode cX5_go 207 = .ok (.getfield 185, 3) := by decide +kernel
theorem dX5_go_210 : decode cX5_go 210 = .ok (.iconst 1, 1) := by decide +kernel
theorem dX5_go_211 : decode cX5_go 211 = .ok (.aload_n 0, 1) := by decide +kernel
theorem dX5_go_212 : decode cX5_go 212 = .ok (.getfield 57, 3) := by decide +kernel
theorem dX5_go_215 : decode cX5_go 215 = .ok (.iload_n 3, 1) := by decide +kernel
theorem dX5_go_216 : decode cX5_go 216 = .ok (.iaload, 1) := by decide +kernel
theorem dX5_go_217 : decode cX5_go 217 = .ok (.ishl, 1) := by decide +kernel
theorem dX5_go_218 : decode cX5_go 218 = .ok (.ior, 1) := by decide +kernel
theorem dX5_go_219 : decode cX5_go 219 = .ok (.putfield 185, 3) := by decide +kernel
theorem dX5_go_222 : decode cX5_go 222 = .ok (.aload_n 0, 1) := by decide +kernel
theorem dX5_go_223 : decode cX5_go 223 = .ok (.dup, 1) := by decide +kernel
theorem dX5_go_224 : decode cX5_go 224 = .ok (.getfield 188, 3) := by decide +kernel
theorem dX5_go_227 : decode cX5_go 227 = .ok (.iload 9, 2) := by decide +kernel
theorem dX5_go_229 : decode cX5_go 229 = .ok (.iadd, 1) := by decide +kernel
theorem dX5_go_230 : decode cX5_go 230 = .ok (.putfield 188, 3) := by decide +kernel
theorem dX5_go_233 : decode cX5_go 233 = .ok (.aload_n 0, 1) := by decide +kernel
theorem dX5_go_234 : decode cX5_go 234 = .ok (.dup, 1) := by decide +kernel
theorem dX5_go_235 : decode cX5_go 235 = .ok (.getfield 193, 3) := by decide +kernel
theorem dX5_go_238 : decode cX5_go 238 = .ok (.aload_n 0, 1) := by decide +kernel
theorem dX5_go_239 : decode cX5_go 239 = .ok (.getfield 157, 3) := by decide +kernel
theorem dX5_go_242 : decode cX5_go 242 = .ok (.aload_n 0, 1) := by decide +kernel
theorem dX5_go_243 : decode cX5_go 243 = .ok (.getfield 19, 3) := by decide +kernel
theorem dX5_go_246 : decode cX5_go 246 = .ok (.iload 4, 2) := by decide +kernel
theorem dX5_go_248 : decode cX5_go 248 = .ok (.iconst 2, 1) := by decide +kernel
theorem dX5_go_249 : decode cX5_go 249 = .ok (.iadd, 1) := by decide +kernel
theorem dX5_go_250 : decode cX5_go 250 = .ok (.iaload, 1) := by decide +kernel
theorem dX5_go_251 : decode cX5_go 251 = .ok (.iload 9, 2) := by decide +kernel
theorem dX5_go_253 : decode cX5_go 253 = .ok (.isub, 1) := by decide +kernel
theorem dX5_go_254 : decode cX5_go 254 = .ok (.i2l, 1) := by decide +kernel
theorem dX5_go_255 : decode cX5_go 255 = .ok (.lmul, 1) := by decide +kernel
theorem dX5_go_256 : decode cX5_go 256 = .ok (.ladd, 1) := by decide +kernel
theorem dX5_go_257 : decode cX5_go 257 = .ok (.putfield 193, 3) := by decide +kernel
theorem dX5_go_260 : decode cX5_go 260 = .ok (.aload_n 0, 1) := by decide +kernel
theorem dX5_go_261 : decode cX5_go 261 = .ok (.dup, 1) := by decide +kernel
theorem dX5_go_262 : decode cX5_go 262 = .ok (.getfield 182, 3) := by decide +kernel
theorem dX5_go_265 : decode cX5_go 265 = .ok (.iload 7, 2) := by decide +kernel
theorem dX5_go_267 : decode cX5_go 267 = .ok (.iadd, 1) := by decide +kernel
theorem dX5_go_268 : decode cX5_go 268 = .ok (.putfield 182, 3) := by decide +kernel
theorem dX5_go_271 : decode cX5_go 271 = .ok (.iload 8, 2) := by decide +kernel
theorem dX5_go_273 : decode cX5_go 273 = .ok (.ifCond .ne 9, 3) := by decide +kernel
theorem dX5_go_276 : decode cX5_go 276 = .ok (.aload_n 0, 1) := by decide +kernel
theorem dX5_go_277 : decode cX5_go 277 = .ok (.iload 5, 2) := by decide +kernel
theorem dX5_go_279 : decode cX5_go 279 = .ok (.invokevirtual 196, 3) := by decide +kernel
theorem dX5_go_282 : decode cX5_go 282 = .ok (.iinc 3 1, 3) := by decide +kernel
theorem dX5_go_285 : decode cX5_go 285 = .ok (.goto (-234), 3) := by decide +kernel
theorem dX5_go_288 : decode cX5_go 288 = .ok (.aload_n 0, 1) := by decide +kernel
theorem dX5_go_289 : decode cX5_go 289 = .ok (.dup, 1) := by decide +kernel
theorem dX5_go_290 : decode cX5_go 290 = .ok (.getfield 182, 3) := by decide +kernel
theorem dX5_go_293 : decode cX5_go 293 = .ok (.aload_n 0, 1) := by decide +kernel
theorem dX5_go_294 : decode cX5_go 294 = .ok (.iload_n 2, 1) := by decide +kernel
theorem dX5_go_295 : decode cX5_go 295 = .ok (.iconst 0, 1) := by decide +kernel
theorem dX5_go_296 : decode cX5_go 296 = .ok (.invokevirtual 202, 3) := by decide +kernel
theorem dX5_go_299 : decode cX5_go 299 = .ok (.iadd, 1) := by decide +kernel
theorem dX5_go_300 : decode cX5_go 300 = .ok (.putfield 182, 3) := by decide +kernel
theorem dX5_go_303 : decode cX5_go 303 = .ok (.return_, 1) := by decide +kernel
theorem dX5_byRow_0 : decode cX5_byRow 0 = .ok (.iconst 0, 1) := by decide +kernel
theorem dX5_byRow_1 : decode cX5_byRow 1 = .ok (.istore_n 2, 1) := by decide +kernel
theorem dX5_byRow_2 : decode cX5_byRow 2 = .ok (.aload_n 0, 1) := by decide +kernel
theorem dX5_byRow_3 : decode cX5_byRow 3 = .ok (.iconst 0, 1) := by decide +kernel
theorem dX5_byRow_4 : decode cX5_byRow 4 = .ok (.putfield 199, 3) := by decide +kernel
theorem dX5_byRow_7 : decode cX5_byRow 7 = .ok (.iconst 0, 1) := by decide +kernel
theorem dX5_byRow_8 : decode cX5_byRow 8 = .ok (.istore_n 3, 1) := by decide +kernel
theorem dX5_byRow_9 : decode cX5_byRow 9 = .ok (.iload_n 3, 1) := by decide +kernel
theorem dX5_byRow_10 : decode cX5_byRow 10 = .ok (.aload_n 0, 1) := by decide +kernel
theorem dX5_byRow_11 : decode cX5_byRow 11 = .ok (.getfield 209, 3) := by decide +kernel
theorem dX5_byRow_14 : decode cX5_byRow 14 = .ok (.if_icmp .ge 71, 3) := by decide +kernel
theorem dX5_byRow_17 : decode cX5_byRow 17 = .ok (.aload_n 0, 1) := by decide +kernel
theorem dX5_byRow_18 : decode cX5_byRow 18 = .ok (.getfield 60, 3) := by decide +kernel
theorem dX5_byRow_21 : decode cX5_byRow 21 = .ok (.iload_n 3, 1) := by decide +kernel
theorem dX5_byRow_22 : decode cX5_byRow 22 = .ok (.iaload, 1) := by decide +kernel
theorem dX5_byRow_23 : decode cX5_byRow 23 = .ok (.istore 4, 2) := by decide +kernel
theorem dX5_byRow_25 : decode cX5_byRow 25 = .ok (.iload 4, 2) := by decide +kernel
theorem dX5_byRow_27 : decode cX5_byRow 27 = .ok (.aload_n 0, 1) := by decide +kernel
theorem dX5_byRow_28 : decode cX5_byRow 28 = .ok (.getfield 19, 3) := by decide +kernel
theorem dX5_byRow_31 : decode cX5_byRow 31 = .ok (.iconst 2, 1) := by decide +kernel
theorem dX5_byRow_32 : decode cX5_byRow 32 = .ok (.iaload, 1) := by decide +kernel
theorem dX5_byRow_33 : decode cX5_byRow 33 = .ok (.if_icmp .ge 39, 3) := by decide +kernel
theorem dX5_byRow_36 : decode cX5_byRow 36 = .ok (.iload_n 2, 1) := by decide +kernel
theorem dX5_byRow_37 : decode cX5_byRow 37 = .ok (.iload 4, 2) := by decide +kernel
theorem dX5_byRow_39 : decode cX5_byRow 39 = .ok (.ishr, 1) := by decide +kernel
theorem dX5_byRow_40 : decode cX5_byRow 40 = .ok (.iconst 1, 1) := by decide +kernel
theorem dX5_byRow_41 : decode cX5_byRow 41 = .ok (.iand, 1) := by decide +kernel
theorem dX5_byRow_42 : decode cX5_byRow 42 = .ok (.ifCond .ne 30, 3) := by decide +kernel
theorem dX5_byRow_45 : decode cX5_byRow 45 = .ok (.iload 4, 2) := by decide +kernel
theorem dX5_byRow_47 : decode cX5_byRow 47 = .ok (.iload_n 1, 1) := by decide +kernel
theorem dX5_byRow_48 : decode cX5_byRow 48 = .ok (.if_icmp .eq 24, 3) := by decide +kernel
theorem dX5_byRow_51 : decode cX5_byRow 51 = .ok (.aload_n 0, 1) := by decide +kernel
theorem dX5_byRow_52 : decode cX5_byRow 52 = .ok (.getfield 57, 3) := by decide +kernel
theorem dX5_byRow_55 : decode cX5_byRow 55 = .ok (.aload_n 0, 1) := by decide +kernel
theorem dX5_byRow_56 : decode cX5_byRow 56 = .ok (.getfield 199, 3) := by decide +kernel
theorem dX5_byRow_59 : decode cX5_byRow 59 = .ok (.iload 4, 2) := by decide +kernel
theorem dX5_byRow_61 : decode cX5_byRow 61 = .ok (.iastore, 1) := by decide +kernel
theorem dX5_byRow_62 : decode cX5_byRow 62 = .ok (.aload_n 0, 1) := by decide +kernel
theorem dX5_byRow_63 : decode cX5_byRow 63 = .ok (.dup, 1) := by decide +kernel
theorem dX5_byRow_64 : decode cX5_byRow 64 = .ok (.getfield 199, 3) := by decide +kernel
theorem dX5_byRow_67 : decode cX5_byRow 67 = .ok (.iconst 1, 1) := by decide +kernel
theorem dX5_byRow_68 : decode cX5_byRow 68 = .ok (.iadd, 1) := by decide +kernel
theorem dX5_byRow_69 : decode cX5_byRow 69 = .ok (.putfield 199, 3) := by decide +kernel
theorem dX5_byRow_72 : decode cX5_byRow 72 = .ok (.iload_n 2, 1) := by decide +kernel
theorem dX5_byRow_73 : decode cX5_byRow 73 = .ok (.iconst 1, 1) := by decide +kernel
theorem dX5_byRow_74 : decode cX5_byRow 74 = .ok (.iload 4, 2) := by decide +kernel
theorem dX5_byRow_76 : decode cX5_byRow 76 = .ok (.ishl, 1) := by decide +kernel
theorem dX5_byRow_77 : decode cX5_byRow 77 = .ok (.ior, 1) := by decide +kernel
theorem dX5_byRow_78 : decode cX5_byRow 78 = .ok (.istore_n 2, 1) := by decide +kernel
theorem dX5_byRow_79 : decode cX5_byRow 79 = .ok (.iinc 3 1, 3) := by decide +kernel
theorem dX5_byRow_82 : decode cX5_byRow 82 = .ok (.goto (-73), 3) := by decide +kernel
theorem dX5_byRow_85 : decode cX5_byRow 85 = .ok (.return_, 1) := by decide +kernel
theorem dX5_dayOfRow_0 : decode cX5_dayOfRow 0 = .ok (.aload_n 0, 1) := by decide +kernel
theorem dX5_dayOfRow_1 : decode cX5_dayOfRow 1 = .ok (.invokevirtual 144, 3) := by decide +kernel
theorem dX5_dayOfRow_4 : decode cX5_dayOfRow 4 = .ok (.aload_n 0, 1) := by decide +kernel
theorem dX5_dayOfRow_5 : decode cX5_dayOfRow 5 = .ok (.bipush (-9), 2) := by decide +kernel
theorem dX5_dayOfRow_7 : decode cX5_dayOfRow 7 = .ok (.invokevirtual 212, 3) := by decide +kernel
theorem dX5_dayOfRow_10 : decode cX5_dayOfRow 10 = .ok (.aload_n 0, 1) := by decide +kernel
theorem dX5_dayOfRow_11 : decode cX5_dayOfRow 11 = .ok (.iload_n 1, 1) := by decide +kernel
theorem dX5_dayOfRow_12 : decode cX5_dayOfRow 12 = .ok (.invokevirtual 215, 3) := by decide +kernel
theorem dX5_dayOfRow_15 : decode cX5_dayOfRow 15 = .ok (.return_, 1) := by decide +kernel
theorem dX5_isNoTown_0 : decode cX5_isNoTown 0 = .ok (.aload_n 0, 1) := by decide +kernel
theorem dX5_isNoTown_1 : decode cX5_isNoTown 1 = .ok (.getfield 19, 3) := by decide +kernel
theorem dX5_isNoTown_4 : decode cX5_isNoTown 4 = .ok (.iconst 0, 1) := by decide +kernel
theorem dX5_isNoTown_5 : decode cX5_isNoTown 5 = .ok (.iaload, 1) := by decide +kernel
theorem dX5_isNoTown_6 : decode cX5_isNoTown 6 = .ok (.ifCond .ne 7, 3) := by decide +kernel
theorem dX5_isNoTown_9 : decode cX5_isNoTown 9 = .ok (.iconst 1, 1) := by decide +kernel
theorem dX5_isNoTown_10 : decode cX5_isNoTown 10 = .ok (.goto 4, 3) := by decide +kernel
theorem dX5_isNoTown_13 : decode cX5_isNoTown 13 = .ok (.iconst 0, 1) := by decide +kernel
theorem dX5_isNoTown_14 : decode cX5_isNoTown 14 = .ok (.ireturn, 1) := by decide +kernel
theorem dX5_day_0 : decode cX5_day 0 = .ok (.iload_n 1, 1) := by decide +kernel
theorem dX5_day_1 : decode cX5_day 1 = .ok (.ifCond .lt 8, 3) := by decide +kernel
theorem dX5_day_4 : decode cX5_day 4 = .ok (.iload_n 1, 1) := by decide +kernel
theorem dX5_day_5 : decode cX5_day 5 = .ok (.iconst 2, 1) := by decide +kernel
theorem dX5_day_6 : decode cX5_day 6 = .ok (.if_icmp .le 10, 3) := by decide +kernel
theorem dX5_day_9 : decode cX5_day 9 = .ok (.aload_n 0, 1) := by decide +kernel
theorem dX5_day_10 : decode cX5_day 10 = .ok (.bipush (-2), 2) := by decide +kernel
theorem dX5_day_12 : decode cX5_day 12 = .ok (.invokevirtual 9, 3) := by decide +kernel
theorem dX5_day_15 : decode cX5_day 15 = .ok (.ireturn, 1) := by decide +kernel
theorem dX5_day_16 : decode cX5_day 16 = .ok (.aload_n 0, 1) := by decide +kernel
theorem dX5_day_17 : decode cX5_day 17 = .ok (.invokevirtual 218, 3) := by decide +kernel
theorem dX5_day_20 : decode cX5_day 20 = .ok (.ifCond .eq 10, 3) := by decide +kernel
theorem dX5_day_23 : decode cX5_day 23 = .ok (.aload_n 0, 1) := by decide +kernel
theorem dX5_day_24 : decode cX5_day 24 = .ok (.bipush (-3), 2) := by decide +kernel
theorem dX5_day_26 : decode cX5_day 26 = .ok (.invokevirtual 9, 3) := by decide +kernel
theorem dX5_day_29 : decode cX5_day 29 = .ok (.ireturn, 1) := by decide +kernel
theorem dX5_day_30 : decode cX5_day 30 = .ok (.aload_n 0, 1) := by decide +kernel
theorem dX5_day_31 : decode cX5_day 31 = .ok (.aload_n 0, 1) := by decide +kernel
theorem dX5_day_32 : decode cX5_day 32 = .ok (.getfield 19, 3) := by decide +kernel
theorem dX5_day_35 : decode cX5_day 35 = .ok (.iconst 5, 1) := by decide +kernel
theorem dX5_day_36 : decode cX5_day 36 = .ok (.iaload, 1) := by decide +kernel
theorem dX5_day_37 : decode cX5_day 37 = .ok (.invokevirtual 221, 3) := by decide +kernel
theorem dX5_day_40 : decode cX5_day 40 = .ok (.iload_n 1, 1) := by decide +kernel
theorem dX5_day_41 : decode cX5_day 41 = .ok (.ifCond .ne 10, 3) := by decide +kernel
theorem dX5_day_44 : decode cX5_day 44 = .ok (.aload_n 0, 1) := by decide +kernel
theorem dX5_day_45 : decode cX5_day 45 = .ok (.getfield 182, 3) := by decide +kernel
theorem dX5_day_48 : decode cX5_day 48 = .ok (.goto 19, 3) := by decide +kernel
theorem dX5_day_51 : decode cX5_day 51 = .ok (.iload_n 1, 1) := by decide +kernel
theorem dX5_day_52 : decode cX5_day 52 = .ok (.iconst 1, 1) := by decide +kernel
theorem dX5_day_53 : decode cX5_day 53 = .ok (.if_icmp .ne 10, 3) := by decide +kernel
theorem dX5_day_56 : decode cX5_day 56 = .ok (.aload_n 0, 1) := by decide +kernel
theorem dX5_day_57 : decode cX5_day 57 = .ok (.getfield 185, 3) := by decide +kernel
theorem dX5_day_60 : decode cX5_day 60 = .ok (.goto 7, 3) := by decide +kernel
theorem dX5_day_63 : decode cX5_day 63 = .ok (.aload_n 0, 1) := by decide +kernel
theorem dX5_day_64 : decode cX5_day 64 = .ok (.getfield 188, 3) := by decide +kernel
theorem dX5_day_67 : decode cX5_day 67 = .ok (.ireturn, 1) := by decide +kernel
theorem dX5_isNoPart_0 : decode cX5_isNoPart 0 = .ok (.iload_n 0, 1) := by decide +kernel
theorem dX5_isNoPart_1 : decode cX5_isNoPart 1 = .ok (.ifCond .eq 12, 3) := by decide +kernel
theorem dX5_isNoPart_4 : decode cX5_isNoPart 4 = .ok (.iload_n 0, 1) := by decide +kernel
theorem dX5_isNoPart_5 : decode cX5_isNoPart 5 = .ok (.iconst 1, 1) := by decide +kernel
theorem dX5_isNoPart_6 : decode cX5_isNoPart 6 = .ok (.if_icmp .eq 7, 3) := by decide +kernel
theorem dX5_isNoPart_9 : decode cX5_isNoPart 9 = .ok (.iconst 1, 1) := by decide +kernel
theorem dX5_isNoPart_10 : decode cX5_isNoPart 10 = .ok (.goto 4, 3) := by decide +kernel
theorem dX5_isNoPart_13 : decode cX5_isNoPart 13 = .ok (.iconst 0, 1) := by decide +kernel
theorem dX5_isNoPart_14 : decode cX5_isNoPart 14 = .ok (.ireturn, 1) := by decide +kernel
theorem dX5_part_0 : decode cX5_part 0 = .ok (.lload_n 0, 1) := by decide +kernel
theorem dX5_part_1 : decode cX5_part 1 = .ok (.lconst 0, 1) := by decide +kernel
theorem dX5_part_2 : decode cX5_part 2 = .ok (.lcmp, 1) := by decide +kernel
theorem dX5_part_3 : decode cX5_part 3 = .ok (.ifCond .ne 6, 3) := by decide +kernel
theorem dX5_part_6 : decode cX5_part 6 = .ok (.iload_n 2, 1) := by decide +kernel
theorem dX5_part_7 : decode cX5_part 7 = .ok (.i2l, 1) := by decide +kernel
theorem dX5_part_8 : decode cX5_part 8 = .ok (.lreturn, 1) := by decide +kernel
theorem dX5_part_9 : decode cX5_part 9 = .ok (.lload_n 0, 1) := by decide +kernel
theorem dX5_part_10 : decode cX5_part 10 = .ok (.invokestatic 224, 3) := by decide +kernel
theorem dX5_part_13 : decode cX5_part 13 = .ok (.lstore_n 3, 1) := by decide +kernel
theorem dX5_part_14 : decode cX5_part 14 = .ok (.ldc2_w 191, 3) := by decide +kernel
theorem dX5_part_17 : decode cX5_part 17 = .ok (.lstore 5, 2) := by decide +kernel
theorem dX5_part_19 : decode cX5_part 19 = .ok (.lload 5, 2) := by decide +kernel
theorem dX5_part_21 : decode cX5_part 21 = .ok (.lconst 0, 1) := by decide +kernel
theorem dX5_part_22 : decode cX5_part 22 = .ok (.lcmp, 1) := by decide +kernel
theorem dX5_part_23 : decode cX5_part 23 = .ok (.ifCond .eq 19, 3) := by decide +kernel
theorem dX5_part_26 : decode cX5_part 26 = .ok (.lload_n 3, 1) := by decide +kernel
theorem dX5_part_27 : decode cX5_part 27 = .ok (.lload 5, 2) := by decide +kernel
theorem dX5_part_29 : decode cX5_part 29 = .ok (.lrem, 1) := by decide +kernel
theorem dX5_part_30 : decode cX5_part 30 = .ok (.lstore 7, 2) := by decide +kernel
theorem dX5_part_32 : decode cX5_part 32 = .ok (.lload 5, 2) := by decide +kernel
theorem dX5_part_34 : decode cX5_part 34 = .ok (.lstore_n 3, 1) := by decide +kernel
theorem dX5_part_35 : decode cX5_part 35 = .ok (.lload 7, 2) := by decide +kernel
theorem dX5_part_37 : decode cX5_part 37 = .ok (.lstore 5, 2) := by decide +kernel
theorem dX5_part_39 : decode cX5_part 39 = .ok (.goto (-20), 3) := by decide +kernel
theorem dX5_part_42 : decode cX5_part 42 = .ok (.iload_n 2, 1) := by decide +kernel
theorem dX5_part_43 : decode cX5_part 43 = .ok (.ifCond .ne 7, 3) := by decide +kernel
theorem dX5_part_46 : decode cX5_part 46 = .ok (.lload_n 0, 1) := by decide +kernel
theorem dX5_part_47 : decode cX5_part 47 = .ok (.goto 6, 3) := by decide +kernel
theorem dX5_part_50 : decode cX5_part 50 = .ok (.ldc2_w 191, 3) := by decide +kernel
theorem dX5_part_53 : decode cX5_part 53 = .ok (.lload_n 3, 1) := by decide +kernel
theorem dX5_part_54 : decode cX5_part 54 = .ok (.ldiv, 1) := by decide +kernel
theorem dX5_part_55 : decode cX5_part 55 = .ok (.lreturn, 1) := by decide +kernel
theorem dX5_likely_0 : decode cX5_likely 0 = .ok (.iload_n 1, 1) := by decide +kernel
theorem dX5_likely_1 : decode cX5_likely 1 = .ok (.invokestatic 228, 3) := by decide +kernel
theorem dX5_likely_4 : decode cX5_likely 4 = .ok (.ifCond .eq 10, 3) := by decide +kernel
theorem dX5_likely_7 : decode cX5_likely 7 = .ok (.aload_n 0, 1) := by decide +kernel
theorem dX5_likely_8 : decode cX5_likely 8 = .ok (.bipush (-2), 2) := by decide +kernel
theorem dX5_likely_10 : decode cX5_likely 10 = .ok (.invokevirtual 231, 3) := by decide +kernel
theorem dX5_likely_13 : decode cX5_likely 13 = .ok (.lreturn, 1) := by decide +kernel
theorem dX5_likely_14 : decode cX5_likely 14 = .ok (.aload_n 0, 1) := by decide +kernel
theorem dX5_likely_15 : decode cX5_likely 15 = .ok (.invokevirtual 218, 3) := by decide +kernel
theorem dX5_likely_18 : decode cX5_likely 18 = .ok (.ifCond .eq 10, 3) := by decide +kernel
theorem dX5_likely_21 : decode cX5_likely 21 = .ok (.aload_n 0, 1) := by decide +kernel
theorem dX5_likely_22 : decode cX5_likely 22 = .ok (.bipush (-3), 2) := by decide +kernel
theorem dX5_likely_24 : decode cX5_likely 24 = .ok (.invokevirtual 231, 3) := by decide +kernel
theorem dX5_likely_27 : decode cX5_likely 27 = .ok (.lreturn, 1) := by decide +kernel
theorem dX5_likely_28 : decode cX5_likely 28 = .ok (.aload_n 0, 1) := by decide +kernel
theorem dX5_likely_29 : decode cX5_likely 29 = .ok (.aload_n 0, 1) := by decide +kernel
theorem dX5_likely_30 : decode cX5_likely 30 = .ok (.getfield 19, 3) := by decide +kernel
theorem dX5_likely_33 : decode cX5_likely 33 = .ok (.iconst 5, 1) := by decide +kernel
theorem dX5_likely_34 : decode cX5_likely 34 = .ok (.iaload, 1) := by decide +kernel
theorem dX5_likely_35 : decode cX5_likely 35 = .ok (.invokevirtual 221, 3) := by decide +kernel
theorem dX5_likely_38 : decode cX5_likely 38 = .ok (.aload_n 0, 1) := by decide +kernel
theorem dX5_likely_39 : decode cX5_likely 39 = .ok (.getfield 157, 3) := by decide +kernel
theorem dX5_likely_42 : decode cX5_likely 42 = .ok (.iload_n 1, 1) := by decide +kernel
theorem dX5_likely_43 : decode cX5_likely 43 = .ok (.invokestatic 235, 3) := by decide +kernel
theorem dX5_likely_46 : decode cX5_likely 46 = .ok (.lreturn, 1) := by decide +kernel
theorem dX5_worth_0 : decode cX5_worth 0 = .ok (.iload_n 1, 1) := by decide +kernel
theorem dX5_worth_1 : decode cX5_worth 1 = .ok (.invokestatic 228, 3) := by decide +kernel
theorem dX5_worth_4 : decode cX5_worth 4 = .ok (.ifCond .eq 10, 3) := by decide +kernel
theorem dX5_worth_7 : decode cX5_worth 7 = .ok (.aload_n 0, 1) := by decide +kernel
theorem dX5_worth_8 : decode cX5_worth 8 = .ok (.bipush (-2), 2) := by decide +kernel
theorem dX5_worth_10 : decode cX5_worth 10 = .ok (.invokevirtual 231, 3) := by decide +kernel
theorem dX5_worth_13 : decode cX5_worth 13 = .ok (.lreturn, 1) := by decide +kernel
theorem dX5_worth_14 : decode cX5_worth 14 = .ok (.aload_n 0, 1) := by decide +kernel
theorem dX5_worth_15 : decode cX5_worth 15 = .ok (.invokevirtual 218, 3) := by decide +kernel
theorem dX5_worth_18 : decode cX5_worth 18 = .ok (.ifCond .eq 10, 3) := by decide +kernel
theorem dX5_worth_21 : decode cX5_worth 21 = .ok (.aload_n 0, 1) := by decide +kernel
theorem dX5_worth_22 : decode cX5_worth 22 = .ok (.bipush (-3), 2) := by decide +kernel
theorem dX5_worth_24 : decode cX5_worth 24 = .ok (.invokevirtual 231, 3) := by decide +kernel
theorem dX5_worth_27 : decode cX5_worth 27 = .ok (.lreturn, 1) := by decide +kernel
theorem dX5_worth_28 : decode cX5_worth 28 = .ok (.aload_n 0, 1) := by decide +kernel
theorem dX5_worth_29 : decode cX5_worth 29 = .ok (.aload_n 0, 1) := by decide +kernel
theorem dX5_worth_30 : decode cX5_worth 30 = .ok (.getfield 19, 3) := by decide +kernel
theorem dX5_worth_33 : decode cX5_worth 33 = .ok (.iconst 5, 1) := by decide +kernel
theorem dX5_worth_34 : decode cX5_worth 34 = .ok (.iaload, 1) := by decide +kernel
theorem dX5_worth_35 : decode cX5_worth 35 = .ok (.invokevirtual 221, 3) := by decide +kernel
theorem dX5_worth_38 : decode cX5_worth 38 = .ok (.aload_n 0, 1) := by decide +kernel
theorem dX5_worth_39 : decode cX5_worth 39 = .ok (.getfield 193, 3) := by decide +kernel
theorem dX5_worth_42 : decode cX5_worth 42 = .ok (.iload_n 1, 1) := by decide +kernel
theorem dX5_worth_43 : decode cX5_worth 43 = .ok (.invokestatic 235, 3) := by decide +kernel
theorem dX5_worth_46 : decode cX5_worth 46 = .ok (.lreturn, 1) := by decide +kernel
theorem dX5_next_0 : decode cX5_next 0 = .ok (.aload_n 0, 1) := by decide +kernel
theorem dX5_next_1 : decode cX5_next 1 = .ok (.getfield 199, 3) := by decide +kernel
theorem dX5_next_4 : decode cX5_next 4 = .ok (.iconst 2, 1) := by decide +kernel
theorem dX5_next_5 : decode cX5_next 5 = .ok (.isub, 1) := by decide +kernel
theorem dX5_next_6 : decode cX5_next 6 = .ok (.istore_n 1, 1) := by decide +kernel
theorem dX5_next_7 : decode cX5_next 7 = .ok (.iload_n 1, 1) := by decide +kernel
theorem dX5_next_8 : decode cX5_next 8 = .ok (.ifCond .lt 26, 3) := by decide +kernel
theorem dX5_next_11 : decode cX5_next 11 = .ok (.aload_n 0, 1) := by decide +kernel
theorem dX5_next_12 : decode cX5_next 12 = .ok (.getfield 57, 3) := by decide +kernel
theorem dX5_next_15 : decode cX5_next 15 = .ok (.iload_n 1, 1) := by decide +kernel
theorem dX5_next_16 : decode cX5_next 16 = .ok (.iaload, 1) := by decide +kernel
theorem dX5_next_17 : decode cX5_next 17 = .ok (.aload_n 0, 1) := by decide +kernel
theorem dX5_next_18 : decode cX5_next 18 = .ok (.getfield 57, 3) := by decide +kernel
theorem dX5_next_21 : decode cX5_next 21 = .ok (.iload_n 1, 1) := by decide +kernel
theorem dX5_next_22 : decode cX5_next 22 = .ok (.iconst 1, 1) := by decide +kernel
theorem dX5_next_23 : decode cX5_next 23 = .ok (.iadd, 1) := by decide +kernel
theorem dX5_next_24 : decode cX5_next 24 = .ok (.iaload, 1) := by decide +kernel
theorem dX5_next_25 : decode cX5_next 25 = .ok (.if_icmp .le 9, 3) := by decide +kernel
theorem dX5_next_28 : decode cX5_next 28 = .ok (.iinc 1 (-1), 3) := by decide +kernel
theorem dX5_next_31 : decode cX5_next 31 = .ok (.goto (-24), 3) := by decide +kernel
theorem dX5_next_34 : decode cX5_next 34 = .ok (.iload_n 1, 1) := by decide +kernel
theorem dX5_next_35 : decode cX5_next 35 = .ok (.ifCond .ge 5, 3) := by decide +kernel
theorem dX5_next_38 : decode cX5_next 38 = .ok (.iconst 0, 1) := by decide +kernel
theorem dX5_next_39 : decode cX5_next 39 = .ok (.ireturn, 1) := by decide +kernel
theorem dX5_next_40 : decode cX5_next 40 = .ok (.aload_n 0, 1) := by decide +kernel
theorem dX5_next_41 : decode cX5_next 41 = .ok (.getfield 199, 3) := by decide +kernel
theorem dX5_next_44 : decode cX5_next 44 = .ok (.iconst 1, 1) := by decide +kernel
theorem dX5_next_45 : decode cX5_next 45 = .ok (.isub, 1) := by decide +kernel
theorem dX5_next_46 : decode cX5_next 46 = .ok (.istore_n 2, 1) := by decide +kernel
theorem dX5_next_47 : decode cX5_next 47 = .ok (.aload_n 0, 1) := by decide +kernel
theorem dX5_next_48 : decode cX5_next 48 = .ok (.getfield 57, 3) := by decide +kernel
theorem dX5_next_51 : decode cX5_next 51 = .ok (.iload_n 2, 1) := by decide +kernel
theorem dX5_next_52 : decode cX5_next 52 = .ok (.iaload, 1) := by decide +kernel
theorem dX5_next_53 : decode cX5_next 53 = .ok (.aload_n 0, 1) := by decide +kernel
theorem dX5_next_54 : decode cX5_next 54 = .ok (.getfield 57, 3) := by decide +kernel
theorem dX5_next_57 : decode cX5_next 57 = .ok (.iload_n 1, 1) := by decide +kernel
theorem dX5_next_58 : decode cX5_next 58 = .ok (.iaload, 1) := by decide +kernel
theorem dX5_next_59 : decode cX5_next 59 = .ok (.if_icmp .ge 9, 3) := by decide +kernel
theorem dX5_next_62 : decode cX5_next 62 = .ok (.iinc 2 (-1), 3) := by decide +kernel
theorem dX5_next_65 : decode cX5_next 65 = .ok (.goto (-18), 3) := by decide +kernel
theorem dX5_next_68 : decode cX5_next 68 = .ok (.aload_n 0, 1) := by decide +kernel
theorem dX5_next_69 : decode cX5_next 69 = .ok (.iload_n 1, 1) := by decide +kernel
theorem dX5_next_70 : decode cX5_next 70 = .ok (.iload_n 2, 1) := by decide +kernel
theorem dX5_next_71 : decode cX5_next 71 = .ok (.invokevirtual 239, 3) := by decide +kernel
theorem dX5_next_74 : decode cX5_next 74 = .ok (.iload_n 1, 1) := by decide +kernel
theorem dX5_next_75 : decode cX5_next 75 = .ok (.iconst 1, 1) := by decide +kernel
theorem dX5_next_76 : decode cX5_next 76 = .ok (.iadd, 1) := by decide +kernel
theorem dX5_next_77 : decode cX5_next 77 = .ok (.istore_n 3, 1) := by decide +kernel
theorem dX5_next_78 : decode cX5_next 78 = .ok (.aload_n 0, 1) := by decide +kernel
theorem dX5_next_79 : decode cX5_next 79 = .ok (.getfield 199, 3) := by decide +kernel
theorem dX5_next_82 : decode cX5_next 82 = .ok (.iconst 1, 1) := by decide +kernel
theorem dX5_next_83 : decode cX5_next 83 = .ok (.isub, 1) := by decide +kernel
theorem dX5_next_84 : decode cX5_next 84 = .ok (.istore 4, 2) := by decide +kernel
theorem dX5_next_86 : decode cX5_next 86 = .ok (.iload_n 3, 1) := by decide +kernel
theorem dX5_next_87 : decode cX5_next 87 = .ok (.iload 4, 2) := by decide +kernel
theorem dX5_next_89 : decode cX5_next 89 = .ok (.if_icmp .ge 19, 3) := by decide +kernel
theorem dX5_next_92 : decode cX5_next 92 = .ok (.aload_n 0, 1) := by decide +kernel
theorem dX5_next_93 : decode cX5_next 93 = .ok (.iload_n 3, 1) := by decide +kernel
theorem dX5_next_94 : decode cX5_next 94 = .ok (.iload 4, 2) := by decide +kernel
theorem dX5_next_96 : decode cX5_next 96 = .ok (.invokevirtual 239, 3) := by decide +kernel
theorem dX5_next_99 : decode cX5_next 99 = .ok (.iinc 3 1, 3) := by decide +kernel
theorem dX5_next_102 : decode cX5_next 102 = .ok (.iinc 4 (-1), 3) := by decide +kernel
theorem dX5_next_105 : decode cX5_next 105 = .ok (.goto (-19), 3) := by decide +kernel
theorem dX5_next_108 : decode cX5_next 108 = .ok (.iconst 1, 1) := by decide +kernel
theorem dX5_next_109 : decode cX5_next 109 = .ok (.ireturn, 1) := by decide +kernel
theorem dX5_swap_0 : decode cX5_swap 0 = .ok (.aload_n 0, 1) := by decide +kernel
theorem dX5_swap_1 : decode cX5_swap 1 = .ok (.getfield 57, 3) := by decide +kernel
theorem dX5_swap_4 : decode cX5_swap 4 = .ok (.iload_n 1, 1) := by decide +kernel
theorem dX5_swap_5 : decode cX5_swap 5 = .ok (.iaload, 1) := by decide +kernel
theorem dX5_swap_6 : decode cX5_swap 6 = .ok (.istore_n 3, 1) := by decide +kernel
theorem dX5_swap_7 : decode cX5_swap 7 = .ok (.aload_n 0, 1) := by decide +kernel
theorem dX5_swap_8 : decode cX5_swap 8 = .ok (.getfield 57, 3) := by decide +kernel
theorem dX5_swap_11 : decode cX5_swap 11 = .ok (.iload_n 1, 1) := by decide +kernel
theorem dX5_swap_12 : decode cX5_swap 12 = .ok (.aload_n 0, 1) := by decide +kernel
theorem dX5_swap_13 : decode cX5_swap 13 = .ok (.getfield 57, 3) := by decide +kernel
theorem dX5_swap_16 : decode cX5_swap 16 = .ok (.iload_n 2, 1) := by decide +kernel
theorem dX5_swap_17 : decode cX5_swap 17 = .ok (.iaload, 1) := by decide +kernel
theorem dX5_swap_18 : decode cX5_swap 18 = .ok (.iastore, 1) := by decide +kernel
theorem dX5_swap_19 : decode cX5_swap 19 = .ok (.aload_n 0, 1) := by decide +kernel
theorem dX5_swap_20 : decode cX5_swap 20 = .ok (.getfield 57, 3) := by decide +kernel
theorem dX5_swap_23 : decode cX5_swap 23 = .ok (.iload_n 2, 1) := by decide +kernel
theorem dX5_swap_24 : decode cX5_swap 24 = .ok (.iload_n 3, 1) := by decide +kernel
theorem dX5_swap_25 : decode cX5_swap 25 = .ok (.iastore, 1) := by decide +kernel
theorem dX5_swap_26 : decode cX5_swap 26 = .ok (.return_, 1) := by decide +kernel
theorem dX5_seekBest_0 : decode cX5_seekBest 0 = .ok (.aload_n 0, 1) := by decide +kernel
theorem dX5_seekBest_1 : decode cX5_seekBest 1 = .ok (.invokevirtual 144, 3) := by decide +kernel
theorem dX5_seekBest_4 : decode cX5_seekBest 4 = .ok (.aload_n 0, 1) := by decide +kernel
theorem dX5_seekBest_5 : decode cX5_seekBest 5 = .ok (.aload_n 0, 1) := by decide +kernel
theorem dX5_seekBest_6 : decode cX5_seekBest 6 = .ok (.getfield 19, 3) := by decide +kernel
theorem dX5_seekBest_9 : decode cX5_seekBest 9 = .ok (.iconst 2, 1) := by decide +kernel
theorem dX5_seekBest_10 : decode cX5_seekBest 10 = .ok (.iaload, 1) := by decide +kernel
theorem dX5_seekBest_11 : decode cX5_seekBest 11 = .ok (.putfield 199, 3) := by decide +kernel
theorem dX5_seekBest_14 : decode cX5_seekBest 14 = .ok (.iconst 0, 1) := by decide +kernel
theorem dX5_seekBest_15 : decode cX5_seekBest 15 = .ok (.istore_n 2, 1) := by decide +kernel
theorem dX5_seekBest_16 : decode cX5_seekBest 16 = .ok (.iload_n 2, 1) := by decide +kernel
theorem dX5_seekBest_17 : decode cX5_seekBest 17 = .ok (.aload_n 0, 1) := by decide +kernel
theorem dX5_seekBest_18 : decode cX5_seekBest 18 = .ok (.getfield 199, 3) := by decide +kernel
theorem dX5_seekBest_21 : decode cX5_seekBest 21 = .ok (.if_icmp .ge 16, 3) := by decide +kernel
theorem dX5_seekBest_24 : decode cX5_seekBest 24 = .ok (.aload_n 0, 1) := by decide +kernel
theorem dX5_seekBest_25 : decode cX5_seekBest 25 = .ok (.getfield 57, 3) := by decide +kernel
theorem dX5_seekBest_28 : decode cX5_seekBest 28 = .ok (.iload_n 2, 1) := by decide +kernel
theorem dX5_seekBest_29 : decode cX5_seekBest 29 = .ok (.iload_n 2, 1) := by decide +kernel
theorem dX5_seekBest_30 : decode cX5_seekBest 30 = .ok (.iastore, 1) := by decide +kernel
theorem dX5_seekBest_31 : decode cX5_seekBest 31 = .ok (.iinc 2 1, 3) := by decide +kernel
theorem dX5_seekBest_34 : decode cX5_seekBest 34 = .ok (.goto (-18), 3) := by decide +kernel
theorem dX5_seekBest_37 : decode cX5_seekBest 37 = .ok (.iconst 0, 1) := by decide +kernel
theorem dX5_seekBest_38 : decode cX5_seekBest 38 = .ok (.istore_n 2, 1) := by decide +kernel
theorem dX5_seekBest_39 : decode cX5_seekBest 39 = .ok (.iconst 1, 1) := by decide +kernel
theorem dX5_seekBest_40 : decode cX5_seekBest 40 = .ok (.istore_n 3, 1) := by decide +kernel
theorem dX5_seekBest_41 : decode cX5_seekBest 41 = .ok (.iload_n 3, 1) := by decide +kernel
theorem dX5_seekBest_42 : decode cX5_seekBest 42 = .ok (.ifCond .eq 145, 3) := by decide +kernel
theorem dX5_seekBest_45 : decode cX5_seekBest 45 = .ok (.aload_n 0, 1) := by decide +kernel
theorem dX5_seekBest_46 : decode cX5_seekBest 46 = .ok (.aload_n 0, 1) := by decide +kernel
theorem dX5_seekBest_47 : decode cX5_seekBest 47 = .ok (.getfield 19, 3) := by decide +kernel
theorem dX5_seekBest_50 : decode cX5_seekBest 50 = .ok (.iconst 5, 1) := by decide +kernel
theorem dX5_seekBest_51 : decode cX5_seekBest 51 = .ok (.iaload, 1) := by decide +kernel
theorem dX5_seekBest_52 : decode cX5_seekBest 52 = .ok (.invokevirtual 215, 3) := by decide +kernel
theorem dX5_seekBest_55 : decode cX5_seekBest 55 = .ok (.iload_n 2, 1) := by decide +kernel
theorem dX5_seekBest_56 : decode cX5_seekBest 56 = .ok (.ifCond .eq 53, 3) := by decide +kernel
theorem dX5_seekBest_59 : decode cX5_seekBest 59 = .ok (.iload_n 1, 1) := by decide +kernel
theorem dX5_seekBest_60 : decode cX5_seekBest 60 = .ok (.ifCond .ne 17, 3) := by decide +kernel
theorem dX5_seekBest_63 : decode cX5_seekBest 63 = .ok (.aload_n 0, 1) := by decide +kernel
theorem dX5_seekBest_64 : decode cX5_seekBest 64 = .ok (.getfield 182, 3) := by decide +kernel
theorem dX5_seekBest_67 : decode cX5_seekBest 67 = .ok (.aload_n 0, 1) := by decide +kernel
theorem dX5_seekBest_68 : decode cX5_seekBest 68 = .ok (.getfield 243, 3) := by decide +kernel
theorem dX5_seekBest_71 : decode cX5_seekBest 71 = .ok (.if_icmp .ge 42, 3) := by decide +kernel
theorem dX5_seekBest_74 : decode cX5_seekBest 74 = .ok (.goto 35, 3) := by decide +kernel
theorem dX5_seekBest_77 : decode cX5_seekBest 77 = .ok (.iload_n 1, 1) := by decide +kernel
theorem dX5_seekBest_78 : decode cX5_seekBest 78 = .ok (.iconst 1, 1) := by decide +kernel
theorem dX5_seekBest_79 : decode cX5_seekBest 79 = .ok (.if_icmp .ne 18, 3) := by decide +kernel
theorem dX5_seekBest_82 : decode cX5_seekBest 82 = .ok (.aload_n 0, 1) := by decide +kernel
theorem dX5_seekBest_83 : decode cX5_seekBest 83 = .ok (.getfield 157, 3) := by decide +kernel
theorem dX5_seekBest_86 : decode cX5_seekBest 86 = .ok (.aload_n 0, 1) := by decide +kernel
theorem dX5_seekBest_87 : decode cX5_seekBest 87 = .ok (.getfield 246, 3) := by decide +kernel
theorem dX5_seekBest_90 : decode cX5_seekBest 90 = .ok (.lcmp, 1) := by decide +kernel
theorem dX5_seekBest_91 : decode cX5_seekBest 91 = .ok (.ifCond .le 22, 3) := by decide +kernel
theorem dX5_seekBest_94 : decode cX5_seekBest 94 = .ok (.goto 15, 3) := by decide +kernel
theorem dX5_seekBest_97 : decode cX5_seekBest 97 = .ok (.aload_n 0, 1) := by decide +kernel
theorem dX5_seekBest_98 : decode cX5_seekBest 98 = .ok (.getfield 193, 3) := by decide +kernel
theorem dX5_seekBest_101 : decode cX5_seekBest 101 = .ok (.aload_n 0, 1) := by decide +kernel
theorem dX5_seekBest_102 : decode cX5_seekBest 102 = .ok (.getfield 249, 3) := by decide +kernel
theorem dX5_seekBest_105 : decode cX5_seekBest 105 = .ok (.lcmp, 1) := by decide +kernel
theorem dX5_seekBest_106 : decode cX5_seekBest 106 = .ok (.ifCond .le 7, 3) := by decide +kernel
theorem dX5_seekBest_109 : decode cX5_seekBest 109 = .ok (.iconst 1, 1) := by decide +kernel
theorem dX5_seekBest_110 : decode cX5_seekBest 110 = .ok (.goto 4, 3) := by decide +kernel
theorem dX5_seekBest_113 : decode cX5_seekBest 113 = .ok (.iconst 0, 1) := by decide +kernel
theorem dX5_seekBest_114 : decode cX5_seekBest 114 = .ok (.istore 4, 2) := by decide +kernel
theorem dX5_seekBest_116 : decode cX5_seekBest 116 = .ok (.iload 4, 2) := by decide +kernel
theorem dX5_seekBest_118 : decode cX5_seekBest 118 = .ok (.ifCond .eq 61, 3) := by decide +kernel
theorem dX5_seekBest_121 : decode cX5_seekBest 121 = .ok (.iconst 1, 1) := by decide +kernel
theorem dX5_seekBest_122 : decode cX5_seekBest 122 = .ok (.istore_n 2, 1) := by decide +kernel
theorem dX5_seekBest_123 : decode cX5_seekBest 123 = .ok (.aload_n 0, 1) := by decide +kernel
theorem dX5_seekBest_124 : decode cX5_seekBest 124 = .ok (.aload_n 0, 1) := by decide +kernel
theorem dX5_seekBest_125 : decode cX5_seekBest 125 = .ok (.getfield 182, 3) := by decide +kernel
theorem dX5_seekBest_128 : decode cX5_seekBest 128 = .ok (.putfield 243, 3) := by decide +kernel
theorem dX5_seekBest_131 : decode cX5_seekBest 131 = .ok (.aload_n 0, 1) := by decide +kernel
theorem dX5_seekBest_132 : decode cX5_seekBest 132 = .ok (.aload_n 0, 1) := by decide +kernel
theorem dX5_seekBest_133 : decode cX5_seekBest 133 = .ok (.getfield 157, 3) := by decide +kernel
theorem dX5_seekBest_136 : decode cX5_seekBest 136 = .ok (.putfield 246, 3) := by decide +kernel
theorem dX5_seekBest_139 : decode cX5_seekBest 139 = .ok (.aload_n 0, 1) := by decide +kernel
theorem dX5_seekBest_140 : decode cX5_seekBest 140 = .ok (.aload_n 0, 1) := by decide +kernel
theorem dX5_seekBest_141 : decode cX5_seekBest 141 = .ok (.getfield 193, 3) := by decide +kernel
theorem dX5_seekBest_144 : decode cX5_seekBest 144 = .ok (.putfield 249, 3) := by decide +kernel
theorem dX5_seekBest_147 : decode cX5_seekBest 147 = .ok (.iconst 0, 1) := by decide +kernel
theorem dX5_seekBest_148 : decode cX5_seekBest 148 = .ok (.istore 5, 2) := by decide +kernel
theorem dX5_seekBest_150 : decode cX5_seekBest 150 = .ok (.iload 5, 2) := by decide +kernel
theorem dX5_seekBest_152 : decode cX5_seekBest 152 = .ok (.aload_n 0, 1) := by decide +kernel
theorem dX5_seekBest_153 : decode cX5_seekBest 153 = .ok (.getfield 199, 3) := by decide +kernel
theorem dX5_seekBest_156 : decode cX5_seekBest 156 = .ok (.if_icmp .ge 23, 3) := by decide +kernel
theorem dX5_seekBest_159 : decode cX5_seekBest 159 = .ok (.aload_n 0, 1) := by decide +kernel
theorem dX5_seekBest_160 : decode cX5_seekBest 160 = .ok (.getfield 63, 3) := by decide +kernel
theorem dX5_seekBest_163 : decode cX5_seekBest 163 = .ok (.iload 5, 2) := by decide +kernel
theorem dX5_seekBest_165 : decode cX5_seekBest 165 = .ok (.aload_n 0, 1) := by decide +kernel
theorem dX5_seekBest_166 : decode cX5_seekBest 166 = .ok (.getfield 57, 3) := by decide +kernel
theorem dX5_seekBest_169 : decode cX5_seekBest 169 = .ok (.iload 5, 2) := by decide +kernel
theorem dX5_seekBest_171 : decode cX5_seekBest 171 = .ok (.iaload, 1) := by decide +kernel
theorem dX5_seekBest_172 : decode cX5_seekBest 172 = .ok (.iastore, 1) := by decide +kernel
theorem dX5_seekBest_173 : decode cX5_seekBest 173 = .ok (.iinc 5 1, 3) := by decide +kernel
theorem dX5_seekBest_176 : decode cX5_seekBest 176 = .ok (.goto (-26), 3) := by decide +kernel
theorem dX5_seekBest_179 : decode cX5_seekBest 179 = .ok (.aload_n 0, 1) := by decide +kernel
theorem dX5_seekBest_180 : decode cX5_seekBest 180 = .ok (.invokevirtual 252, 3) := by decide +kernel
theorem dX5_seekBest_183 : decode cX5_seekBest 183 = .ok (.istore_n 3, 1) := by decide +kernel
theorem dX5_seekBest_184 : decode cX5_seekBest 184 = .ok (.goto (-143), 3) := by decide +kernel
theorem dX5_seekBest_187 : decode cX5_seekBest 187 = .ok (.return_, 1) := by decide +kernel
theorem dX5_isNoBest_0 : decode cX5_isNoBest 0 = .ok (.iload_n 0, 1) := by decide +kernel
theorem dX5_isNoBest_1 : decode cX5_isNoBest 1 = .ok (.ifCond .lt 8, 3) := by decide +kernel
theorem dX5_isNoBest_4 : decode cX5_isNoBest 4 = .ok (.iload_n 0, 1) := by decide +kernel
theorem dX5_isNoBest_5 : decode cX5_isNoBest 5 = .ok (.iconst 2, 1) := by decide +kernel
theorem dX5_isNoBest_6 : decode cX5_isNoBest 6 = .ok (.if_icmp .le 7, 3) := by decide +kernel
theorem dX5_isNoBest_9 : decode cX5_isNoBest 9 = .ok (.iconst 1, 1) := by decide +kernel
theorem dX5_isNoBest_10 : decode cX5_isNoBest 10 = .ok (.goto 4, 3) := by decide +kernel
theorem dX5_isNoBest_13 : decode cX5_isNoBest 13 = .ok (.iconst 0, 1) := by decide +kernel
theorem dX5_isNoBest_14 : decode cX5_isNoBest 14 = .ok (.ireturn, 1) := by decide +kernel
theorem dX5_best_0 : decode cX5_best 0 = .ok (.iload_n 1, 1) := by decide +kernel
theorem dX5_best_1 : decode cX5_best 1 = .ok (.invokestatic 255, 3) := by decide +kernel
theorem dX5_best_4 : decode cX5_best 4 = .ok (.ifCond .eq 10, 3) := by decide +kernel
theorem dX5_best_7 : decode cX5_best 7 = .ok (.aload_n 0, 1) := by decide +kernel
theorem dX5_best_8 : decode cX5_best 8 = .ok (.bipush (-2), 2) := by decide +kernel
theorem dX5_best_10 : decode cX5_best 10 = .ok (.invokevirtual 9, 3) := by decide +kernel
theorem dX5_best_13 : decode cX5_best 13 = .ok (.ireturn, 1) := by decide +kernel
theorem dX5_best_14 : decode cX5_best 14 = .ok (.aload_n 0, 1) := by decide +kernel
theorem dX5_best_15 : decode cX5_best 15 = .ok (.invokevirtual 218, 3) := by decide +kernel
theorem dX5_best_18 : decode cX5_best 18 = .ok (.ifCond .eq 10, 3) := by decide +kernel
theorem dX5_best_21 : decode cX5_best 21 = .ok (.aload_n 0, 1) := by decide +kernel
theorem dX5_best_22 : decode cX5_best 22 = .ok (.bipush (-3), 2) := by decide +kernel
theorem dX5_best_24 : decode cX5_best 24 = .ok (.invokevirtual 9, 3) := by decide +kernel
theorem dX5_best_27 : decode cX5_best 27 = .ok (.ireturn, 1) := by decide +kernel
theorem dX5_best_28 : decode cX5_best 28 = .ok (.iload_n 2, 1) := by decide +kernel
theorem dX5_best_29 : decode cX5_best 29 = .ok (.ifCond .lt 13, 3) := by decide +kernel
theorem dX5_best_32 : decode cX5_best 32 = .ok (.iload_n 2, 1) := by decide +kernel
theorem dX5_best_33 : decode cX5_best 33 = .ok (.aload_n 0, 1) := by decide +kernel
theorem dX5_best_34 : decode cX5_best 34 = .ok (.getfield 19, 3) := by decide +kernel
theorem dX5_best_37 : decode cX5_best 37 = .ok (.iconst 2, 1) := by decide +kernel
theorem dX5_best_38 : decode cX5_best 38 = .ok (.iaload, 1) := by decide +kernel
theorem dX5_best_39 : decode cX5_best 39 = .ok (.if_icmp .lt 9, 3) := by decide +kernel
theorem dX5_best_42 : decode cX5_best 42 = .ok (.aload_n 0, 1) := by decide +kernel
theorem dX5_best_43 : decode cX5_best 43 = .ok (.iconst (-1), 1) := by decide +kernel
theorem dX5_best_44 : decode cX5_best 44 = .ok (.invokevirtual 9, 3) := by decide +kernel
theorem dX5_best_47 : decode cX5_best 47 = .ok (.ireturn, 1) := by decide +kernel
theorem dX5_best_48 : decode cX5_best 48 = .ok (.aload_n 0, 1) := by decide +kernel
theorem dX5_best_49 : decode cX5_best 49 = .ok (.iload_n 1, 1) := by decide +kernel
theorem dX5_best_50 : decode cX5_best 50 = .ok (.invokevirtual 258, 3) := by decide +kernel
theorem dX5_best_53 : decode cX5_best 53 = .ok (.aload_n 0, 1) := by decide +kernel
theorem dX5_best_54 : decode cX5_best 54 = .ok (.getfield 63, 3) := by decide +kernel
theorem dX5_best_57 : decode cX5_best 57 = .ok (.iload_n 2, 1) := by decide +kernel
theorem dX5_best_58 : decode cX5_best 58 = .ok (.iaload, 1) := by decide +kernel
theorem dX5_best_59 : decode cX5_best 59 = .ok (.ireturn, 1) := by decide +kernel
theorem dX5_bestMinutes_0 : decode cX5_bestMinutes 0 = .ok (.iload_n 1, 1) := by decide +kernel
theorem dX5_bestMinutes_1 : decode cX5_bestMinutes 1 = .ok (.invokestatic 255, 3) := by decide +kernel
theorem dX5_bestMinutes_4 : decode cX5_bestMinutes 4 = .ok (.ifCond .eq 10, 3) := by decide +kernel
theorem dX5_bestMinutes_7 : decode cX5_bestMinutes 7 = .ok (.aload_n 0, 1) := by decide +kernel
theorem dX5_bestMinutes_8 : decode cX5_bestMinutes 8 = .ok (.bipush (-2), 2) := by decide +kernel
theorem dX5_bestMinutes_10 : decode cX5_bestMinutes 10 = .ok (.invokevirtual 9, 3) := by decide +kernel
theorem dX5_bestMinutes_13 : decode cX5_bestMinutes 13 = .ok (.ireturn, 1) := by decide +kernel
theorem dX5_bestMinutes_14 : decode cX5_bestMinutes 14 = .ok (.aload_n 0, 1) := by decide +kernel
theorem dX5_bestMinutes_15 : decode cX5_bestMinutes 15 = .ok (.invokevirtual 218, 3) := by decide +kernel
theorem dX5_bestMinutes_18 : decode cX5_bestMinutes 18 = .ok (.ifCond .eq 10, 3) := by decide +kernel
theorem dX5_bestMinutes_21 : decode cX5_bestMinutes 21 = .ok (.aload_n 0, 1) := by decide +kernel
theorem dX5_bestMinutes_22 : decode cX5_bestMinutes 22 = .ok (.bipush (-3), 2) := by decide +kernel
theorem dX5_bestMinutes_24 : decode cX5_bestMinutes 24 = .ok (.invokevirtual 9, 3) := by decide +kernel
theorem dX5_bestMinutes_27 : decode cX5_bestMinutes 27 = .ok (.ireturn, 1) := by decide +kernel
theorem dX5_bestMinutes_28 : decode cX5_bestMinutes 28 = .ok (.aload_n 0, 1) := by decide +kernel
theorem dX5_bestMinutes_29 : decode cX5_bestMinutes 29 = .ok (.iload_n 1, 1) := by decide +kernel
theorem dX5_bestMinutes_30 : decode cX5_bestMinutes 30 = .ok (.invokevirtual 258, 3) := by decide +kernel
theorem dX5_bestMinutes_33 : decode cX5_bestMinutes 33 = .ok (.aload_n 0, 1) := by decide +kernel
theorem dX5_bestMinutes_34 : decode cX5_bestMinutes 34 = .ok (.getfield 243, 3) := by decide +kernel
theorem dX5_bestMinutes_37 : decode cX5_bestMinutes 37 = .ok (.ireturn, 1) := by decide +kernel
theorem dX5_bestLikely_0 : decode cX5_bestLikely 0 = .ok (.iload_n 1, 1) := by decide +kernel
theorem dX5_bestLikely_1 : decode cX5_bestLikely 1 = .ok (.invokestatic 255, 3) := by decide +kernel
theorem dX5_bestLikely_4 : decode cX5_bestLikely 4 = .ok (.ifCond .ne 10, 3) := by decide +kernel
theorem dX5_bestLikely_7 : decode cX5_bestLikely 7 = .ok (.iload_n 2, 1) := by decide +kernel
theorem dX5_bestLikely_8 : decode cX5_bestLikely 8 = .ok (.invokestatic 228, 3) := by decide +kernel
theorem dX5_bestLikely_11 : decode cX5_bestLikely 11 = .ok (.ifCond .eq 10, 3) := by decide +kernel
theorem dX5_bestLikely_14 : decode cX5_bestLikely 14 = .ok (.aload_n 0, 1) := by decide +kernel
theorem dX5_bestLikely_15 : decode cX5_bestLikely 15 = .ok (.bipush (-2), 2) := by decide +kernel
theorem dX5_bestLikely_17 : decode cX5_bestLikely 17 = .ok (.invokevirtual 231, 3) := by decide +kernel
theorem dX5_bestLikely_20 : decode cX5_bestLikely 20 = .ok (.lreturn, 1) := by decide +kernel
theorem dX5_bestLikely_21 : decode cX5_bestLikely 21 = .ok (.aload_n 0, 1) := by decide +kernel
theorem dX5_bestLikely_22 : decode cX5_bestLikely 22 = .ok (.invokevirtual 218, 3) := by decide +kernel
theorem dX5_bestLikely_25 : decode cX5_bestLikely 25 = .ok (.ifCond .eq 10, 3) := by decide +kernel
theorem dX5_bestLikely_28 : decode cX5_bestLikely 28 = .ok (.aload_n 0, 1) := by decide +kernel
theorem dX5_bestLikely_29 : decode cX5_bestLikely 29 = .ok (.bipush (-3), 2) := by decide +kernel
theorem dX5_bestLikely_31 : decode cX5_bestLikely 31 = .ok (.invokevirtual 231, 3) := by decide +kernel
theorem dX5_bestLikely_34 : decode cX5_bestLikely 34 = .ok (.lreturn, 1) := by decide +kernel
theorem dX5_bestLikely_35 : decode cX5_bestLikely 35 = .ok (.aload_n 0, 1) := by decide +kernel
theorem dX5_bestLikely_36 : decode cX5_bestLikely 36 = .ok (.iload_n 1, 1) := by decide +kernel
theorem dX5_bestLikely_37 : decode cX5_bestLikely 37 = .ok (.invokevirtual 258, 3) := by decide +kernel
theorem dX5_bestLikely_40 : decode cX5_bestLikely 40 = .ok (.aload_n 0, 1) := by decide +kernel
theorem dX5_bestLikely_41 : decode cX5_bestLikely 41 = .ok (.getfield 246, 3) := by decide +kernel
theorem dX5_bestLikely_44 : decode cX5_bestLikely 44 = .ok (.iload_n 2, 1) := by decide +kernel
theorem dX5_bestLikely_45 : decode cX5_bestLikely 45 = .ok (.invokestatic 235, 3) := by decide +kernel
theorem dX5_bestLikely_48 : decode cX5_bestLikely 48 = .ok (.lreturn, 1) := by decide +kernel
theorem dX5_bestWorth_0 : decode cX5_bestWorth 0 = .ok (.iload_n 1, 1) := by decide +kernel
theorem dX5_bestWorth_1 : decode cX5_bestWorth 1 = .ok (.invokestatic 255, 3) := by decide +kernel
theorem dX5_bestWorth_4 : decode cX5_bestWorth 4 = .ok (.ifCond .ne 10, 3) := by decide +kernel
theorem dX5_bestWorth_7 : decode cX5_bestWorth 7 = .ok (.iload_n 2, 1) := by decide +kernel
theorem dX5_bestWorth_8 : decode cX5_bestWorth 8 = .ok (.invokestatic 228, 3) := by decide +kernel
theorem dX5_bestWorth_11 : decode cX5_bestWorth 11 = .ok (.ifCond .eq 10, 3) := by decide +kernel
theorem dX5_bestWorth_14 : decode cX5_bestWorth 14 = .ok (.aload_n 0, 1) := by decide +kernel
theorem dX5_bestWorth_15 : decode cX5_bestWorth 15 = .ok (.bipush (-2), 2) := by decide +kernel
theorem dX5_bestWorth_17 : decode cX5_bestWorth 17 = .ok (.invokevirtual 231, 3) := by decide +kernel
theorem dX5_bestWorth_20 : decode cX5_bestWorth 20 = .ok (.lreturn, 1) := by decide +kernel
theorem dX5_bestWorth_21 : decode cX5_bestWorth 21 = .ok (.aload_n 0, 1) := by decide +kernel
theorem dX5_bestWorth_22 : decode cX5_bestWorth 22 = .ok (.invokevirtual 218, 3) := by decide +kernel
theorem dX5_bestWorth_25 : decode cX5_bestWorth 25 = .ok (.ifCond .eq 10, 3) := by decide +kernel
theorem dX5_bestWorth_28 : decode cX5_bestWorth 28 = .ok (.aload_n 0, 1) := by decide +kernel
theorem dX5_bestWorth_29 : decode cX5_bestWorth 29 = .ok (.bipush (-3), 2) := by decide +kernel
theorem dX5_bestWorth_31 : decode cX5_bestWorth 31 = .ok (.invokevirtual 231, 3) := by decide +kernel
theorem dX5_bestWorth_34 : decode cX5_bestWorth 34 = .ok (.lreturn, 1) := by decide +kernel
theorem dX5_bestWorth_35 : decode cX5_bestWorth 35 = .ok (.aload_n 0, 1) := by decide +kernel
theorem dX5_bestWorth_36 : decode cX5_bestWorth 36 = .ok (.iload_n 1, 1) := by decide +kernel
theorem dX5_bestWorth_37 : decode cX5_bestWorth 37 = .ok (.invokevirtual 258, 3) := by decide +kernel
theorem dX5_bestWorth_40 : decode cX5_bestWorth 40 = .ok (.aload_n 0, 1) := by decide +kernel
theorem dX5_bestWorth_41 : decode cX5_bestWorth 41 = .ok (.getfield 249, 3) := by decide +kernel
theorem dX5_bestWorth_44 : decode cX5_bestWorth 44 = .ok (.iload_n 2, 1) := by decide +kernel
theorem dX5_bestWorth_45 : decode cX5_bestWorth 45 = .ok (.invokestatic 235, 3) := by decide +kernel
theorem dX5_bestWorth_48 : decode cX5_bestWorth 48 = .ok (.lreturn, 1) := by decide +kernel
theorem dX5_sure_0 : decode cX5_sure 0 = .ok (.aload_n 0, 1) := by decide +kernel
theorem dX5_sure_1 : decode cX5_sure 1 = .ok (.invokevirtual 218, 3) := by decide +kernel
theorem dX5_sure_4 : decode cX5_sure 4 = .ok (.ifCond .eq 10, 3) := by decide +kernel
theorem dX5_sure_7 : decode cX5_sure 7 = .ok (.aload_n 0, 1) := by decide +kernel
theorem dX5_sure_8 : decode cX5_sure 8 = .ok (.bipush (-3), 2) := by decide +kernel
theorem dX5_sure_10 : decode cX5_sure 10 = .ok (.invokevirtual 9, 3) := by decide +kernel
theorem dX5_sure_13 : decode cX5_sure 13 = .ok (.ireturn, 1) := by decide +kernel
theorem dX5_sure_14 : decode cX5_sure 14 = .ok (.aload_n 0, 1) := by decide +kernel
theorem dX5_sure_15 : decode cX5_sure 15 = .ok (.invokevirtual 144, 3) := by decide +kernel
theorem dX5_sure_18 : decode cX5_sure 18 = .ok (.iconst 0, 1) := by decide +kernel
theorem dX5_sure_19 : decode cX5_sure 19 = .ok (.istore_n 1, 1) := by decide +kernel
theorem dX5_sure_20 : decode cX5_sure 20 = .ok (.iconst 0, 1) := by decide +kernel
theorem dX5_sure_21 : decode cX5_sure 21 = .ok (.istore_n 2, 1) := by decide +kernel
theorem dX5_sure_22 : decode cX5_sure 22 = .ok (.iload_n 2, 1) := by decide +kernel
theorem dX5_sure_23 : decode cX5_sure 23 = .ok (.aload_n 0, 1) := by decide +kernel
theorem dX5_sure_24 : decode cX5_sure 24 = .ok (.getfield 19, 3) := by decide +kernel
theorem dX5_sure_27 : decode cX5_sure 27 = .ok (.iconst 2, 1) := by decide +kernel
theorem dX5_sure_28 : decode cX5_sure 28 = .ok (.iaload, 1) := by decide +kernel
theorem dX5_sure_29 : decode cX5_sure 29 = .ok (.if_icmp .ge 60, 3) := by decide +kernel
theorem dX5_sure_32 : decode cX5_sure 32 = .ok (.aload_n 0, 1) := by decide +kernel
theorem dX5_sure_33 : decode cX5_sure 33 = .ok (.getfield 57, 3) := by decide +kernel
theorem dX5_sure_36 : decode cX5_sure 36 = .ok (.iconst 0, 1) := by decide +kernel
theorem dX5_sure_37 : decode cX5_sure 37 = .ok (.iload_n 2, 1) := by decide +kernel
theorem dX5_sure_38 : decode cX5_sure 38 = .ok (.iastore, 1) := by decide +kernel
theorem dX5_sure_39 : decode cX5_sure 39 = .ok (.aload_n 0, 1) := by decide +kernel
theorem dX5_sure_40 : decode cX5_sure 40 = .ok (.iconst 1, 1) := by decide +kernel
theorem dX5_sure_41 : decode cX5_sure 41 = .ok (.putfield 199, 3) := by decide +kernel
theorem dX5_sure_44 : decode cX5_sure 44 = .ok (.aload_n 0, 1) := by decide +kernel
theorem dX5_sure_45 : decode cX5_sure 45 = .ok (.aload_n 0, 1) := by decide +kernel
theorem dX5_sure_46 : decode cX5_sure 46 = .ok (.getfield 19, 3) := by decide +kernel
theorem dX5_sure_49 : decode cX5_sure 49 = .ok (.iconst 5, 1) := by decide +kernel
theorem dX5_sure_50 : decode cX5_sure 50 = .ok (.iaload, 1) := by decide +kernel
theorem dX5_sure_51 : decode cX5_sure 51 = .ok (.invokevirtual 215, 3) := by decide +kernel
theorem dX5_sure_54 : decode cX5_sure 54 = .ok (.iload_n 1, 1) := by decide +kernel
theorem dX5_sure_55 : decode cX5_sure 55 = .ok (.aload_n 0, 1) := by decide +kernel
theorem dX5_sure_56 : decode cX5_sure 56 = .ok (.getfield 185, 3) := by decide +kernel
theorem dX5_sure_59 : decode cX5_sure 59 = .ok (.ifCond .eq 21, 3) := by decide +kernel
theorem dX5_sure_62 : decode cX5_sure 62 = .ok (.aload_n 0, 1) := by decide +kernel
theorem dX5_sure_63 : decode cX5_sure 63 = .ok (.getfield 157, 3) := by decide +kernel
theorem dX5_sure_66 : decode cX5_sure 66 = .ok (.ldc2_w 191, 3) := by decide +kernel
theorem dX5_sure_69 : decode cX5_sure 69 = .ok (.lcmp, 1) := by decide +kernel
theorem dX5_sure_70 : decode cX5_sure 70 = .ok (.ifCond .ne 10, 3) := by decide +kernel
theorem dX5_sure_73 : decode cX5_sure 73 = .ok (.aload_n 0, 1) := by decide +kernel
theorem dX5_sure_74 : decode cX5_sure 74 = .ok (.getfield 185, 3) := by decide +kernel
theorem dX5_sure_77 : decode cX5_sure 77 = .ok (.goto 4, 3) := by decide +kernel
theorem dX5_sure_80 : decode cX5_sure 80 = .ok (.iconst 0, 1) := by decide +kernel
theorem dX5_sure_81 : decode cX5_sure 81 = .ok (.ior, 1) := by decide +kernel
theorem dX5_sure_82 : decode cX5_sure 82 = .ok (.istore_n 1, 1) := by decide +kernel
theorem dX5_sure_83 : decode cX5_sure 83 = .ok (.iinc 2 1, 3) := by decide +kernel
theorem dX5_sure_86 : decode cX5_sure 86 = .ok (.goto (-64), 3) := by decide +kernel
theorem dX5_sure_89 : decode cX5_sure 89 = .ok (.iload_n 1, 1) := by decide +kernel
theorem dX5_sure_90 : decode cX5_sure 90 = .ok (.ireturn, 1) := by decide +kernel
theorem dX5_worthOfRow_0 : decode cX5_worthOfRow 0 = .ok (.aload_n 0, 1) := by decide +kernel
theorem dX5_worthOfRow_1 : decode cX5_worthOfRow 1 = .ok (.iload_n 1, 1) := by decide +kernel
theorem dX5_worthOfRow_2 : decode cX5_worthOfRow 2 = .ok (.invokevirtual 221, 3) := by decide +kernel
theorem dX5_worthOfRow_5 : decode cX5_worthOfRow 5 = .ok (.aload_n 0, 1) := by decide +kernel
theorem dX5_worthOfRow_6 : decode cX5_worthOfRow 6 = .ok (.getfield 193, 3) := by decide +kernel
theorem dX5_worthOfRow_9 : decode cX5_worthOfRow 9 = .ok (.lreturn, 1) := by decide +kernel
theorem dX5_bestDriver_0 : decode cX5_bestDriver 0 = .ok (.aload_n 0, 1) := by decide +kernel
theorem dX5_bestDriver_1 : decode cX5_bestDriver 1 = .ok (.invokevirtual 218, 3) := by decide +kernel
theorem dX5_bestDriver_4 : decode cX5_bestDriver 4 = .ok (.ifCond .eq 10, 3) := by decide +kernel
theorem dX5_bestDriver_7 : decode cX5_bestDriver 7 = .ok (.aload_n 0, 1) := by decide +kernel
theorem dX5_bestDriver_8 : decode cX5_bestDriver 8 = .ok (.bipush (-3), 2) := by decide +kernel
theorem dX5_bestDriver_10 : decode cX5_bestDriver 10 = .ok (.invokevirtual 9, 3) := by decide +kernel
theorem dX5_bestDriver_13 : decode cX5_bestDriver 13 = .ok (.ireturn, 1) := by decide +kernel
theorem dX5_bestDriver_14 : decode cX5_bestDriver 14 = .ok (.iconst 0, 1) := by decide +kernel
theorem dX5_bestDriver_15 : decode cX5_bestDriver 15 = .ok (.istore_n 1, 1) := by decide +kernel
theorem dX5_bestDriver_16 : decode cX5_bestDriver 16 = .ok (.aload_n 0, 1) := by decide +kernel
theorem dX5_bestDriver_17 : decode cX5_bestDriver 17 = .ok (.iconst 0, 1) := by decide +kernel
theorem dX5_bestDriver_18 : decode cX5_bestDriver 18 = .ok (.invokevirtual 261, 3) := by decide +kernel
theorem dX5_bestDriver_21 : decode cX5_bestDriver 21 = .ok (.lstore_n 2, 1) := by decide +kernel
theorem dX5_bestDriver_22 : decode cX5_bestDriver 22 = .ok (.iconst 1, 1) := by decide +kernel
theorem dX5_bestDriver_23 : decode cX5_bestDriver 23 = .ok (.istore 4, 2) := by decide +kernel
theorem dX5_bestDriver_25 : decode cX5_bestDriver 25 = .ok (.iload 4, 2) := by decide +kernel
theorem dX5_bestDriver_27 : decode cX5_bestDriver 27 = .ok (.bipush 6, 2) := by decide +kernel
theorem dX5_bestDriver_29 : decode cX5_bestDriver 29 = .ok (.if_icmp .ge 38, 3) := by decide +kernel
theorem dX5_bestDriver_32 : decode cX5_bestDriver 32 = .ok (.aload_n 0, 1) := by decide +kernel
theorem dX5_bestDriver_33 : decode cX5_bestDriver 33 = .ok (.iload 4, 2) := by decide +kernel
theorem dX5_bestDriver_35 : decode cX5_bestDriver 35 = .ok (.invokevirtual 261, 3) := by decide +kernel
theorem dX5_bestDriver_38 : decode cX5_bestDriver 38 = .ok (.lstore 5, 2) := by decide +kernel
theorem dX5_bestDriver_40 : decode cX5_bestDriver 40 = .ok (.lload 5, 2) := by decide +kernel
theorem dX5_bestDriver_42 : decode cX5_bestDriver 42 = .ok (.lload_n 2, 1) := by decide +kernel
theorem dX5_bestDriver_43 : decode cX5_bestDriver 43 = .ok (.lcmp, 1) := by decide +kernel
theorem dX5_bestDriver_44 : decode cX5_bestDriver 44 = .ok (.ifCond .le 8, 3) := by decide +kernel
theorem dX5_bestDriver_47 : decode cX5_bestDriver 47 = .ok (.iload 4, 2) := by decide +kernel
theorem dX5_bestDriver_49 : decode cX5_bestDriver 49 = .ok (.goto 4, 3) := by decide +kernel
theorem dX5_bestDriver_52 : decode cX5_bestDriver 52 = .ok (.iload_n 1, 1) := by decide +kernel
theorem dX5_bestDriver_53 : decode cX5_bestDriver 53 = .ok (.istore_n 1, 1) := by decide +kernel
theorem dX5_bestDriver_54 : decode cX5_bestDriver 54 = .ok (.lload_n 2, 1) := by decide +kernel
theorem dX5_bestDriver_55 : decode cX5_bestDriver 55 = .ok (.lload 5, 2) := by decide +kernel
theorem dX5_bestDriver_57 : decode cX5_bestDriver 57 = .ok (.invokestatic 264, 3) := by decide +kernel
theorem dX5_bestDriver_60 : decode cX5_bestDriver 60 = .ok (.lstore_n 2, 1) := by decide +kernel
theorem dX5_bestDriver_61 : decode cX5_bestDriver 61 = .ok (.iinc 4 1, 3) := by decide +kernel
theorem dX5_bestDriver_64 : decode cX5_bestDriver 64 = .ok (.goto (-39), 3) := by decide +kernel
theorem dX5_bestDriver_67 : decode cX5_bestDriver 67 = .ok (.iload_n 1, 1) := by decide +kernel
theorem dX5_bestDriver_68 : decode cX5_bestDriver 68 = .ok (.ireturn, 1) := by decide +kernel
theorem dX5_leftOut_0 : decode cX5_leftOut 0 = .ok (.aload_n 0, 1) := by decide +kernel
theorem dX5_leftOut_1 : decode cX5_leftOut 1 = .ok (.invokevirtual 218, 3) := by decide +kernel
theorem dX5_leftOut_4 : decode cX5_leftOut 4 = .ok (.ifCond .eq 10, 3) := by decide +kernel
theorem dX5_leftOut_7 : decode cX5_leftOut 7 = .ok (.aload_n 0, 1) := by decide +kernel
theorem dX5_leftOut_8 : decode cX5_leftOut 8 = .ok (.bipush (-3), 2) := by decide +kernel
theorem dX5_leftOut_10 : decode cX5_leftOut 10 = .ok (.invokevirtual 9, 3) := by decide +kernel
theorem dX5_leftOut_13 : decode cX5_leftOut 13 = .ok (.ireturn, 1) := by decide +kernel
theorem dX5_leftOut_14 : decode cX5_leftOut 14 = .ok (.bipush (-9), 2) := by decide +kernel
theorem dX5_leftOut_16 : decode cX5_leftOut 16 = .ok (.istore_n 1, 1) := by decide +kernel
theorem dX5_leftOut_17 : decode cX5_leftOut 17 = .ok (.aload_n 0, 1) := by decide +kernel
theorem dX5_leftOut_18 : decode cX5_leftOut 18 = .ok (.aload_n 0, 1) := by decide +kernel
theorem dX5_leftOut_19 : decode cX5_leftOut 19 = .ok (.getfield 19, 3) := by decide +kernel
theorem dX5_leftOut_22 : decode cX5_leftOut 22 = .ok (.iconst 5, 1) := by decide +kernel
theorem dX5_leftOut_23 : decode cX5_leftOut 23 = .ok (.iaload, 1) := by decide +kernel
theorem dX5_leftOut_24 : decode cX5_leftOut 24 = .ok (.invokevirtual 261, 3) := by decide +kernel
theorem dX5_leftOut_27 : decode cX5_leftOut 27 = .ok (.lstore_n 2, 1) := by decide +kernel
theorem dX5_leftOut_28 : decode cX5_leftOut 28 = .ok (.iconst 0, 1) := by decide +kernel
theorem dX5_leftOut_29 : decode cX5_leftOut 29 = .ok (.istore 4, 2) := by decide +kernel
theorem dX5_leftOut_31 : decode cX5_leftOut 31 = .ok (.iload 4, 2) := by decide +kernel
theorem dX5_leftOut_33 : decode cX5_leftOut 33 = .ok (.aload_n 0, 1) := by decide +kernel
theorem dX5_leftOut_34 : decode cX5_leftOut 34 = .ok (.getfield 209, 3) := by decide +kernel
theorem dX5_leftOut_37 : decode cX5_leftOut 37 = .ok (.if_icmp .ge 76, 3) := by decide +kernel
theorem dX5_leftOut_40 : decode cX5_leftOut 40 = .ok (.aload_n 0, 1) := by decide +kernel
theorem dX5_leftOut_41 : decode cX5_leftOut 41 = .ok (.getfield 60, 3) := by decide +kernel
theorem dX5_leftOut_44 : decode cX5_leftOut 44 = .ok (.iload 4, 2) := by decide +kernel
theorem dX5_leftOut_46 : decode cX5_leftOut 46 = .ok (.iaload, 1) := by decide +kernel
theorem dX5_leftOut_47 : decode cX5_leftOut 47 = .ok (.aload_n 0, 1) := by decide +kernel
theorem dX5_leftOut_48 : decode cX5_leftOut 48 = .ok (.getfield 19, 3) := by decide +kernel
theorem dX5_leftOut_51 : decode cX5_leftOut 51 = .ok (.iconst 2, 1) := by decide +kernel
theorem dX5_leftOut_52 : decode cX5_leftOut 52 = .ok (.iaload, 1) := by decide +kernel
theorem dX5_leftOut_53 : decode cX5_leftOut 53 = .ok (.if_icmp .ge 54, 3) := by decide +kernel
theorem dX5_leftOut_56 : decode cX5_leftOut 56 = .ok (.aload_n 0, 1) := by decide +kernel
theorem dX5_leftOut_57 : decode cX5_leftOut 57 = .ok (.aload_n 0, 1) := by decide +kernel
theorem dX5_leftOut_58 : decode cX5_leftOut 58 = .ok (.getfield 60, 3) := by decide +kernel
theorem dX5_leftOut_61 : decode cX5_leftOut 61 = .ok (.iload 4, 2) := by decide +kernel
theorem dX5_leftOut_63 : decode cX5_leftOut 63 = .ok (.iaload, 1) := by decide +kernel
theorem dX5_leftOut_64 : decode cX5_leftOut 64 = .ok (.invokevirtual 212, 3) := by decide +kernel
theorem dX5_leftOut_67 : decode cX5_leftOut 67 = .ok (.aload_n 0, 1) := by decide +kernel
theorem dX5_leftOut_68 : decode cX5_leftOut 68 = .ok (.aload_n 0, 1) := by decide +kernel
theorem dX5_leftOut_69 : decode cX5_leftOut 69 = .ok (.getfield 19, 3) := by decide +kernel
theorem dX5_leftOut_72 : decode cX5_leftOut 72 = .ok (.iconst 5, 1) := by decide +kernel
theorem dX5_leftOut_73 : decode cX5_leftOut 73 = .ok (.iaload, 1) := by decide +kernel
theorem dX5_leftOut_74 : decode cX5_leftOut 74 = .ok (.invokevirtual 215, 3) := by decide +kernel
theorem dX5_leftOut_77 : decode cX5_leftOut 77 = .ok (.aload_n 0, 1) := by decide +kernel
theorem dX5_leftOut_78 : decode cX5_leftOut 78 = .ok (.getfield 193, 3) := by decide +kernel
theorem dX5_leftOut_81 : decode cX5_leftOut 81 = .ok (.lload_n 2, 1) := by decide +kernel
theorem dX5_leftOut_82 : decode cX5_leftOut 82 = .ok (.lcmp, 1) := by decide +kernel
theorem dX5_leftOut_83 : decode cX5_leftOut 83 = .ok (.ifCond .le 13, 3) := by decide +kernel
theorem dX5_leftOut_86 : decode cX5_leftOut 86 = .ok (.aload_n 0, 1) := by decide +kernel
theorem dX5_leftOut_87 : decode cX5_leftOut 87 = .ok (.getfield 60, 3) := by decide +kernel
theorem dX5_leftOut_90 : decode cX5_leftOut 90 = .ok (.iload 4, 2) := by decide +kernel
theorem dX5_leftOut_92 : decode cX5_leftOut 92 = .ok (.iaload, 1) := by decide +kernel
theorem dX5_leftOut_93 : decode cX5_leftOut 93 = .ok (.goto 4, 3) := by decide +kernel
theorem dX5_leftOut_96 : decode cX5_leftOut 96 = .ok (.iload_n 1, 1) := by decide +kernel
theorem dX5_leftOut_97 : decode cX5_leftOut 97 = .ok (.istore_n 1, 1) := by decide +kernel
theorem dX5_leftOut_98 : decode cX5_leftOut 98 = .ok (.lload_n 2, 1) := by decide +kernel
theorem dX5_leftOut_99 : decode cX5_leftOut 99 = .ok (.aload_n 0, 1) := by decide +kernel
theorem dX5_leftOut_100 : decode cX5_leftOut 100 = .ok (.getfield 193, 3) := by decide +kernel
theorem dX5_leftOut_103 : decode cX5_leftOut 103 = .ok (.invokestatic 264, 3) := by decide +kernel
theorem dX5_leftOut_106 : decode cX5_leftOut 106 = .ok (.lstore_n 2, 1) := by decide +kernel
theorem dX5_leftOut_107 : decode cX5_leftOut 107 = .ok (.iinc 4 1, 3) := by decide +kernel
theorem dX5_leftOut_110 : decode cX5_leftOut 110 = .ok (.goto (-79), 3) := by decide +kernel
theorem dX5_leftOut_113 : decode cX5_leftOut 113 = .ok (.iload_n 1, 1) := by decide +kernel
theorem dX5_leftOut_114 : decode cX5_leftOut 114 = .ok (.ireturn, 1) := by decide +kernel
theorem dX5_runOn_0 : decode cX5_runOn 0 = .ok (.aload_n 0, 1) := by decide +kernel
theorem dX5_runOn_1 : decode cX5_runOn 1 = .ok (.invokevirtual 218, 3) := by decide +kernel
theorem dX5_runOn_4 : decode cX5_runOn 4 = .ok (.ifCond .eq 10, 3) := by decide +kernel
theorem dX5_runOn_7 : decode cX5_runOn 7 = .ok (.aload_n 0, 1) := by decide +kernel
theorem dX5_runOn_8 : decode cX5_runOn 8 = .ok (.bipush (-3), 2) := by decide +kernel
theorem dX5_runOn_10 : decode cX5_runOn 10 = .ok (.invokevirtual 9, 3) := by decide +kernel
theorem dX5_runOn_13 : decode cX5_runOn 13 = .ok (.ireturn, 1) := by decide +kernel
theorem dX5_runOn_14 : decode cX5_runOn 14 = .ok (.aload_n 0, 1) := by decide +kernel
theorem dX5_runOn_15 : decode cX5_runOn 15 = .ok (.getfield 19, 3) := by decide +kernel
theorem dX5_runOn_18 : decode cX5_runOn 18 = .ok (.iconst 4, 1) := by decide +kernel
theorem dX5_runOn_19 : decode cX5_runOn 19 = .ok (.iaload, 1) := by decide +kernel
theorem dX5_runOn_20 : decode cX5_runOn 20 = .ok (.istore_n 1, 1) := by decide +kernel
theorem dX5_runOn_21 : decode cX5_runOn 21 = .ok (.iconst 0, 1) := by decide +kernel
theorem dX5_runOn_22 : decode cX5_runOn 22 = .ok (.istore_n 2, 1) := by decide +kernel
theorem dX5_runOn_23 : decode cX5_runOn 23 = .ok (.lconst 0, 1) := by decide +kernel
theorem dX5_runOn_24 : decode cX5_runOn 24 = .ok (.lstore_n 3, 1) := by decide +kernel
theorem dX5_runOn_25 : decode cX5_runOn 25 = .ok (.iconst 0, 1) := by decide +kernel
theorem dX5_runOn_26 : decode cX5_runOn 26 = .ok (.istore 5, 2) := by decide +kernel
theorem dX5_runOn_28 : decode cX5_runOn 28 = .ok (.iload 5, 2) := by decide +kernel
theorem dX5_runOn_30 : decode cX5_runOn 30 = .ok (.bipush 60, 2) := by decide +kernel
theorem dX5_runOn_32 : decode cX5_runOn 32 = .ok (.if_icmp .gt 42, 3) := by decide +kernel
theorem dX5_runOn_35 : decode cX5_runOn 35 = .ok (.aload_n 0, 1) := by decide +kernel
theorem dX5_runOn_36 : decode cX5_runOn 36 = .ok (.getfield 19, 3) := by decide +kernel
theorem dX5_runOn_39 : decode cX5_runOn 39 = .ok (.iconst 4, 1) := by decide +kernel
theorem dX5_runOn_40 : decode cX5_runOn 40 = .ok (.iload 5, 2) := by decide +kernel
theorem dX5_runOn_42 : decode cX5_runOn 42 = .ok (.iastore, 1) := by decide +kernel
theorem dX5_runOn_43 : decode cX5_runOn 43 = .ok (.aload_n 0, 1) := by decide +kernel
theorem dX5_runOn_44 : decode cX5_runOn 44 = .ok (.iconst 1, 1) := by decide +kernel
theorem dX5_runOn_45 : decode cX5_runOn 45 = .ok (.invokevirtual 261, 3) := by decide +kernel
theorem dX5_runOn_48 : decode cX5_runOn 48 = .ok (.lstore 6, 2) := by decide +kernel
theorem dX5_runOn_50 : decode cX5_runOn 50 = .ok (.iload 5, 2) := by decide +kernel
theorem dX5_runOn_52 : decode cX5_runOn 52 = .ok (.ifCond .eq 10, 3) := by decide +kernel
theorem dX5_runOn_55 : decode cX5_runOn 55 = .ok (.lload 6, 2) := by decide +kernel
theorem dX5_runOn_57 : decode cX5_runOn 57 = .ok (.lload_n 3, 1) := by decide +kernel
theorem dX5_runOn_58 : decode cX5_runOn 58 = .ok (.lcmp, 1) := by decide +kernel
theorem dX5_runOn_59 : decode cX5_runOn 59 = .ok (.ifCond .le 9, 3) := by decide +kernel
theorem dX5_runOn_62 : decode cX5_runOn 62 = .ok (.lload 6, 2) := by decide +kernel
theorem dX5_runOn_64 : decode cX5_runOn 64 = .ok (.lstore_n 3, 1) := by decide +kernel
theorem dX5_runOn_65 : decode cX5_runOn 65 = .ok (.iload 5, 2) := by decide +kernel
theorem dX5_runOn_67 : decode cX5_runOn 67 = .ok (.istore_n 2, 1) := by decide +kernel
theorem dX5_runOn_68 : decode cX5_runOn 68 = .ok (.iinc 5 1, 3) := by decide +kernel
theorem dX5_runOn_71 : decode cX5_runOn 71 = .ok (.goto (-43), 3) := by decide +kernel
theorem dX5_runOn_74 : decode cX5_runOn 74 = .ok (.aload_n 0, 1) := by decide +kernel
theorem dX5_runOn_75 : decode cX5_runOn 75 = .ok (.getfield 19, 3) := by decide +kernel
theorem dX5_runOn_78 : decode cX5_runOn 78 = .ok (.iconst 4, 1) := by decide +kernel
theorem dX5_runOn_79 : decode cX5_runOn 79 = .ok (.iload_n 1, 1) := by decide +kernel
theorem dX5_runOn_80 : decode cX5_runOn 80 = .ok (.iastore, 1) := by decide +kernel
theorem dX5_runOn_81 : decode cX5_runOn 81 = .ok (.iload_n 2, 1) := by decide +kernel
theorem dX5_runOn_82 : decode cX5_runOn 82 = .ok (.ireturn, 1) := by decide +kernel
theorem dX5_push_0 : decode cX5_push 0 = .ok (.aload_n 0, 1) := by decide +kernel
theorem dX5_push_1 : decode cX5_push 1 = .ok (.invokevirtual 218, 3) := by decide +kernel
theorem dX5_push_4 : decode cX5_push 4 = .ok (.ifCond .eq 10, 3) := by decide +kernel
theorem dX5_push_7 : decode cX5_push 7 = .ok (.aload_n 0, 1) := by decide +kernel
theorem dX5_push_8 : decode cX5_push 8 = .ok (.bipush (-3), 2) := by decide +kernel
theorem dX5_push_10 : decode cX5_push 10 = .ok (.invokevirtual 9, 3) := by decide +kernel
theorem dX5_push_13 : decode cX5_push 13 = .ok (.ireturn, 1) := by decide +kernel
theorem dX5_push_14 : decode cX5_push 14 = .ok (.bipush (-9), 2) := by decide +kernel
theorem dX5_push_16 : decode cX5_push 16 = .ok (.istore_n 1, 1) := by decide +kernel
theorem dX5_push_17 : decode cX5_push 17 = .ok (.aload_n 0, 1) := by decide +kernel
theorem dX5_push_18 : decode cX5_push 18 = .ok (.iconst 3, 1) := by decide +kernel
theorem dX5_push_19 : decode cX5_push 19 = .ok (.invokevirtual 261, 3) := by decide +kernel
theorem dX5_push_22 : decode cX5_push 22 = .ok (.lstore_n 2, 1) := by decide +kernel
theorem dX5_push_23 : decode cX5_push 23 = .ok (.iconst 0, 1) := by decide +kernel
theorem dX5_push_24 : decode cX5_push 24 = .ok (.istore 4, 2) := by decide +kernel
theorem dX5_push_26 : decode cX5_push 26 = .ok (.iload 4, 2) := by decide +kernel
theorem dX5_push_28 : decode cX5_push 28 = .ok (.aload_n 0, 1) := by decide +kernel
theorem dX5_push_29 : decode cX5_push 29 = .ok (.getfield 19, 3) := by decide +kernel
theorem dX5_push_32 : decode cX5_push 32 = .ok (.iconst 0, 1) := by decide +kernel
theorem dX5_push_33 : decode cX5_push 33 = .ok (.iaload, 1) := by decide +kernel
theorem dX5_push_34 : decode cX5_push 34 = .ok (.if_icmp .ge 61, 3) := by decide +kernel
theorem dX5_push_37 : decode cX5_push 37 = .ok (.aload_n 0, 1) := by decide +kernel
theorem dX5_push_38 : decode cX5_push 38 = .ok (.getfield 19, 3) := by decide +kernel
theorem dX5_push_41 : decode cX5_push 41 = .ok (.bipush 10, 2) := by decide +kernel
theorem dX5_push_43 : decode cX5_push 43 = .ok (.iconst 3, 1) := by decide +kernel
theorem dX5_push_44 : decode cX5_push 44 = .ok (.iload 4, 2) := by decide +kernel
theorem dX5_push_46 : decode cX5_push 46 = .ok (.imul, 1) := by decide +kernel
theorem dX5_push_47 : decode cX5_push 47 = .ok (.iadd, 1) := by decide +kernel
theorem dX5_push_48 : decode cX5_push 48 = .ok (.iconst 2, 1) := by decide +kernel
theorem dX5_push_49 : decode cX5_push 49 = .ok (.iadd, 1) := by decide +kernel
theorem dX5_push_50 : decode cX5_push 50 = .ok (.iaload, 1) := by decide +kernel
theorem dX5_push_51 : decode cX5_push 51 = .ok (.iconst 3, 1) := by decide +kernel
theorem dX5_push_52 : decode cX5_push 52 = .ok (.if_icmp .ge 37, 3) := by decide +kernel
theorem dX5_push_55 : decode cX5_push 55 = .ok (.aload_n 0, 1) := by decide +kernel
theorem dX5_push_56 : decode cX5_push 56 = .ok (.iload 4, 2) := by decide +kernel
theorem dX5_push_58 : decode cX5_push 58 = .ok (.putfield 41, 3) := by decide +kernel
theorem dX5_push_61 : decode cX5_push 61 = .ok (.aload_n 0, 1) := by decide +kernel
theorem dX5_push_62 : decode cX5_push 62 = .ok (.iconst 3, 1) := by decide +kernel
theorem dX5_push_63 : decode cX5_push 63 = .ok (.invokevirtual 261, 3) := by decide +kernel
theorem dX5_push_66 : decode cX5_push 66 = .ok (.lstore 5, 2) := by decide +kernel
theorem dX5_push_68 : decode cX5_push 68 = .ok (.lload 5, 2) := by decide +kernel
theorem dX5_push_70 : decode cX5_push 70 = .ok (.lload_n 2, 1) := by decide +kernel
theorem dX5_push_71 : decode cX5_push 71 = .ok (.lcmp, 1) := by decide +kernel
theorem dX5_push_72 : decode cX5_push 72 = .ok (.ifCond .le 8, 3) := by decide +kernel
theorem dX5_push_75 : decode cX5_push 75 = .ok (.iload 4, 2) := by decide +kernel
theorem dX5_push_77 : decode cX5_push 77 = .ok (.goto 4, 3) := by decide +kernel
theorem dX5_push_80 : decode cX5_push 80 = .ok (.iload_n 1, 1) := by decide +kernel
theorem dX5_push_81 : decode cX5_push 81 = .ok (.istore_n 1, 1) := by decide +kernel
theorem dX5_push_82 : decode cX5_push 82 = .ok (.lload_n 2, 1) := by decide +kernel
theorem dX5_push_83 : decode cX5_push 83 = .ok (.lload 5, 2) := by decide +kernel
theorem dX5_push_85 : decode cX5_push 85 = .ok (.invokestatic 264, 3) := by decide +kernel
theorem dX5_push_88 : decode cX5_push 88 = .ok (.lstore_n 2, 1) := by decide +kernel
theorem dX5_push_89 : decode cX5_push 89 = .ok (.iinc 4 1, 3) := by decide +kernel
theorem dX5_push_92 : decode cX5_push 92 = .ok (.goto (-66), 3) := by decide +kernel
theorem dX5_push_95 : decode cX5_push 95 = .ok (.aload_n 0, 1) := by decide +kernel
theorem dX5_push_96 : decode cX5_push 96 = .ok (.bipush (-9), 2) := by decide +kernel
theorem dX5_push_98 : decode cX5_push 98 = .ok (.putfield 41, 3) := by decide +kernel
theorem dX5_push_101 : decode cX5_push 101 = .ok (.iload_n 1, 1) := by decide +kernel
theorem dX5_push_102 : decode cX5_push 102 = .ok (.ireturn, 1) := by decide +kernel
theorem dX5_hill_0 : decode cX5_hill 0 = .ok (.iload_n 1, 1) := by decide +kernel
theorem dX5_hill_1 : decode cX5_hill 1 = .ok (.invokestatic 228, 3) := by decide +kernel
theorem dX5_hill_4 : decode cX5_hill 4 = .ok (.ifCond .eq 10, 3) := by decide +kernel
theorem dX5_hill_7 : decode cX5_hill 7 = .ok (.aload_n 0, 1) := by decide +kernel
theorem dX5_hill_8 : decode cX5_hill 8 = .ok (.bipush (-2), 2) := by decide +kernel
theorem dX5_hill_10 : decode cX5_hill 10 = .ok (.invokevirtual 231, 3) := by decide +kernel
theorem dX5_hill_13 : decode cX5_hill 13 = .ok (.lreturn, 1) := by decide +kernel
theorem dX5_hill_14 : decode cX5_hill 14 = .ok (.aload_n 0, 1) := by decide +kernel
theorem dX5_hill_15 : decode cX5_hill 15 = .ok (.invokevirtual 218, 3) := by decide +kernel
theorem dX5_hill_18 : decode cX5_hill 18 = .ok (.ifCond .eq 10, 3) := by decide +kernel
theorem dX5_hill_21 : decode cX5_hill 21 = .ok (.aload_n 0, 1) := by decide +kernel
theorem dX5_hill_22 : decode cX5_hill 22 = .ok (.bipush (-3), 2) := by decide +kernel
theorem dX5_hill_24 : decode cX5_hill 24 = .ok (.invokevirtual 231, 3) := by decide +kernel
theorem dX5_hill_27 : decode cX5_hill 27 = .ok (.lreturn, 1) := by decide +kernel
theorem dX5_hill_28 : decode cX5_hill 28 = .ok (.aload_n 0, 1) := by decide +kernel
theorem dX5_hill_29 : decode cX5_hill 29 = .ok (.aload_n 0, 1) := by decide +kernel
theorem dX5_hill_30 : decode cX5_hill 30 = .ok (.getfield 19, 3) := by decide +kernel
theorem dX5_hill_33 : decode cX5_hill 33 = .ok (.iconst 5, 1) := by decide +kernel
theorem dX5_hill_34 : decode cX5_hill 34 = .ok (.iaload, 1) := by decide +kernel
theorem dX5_hill_35 : decode cX5_hill 35 = .ok (.invokevirtual 261, 3) := by decide +kernel
theorem dX5_hill_38 : decode cX5_hill 38 = .ok (.lstore_n 2, 1) := by decide +kernel
theorem dX5_hill_39 : decode cX5_hill 39 = .ok (.aload_n 0, 1) := by decide +kernel
theorem dX5_hill_40 : decode cX5_hill 40 = .ok (.iconst 1, 1) := by decide +kernel
theorem dX5_hill_41 : decode cX5_hill 41 = .ok (.putfield 110, 3) := by decide +kernel
theorem dX5_hill_44 : decode cX5_hill 44 = .ok (.aload_n 0, 1) := by decide +kernel
theorem dX5_hill_45 : decode cX5_hill 45 = .ok (.aload_n 0, 1) := by decide +kernel
theorem dX5_hill_46 : decode cX5_hill 46 = .ok (.getfield 19, 3) := by decide +kernel
theorem dX5_hill_49 : decode cX5_hill 49 = .ok (.iconst 5, 1) := by decide +kernel
theorem dX5_hill_50 : decode cX5_hill 50 = .ok (.iaload, 1) := by decide +kernel
theorem dX5_hill_51 : decode cX5_hill 51 = .ok (.invokevirtual 261, 3) := by decide +kernel
theorem dX5_hill_54 : decode cX5_hill 54 = .ok (.lstore 4, 2) := by decide +kernel
theorem dX5_hill_56 : decode cX5_hill 56 = .ok (.aload_n 0, 1) := by decide +kernel
theorem dX5_hill_57 : decode cX5_hill 57 = .ok (.iconst 0, 1) := by decide +kernel
theorem dX5_hill_58 : decode cX5_hill 58 = .ok (.putfield 110, 3) := by decide +kernel
theorem dX5_hill_61 : decode cX5_hill 61 = .ok (.lload 4, 2) := by decide +kernel
theorem dX5_hill_63 : decode cX5_hill 63 = .ok (.lload_n 2, 1) := by decide +kernel
theorem dX5_hill_64 : decode cX5_hill 64 = .ok (.lsub, 1) := by decide +kernel
theorem dX5_hill_65 : decode cX5_hill 65 = .ok (.iload_n 1, 1) := by decide +kernel
theorem dX5_hill_66 : decode cX5_hill 66 = .ok (.invokestatic 235, 3) := by decide +kernel
theorem dX5_hill_69 : decode cX5_hill 69 = .ok (.lreturn, 1) := by decide +kernel
theorem dX5_mended_0 : decode cX5_mended 0 = .ok (.aload_n 0, 1) := by decide +kernel
theorem dX5_mended_1 : decode cX5_mended 1 = .ok (.aload_n 0, 1) := by decide +kernel
theorem dX5_mended_2 : decode cX5_mended 2 = .ok (.getfield 19, 3) := by decide +kernel
theorem dX5_mended_5 : decode cX5_mended 5 = .ok (.iconst 5, 1) := by decide +kernel
theorem dX5_mended_6 : decode cX5_mended 6 = .ok (.iaload, 1) := by decide +kernel
theorem dX5_mended_7 : decode cX5_mended 7 = .ok (.invokevirtual 261, 3) := by decide +kernel
theorem dX5_mended_10 : decode cX5_mended 10 = .ok (.lstore_n 1, 1) := by decide +kernel
theorem dX5_mended_11 : decode cX5_mended 11 = .ok (.aload_n 0, 1) := by decide +kernel
theorem dX5_mended_12 : decode cX5_mended 12 = .ok (.iconst 1, 1) := by decide +kernel
theorem dX5_mended_13 : decode cX5_mended 13 = .ok (.putfield 107, 3) := by decide +kernel
theorem dX5_mended_16 : decode cX5_mended 16 = .ok (.aload_n 0, 1) := by decide +kernel
theorem dX5_mended_17 : decode cX5_mended 17 = .ok (.aload_n 0, 1) := by decide +kernel
theorem dX5_mended_18 : decode cX5_mended 18 = .ok (.getfield 19, 3) := by decide +kernel
theorem dX5_mended_21 : decode cX5_mended 21 = .ok (.iconst 5, 1) := by decide +kernel
theorem dX5_mended_22 : decode cX5_mended 22 = .ok (.iaload, 1) := by decide +kernel
theorem dX5_mended_23 : decode cX5_mended 23 = .ok (.invokevirtual 261, 3) := by decide +kernel
theorem dX5_mended_26 : decode cX5_mended 26 = .ok (.lstore_n 3, 1) := by decide +kernel
theorem dX5_mended_27 : decode cX5_mended 27 = .ok (.aload_n 0, 1) := by decide +kernel
theorem dX5_mended_28 : decode cX5_mended 28 = .ok (.iconst 0, 1) := by decide +kernel
theorem dX5_mended_29 : decode cX5_mended 29 = .ok (.putfield 107, 3) := by decide +kernel
theorem dX5_mended_32 : decode cX5_mended 32 = .ok (.lload_n 3, 1) := by decide +kernel
theorem dX5_mended_33 : decode cX5_mended 33 = .ok (.lload_n 1, 1) := by decide +kernel
theorem dX5_mended_34 : decode cX5_mended 34 = .ok (.lsub, 1) := by decide +kernel
theorem dX5_mended_35 : decode cX5_mended 35 = .ok (.lreturn, 1) := by decide +kernel
theorem dX5_mend_0 : decode cX5_mend 0 = .ok (.iload_n 1, 1) := by decide +kernel
theorem dX5_mend_1 : decode cX5_mend 1 = .ok (.ifCond .lt 8, 3) := by decide +kernel
theorem dX5_mend_4 : decode cX5_mend 4 = .ok (.iload_n 2, 1) := by decide +kernel
theorem dX5_mend_5 : decode cX5_mend 5 = .ok (.iconst 1, 1) := by decide +kernel
theorem dX5_mend_6 : decode cX5_mend 6 = .ok (.if_icmp .ge 10, 3) := by decide +kernel
theorem dX5_mend_9 : decode cX5_mend 9 = .ok (.aload_n 0, 1) := by decide +kernel
theorem dX5_mend_10 : decode cX5_mend 10 = .ok (.bipush (-4), 2) := by decide +kernel
theorem dX5_mend_12 : decode cX5_mend 12 = .ok (.invokevirtual 9, 3) := by decide +kernel
theorem dX5_mend_15 : decode cX5_mend 15 = .ok (.ireturn, 1) := by decide +kernel
theorem dX5_mend_16 : decode cX5_mend 16 = .ok (.iload_n 1, 1) := by decide +kernel
theorem dX5_mend_17 : decode cX5_mend 17 = .ok (.sipush 999, 3) := by decide +kernel
theorem dX5_mend_20 : decode cX5_mend 20 = .ok (.if_icmp .gt 9, 3) := by decide +kernel
theorem dX5_mend_23 : decode cX5_mend 23 = .ok (.iload_n 2, 1) := by decide +kernel
theorem dX5_mend_24 : decode cX5_mend 24 = .ok (.bipush 99, 2) := by decide +kernel
theorem dX5_mend_26 : decode cX5_mend 26 = .ok (.if_icmp .le 10, 3) := by decide +kernel
theorem dX5_mend_29 : decode cX5_mend 29 = .ok (.aload_n 0, 1) := by decide +kernel
theorem dX5_mend_30 : decode cX5_mend 30 = .ok (.bipush (-6), 2) := by decide +kernel
theorem dX5_mend_32 : decode cX5_mend 32 = .ok (.invokevirtual 9, 3) := by decide +kernel
theorem dX5_mend_35 : decode cX5_mend 35 = .ok (.ireturn, 1) := by decide +kernel
theorem dX5_mend_36 : decode cX5_mend 36 = .ok (.aload_n 0, 1) := by decide +kernel
theorem dX5_mend_37 : decode cX5_mend 37 = .ok (.invokevirtual 218, 3) := by decide +kernel
theorem dX5_mend_40 : decode cX5_mend 40 = .ok (.ifCond .eq 10, 3) := by decide +kernel
theorem dX5_mend_43 : decode cX5_mend 43 = .ok (.aload_n 0, 1) := by decide +kernel
theorem dX5_mend_44 : decode cX5_mend 44 = .ok (.bipush (-3), 2) := by decide +kernel
theorem dX5_mend_46 : decode cX5_mend 46 = .ok (.invokevirtual 9, 3) := by decide +kernel
theorem dX5_mend_49 : decode cX5_mend 49 = .ok (.ireturn, 1) := by decide +kernel
theorem dX5_mend_50 : decode cX5_mend 50 = .ok (.iload_n 2, 1) := by decide +kernel
theorem dX5_mend_51 : decode cX5_mend 51 = .ok (.i2l, 1) := by decide +kernel
theorem dX5_mend_52 : decode cX5_mend 52 = .ok (.aload_n 0, 1) := by decide +kernel
theorem dX5_mend_53 : decode cX5_mend 53 = .ok (.invokevirtual 267, 3) := by decide +kernel
theorem dX5_mend_56 : decode cX5_mend 56 = .ok (.lmul, 1) := by decide +kernel
theorem dX5_mend_57 : decode cX5_mend 57 = .ok (.iload_n 1, 1) := by decide +kernel
theorem dX5_mend_58 : decode cX5_mend 58 = .ok (.i2l, 1) := by decide +kernel
theorem dX5_mend_59 : decode cX5_mend 59 = .ok (.ldc2_w 191, 3) := by decide +kernel
theorem dX5_mend_62 : decode cX5_mend 62 = .ok (.lmul, 1) := by decide +kernel
theorem dX5_mend_63 : decode cX5_mend 63 = .ok (.lcmp, 1) := by decide +kernel
theorem dX5_mend_64 : decode cX5_mend 64 = .ok (.ifCond .lt 7, 3) := by decide +kernel
theorem dX5_mend_67 : decode cX5_mend 67 = .ok (.iconst 1, 1) := by decide +kernel
theorem dX5_mend_68 : decode cX5_mend 68 = .ok (.goto 4, 3) := by decide +kernel
theorem dX5_mend_71 : decode cX5_mend 71 = .ok (.iconst 0, 1) := by decide +kernel
theorem dX5_mend_72 : decode cX5_mend 72 = .ok (.ireturn, 1) := by decide +kernel
theorem dX5_mendFrom_0 : decode cX5_mendFrom 0 = .ok (.iload_n 1, 1) := by decide +kernel
theorem dX5_mendFrom_1 : decode cX5_mendFrom 1 = .ok (.ifCond .ge 10, 3) := by decide +kernel
theorem dX5_mendFrom_4 : decode cX5_mendFrom 4 = .ok (.aload_n 0, 1) := by decide +kernel
theorem dX5_mendFrom_5 : decode cX5_mendFrom 5 = .ok (.bipush (-4), 2) := by decide +kernel
theorem dX5_mendFrom_7 : decode cX5_mendFrom 7 = .ok (.invokevirtual 9, 3) := by decide +kernel
theorem dX5_mendFrom_10 : decode cX5_mendFrom 10 = .ok (.ireturn, 1) := by decide +kernel
theorem dX5_mendFrom_11 : decode cX5_mendFrom 11 = .ok (.iload_n 1, 1) := by decide +kernel
theorem dX5_mendFrom_12 : decode cX5_mendFrom 12 = .ok (.sipush 999, 3) := by decide +kernel
theorem dX5_mendFrom_15 : decode cX5_mendFrom 15 = .ok (.if_icmp .le 10, 3) := by decide +kernel
theorem dX5_mendFrom_18 : decode cX5_mendFrom 18 = .ok (.aload_n 0, 1) := by decide +kernel
theorem dX5_mendFrom_19 : decode cX5_mendFrom 19 = .ok (.bipush (-6), 2) := by decide +kernel
theorem dX5_mendFrom_21 : decode cX5_mendFrom 21 = .ok (.invokevirtual 9, 3) := by decide +kernel
theorem dX5_mendFrom_24 : decode cX5_mendFrom 24 = .ok (.ireturn, 1) := by decide +kernel
theorem dX5_mendFrom_25 : decode cX5_mendFrom 25 = .ok (.aload_n 0, 1) := by decide +kernel
theorem dX5_mendFrom_26 : decode cX5_mendFrom 26 = .ok (.invokevirtual 218, 3) := by decide +kernel
theorem dX5_mendFrom_29 : decode cX5_mendFrom 29 = .ok (.ifCond .eq 10, 3) := by decide +kernel
theorem dX5_mendFrom_32 : decode cX5_mendFrom 32 = .ok (.aload_n 0, 1) := by decide +kernel
theorem dX5_mendFrom_33 : decode cX5_mendFrom 33 = .ok (.bipush (-3), 2) := by decide +kernel
theorem dX5_mendFrom_35 : decode cX5_mendFrom 35 = .ok (.invokevirtual 9, 3) := by decide +kernel
theorem dX5_mendFrom_38 : decode cX5_mendFrom 38 = .ok (.ireturn, 1) := by decide +kernel
theorem dX5_mendFrom_39 : decode cX5_mendFrom 39 = .ok (.aload_n 0, 1) := by decide +kernel
theorem dX5_mendFrom_40 : decode cX5_mendFrom 40 = .ok (.invokevirtual 267, 3) := by decide +kernel
theorem dX5_mendFrom_43 : decode cX5_mendFrom 43 = .ok (.lstore_n 2, 1) := by decide +kernel
theorem dX5_mendFrom_44 : decode cX5_mendFrom 44 = .ok (.iconst 1, 1) := by decide +kernel
theorem dX5_mendFrom_45 : decode cX5_mendFrom 45 = .ok (.istore 4, 2) := by decide +kernel
theorem dX5_mendFrom_47 : decode cX5_mendFrom 47 = .ok (.iload 4, 2) := by decide +kernel
theorem dX5_mendFrom_49 : decode cX5_mendFrom 49 = .ok (.bipush 100, 2) := by decide +kernel
theorem dX5_mendFrom_51 : decode cX5_mendFrom 51 = .ok (.if_icmp .ge 27, 3) := by decide +kernel
theorem dX5_mendFrom_54 : decode cX5_mendFrom 54 = .ok (.iload 4, 2) := by decide +kernel
theorem dX5_mendFrom_56 : decode cX5_mendFrom 56 = .ok (.i2l, 1) := by decide +kernel
theorem dX5_mendFrom_57 : decode cX5_mendFrom 57 = .ok (.lload_n 2, 1) := by decide +kernel
theorem dX5_mendFrom_58 : decode cX5_mendFrom 58 = .ok (.lmul, 1) := by decide +kernel
theorem dX5_mendFrom_59 : decode cX5_mendFrom 59 = .ok (.iload_n 1, 1) := by decide +kernel
theorem dX5_mendFrom_60 : decode cX5_mendFrom 60 = .ok (.i2l, 1) := by decide +kernel
theorem dX5_mendFrom_61 : decode cX5_mendFrom 61 = .ok (.ldc2_w 191, 3) := by decide +kernel
theorem dX5_mendFrom_64 : decode cX5_mendFrom 64 = .ok (.lmul, 1) := by decide +kernel
theorem dX5_mendFrom_65 : decode cX5_mendFrom 65 = .ok (.lcmp, 1) := by decide +kernel
theorem dX5_mendFrom_66 : decode cX5_mendFrom 66 = .ok (.ifCond .lt 6, 3) := by decide +kernel
theorem dX5_mendFrom_69 : decode cX5_mendFrom 69 = .ok (.iload 4, 2) := by decide +kernel
theorem dX5_mendFrom_71 : decode cX5_mendFrom 71 = .ok (.ireturn, 1) := by decide +kernel
theorem dX5_mendFrom_72 : decode cX5_mendFrom 72 = .ok (.iinc 4 1, 3) := by decide +kernel
theorem dX5_mendFrom_75 : decode cX5_mendFrom 75 = .ok (.goto (-28), 3) := by decide +kernel
theorem dX5_mendFrom_78 : decode cX5_mendFrom 78 = .ok (.bipush (-9), 2) := by decide +kernel
theorem dX5_mendFrom_80 : decode cX5_mendFrom 80 = .ok (.ireturn, 1) := by decide +kernel
theorem dX5_onFoot_0 : decode cX5_onFoot 0 = .ok (.aload_n 0, 1) := by decide +kernel
theorem dX5_onFoot_1 : decode cX5_onFoot 1 = .ok (.iload_n 1, 1) := by decide +kernel
theorem dX5_onFoot_2 : decode cX5_onFoot 2 = .ok (.invokevirtual 128, 3) := by decide +kernel
theorem dX5_onFoot_5 : decode cX5_onFoot 5 = .ok (.ifCond .ne 11, 3) := by decide +kernel
theorem dX5_onFoot_8 : decode cX5_onFoot 8 = .ok (.aload_n 0, 1) := by decide +kernel
theorem dX5_onFoot_9 : decode cX5_onFoot 9 = .ok (.iload_n 2, 1) := by decide +kernel
theorem dX5_onFoot_10 : decode cX5_onFoot 10 = .ok (.invokevirtual 128, 3) := by decide +kernel
theorem dX5_onFoot_13 : decode cX5_onFoot 13 = .ok (.ifCond .eq 9, 3) := by decide +kernel
theorem dX5_onFoot_16 : decode cX5_onFoot 16 = .ok (.aload_n 0, 1) := by decide +kernel
theorem dX5_onFoot_17 : decode cX5_onFoot 17 = .ok (.iconst (-1), 1) := by decide +kernel
theorem dX5_onFoot_18 : decode cX5_onFoot 18 = .ok (.invokevirtual 9, 3) := by decide +kernel
theorem dX5_onFoot_21 : decode cX5_onFoot 21 = .ok (.ireturn, 1) := by decide +kernel
theorem dX5_onFoot_22 : decode cX5_onFoot 22 = .ok (.iload_n 3, 1) := by decide +kernel
theorem dX5_onFoot_23 : decode cX5_onFoot 23 = .ok (.ifCond .eq 15, 3) := by decide +kernel
theorem dX5_onFoot_26 : decode cX5_onFoot 26 = .ok (.iload_n 3, 1) := by decide +kernel
theorem dX5_onFoot_27 : decode cX5_onFoot 27 = .ok (.iconst 1, 1) := by decide +kernel
theorem dX5_onFoot_28 : decode cX5_onFoot 28 = .ok (.if_icmp .eq 10, 3) := by decide +kernel
theorem dX5_onFoot_31 : decode cX5_onFoot 31 = .ok (.aload_n 0, 1) := by decide +kernel
theorem dX5_onFoot_32 : decode cX5_onFoot 32 = .ok (.bipush (-2), 2) := by decide +kernel
theorem dX5_onFoot_34 : decode cX5_onFoot 34 = .ok (.invokevirtual 9, 3) := by decide +kernel
theorem dX5_onFoot_37 : decode cX5_onFoot 37 = .ok (.ireturn, 1) := by decide +kernel
theorem dX5_onFoot_38 : decode cX5_onFoot 38 = .ok (.aload_n 0, 1) := by decide +kernel
theorem dX5_onFoot_39 : decode cX5_onFoot 39 = .ok (.invokevirtual 144, 3) := by decide +kernel
theorem dX5_onFoot_42 : decode cX5_onFoot 42 = .ok (.bipush (-9), 2) := by decide +kernel
theorem dX5_onFoot_44 : decode cX5_onFoot 44 = .ok (.istore 4, 2) := by decide +kernel
theorem dX5_onFoot_46 : decode cX5_onFoot 46 = .ok (.ldc 139, 2) := by decide +kernel
theorem dX5_onFoot_48 : decode cX5_onFoot 48 = .ok (.istore 5, 2) := by decide +kernel
theorem dX5_onFoot_50 : decode cX5_onFoot 50 = .ok (.iconst 0, 1) := by decide +kernel
theorem dX5_onFoot_51 : decode cX5_onFoot 51 = .ok (.istore 6, 2) := by decide +kernel
theorem dX5_onFoot_53 : decode cX5_onFoot 53 = .ok (.iload 6, 2) := by decide +kernel
theorem dX5_onFoot_55 : decode cX5_onFoot 55 = .ok (.aload_n 0, 1) := by decide +kernel
theorem dX5_onFoot_56 : decode cX5_onFoot 56 = .ok (.getfield 19, 3) := by decide +kernel
theorem dX5_onFoot_59 : decode cX5_onFoot 59 = .ok (.iconst 0, 1) := by decide +kernel
theorem dX5_onFoot_60 : decode cX5_onFoot 60 = .ok (.iaload, 1) := by decide +kernel
theorem dX5_onFoot_61 : decode cX5_onFoot 61 = .ok (.if_icmp .ge 62, 3) := by decide +kernel
theorem dX5_onFoot_64 : decode cX5_onFoot 64 = .ok (.aload_n 0, 1) := by decide +kernel
theorem dX5_onFoot_65 : decode cX5_onFoot 65 = .ok (.getfield 45, 3) := by decide +kernel
theorem dX5_onFoot_68 : decode cX5_onFoot 68 = .ok (.bipush 8, 2) := by decide +kernel
theorem dX5_onFoot_70 : decode cX5_onFoot 70 = .ok (.iload 6, 2) := by decide +kernel
theorem dX5_onFoot_72 : decode cX5_onFoot 72 = .ok (.imul, 1) := by decide +kernel
theorem dX5_onFoot_73 : decode cX5_onFoot 73 = .ok (.iload_n 1, 1) := by decide +kernel
theorem dX5_onFoot_74 : decode cX5_onFoot 74 = .ok (.iadd, 1) := by decide +kernel
theorem dX5_onFoot_75 : decode cX5_onFoot 75 = .ok (.iaload, 1) := by decide +kernel
theorem dX5_onFoot_76 : decode cX5_onFoot 76 = .ok (.aload_n 0, 1) := by decide +kernel
theorem dX5_onFoot_77 : decode cX5_onFoot 77 = .ok (.getfield 45, 3) := by decide +kernel
theorem dX5_onFoot_80 : decode cX5_onFoot 80 = .ok (.bipush 8, 2) := by decide +kernel
theorem dX5_onFoot_82 : decode cX5_onFoot 82 = .ok (.iload 6, 2) := by decide +kernel
theorem dX5_onFoot_84 : decode cX5_onFoot 84 = .ok (.imul, 1) := by decide +kernel
theorem dX5_onFoot_85 : decode cX5_onFoot 85 = .ok (.iload_n 2, 1) := by decide +kernel
theorem dX5_onFoot_86 : decode cX5_onFoot 86 = .ok (.iadd, 1) := by decide +kernel
theorem dX5_onFoot_87 : decode cX5_onFoot 87 = .ok (.iaload, 1) := by decide +kernel
theorem dX5_onFoot_88 : decode cX5_onFoot 88 = .ok (.iadd, 1) := by decide +kernel
theorem dX5_onFoot_89 : decode cX5_onFoot 89 = .ok (.istore 7, 2) := by decide +kernel
theorem dX5_onFoot_91 : decode cX5_onFoot 91 = .ok (.aload_n 0, 1) := by decide +kernel
theorem dX5_onFoot_92 : decode cX5_onFoot 92 = .ok (.iload 6, 2) := by decide +kernel
theorem dX5_onFoot_94 : decode cX5_onFoot 94 = .ok (.invokevirtual 125, 3) := by decide +kernel
theorem dX5_onFoot_97 : decode cX5_onFoot 97 = .ok (.bipush 10, 2) := by decide +kernel
theorem dX5_onFoot_99 : decode cX5_onFoot 99 = .ok (.if_icmp .ne 18, 3) := by decide +kernel
theorem dX5_onFoot_102 : decode cX5_onFoot 102 = .ok (.iload 7, 2) := by decide +kernel
theorem dX5_onFoot_104 : decode cX5_onFoot 104 = .ok (.iload 5, 2) := by decide +kernel
theorem dX5_onFoot_106 : decode cX5_onFoot 106 = .ok (.if_icmp .ge 11, 3) := by decide +kernel
theorem dX5_onFoot_109 : decode cX5_onFoot 109 = .ok (.iload 7, 2) := by decide +kernel
theorem dX5_onFoot_111 : decode cX5_onFoot 111 = .ok (.istore 5, 2) := by decide +kernel
theorem dX5_onFoot_113 : decode cX5_onFoot 113 = .ok (.iload 6, 2) := by decide +kernel
theorem dX5_onFoot_115 : decode cX5_onFoot 115 = .ok (.istore 4, 2) := by decide +kernel
theorem dX5_onFoot_117 : decode cX5_onFoot 117 = .ok (.iinc 6 1, 3) := by decide +kernel
theorem dX5_onFoot_120 : decode cX5_onFoot 120 = .ok (.goto (-67), 3) := by decide +kernel
theorem dX5_onFoot_123 : decode cX5_onFoot 123 = .ok (.iload 4, 2) := by decide +kernel
theorem dX5_onFoot_125 : decode cX5_onFoot 125 = .ok (.bipush (-9), 2) := by decide +kernel
theorem dX5_onFoot_127 : decode cX5_onFoot 127 = .ok (.if_icmp .ne 8, 3) := by decide +kernel
theorem dX5_onFoot_130 : decode cX5_onFoot 130 = .ok (.bipush (-9), 2) := by decide +kernel
theorem dX5_onFoot_132 : decode cX5_onFoot 132 = .ok (.goto 17, 3) := by decide +kernel
theorem dX5_onFoot_135 : decode cX5_onFoot 135 = .ok (.iload_n 3, 1) := by decide +kernel
theorem dX5_onFoot_136 : decode cX5_onFoot 136 = .ok (.ifCond .ne 8, 3) := by decide +kernel
theorem dX5_onFoot_139 : decode cX5_onFoot 139 = .ok (.iload 4, 2) := by decide +kernel
theorem dX5_onFoot_141 : decode cX5_onFoot 141 = .ok (.goto 8, 3) := by decide +kernel
theorem dX5_onFoot_144 : decode cX5_onFoot 144 = .ok (.bipush 10, 2) := by decide +kernel
theorem dX5_onFoot_146 : decode cX5_onFoot 146 = .ok (.iload 5, 2) := by decide +kernel
theorem dX5_onFoot_148 : decode cX5_onFoot 148 = .ok (.imul, 1) := by decide +kernel
theorem dX5_onFoot_149 : decode cX5_onFoot 149 = .ok (.ireturn, 1) := by decide +kernel
theorem dX5_onTheWay_0 : decode cX5_onTheWay 0 = .ok (.aload_n 0, 1) := by decide +kernel
theorem dX5_onTheWay_1 : decode cX5_onTheWay 1 = .ok (.iload_n 1, 1) := by decide +kernel
theorem dX5_onTheWay_2 : decode cX5_onTheWay 2 = .ok (.invokevirtual 128, 3) := by decide +kernel
theorem dX5_onTheWay_5 : decode cX5_onTheWay 5 = .ok (.ifCond .ne 19, 3) := by decide +kernel
theorem dX5_onTheWay_8 : decode cX5_onTheWay 8 = .ok (.aload_n 0, 1) := by decide +kernel
theorem dX5_onTheWay_9 : decode cX5_onTheWay 9 = .ok (.iload_n 2, 1) := by decide +kernel
theorem dX5_onTheWay_10 : decode cX5_onTheWay 10 = .ok (.invokevirtual 128, 3) := by decide +kernel
theorem dX5_onTheWay_13 : decode cX5_onTheWay 13 = .ok (.ifCond .ne 11, 3) := by decide +kernel
theorem dX5_onTheWay_16 : decode cX5_onTheWay 16 = .ok (.aload_n 0, 1) := by decide +kernel
theorem dX5_onTheWay_17 : decode cX5_onTheWay 17 = .ok (.iload_n 3, 1) := by decide +kernel
theorem dX5_onTheWay_18 : decode cX5_onTheWay 18 = .ok (.invokevirtual 128, 3) := by decide +kernel
theorem dX5_onTheWay_21 : decode cX5_onTheWay 21 = .ok (.ifCond .eq 9, 3) := by decide +kernel
theorem dX5_onTheWay_24 : decode cX5_onTheWay 24 = .ok (.aload_n 0, 1) := by decide +kernel
theorem dX5_onTheWay_25 : decode cX5_onTheWay 25 = .ok (.iconst (-1), 1) := by decide +kernel
theorem dX5_onTheWay_26 : decode cX5_onTheWay 26 = .ok (.invokevirtual 9, 3) := by decide +kernel
theorem dX5_onTheWay_29 : decode cX5_onTheWay 29 = .ok (.ireturn, 1) := by decide +kernel
theorem dX5_onTheWay_30 : decode cX5_onTheWay 30 = .ok (.aload_n 0, 1) := by decide +kernel
theorem dX5_onTheWay_31 : decode cX5_onTheWay 31 = .ok (.invokevirtual 144, 3) := by decide +kernel
theorem dX5_onTheWay_34 : decode cX5_onTheWay 34 = .ok (.aload_n 0, 1) := by decide +kernel
theorem dX5_onTheWay_35 : decode cX5_onTheWay 35 = .ok (.getfield 45, 3) := by decide +kernel
theorem dX5_onTheWay_38 : decode cX5_onTheWay 38 = .ok (.bipush 8, 2) := by decide +kernel
theorem dX5_onTheWay_40 : decode cX5_onTheWay 40 = .ok (.iload_n 2, 1) := by decide +kernel
theorem dX5_onTheWay_41 : decode cX5_onTheWay 41 = .ok (.imul, 1) := by decide +kernel
theorem dX5_onTheWay_42 : decode cX5_onTheWay 42 = .ok (.iload_n 1, 1) := by decide +kernel
theorem dX5_onTheWay_43 : decode cX5_onTheWay 43 = .ok (.iadd, 1) := by decide +kernel
theorem dX5_onTheWay_44 : decode cX5_onTheWay 44 = .ok (.iaload, 1) := by decide +kernel
theorem dX5_onTheWay_45 : decode cX5_onTheWay 45 = .ok (.aload_n 0, 1) := by decide +kernel
theorem dX5_onTheWay_46 : decode cX5_onTheWay 46 = .ok (.getfield 45, 3) := by decide +kernel
theorem dX5_onTheWay_49 : decode cX5_onTheWay 49 = .ok (.bipush 8, 2) := by decide +kernel
theorem dX5_onTheWay_51 : decode cX5_onTheWay 51 = .ok (.iload_n 1, 1) := by decide +kernel
theorem dX5_onTheWay_52 : decode cX5_onTheWay 52 = .ok (.imul, 1) := by decide +kernel
theorem dX5_onTheWay_53 : decode cX5_onTheWay 53 = .ok (.iload_n 3, 1) := by decide +kernel
theorem dX5_onTheWay_54 : decode cX5_onTheWay 54 = .ok (.iadd, 1) := by decide +kernel
theorem dX5_onTheWay_55 : decode cX5_onTheWay 55 = .ok (.iaload, 1) := by decide +kernel
theorem dX5_onTheWay_56 : decode cX5_onTheWay 56 = .ok (.iadd, 1) := by decide +kernel
theorem dX5_onTheWay_57 : decode cX5_onTheWay 57 = .ok (.istore 4, 2) := by decide +kernel
theorem dX5_onTheWay_59 : decode cX5_onTheWay 59 = .ok (.iload 4, 2) := by decide +kernel
theorem dX5_onTheWay_61 : decode cX5_onTheWay 61 = .ok (.ldc 139, 2) := by decide +kernel
theorem dX5_onTheWay_63 : decode cX5_onTheWay 63 = .ok (.if_icmp .ge 23, 3) := by decide +kernel
theorem dX5_onTheWay_66 : decode cX5_onTheWay 66 = .ok (.iload 4, 2) := by decide +kernel
theorem dX5_onTheWay_68 : decode cX5_onTheWay 68 = .ok (.aload_n 0, 1) := by decide +kernel
theorem dX5_onTheWay_69 : decode cX5_onTheWay 69 = .ok (.getfield 45, 3) := by decide +kernel
theorem dX5_onTheWay_72 : decode cX5_onTheWay 72 = .ok (.bipush 8, 2) := by decide +kernel
theorem dX5_onTheWay_74 : decode cX5_onTheWay 74 = .ok (.iload_n 2, 1) := by decide +kernel
theorem dX5_onTheWay_75 : decode cX5_onTheWay 75 = .ok (.imul, 1) := by decide +kernel
theorem dX5_onTheWay_76 : decode cX5_onTheWay 76 = .ok (.iload_n 3, 1) := by decide +kernel
theorem dX5_onTheWay_77 : decode cX5_onTheWay 77 = .ok (.iadd, 1) := by decide +kernel
theorem dX5_onTheWay_78 : decode cX5_onTheWay 78 = .ok (.iaload, 1) := by decide +kernel
theorem dX5_onTheWay_79 : decode cX5_onTheWay 79 = .ok (.if_icmp .ne 7, 3) := by decide +kernel
theorem dX5_onTheWay_82 : decode cX5_onTheWay 82 = .ok (.iconst 1, 1) := by decide +kernel
theorem dX5_onTheWay_83 : decode cX5_onTheWay 83 = .ok (.goto 4, 3) := by decide +kernel
theorem dX5_onTheWay_86 : decode cX5_onTheWay 86 = .ok (.iconst 0, 1) := by decide +kernel
theorem dX5_onTheWay_87 : decode cX5_onTheWay 87 = .ok (.ireturn, 1) := by decide +kernel
theorem dX5_row_0 : decode cX5_row 0 = .ok (.iload_n 1, 1) := by decide +kernel
theorem dX5_row_1 : decode cX5_row 1 = .ok (.ifCond .ge 10, 3) := by decide +kernel
theorem dX5_row_4 : decode cX5_row 4 = .ok (.aload_n 0, 1) := by decide +kernel
theorem dX5_row_5 : decode cX5_row 5 = .ok (.bipush (-4), 2) := by decide +kernel
theorem dX5_row_7 : decode cX5_row 7 = .ok (.invokevirtual 9, 3) := by decide +kernel
theorem dX5_row_10 : decode cX5_row 10 = .ok (.ireturn, 1) := by decide +kernel
theorem dX5_row_11 : decode cX5_row 11 = .ok (.iload_n 1, 1) := by decide +kernel
theorem dX5_row_12 : decode cX5_row 12 = .ok (.bipush 9, 2) := by decide +kernel
theorem dX5_row_14 : decode cX5_row 14 = .ok (.if_icmp .gt 12, 3) := by decide +kernel
theorem dX5_row_17 : decode cX5_row 17 = .ok (.aload_n 0, 1) := by decide +kernel
theorem dX5_row_18 : decode cX5_row 18 = .ok (.getfield 209, 3) := by decide +kernel
theorem dX5_row_21 : decode cX5_row 21 = .ok (.bipush 10, 2) := by decide +kernel
theorem dX5_row_23 : decode cX5_row 23 = .ok (.if_icmp .ne 10, 3) := by decide +kernel
theorem dX5_row_26 : decode cX5_row 26 = .ok (.aload_n 0, 1) := by decide +kernel
theorem dX5_row_27 : decode cX5_row 27 = .ok (.bipush (-6), 2) := by decide +kernel
theorem dX5_row_29 : decode cX5_row 29 = .ok (.invokevirtual 9, 3) := by decide +kernel
theorem dX5_row_32 : decode cX5_row 32 = .ok (.ireturn, 1) := by decide +kernel
theorem dX5_row_33 : decode cX5_row 33 = .ok (.aload_n 0, 1) := by decide +kernel
theorem dX5_row_34 : decode cX5_row 34 = .ok (.getfield 60, 3) := by decide +kernel
theorem dX5_row_37 : decode cX5_row 37 = .ok (.aload_n 0, 1) := by decide +kernel
theorem dX5_row_38 : decode cX5_row 38 = .ok (.getfield 209, 3) := by decide +kernel
theorem dX5_row_41 : decode cX5_row 41 = .ok (.iload_n 1, 1) := by decide +kernel
theorem dX5_row_42 : decode cX5_row 42 = .ok (.iastore, 1) := by decide +kernel
theorem dX5_row_43 : decode cX5_row 43 = .ok (.aload_n 0, 1) := by decide +kernel
theorem dX5_row_44 : decode cX5_row 44 = .ok (.dup, 1) := by decide +kernel
theorem dX5_row_45 : decode cX5_row 45 = .ok (.getfield 209, 3) := by decide +kernel
theorem dX5_row_48 : decode cX5_row 48 = .ok (.iconst 1, 1) := by decide +kernel
theorem dX5_row_49 : decode cX5_row 49 = .ok (.iadd, 1) := by decide +kernel
theorem dX5_row_50 : decode cX5_row 50 = .ok (.putfield 209, 3) := by decide +kernel
theorem dX5_row_53 : decode cX5_row 53 = .ok (.aload_n 0, 1) := by decide +kernel
theorem dX5_row_54 : decode cX5_row 54 = .ok (.getfield 209, 3) := by decide +kernel
theorem dX5_row_57 : decode cX5_row 57 = .ok (.ireturn, 1) := by decide +kernel
theorem dX5_clear_0 : decode cX5_clear 0 = .ok (.aload_n 0, 1) := by decide +kernel
theorem dX5_clear_1 : decode cX5_clear 1 = .ok (.getfield 209, 3) := by decide +kernel
theorem dX5_clear_4 : decode cX5_clear 4 = .ok (.istore_n 1, 1) := by decide +kernel
theorem dX5_clear_5 : decode cX5_clear 5 = .ok (.aload_n 0, 1) := by decide +kernel
theorem dX5_clear_6 : decode cX5_clear 6 = .ok (.iconst 0, 1) := by decide +kernel
theorem dX5_clear_7 : decode cX5_clear 7 = .ok (.putfield 209, 3) := by decide +kernel
theorem dX5_clear_10 : decode cX5_clear 10 = .ok (.iload_n 1, 1) := by decide +kernel
theorem dX5_clear_11 : decode cX5_clear 11 = .ok (.ireturn, 1) := by decide +kernel
theorem dX5_judge_0 : decode cX5_judge 0 = .ok (.aload_n 0, 1) := by decide +kernel
theorem dX5_judge_1 : decode cX5_judge 1 = .ok (.invokevirtual 218, 3) := by decide +kernel
theorem dX5_judge_4 : decode cX5_judge 4 = .ok (.ifCond .eq 10, 3) := by decide +kernel
theorem dX5_judge_7 : decode cX5_judge 7 = .ok (.aload_n 0, 1) := by decide +kernel
theorem dX5_judge_8 : decode cX5_judge 8 = .ok (.bipush (-3), 2) := by decide +kernel
theorem dX5_judge_10 : decode cX5_judge 10 = .ok (.invokevirtual 9, 3) := by decide +kernel
theorem dX5_judge_13 : decode cX5_judge 13 = .ok (.ireturn, 1) := by decide +kernel
theorem dX5_judge_14 : decode cX5_judge 14 = .ok (.aload_n 0, 1) := by decide +kernel
theorem dX5_judge_15 : decode cX5_judge 15 = .ok (.aload_n 0, 1) := by decide +kernel
theorem dX5_judge_16 : decode cX5_judge 16 = .ok (.getfield 19, 3) := by decide +kernel
theorem dX5_judge_19 : decode cX5_judge 19 = .ok (.iconst 5, 1) := by decide +kernel
theorem dX5_judge_20 : decode cX5_judge 20 = .ok (.iaload, 1) := by decide +kernel
theorem dX5_judge_21 : decode cX5_judge 21 = .ok (.invokevirtual 221, 3) := by decide +kernel
theorem dX5_judge_24 : decode cX5_judge 24 = .ok (.iconst 0, 1) := by decide +kernel
theorem dX5_judge_25 : decode cX5_judge 25 = .ok (.istore_n 1, 1) := by decide +kernel
theorem dX5_judge_26 : decode cX5_judge 26 = .ok (.iconst 0, 1) := by decide +kernel
theorem dX5_judge_27 : decode cX5_judge 27 = .ok (.istore_n 2, 1) := by decide +kernel
theorem dX5_judge_28 : decode cX5_judge 28 = .ok (.iload_n 2, 1) := by decide +kernel
theorem dX5_judge_29 : decode cX5_judge 29 = .ok (.aload_n 0, 1) := by decide +kernel
theorem dX5_judge_30 : decode cX5_judge 30 = .ok (.getfield 209, 3) := by decide +kernel
theorem dX5_judge_33 : decode cX5_judge 33 = .ok (.if_icmp .ge 52, 3) := by decide +kernel
theorem dX5_judge_36 : decode cX5_judge 36 = .ok (.aload_n 0, 1) := by decide +kernel
theorem dX5_judge_37 : decode cX5_judge 37 = .ok (.getfield 185, 3) := by decide +kernel
theorem dX5_judge_40 : decode cX5_judge 40 = .ok (.aload_n 0, 1) := by decide +kernel
theorem dX5_judge_41 : decode cX5_judge 41 = .ok (.getfield 60, 3) := by decide +kernel
theorem dX5_judge_44 : decode cX5_judge 44 = .ok (.iload_n 2, 1) := by decide +kernel
theorem dX5_judge_45 : decode cX5_judge 45 = .ok (.iaload, 1) := by decide +kernel
theorem dX5_judge_46 : decode cX5_judge 46 = .ok (.ishr, 1) := by decide +kernel
theorem dX5_judge_47 : decode cX5_judge 47 = .ok (.iconst 1, 1) := by decide +kernel
theorem dX5_judge_48 : decode cX5_judge 48 = .ok (.iand, 1) := by decide +kernel
theorem dX5_judge_49 : decode cX5_judge 49 = .ok (.ifCond .eq 17, 3) := by decide +kernel
theorem dX5_judge_52 : decode cX5_judge 52 = .ok (.iload_n 1, 1) := by decide +kernel
theorem dX5_judge_53 : decode cX5_judge 53 = .ok (.aload_n 0, 1) := by decide +kernel
theorem dX5_judge_54 : decode cX5_judge 54 = .ok (.getfield 60, 3) := by decide +kernel
theorem dX5_judge_57 : decode cX5_judge 57 = .ok (.iload_n 2, 1) := by decide +kernel
theorem dX5_judge_58 : decode cX5_judge 58 = .ok (.iaload, 1) := by decide +kernel
theorem dX5_judge_59 : decode cX5_judge 59 = .ok (.ishr, 1) := by decide +kernel
theorem dX5_judge_60 : decode cX5_judge 60 = .ok (.iconst 1, 1) := by decide +kernel
theorem dX5_judge_61 : decode cX5_judge 61 = .ok (.iand, 1) := by decide +kernel
theorem dX5_judge_62 : decode cX5_judge 62 = .ok (.iconst 1, 1) := by decide +kernel
theorem dX5_judge_63 : decode cX5_judge 63 = .ok (.if_icmp .ne 5, 3) := by decide +kernel
theorem dX5_judge_66 : decode cX5_judge 66 = .ok (.iload_n 2, 1) := by decide +kernel
theorem dX5_judge_67 : decode cX5_judge 67 = .ok (.ireturn, 1) := by decide +kernel
theorem dX5_judge_68 : decode cX5_judge 68 = .ok (.iload_n 1, 1) := by decide +kernel
theorem dX5_judge_69 : decode cX5_judge 69 = .ok (.iconst 1, 1) := by decide +kernel
theorem dX5_judge_70 : decode cX5_judge 70 = .ok (.aload_n 0, 1) := by decide +kernel
theorem dX5_judge_71 : decode cX5_judge 71 = .ok (.getfield 60, 3) := by decide +kernel
theorem dX5_judge_74 : decode cX5_judge 74 = .ok (.iload_n 2, 1) := by decide +kernel
theorem dX5_judge_75 : decode cX5_judge 75 = .ok (.iaload, 1) := by decide +kernel
theorem dX5_judge_76 : decode cX5_judge 76 = .ok (.ishl, 1) := by decide +kernel
theorem dX5_judge_77 : decode cX5_judge 77 = .ok (.ior, 1) := by decide +kernel
theorem dX5_judge_78 : decode cX5_judge 78 = .ok (.istore_n 1, 1) := by decide +kernel
theorem dX5_judge_79 : decode cX5_judge 79 = .ok (.iinc 2 1, 3) := by decide +kernel
theorem dX5_judge_82 : decode cX5_judge 82 = .ok (.goto (-54), 3) := by decide +kernel
theorem dX5_judge_85 : decode cX5_judge 85 = .ok (.bipush (-9), 2) := by decide +kernel
theorem dX5_judge_87 : decode cX5_judge 87 = .ok (.ireturn, 1) := by decide +kernel
theorem dX5_lots_0 : decode cX5_lots 0 = .ok (.iload_n 1, 1) := by decide +kernel
theorem dX5_lots_1 : decode cX5_lots 1 = .ok (.iconst 1, 1) := by decide +kernel
theorem dX5_lots_2 : decode cX5_lots 2 = .ok (.if_icmp .ge 10, 3) := by decide +kernel
theorem dX5_lots_5 : decode cX5_lots 5 = .ok (.aload_n 0, 1) := by decide +kernel
theorem dX5_lots_6 : decode cX5_lots 6 = .ok (.bipush (-4), 2) := by decide +kernel
theorem dX5_lots_8 : decode cX5_lots 8 = .ok (.invokevirtual 9, 3) := by decide +kernel
theorem dX5_lots_11 : decode cX5_lots 11 = .ok (.ireturn, 1) := by decide +kernel
theorem dX5_lots_12 : decode cX5_lots 12 = .ok (.iload_n 1, 1) := by decide +kernel
theorem dX5_lots_13 : decode cX5_lots 13 = .ok (.bipush 20, 2) := by decide +kernel
theorem dX5_lots_15 : decode cX5_lots 15 = .ok (.if_icmp .le 10, 3) := by decide +kernel
theorem dX5_lots_18 : decode cX5_lots 18 = .ok (.aload_n 0, 1) := by decide +kernel
theorem dX5_lots_19 : decode cX5_lots 19 = .ok (.bipush (-6), 2) := by decide +kernel
theorem dX5_lots_21 : decode cX5_lots 21 = .ok (.invokevirtual 9, 3) := by decide +kernel
theorem dX5_lots_24 : decode cX5_lots 24 = .ok (.ireturn, 1) := by decide +kernel
theorem dX5_lots_25 : decode cX5_lots 25 = .ok (.aload_n 0, 1) := by decide +kernel
theorem dX5_lots_26 : decode cX5_lots 26 = .ok (.invokevirtual 218, 3) := by decide +kernel
theorem dX5_lots_29 : decode cX5_lots 29 = .ok (.ifCond .eq 10, 3) := by decide +kernel
theorem dX5_lots_32 : decode cX5_lots 32 = .ok (.aload_n 0, 1) := by decide +kernel
theorem dX5_lots_33 : decode cX5_lots 33 = .ok (.bipush (-3), 2) := by decide +kernel
theorem dX5_lots_35 : decode cX5_lots 35 = .ok (.invokevirtual 9, 3) := by decide +kernel
theorem dX5_lots_38 : decode cX5_lots 38 = .ok (.ireturn, 1) := by decide +kernel
theorem dX5_lots_39 : decode cX5_lots 39 = .ok (.aload_n 0, 1) := by decide +kernel
theorem dX5_lots_40 : decode cX5_lots 40 = .ok (.iload_n 2, 1) := by decide +kernel
theorem dX5_lots_41 : decode cX5_lots 41 = .ok (.putfield 151, 3) := by decide +kernel
theorem dX5_lots_44 : decode cX5_lots 44 = .ok (.iconst 0, 1) := by decide +kernel
theorem dX5_lots_45 : decode cX5_lots 45 = .ok (.istore_n 3, 1) := by decide +kernel
theorem dX5_lots_46 : decode cX5_lots 46 = .ok (.aload_n 0, 1) := by decide +kernel
theorem dX5_lots_47 : decode cX5_lots 47 = .ok (.iconst 1, 1) := by decide +kernel
theorem dX5_lots_48 : decode cX5_lots 48 = .ok (.putfield 163, 3) := by decide +kernel
theorem dX5_lots_51 : decode cX5_lots 51 = .ok (.iconst 0, 1) := by decide +kernel
theorem dX5_lots_52 : decode cX5_lots 52 = .ok (.istore 4, 2) := by decide +kernel
theorem dX5_lots_54 : decode cX5_lots 54 = .ok (.iload 4, 2) := by decide +kernel
theorem dX5_lots_56 : decode cX5_lots 56 = .ok (.iload_n 1, 1) := by decide +kernel
theorem dX5_lots_57 : decode cX5_lots 57 = .ok (.if_icmp .ge 39, 3) := by decide +kernel
theorem dX5_lots_60 : decode cX5_lots 60 = .ok (.aload_n 0, 1) := by decide +kernel
theorem dX5_lots_61 : decode cX5_lots 61 = .ok (.iconst 1, 1) := by decide +kernel
theorem dX5_lots_62 : decode cX5_lots 62 = .ok (.putfield 166, 3) := by decide +kernel
theorem dX5_lots_65 : decode cX5_lots 65 = .ok (.aload_n 0, 1) := by decide +kernel
theorem dX5_lots_66 : decode cX5_lots 66 = .ok (.aload_n 0, 1) := by decide +kernel
theorem dX5_lots_67 : decode cX5_lots 67 = .ok (.getfield 19, 3) := by decide +kernel
theorem dX5_lots_70 : decode cX5_lots 70 = .ok (.iconst 5, 1) := by decide +kernel
theorem dX5_lots_71 : decode cX5_lots 71 = .ok (.iaload, 1) := by decide +kernel
theorem dX5_lots_72 : decode cX5_lots 72 = .ok (.invokevirtual 221, 3) := by decide +kernel
theorem dX5_lots_75 : decode cX5_lots 75 = .ok (.iload_n 3, 1) := by decide +kernel
theorem dX5_lots_76 : decode cX5_lots 76 = .ok (.aload_n 0, 1) := by decide +kernel
theorem dX5_lots_77 : decode cX5_lots 77 = .ok (.getfield 166, 3) := by decide +kernel
theorem dX5_lots_80 : decode cX5_lots 80 = .ok (.ifCond .eq 7, 3) := by decide +kernel
theorem dX5_lots_83 : decode cX5_lots 83 = .ok (.iconst 1, 1) := by decide +kernel
theorem dX5_lots_84 : decode cX5_lots 84 = .ok (.goto 4, 3) := by decide +kernel
theorem dX5_lots_87 : decode cX5_lots 87 = .ok (.iconst 0, 1) := by decide +kernel
theorem dX5_lots_88 : decode cX5_lots 88 = .ok (.iadd, 1) := by decide +kernel
theorem dX5_lots_89 : decode cX5_lots 89 = .ok (.istore_n 3, 1) := by decide +kernel
theorem dX5_lots_90 : decode cX5_lots 90 = .ok (.iinc 4 1, 3) := by decide +kernel
theorem dX5_lots_93 : decode cX5_lots 93 = .ok (.goto (-39), 3) := by decide +kernel
theorem dX5_lots_96 : decode cX5_lots 96 = .ok (.aload_n 0, 1) := by decide +kernel
theorem dX5_lots_97 : decode cX5_lots 97 = .ok (.iconst 0, 1) := by decide +kernel
theorem dX5_lots_98 : decode cX5_lots 98 = .ok (.putfield 163, 3) := by decide +kernel
theorem dX5_lots_101 : decode cX5_lots 101 = .ok (.iload_n 3, 1) := by decide +kernel
theorem dX5_lots_102 : decode cX5_lots 102 = .ok (.ireturn, 1) := by decide +kernel
theorem dX5_count_0 : decode cX5_count 0 = .ok (.iload_n 1, 1) := by decide +kernel
theorem dX5_count_1 : decode cX5_count 1 = .ok (.ifCond .lt 15, 3) := by decide +kernel
theorem dX5_count_4 : decode cX5_count 4 = .ok (.iload_n 1, 1) := by decide +kernel
theorem dX5_count_5 : decode cX5_count 5 = .ok (.iconst 5, 1) := by decide +kernel
theorem dX5_count_6 : decode cX5_count 6 = .ok (.if_icmp .gt 10, 3) := by decide +kernel
theorem dX5_count_9 : decode cX5_count 9 = .ok (.aload_n 0, 1) := by decide +kernel
theorem dX5_count_10 : decode cX5_count 10 = .ok (.getfield 19, 3) := by decide +kernel
theorem dX5_count_13 : decode cX5_count 13 = .ok (.iload_n 1, 1) := by decide +kernel
theorem dX5_count_14 : decode cX5_count 14 = .ok (.iaload, 1) := by decide +kernel
theorem dX5_count_15 : decode cX5_count 15 = .ok (.ireturn, 1) := by decide +kernel
theorem dX5_count_16 : decode cX5_count 16 = .ok (.iload_n 1, 1) := by decide +kernel
theorem dX5_count_17 : decode cX5_count 17 = .ok (.bipush 6, 2) := by decide +kernel
theorem dX5_count_19 : decode cX5_count 19 = .ok (.if_icmp .ne 41, 3) := by decide +kernel
theorem dX5_count_22 : decode cX5_count 22 = .ok (.iconst 0, 1) := by decide +kernel
theorem dX5_count_23 : decode cX5_count 23 = .ok (.istore_n 2, 1) := by decide +kernel
theorem dX5_count_24 : decode cX5_count 24 = .ok (.iconst 0, 1) := by decide +kernel
theorem dX5_count_25 : decode cX5_count 25 = .ok (.istore_n 3, 1) := by decide +kernel
theorem dX5_count_26 : decode cX5_count 26 = .ok (.iload_n 3, 1) := by decide +kernel
theorem dX5_count_27 : decode cX5_count 27 = .ok (.aload_n 0, 1) := by decide +kernel
theorem dX5_count_28 : decode cX5_count 28 = .ok (.getfield 19, 3) := by decide +kernel
theorem dX5_count_31 : decode cX5_count 31 = .ok (.iconst 2, 1) := by decide +kernel
theorem dX5_count_32 : decode cX5_count 32 = .ok (.iaload, 1) := by decide +kernel
theorem dX5_count_33 : decode cX5_count 33 = .ok (.if_icmp .ge 25, 3) := by decide +kernel
theorem dX5_count_36 : decode cX5_count 36 = .ok (.iload_n 2, 1) := by decide +kernel
theorem dX5_count_37 : decode cX5_count 37 = .ok (.aload_n 0, 1) := by decide +kernel
theorem dX5_count_38 : decode cX5_count 38 = .ok (.getfield 19, 3) := by decide +kernel
theorem dX5_count_41 : decode cX5_count 41 = .ok (.bipush 40, 2) := by decide +kernel
theorem dX5_count_43 : decode cX5_count 43 = .ok (.iconst 4, 1) := by decide +kernel
theorem dX5_count_44 : decode cX5_count 44 = .ok (.iload_n 3, 1) := by decide +kernel
theorem dX5_count_45 : decode cX5_count 45 = .ok (.imul, 1) := by decide +kernel
theorem dX5_count_46 : decode cX5_count 46 = .ok (.iadd, 1) := by decide +kernel
theorem dX5_count_47 : decode cX5_count 47 = .ok (.iconst 2, 1) := by decide +kernel
theorem dX5_count_48 : decode cX5_count 48 = .ok (.iadd, 1) := by decide +kernel
theorem dX5_count_49 : decode cX5_count 49 = .ok (.iaload, 1) := by decide +kernel
theorem dX5_count_50 : decode cX5_count 50 = .ok (.iadd, 1) := by decide +kernel
theorem dX5_count_51 : decode cX5_count 51 = .ok (.istore_n 2, 1) := by decide +kernel
theorem dX5_count_52 : decode cX5_count 52 = .ok (.iinc 3 1, 3) := by decide +kernel
theorem dX5_count_55 : decode cX5_count 55 = .ok (.goto (-29), 3) := by decide +kernel
theorem dX5_count_58 : decode cX5_count 58 = .ok (.iload_n 2, 1) := by decide +kernel
theorem dX5_count_59 : decode cX5_count 59 = .ok (.ireturn, 1) := by decide +kernel
theorem dX5_count_60 : decode cX5_count 60 = .ok (.iload_n 1, 1) := by decide +kernel
theorem dX5_count_61 : decode cX5_count 61 = .ok (.bipush 7, 2) := by decide +kernel
theorem dX5_count_63 : decode cX5_count 63 = .ok (.if_icmp .eq 9, 3) := by decide +kernel
theorem dX5_count_66 : decode cX5_count 66 = .ok (.iload_n 1, 1) := by decide +kernel
theorem dX5_count_67 : decode cX5_count 67 = .ok (.bipush 8, 2) := by decide +kernel
theorem dX5_count_69 : decode cX5_count 69 = .ok (.if_icmp .ne 21, 3) := by decide +kernel
theorem dX5_count_72 : decode cX5_count 72 = .ok (.iload_n 1, 1) := by decide +kernel
theorem dX5_count_73 : decode cX5_count 73 = .ok (.bipush 7, 2) := by decide +kernel
theorem dX5_count_75 : decode cX5_count 75 = .ok (.if_icmp .ne 10, 3) := by decide +kernel
theorem dX5_count_78 : decode cX5_count 78 = .ok (.aload_n 0, 1) := by decide +kernel
theorem dX5_count_79 : decode cX5_count 79 = .ok (.getfield 209, 3) := by decide +kernel
theorem dX5_count_82 : decode cX5_count 82 = .ok (.goto 7, 3) := by decide +kernel
theorem dX5_count_85 : decode cX5_count 85 = .ok (.aload_n 0, 1) := by decide +kernel
theorem dX5_count_86 : decode cX5_count 86 = .ok (.getfield 74, 3) := by decide +kernel
theorem dX5_count_89 : decode cX5_count 89 = .ok (.ireturn, 1) := by decide +kernel
theorem dX5_count_90 : decode cX5_count 90 = .ok (.iload_n 1, 1) := by decide +kernel
theorem dX5_count_91 : decode cX5_count 91 = .ok (.bipush 11, 2) := by decide +kernel
theorem dX5_count_93 : decode cX5_count 93 = .ok (.if_icmp .lt 21, 3) := by decide +kernel
theorem dX5_count_96 : decode cX5_count 96 = .ok (.iload_n 1, 1) := by decide +kernel
theorem dX5_count_97 : decode cX5_count 97 = .ok (.bipush 16, 2) := by decide +kernel
theorem dX5_count_99 : decode cX5_count 99 = .ok (.if_icmp .gt 15, 3) := by decide +kernel
theorem dX5_count_102 : decode cX5_count 102 = .ok (.aload_n 0, 1) := by decide +kernel
theorem dX5_count_103 : decode cX5_count 103 = .ok (.getfield 1, 3) := by decide +kernel
theorem dX5_count_106 : decode cX5_count 106 = .ok (.iload_n 1, 1) := by decide +kernel
theorem dX5_count_107 : decode cX5_count 107 = .ok (.bipush 10, 2) := by decide +kernel
theorem dX5_count_109 : decode cX5_count 109 = .ok (.isub, 1) := by decide +kernel
theorem dX5_count_110 : decode cX5_count 110 = .ok (.iaload, 1) := by decide +kernel
theorem dX5_count_111 : decode cX5_count 111 = .ok (.goto 5, 3) := by decide +kernel
theorem dX5_count_114 : decode cX5_count 114 = .ok (.bipush (-9), 2) := by decide +kernel
theorem dX5_count_116 : decode cX5_count 116 = .ok (.ireturn, 1) := by decide +kernel
theorem dJ0_length_8abf5_0 : decode cJ0_length_8abf5 0 = .ok (.aload_n 0, 1) := by decide +kernel
theorem dJ0_length_8abf5_1 : decode cJ0_length_8abf5 1 = .ok (.getfield 9, 3) := by decide +kernel
theorem dJ0_length_8abf5_4 : decode cJ0_length_8abf5 4 = .ok (.arraylength, 1) := by decide +kernel
theorem dJ0_length_8abf5_5 : decode cJ0_length_8abf5 5 = .ok (.aload_n 0, 1) := by decide +kernel
theorem dJ0_length_8abf5_6 : decode cJ0_length_8abf5 6 = .ok (.invokevirtual 335, 3) := by decide +kernel
theorem dJ0_length_8abf5_9 : decode cJ0_length_8abf5 9 = .ok (.ishr, 1) := by decide +kernel
theorem dJ0_length_8abf5_10 : decode cJ0_length_8abf5 10 = .ok (.ireturn, 1) := by decide +kernel
theorem dJ0_isEmpty_aae02_0 : decode cJ0_isEmpty_aae02 0 = .ok (.aload_n 0, 1) := by decide +kernel
theorem dJ0_isEmpty_aae02_1 : decode cJ0_isEmpty_aae02 1 = .ok (.getfield 9, 3) := by decide +kernel
theorem dJ0_isEmpty_aae02_4 : decode cJ0_isEmpty_aae02 4 = .ok (.arraylength, 1) := by decide +kernel
theorem dJ0_isEmpty_aae02_5 : decode cJ0_isEmpty_aae02 5 = .ok (.ifCond .ne 7, 3) := by decide +kernel
theorem dJ0_isEmpty_aae02_8 : decode cJ0_isEmpty_aae02 8 = .ok (.iconst 1, 1) := by decide +kernel
theorem dJ0_isEmpty_aae02_9 : decode cJ0_isEmpty_aae02 9 = .ok (.goto 4, 3) := by decide +kernel
theorem dJ0_isEmpty_aae02_12 : decode cJ0_isEmpty_aae02 12 = .ok (.iconst 0, 1) := by decide +kernel
theorem dJ0_isEmpty_aae02_13 : decode cJ0_isEmpty_aae02 13 = .ok (.ireturn, 1) := by decide +kernel
theorem dJ0_charAt_5068e_0 : decode cJ0_charAt_5068e 0 = .ok (.aload_n 0, 1) := by decide +kernel
theorem dJ0_charAt_5068e_1 : decode cJ0_charAt_5068e 1 = .ok (.invokevirtual 492, 3) := by decide +kernel
theorem dJ0_charAt_5068e_4 : decode cJ0_charAt_5068e 4 = .ok (.ifCond .eq 12, 3) := by decide +kernel
theorem dJ0_charAt_5068e_7 : decode cJ0_charAt_5068e 7 = .ok (.aload_n 0, 1) := by decide +kernel
theorem dJ0_charAt_5068e_8 : decode cJ0_charAt_5068e 8 = .ok (.getfield 9, 3) := by decide +kernel
theorem dJ0_charAt_5068e_11 : decode cJ0_charAt_5068e 11 = .ok (.iload_n 1, 1) := by decide +kernel
theorem dJ0_charAt_5068e_12 : decode cJ0_charAt_5068e 12 = .ok (.invokestatic 495, 3) := by decide +kernel
theorem dJ0_charAt_5068e_15 : decode cJ0_charAt_5068e 15 = .ok (.ireturn, 1) := by decide +kernel
theorem dJ0_charAt_5068e_16 : decode cJ0_charAt_5068e 16 = .ok (.aload_n 0, 1) := by decide +kernel
theorem dJ0_charAt_5068e_17 : decode cJ0_charAt_5068e 17 = .ok (.getfield 9, 3) := by decide +kernel
theorem dJ0_charAt_5068e_20 : decode cJ0_charAt_5068e 20 = .ok (.iload_n 1, 1) := by decide +kernel
theorem dJ0_charAt_5068e_21 : decode cJ0_charAt_5068e 21 = .ok (.invokestatic 498, 3) := by decide +kernel
theorem dJ0_charAt_5068e_24 : decode cJ0_charAt_5068e 24 = .ok (.ireturn, 1) := by decide +kernel
theorem dJ0_indexOf_0f7a4_0 : decode cJ0_indexOf_0f7a4 0 = .ok (.aload_n 0, 1) := by decide +kernel
theorem dJ0_indexOf_0f7a4_1 : decode cJ0_indexOf_0f7a4 1 = .ok (.iload_n 1, 1) := by decide +kernel
theorem dJ0_indexOf_0f7a4_2 : decode cJ0_indexOf_0f7a4 2 = .ok (.iconst 0, 1) := by decide +kernel
theorem dJ0_indexOf_0f7a4_3 : decode cJ0_indexOf_0f7a4 3 = .ok (.invokevirtual 633, 3) := by decide +kernel
theorem dJ0_indexOf_0f7a4_6 : decode cJ0_indexOf_0f7a4 6 = .ok (.ireturn, 1) := by decide +kernel
theorem dJ0_indexOf_7cf53_0 : decode cJ0_indexOf_7cf53 0 = .ok (.aload_n 0, 1) := by decide +kernel
theorem dJ0_indexOf_7cf53_1 : decode cJ0_indexOf_7cf53 1 = .ok (.invokevirtual 492, 3) := by decide +kernel
theorem dJ0_indexOf_7cf53_4 : decode cJ0_indexOf_7cf53 4 = .ok (.ifCond .eq 19, 3) := by decide +kernel
theorem dJ0_indexOf_7cf53_7 : decode cJ0_indexOf_7cf53 7 = .ok (.aload_n 0, 1) := by decide +kernel
theorem dJ0_indexOf_7cf53_8 : decode cJ0_indexOf_7cf53 8 = .ok (.getfield 9, 3) := by decide +kernel
theorem dJ0_indexOf_7cf53_11 : decode cJ0_indexOf_7cf53 11 = .ok (.iload_n 1, 1) := by decide +kernel
theorem dJ0_indexOf_7cf53_12 : decode cJ0_indexOf_7cf53 12 = .ok (.iload_n 2, 1) := by decide +kernel
theorem dJ0_indexOf_7cf53_13 : decode cJ0_indexOf_7cf53 13 = .ok (.aload_n 0, 1) := by decide +kernel
theorem dJ0_indexOf_7cf53_14 : decode cJ0_indexOf_7cf53 14 = .ok (.invokevirtual 505, 3) := by decide +kernel
theorem dJ0_indexOf_7cf53_17 : decode cJ0_indexOf_7cf53 17 = .ok (.invokestatic 637, 3) := by decide +kernel
theorem dJ0_indexOf_7cf53_20 : decode cJ0_indexOf_7cf53 20 = .ok (.goto 16, 3) := by decide +kernel
theorem dJ0_indexOf_7cf53_23 : decode cJ0_indexOf_7cf53 23 = .ok (.aload_n 0, 1) := by decide +kernel
theorem dJ0_indexOf_7cf53_24 : decode cJ0_indexOf_7cf53 24 = .ok (.getfield 9, 3) := by decide +kernel
theorem dJ0_indexOf_7cf53_27 : decode cJ0_indexOf_7cf53 27 = .ok (.iload_n 1, 1) := by decide +kernel
theorem dJ0_indexOf_7cf53_28 : decode cJ0_indexOf_7cf53 28 = .ok (.iload_n 2, 1) := by decide +kernel
theorem dJ0_indexOf_7cf53_29 : decode cJ0_indexOf_7cf53 29 = .ok (.aload_n 0, 1) := by decide +kernel
theorem dJ0_indexOf_7cf53_30 : decode cJ0_indexOf_7cf53 30 = .ok (.invokevirtual 505, 3) := by decide +kernel
theorem dJ0_indexOf_7cf53_33 : decode cJ0_indexOf_7cf53 33 = .ok (.invokestatic 640, 3) := by decide +kernel
theorem dJ0_indexOf_7cf53_36 : decode cJ0_indexOf_7cf53 36 = .ok (.ireturn, 1) := by decide +kernel
theorem dJ0_coder_7d493_0 : decode cJ0_coder_7d493 0 = .ok (.getstatic 38, 3) := by decide +kernel
theorem dJ0_coder_7d493_3 : decode cJ0_coder_7d493 3 = .ok (.ifCond .eq 10, 3) := by decide +kernel
theorem dJ0_coder_7d493_6 : decode cJ0_coder_7d493 6 = .ok (.aload_n 0, 1) := by decide +kernel
theorem dJ0_coder_7d493_7 : decode cJ0_coder_7d493 7 = .ok (.getfield 15, 3) := by decide +kernel
theorem dJ0_coder_7d493_10 : decode cJ0_coder_7d493 10 = .ok (.goto 4, 3) := by decide +kernel
theorem dJ0_coder_7d493_13 : decode cJ0_coder_7d493 13 = .ok (.iconst 1, 1) := by decide +kernel
theorem dJ0_coder_7d493_14 : decode cJ0_coder_7d493 14 = .ok (.ireturn, 1) := by decide +kernel
theorem dJ0_isLatin1_aae02_0 : decode cJ0_isLatin1_aae02 0 = .ok (.getstatic 38, 3) := by decide +kernel
theorem dJ0_isLatin1_aae02_3 : decode cJ0_isLatin1_aae02 3 = .ok (.ifCond .eq 14, 3) := by decide +kernel
theorem dJ0_isLatin1_aae02_6 : decode cJ0_isLatin1_aae02 6 = .ok (.aload_n 0, 1) := by decide +kernel
theorem dJ0_isLatin1_aae02_7 : decode cJ0_isLatin1_aae02 7 = .ok (.getfield 15, 3) := by decide +kernel
theorem dJ0_isLatin1_aae02_10 : decode cJ0_isLatin1_aae02 10 = .ok (.ifCond .ne 7, 3) := by decide +kernel
theorem dJ0_isLatin1_aae02_13 : decode cJ0_isLatin1_aae02 13 = .ok (.iconst 1, 1) := by decide +kernel
theorem dJ0_isLatin1_aae02_14 : decode cJ0_isLatin1_aae02 14 = .ok (.goto 4, 3) := by decide +kernel
theorem dJ0_isLatin1_aae02_17 : decode cJ0_isLatin1_aae02 17 = .ok (.iconst 0, 1) := by decide +kernel
theorem dJ0_isLatin1_aae02_18 : decode cJ0_isLatin1_aae02 18 = .ok (.ireturn, 1) := by decide +kernel
theorem dJ0_checkIndex_df160_0 : decode cJ0_checkIndex_df160 0 = .ok (.iload_n 0, 1) := by decide +kernel
theorem dJ0_checkIndex_df160_1 : decode cJ0_checkIndex_df160 1 = .ok (.iload_n 1, 1) := by decide +kernel
theorem dJ0_checkIndex_df160_2 : decode cJ0_checkIndex_df160 2 = .ok (.getstatic 1053, 3) := by decide +kernel
theorem dJ0_checkIndex_df160_5 : decode cJ0_checkIndex_df160 5 = .ok (.invokestatic 1059, 3) := by decide +kernel
theorem dJ0_checkIndex_df160_8 : decode cJ0_checkIndex_df160 8 = .ok (.pop, 1) := by decide +kernel
theorem dJ0_checkIndex_df160_9 : decode cJ0_checkIndex_df160 9 = .ok (.return_, 1) := by decide +kernel
theorem dJ1_charAt_3b067_0 : decode cJ1_charAt_3b067 0 = .ok (.iload_n 1, 1) := by decide +kernel
theorem dJ1_charAt_3b067_1 : decode cJ1_charAt_3b067 1 = .ok (.aload_n 0, 1) := by decide +kernel
theorem dJ1_charAt_3b067_2 : decode cJ1_charAt_3b067 2 = .ok (.arraylength, 1) := by decide +kernel
theorem dJ1_charAt_3b067_3 : decode cJ1_charAt_3b067 3 = .ok (.invokestatic 9, 3) := by decide +kernel
theorem dJ1_charAt_3b067_6 : decode cJ1_charAt_3b067 6 = .ok (.aload_n 0, 1) := by decide +kernel
theorem dJ1_charAt_3b067_7 : decode cJ1_charAt_3b067 7 = .ok (.iload_n 1, 1) := by decide +kernel
theorem dJ1_charAt_3b067_8 : decode cJ1_charAt_3b067 8 = .ok (.baload, 1) := by decide +kernel
theorem dJ1_charAt_3b067_9 : decode cJ1_charAt_3b067 9 = .ok (.sipush 255, 3) := by decide +kernel
theorem dJ1_charAt_3b067_12 : decode cJ1_charAt_3b067 12 = .ok (.iand, 1) := by decide +kernel
theorem dJ1_charAt_3b067_13 : decode cJ1_charAt_3b067 13 = .ok (.i2c, 1) := by decide +kernel
theorem dJ1_charAt_3b067_14 : decode cJ1_charAt_3b067 14 = .ok (.ireturn, 1) := by decide +kernel
theorem dJ1_canEncode_9a6ad_0 : decode cJ1_canEncode_9a6ad 0 = .ok (.iload_n 0, 1) := by decide +kernel
theorem dJ1_canEncode_9a6ad_1 : decode cJ1_canEncode_9a6ad 1 = .ok (.ifCond .lt 14, 3) := by decide +kernel
theorem dJ1_canEncode_9a6ad_4 : decode cJ1_canEncode_9a6ad 4 = .ok (.iload_n 0, 1) := by decide +kernel
theorem dJ1_canEncode_9a6ad_5 : decode cJ1_canEncode_9a6ad 5 = .ok (.sipush 255, 3) := by decide +kernel
theorem dJ1_canEncode_9a6ad_8 : decode cJ1_canEncode_9a6ad 8 = .ok (.if_icmp .gt 7, 3) := by decide +kernel
theorem dJ1_canEncode_9a6ad_11 : decode cJ1_canEncode_9a6ad 11 = .ok (.iconst 1, 1) := by decide +kernel
theorem dJ1_canEncode_9a6ad_12 : decode cJ1_canEncode_9a6ad 12 = .ok (.goto 4, 3) := by decide +kernel
theorem dJ1_canEncode_9a6ad_15 : decode cJ1_canEncode_9a6ad 15 = .ok (.iconst 0, 1) := by decide +kernel
theorem dJ1_canEncode_9a6ad_16 : decode cJ1_canEncode_9a6ad 16 = .ok (.ireturn, 1) := by decide +kernel
theorem dJ1_indexOf_4cfef_0 : decode cJ1_indexOf_4cfef 0 = .ok (.iload_n 1, 1) := by decide +kernel
theorem dJ1_indexOf_4cfef_1 : decode cJ1_indexOf_4cfef 1 = .ok (.invokestatic 88, 3) := by decide +kernel
theorem dJ1_indexOf_4cfef_4 : decode cJ1_indexOf_4cfef 4 = .ok (.ifCond .ne 5, 3) := by decide +kernel
theorem dJ1_indexOf_4cfef_7 : decode cJ1_indexOf_4cfef 7 = .ok (.iconst (-1), 1) := by decide +kernel
theorem dJ1_indexOf_4cfef_8 : decode cJ1_indexOf_4cfef 8 = .ok (.ireturn, 1) := by decide +kernel
theorem dJ1_indexOf_4cfef_9 : decode cJ1_indexOf_4cfef 9 = .ok (.iload_n 2, 1) := by decide +kernel
theorem dJ1_indexOf_4cfef_10 : decode cJ1_indexOf_4cfef 10 = .ok (.iconst 0, 1) := by decide +kernel
theorem dJ1_indexOf_4cfef_11 : decode cJ1_indexOf_4cfef 11 = .ok (.invokestatic 92, 3) := by decide +kernel
theorem dJ1_indexOf_4cfef_14 : decode cJ1_indexOf_4cfef 14 = .ok (.istore_n 2, 1) := by decide +kernel
theorem dJ1_indexOf_4cfef_15 : decode cJ1_indexOf_4cfef 15 = .ok (.iload_n 3, 1) := by decide +kernel
theorem dJ1_indexOf_4cfef_16 : decode cJ1_indexOf_4cfef 16 = .ok (.aload_n 0, 1) := by decide +kernel
theorem dJ1_indexOf_4cfef_17 : decode cJ1_indexOf_4cfef 17 = .ok (.arraylength, 1) := by decide +kernel
theorem dJ1_indexOf_4cfef_18 : decode cJ1_indexOf_4cfef 18 = .ok (.invokestatic 38, 3) := by decide +kernel
theorem dJ1_indexOf_4cfef_21 : decode cJ1_indexOf_4cfef 21 = .ok (.istore_n 3, 1) := by decide +kernel
theorem dJ1_indexOf_4cfef_22 : decode cJ1_indexOf_4cfef 22 = .ok (.iload_n 2, 1) := by decide +kernel
theorem dJ1_indexOf_4cfef_23 : decode cJ1_indexOf_4cfef 23 = .ok (.iload_n 3, 1) := by decide +kernel
theorem dJ1_indexOf_4cfef_24 : decode cJ1_indexOf_4cfef 24 = .ok (.if_icmp .lt 5, 3) := by decide +kernel
theorem dJ1_indexOf_4cfef_27 : decode cJ1_indexOf_4cfef 27 = .ok (.iconst (-1), 1) := by decide +kernel
theorem dJ1_indexOf_4cfef_28 : decode cJ1_indexOf_4cfef 28 = .ok (.ireturn, 1) := by decide +kernel
theorem dJ1_indexOf_4cfef_29 : decode cJ1_indexOf_4cfef 29 = .ok (.aload_n 0, 1) := by decide +kernel
theorem dJ1_indexOf_4cfef_30 : decode cJ1_indexOf_4cfef 30 = .ok (.iload_n 1, 1) := by decide +kernel
theorem dJ1_indexOf_4cfef_31 : decode cJ1_indexOf_4cfef 31 = .ok (.iload_n 2, 1) := by decide +kernel
theorem dJ1_indexOf_4cfef_32 : decode cJ1_indexOf_4cfef 32 = .ok (.iload_n 3, 1) := by decide +kernel
theorem dJ1_indexOf_4cfef_33 : decode cJ1_indexOf_4cfef 33 = .ok (.invokestatic 95, 3) := by decide +kernel
theorem dJ1_indexOf_4cfef_36 : decode cJ1_indexOf_4cfef 36 = .ok (.ireturn, 1) := by decide +kernel
theorem dJ1_indexOfChar_4cfef_0 : decode cJ1_indexOfChar_4cfef 0 = .ok (.iload_n 1, 1) := by decide +kernel
theorem dJ1_indexOfChar_4cfef_1 : decode cJ1_indexOfChar_4cfef 1 = .ok (.i2b, 1) := by decide +kernel
theorem dJ1_indexOfChar_4cfef_2 : decode cJ1_indexOfChar_4cfef 2 = .ok (.istore 4, 2) := by decide +kernel
theorem dJ1_indexOfChar_4cfef_4 : decode cJ1_indexOfChar_4cfef 4 = .ok (.iload_n 2, 1) := by decide +kernel
theorem dJ1_indexOfChar_4cfef_5 : decode cJ1_indexOfChar_4cfef 5 = .ok (.istore 5, 2) := by decide +kernel
theorem dJ1_indexOfChar_4cfef_7 : decode cJ1_indexOfChar_4cfef 7 = .ok (.iload 5, 2) := by decide +kernel
theorem dJ1_indexOfChar_4cfef_9 : decode cJ1_indexOfChar_4cfef 9 = .ok (.iload_n 3, 1) := by decide +kernel
theorem dJ1_indexOfChar_4cfef_10 : decode cJ1_indexOfChar_4cfef 10 = .ok (.if_icmp .ge 21, 3) := by decide +kernel
theorem dJ1_indexOfChar_4cfef_13 : decode cJ1_indexOfChar_4cfef 13 = .ok (.aload_n 0, 1) := by decide +kernel
theorem dJ1_indexOfChar_4cfef_14 : decode cJ1_indexOfChar_4cfef 14 = .ok (.iload 5, 2) := by decide +kernel
theorem dJ1_indexOfChar_4cfef_16 : decode cJ1_indexOfChar_4cfef 16 = .ok (.baload, 1) := by decide +kernel
theorem dJ1_indexOfChar_4cfef_17 : decode cJ1_indexOfChar_4cfef 17 = .ok (.iload 4, 2) := by decide +kernel
theorem dJ1_indexOfChar_4cfef_19 : decode cJ1_indexOfChar_4cfef 19 = .ok (.if_icmp .ne 6, 3) := by decide +kernel
theorem dJ1_indexOfChar_4cfef_22 : decode cJ1_indexOfChar_4cfef 22 = .ok (.iload 5, 2) := by decide +kernel
theorem dJ1_indexOfChar_4cfef_24 : decode cJ1_indexOfChar_4cfef 24 = .ok (.ireturn, 1) := by decide +kernel
theorem dJ1_indexOfChar_4cfef_25 : decode cJ1_indexOfChar_4cfef 25 = .ok (.iinc 5 1, 3) := by decide +kernel
theorem dJ1_indexOfChar_4cfef_28 : decode cJ1_indexOfChar_4cfef 28 = .ok (.goto (-21), 3) := by decide +kernel
theorem dJ1_indexOfChar_4cfef_31 : decode cJ1_indexOfChar_4cfef 31 = .ok (.iconst (-1), 1) := by decide +kernel
theorem dJ1_indexOfChar_4cfef_32 : decode cJ1_indexOfChar_4cfef 32 = .ok (.ireturn, 1) := by decide +kernel
theorem dJ3_checkIndex_8e157_0 : decode cJ3_checkIndex_8e157 0 = .ok (.iload_n 0, 1) := by decide +kernel
theorem dJ3_checkIndex_8e157_1 : decode cJ3_checkIndex_8e157 1 = .ok (.ifCond .lt 8, 3) := by decide +kernel
theorem dJ3_checkIndex_8e157_4 : decode cJ3_checkIndex_8e157 4 = .ok (.iload_n 0, 1) := by decide +kernel
theorem dJ3_checkIndex_8e157_5 : decode cJ3_checkIndex_8e157 5 = .ok (.iload_n 1, 1) := by decide +kernel
theorem dJ3_checkIndex_8e157_6 : decode cJ3_checkIndex_8e157 6 = .ok (.if_icmp .lt 10, 3) := by decide +kernel
theorem dJ3_checkIndex_8e157_9 : decode cJ3_checkIndex_8e157 9 = .ok (.aload_n 2, 1) := by decide +kernel
theorem dJ3_checkIndex_8e157_10 : decode cJ3_checkIndex_8e157 10 = .ok (.iload_n 0, 1) := by decide +kernel
theorem dJ3_checkIndex_8e157_11 : decode cJ3_checkIndex_8e157 11 = .ok (.iload_n 1, 1) := by decide +kernel
theorem dJ3_checkIndex_8e157_12 : decode cJ3_checkIndex_8e157 12 = .ok (.invokestatic 95, 3) := by decide +kernel
theorem dJ3_checkIndex_8e157_15 : decode cJ3_checkIndex_8e157 15 = .ok (.athrow, 1) := by decide +kernel
theorem dJ3_checkIndex_8e157_16 : decode cJ3_checkIndex_8e157 16 = .ok (.iload_n 0, 1) := by decide +kernel
theorem dJ3_checkIndex_8e157_17 : decode cJ3_checkIndex_8e157 17 = .ok (.ireturn, 1) := by decide +kernel
