theorem dX1_init_0 : decode cX1_init 0 = .ok (.aload_n 0, 1) := by decide +kernel
theorem dX1_init_1 : decode cX1_init 1 = .ok (.invokespecial 1, 3) := by decide +kernel
theorem dX1_init_4 : decode cX1_init 4 = .ok (.aload_n 0, 1) := by decide +kernel
theorem dX1_init_5 : decode cX1_init 5 = .ok (.sipush 160, 3) := by decide +kernel
theorem dX1_init_8 : decode cX1_init 8 = .ok (.newarray .int, 2) := by decide +kernel
theorem dX1_init_10 : decode cX1_init 10 = .ok (.putfield 9, 3) := by decide +kernel
theorem dX1_init_13 : decode cX1_init 13 = .ok (.aload_n 0, 1) := by decide +kernel
theorem dX1_init_14 : decode cX1_init 14 = .ok (.new 13, 3) := by decide +kernel
theorem dX1_init_17 : decode cX1_init 17 = .ok (.dup, 1) := by decide +kernel
theorem dX1_init_18 : decode cX1_init 18 = .ok (.invokespecial 15, 3) := by decide +kernel
theorem dX1_init_21 : decode cX1_init 21 = .ok (.putfield 16, 3) := by decide +kernel
theorem dX1_init_24 : decode cX1_init 24 = .ok (.aload_n 0, 1) := by decide +kernel
theorem dX1_init_25 : decode cX1_init 25 = .ok (.new 20, 3) := by decide +kernel
theorem dX1_init_28 : decode cX1_init 28 = .ok (.dup, 1) := by decide +kernel
theorem dX1_init_29 : decode cX1_init 29 = .ok (.invokespecial 22, 3) := by decide +kernel
theorem dX1_init_32 : decode cX1_init 32 = .ok (.putfield 23, 3) := by decide +kernel
theorem dX1_init_35 : decode cX1_init 35 = .ok (.aload_n 0, 1) := by decide +kernel
theorem dX1_init_36 : decode cX1_init 36 = .ok (.new 20, 3) := by decide +kernel
theorem dX1_init_39 : decode cX1_init 39 = .ok (.dup, 1) := by decide +kernel
theorem dX1_init_40 : decode cX1_init 40 = .ok (.invokespecial 22, 3) := by decide +kernel
theorem dX1_init_43 : decode cX1_init 43 = .ok (.putfield 27, 3) := by decide +kernel
theorem dX1_init_46 : decode cX1_init 46 = .ok (.aload_n 0, 1) := by decide +kernel
theorem dX1_init_47 : decode cX1_init 47 = .ok (.new 20, 3) := by decide +kernel
theorem dX1_init_50 : decode cX1_init 50 = .ok (.dup, 1) := by decide +kernel
theorem dX1_init_51 : decode cX1_init 51 = .ok (.invokespecial 22, 3) := by decide +kernel
theorem dX1_init_54 : decode cX1_init 54 = .ok (.putfield 30, 3) := by decide +kernel
theorem dX1_init_57 : decode cX1_init 57 = .ok (.aload_n 0, 1) := by decide +kernel
theorem dX1_init_58 : decode cX1_init 58 = .ok (.new 20, 3) := by decide +kernel
theorem dX1_init_61 : decode cX1_init 61 = .ok (.dup, 1) := by decide +kernel
theorem dX1_init_62 : decode cX1_init 62 = .ok (.invokespecial 22, 3) := by decide +kernel
theorem dX1_init_65 : decode cX1_init 65 = .ok (.putfield 33, 3) := by decide +kernel
theorem dX1_init_68 : decode cX1_init 68 = .ok (.aload_n 0, 1) := by decide +kernel
theorem dX1_init_69 : decode cX1_init 69 = .ok (.new 20, 3) := by decide +kernel
theorem dX1_init_72 : decode cX1_init 72 = .ok (.dup, 1) := by decide +kernel
theorem dX1_init_73 : decode cX1_init 73 = .ok (.invokespecial 22, 3) := by decide +kernel
theorem dX1_init_76 : decode cX1_init 76 = .ok (.putfield 36, 3) := by decide +kernel
theorem dX1_init_79 : decode cX1_init 79 = .ok (.return_, 1) := by decide +kernel
theorem dX1_byteAt_0 : decode cX1_byteAt 0 = .ok (.iload_n 1, 1) := by decide +kernel
theorem dX1_byteAt_1 : decode cX1_byteAt 1 = .ok (.ifCond .lt 19, 3) := by decide +kernel
theorem dX1_byteAt_4 : decode cX1_byteAt 4 = .ok (.iload_n 1, 1) := by decide +kernel
theorem dX1_byteAt_5 : decode cX1_byteAt 5 = .ok (.sipush 160, 3) := by decide +kernel
theorem dX1_byteAt_8 : decode cX1_byteAt 8 = .ok (.if_icmp .ge 12, 3) := by decide +kernel
theorem dX1_byteAt_11 : decode cX1_byteAt 11 = .ok (.aload_n 0, 1) := by decide +kernel
theorem dX1_byteAt_12 : decode cX1_byteAt 12 = .ok (.getfield 9, 3) := by decide +kernel
theorem dX1_byteAt_15 : decode cX1_byteAt 15 = .ok (.iload_n 1, 1) := by decide +kernel
theorem dX1_byteAt_16 : decode cX1_byteAt 16 = .ok (.iaload, 1) := by decide +kernel
theorem dX1_byteAt_17 : decode cX1_byteAt 17 = .ok (.goto 4, 3) := by decide +kernel
theorem dX1_byteAt_20 : decode cX1_byteAt 20 = .ok (.iconst (-1), 1) := by decide +kernel
theorem dX1_byteAt_21 : decode cX1_byteAt 21 = .ok (.ireturn, 1) := by decide +kernel
theorem dX1_putNaR_0 : decode cX1_putNaR 0 = .ok (.aload_n 0, 1) := by decide +kernel
theorem dX1_putNaR_1 : decode cX1_putNaR 1 = .ok (.iconst 0, 1) := by decide +kernel
theorem dX1_putNaR_2 : decode cX1_putNaR 2 = .ok (.putfield 39, 3) := by decide +kernel
theorem dX1_putNaR_5 : decode cX1_putNaR 5 = .ok (.aload_n 0, 1) := by decide +kernel
theorem dX1_putNaR_6 : decode cX1_putNaR 6 = .ok (.bipush 78, 2) := by decide +kernel
theorem dX1_putNaR_8 : decode cX1_putNaR 8 = .ok (.invokevirtual 43, 3) := by decide +kernel
theorem dX1_putNaR_11 : decode cX1_putNaR 11 = .ok (.aload_n 0, 1) := by decide +kernel
theorem dX1_putNaR_12 : decode cX1_putNaR 12 = .ok (.bipush 97, 2) := by decide +kernel
theorem dX1_putNaR_14 : decode cX1_putNaR 14 = .ok (.invokevirtual 43, 3) := by decide +kernel
theorem dX1_putNaR_17 : decode cX1_putNaR 17 = .ok (.aload_n 0, 1) := by decide +kernel
theorem dX1_putNaR_18 : decode cX1_putNaR 18 = .ok (.bipush 82, 2) := by decide +kernel
theorem dX1_putNaR_20 : decode cX1_putNaR 20 = .ok (.invokevirtual 43, 3) := by decide +kernel
theorem dX1_putNaR_23 : decode cX1_putNaR 23 = .ok (.return_, 1) := by decide +kernel
theorem dX1_putNought_0 : decode cX1_putNought 0 = .ok (.aload_n 0, 1) := by decide +kernel
theorem dX1_putNought_1 : decode cX1_putNought 1 = .ok (.iconst 0, 1) := by decide +kernel
theorem dX1_putNought_2 : decode cX1_putNought 2 = .ok (.putfield 39, 3) := by decide +kernel
theorem dX1_putNought_5 : decode cX1_putNought 5 = .ok (.aload_n 0, 1) := by decide +kernel
theorem dX1_putNought_6 : decode cX1_putNought 6 = .ok (.bipush 48, 2) := by decide +kernel
theorem dX1_putNought_8 : decode cX1_putNought 8 = .ok (.invokevirtual 43, 3) := by decide +kernel
theorem dX1_putNought_11 : decode cX1_putNought 11 = .ok (.return_, 1) := by decide +kernel
theorem dX1_putFull_0 : decode cX1_putFull 0 = .ok (.aload_n 0, 1) := by decide +kernel
theorem dX1_putFull_1 : decode cX1_putFull 1 = .ok (.iconst 0, 1) := by decide +kernel
theorem dX1_putFull_2 : decode cX1_putFull 2 = .ok (.putfield 39, 3) := by decide +kernel
theorem dX1_putFull_5 : decode cX1_putFull 5 = .ok (.iconst 0, 1) := by decide +kernel
theorem dX1_putFull_6 : decode cX1_putFull 6 = .ok (.aload_n 1, 1) := by decide +kernel
theorem dX1_putFull_7 : decode cX1_putFull 7 = .ok (.getfield 47, 3) := by decide +kernel
theorem dX1_putFull_10 : decode cX1_putFull 10 = .ok (.ineg, 1) := by decide +kernel
theorem dX1_putFull_11 : decode cX1_putFull 11 = .ok (.invokestatic 50, 3) := by decide +kernel
theorem dX1_putFull_14 : decode cX1_putFull 14 = .ok (.istore_n 2, 1) := by decide +kernel
theorem dX1_putFull_15 : decode cX1_putFull 15 = .ok (.aload_n 0, 1) := by decide +kernel
theorem dX1_putFull_16 : decode cX1_putFull 16 = .ok (.getfield 23, 3) := by decide +kernel
theorem dX1_putFull_19 : decode cX1_putFull 19 = .ok (.aload_n 1, 1) := by decide +kernel
theorem dX1_putFull_20 : decode cX1_putFull 20 = .ok (.getfield 56, 3) := by decide +kernel
theorem dX1_putFull_23 : decode cX1_putFull 23 = .ok (.invokevirtual 60, 3) := by decide +kernel
theorem dX1_putFull_26 : decode cX1_putFull 26 = .ok (.aload_n 0, 1) := by decide +kernel
theorem dX1_putFull_27 : decode cX1_putFull 27 = .ok (.getfield 23, 3) := by decide +kernel
theorem dX1_putFull_30 : decode cX1_putFull 30 = .ok (.iconst 0, 1) := by decide +kernel
theorem dX1_putFull_31 : decode cX1_putFull 31 = .ok (.aload_n 1, 1) := by decide +kernel
theorem dX1_putFull_32 : decode cX1_putFull 32 = .ok (.getfield 47, 3) := by decide +kernel
theorem dX1_putFull_35 : decode cX1_putFull 35 = .ok (.invokestatic 50, 3) := by decide +kernel
theorem dX1_putFull_38 : decode cX1_putFull 38 = .ok (.invokevirtual 64, 3) := by decide +kernel
theorem dX1_putFull_41 : decode cX1_putFull 41 = .ok (.aload_n 0, 1) := by decide +kernel
theorem dX1_putFull_42 : decode cX1_putFull 42 = .ok (.getfield 23, 3) := by decide +kernel
theorem dX1_putFull_45 : decode cX1_putFull 45 = .ok (.ldc2_w 67, 3) := by decide +kernel
theorem dX1_putFull_48 : decode cX1_putFull 48 = .ok (.iload_n 2, 1) := by decide +kernel
theorem dX1_putFull_49 : decode cX1_putFull 49 = .ok (.invokevirtual 69, 3) := by decide +kernel
theorem dX1_putFull_52 : decode cX1_putFull 52 = .ok (.iconst 0, 1) := by decide +kernel
theorem dX1_putFull_53 : decode cX1_putFull 53 = .ok (.istore_n 3, 1) := by decide +kernel
theorem dX1_putFull_54 : decode cX1_putFull 54 = .ok (.iload_n 3, 1) := by decide +kernel
theorem dX1_putFull_55 : decode cX1_putFull 55 = .ok (.sipush 160, 3) := by decide +kernel
theorem dX1_putFull_58 : decode cX1_putFull 58 = .ok (.if_icmp .ge 53, 3) := by decide +kernel
theorem dX1_putFull_61 : decode cX1_putFull 61 = .ok (.iload_n 3, 1) := by decide +kernel
theorem dX1_putFull_62 : decode cX1_putFull 62 = .ok (.iload_n 2, 1) := by decide +kernel
theorem dX1_putFull_63 : decode cX1_putFull 63 = .ok (.if_icmp .le 13, 3) := by decide +kernel
theorem dX1_putFull_66 : decode cX1_putFull 66 = .ok (.aload_n 0, 1) := by decide +kernel
theorem dX1_putFull_67 : decode cX1_putFull 67 = .ok (.getfield 23, 3) := by decide +kernel
theorem dX1_putFull_70 : decode cX1_putFull 70 = .ok (.invokevirtual 73, 3) := by decide +kernel
theorem dX1_putFull_73 : decode cX1_putFull 73 = .ok (.ifCond .ne 38, 3) := by decide +kernel
theorem dX1_putFull_76 : decode cX1_putFull 76 = .ok (.iload_n 3, 1) := by decide +kernel
theorem dX1_putFull_77 : decode cX1_putFull 77 = .ok (.iload_n 2, 1) := by decide +kernel
theorem dX1_putFull_78 : decode cX1_putFull 78 = .ok (.if_icmp .ne 13, 3) := by decide +kernel
theorem dX1_putFull_81 : decode cX1_putFull 81 = .ok (.iload_n 2, 1) := by decide +kernel
theorem dX1_putFull_82 : decode cX1_putFull 82 = .ok (.ifCond .le 9, 3) := by decide +kernel
theorem dX1_putFull_85 : decode cX1_putFull 85 = .ok (.aload_n 0, 1) := by decide +kernel
theorem dX1_putFull_86 : decode cX1_putFull 86 = .ok (.bipush 46, 2) := by decide +kernel
theorem dX1_putFull_88 : decode cX1_putFull 88 = .ok (.invokevirtual 43, 3) := by decide +kernel
theorem dX1_putFull_91 : decode cX1_putFull 91 = .ok (.aload_n 0, 1) := by decide +kernel
theorem dX1_putFull_92 : decode cX1_putFull 92 = .ok (.bipush 48, 2) := by decide +kernel
theorem dX1_putFull_94 : decode cX1_putFull 94 = .ok (.aload_n 0, 1) := by decide +kernel
theorem dX1_putFull_95 : decode cX1_putFull 95 = .ok (.getfield 23, 3) := by decide +kernel
theorem dX1_putFull_98 : decode cX1_putFull 98 = .ok (.invokevirtual 77, 3) := by decide +kernel
theorem dX1_putFull_101 : decode cX1_putFull 101 = .ok (.iadd, 1) := by decide +kernel
theorem dX1_putFull_102 : decode cX1_putFull 102 = .ok (.invokevirtual 43, 3) := by decide +kernel
theorem dX1_putFull_105 : decode cX1_putFull 105 = .ok (.iinc 3 1, 3) := by decide +kernel
theorem dX1_putFull_108 : decode cX1_putFull 108 = .ok (.goto (-54), 3) := by decide +kernel
theorem dX1_putFull_111 : decode cX1_putFull 111 = .ok (.aload_n 1, 1) := by decide +kernel
theorem dX1_putFull_112 : decode cX1_putFull 112 = .ok (.getfield 81, 3) := by decide +kernel
theorem dX1_putFull_115 : decode cX1_putFull 115 = .ok (.ifCond .eq 9, 3) := by decide +kernel
theorem dX1_putFull_118 : decode cX1_putFull 118 = .ok (.aload_n 0, 1) := by decide +kernel
theorem dX1_putFull_119 : decode cX1_putFull 119 = .ok (.bipush 45, 2) := by decide +kernel
theorem dX1_putFull_121 : decode cX1_putFull 121 = .ok (.invokevirtual 43, 3) := by decide +kernel
theorem dX1_putFull_124 : decode cX1_putFull 124 = .ok (.aload_n 0, 1) := by decide +kernel
theorem dX1_putFull_125 : decode cX1_putFull 125 = .ok (.invokevirtual 85, 3) := by decide +kernel
theorem dX1_putFull_128 : decode cX1_putFull 128 = .ok (.return_, 1) := by decide +kernel
theorem dX1_putShort_0 : decode cX1_putShort 0 = .ok (.aload_n 0, 1) := by decide +kernel
theorem dX1_putShort_1 : decode cX1_putShort 1 = .ok (.iconst 0, 1) := by decide +kernel
theorem dX1_putShort_2 : decode cX1_putShort 2 = .ok (.putfield 39, 3) := by decide +kernel
theorem dX1_putShort_5 : decode cX1_putShort 5 = .ok (.aload_n 1, 1) := by decide +kernel
theorem dX1_putShort_6 : decode cX1_putShort 6 = .ok (.getfield 81, 3) := by decide +kernel
theorem dX1_putShort_9 : decode cX1_putShort 9 = .ok (.ifCond .eq 9, 3) := by decide +kernel
theorem dX1_putShort_12 : decode cX1_putShort 12 = .ok (.aload_n 0, 1) := by decide +kernel
theorem dX1_putShort_13 : decode cX1_putShort 13 = .ok (.bipush 45, 2) := by decide +kernel
theorem dX1_putShort_15 : decode cX1_putShort 15 = .ok (.invokevirtual 43, 3) := by decide +kernel
theorem dX1_putShort_18 : decode cX1_putShort 18 = .ok (.aload_n 0, 1) := by decide +kernel
theorem dX1_putShort_19 : decode cX1_putShort 19 = .ok (.aload_n 1, 1) := by decide +kernel
theorem dX1_putShort_20 : decode cX1_putShort 20 = .ok (.aload_n 1, 1) := by decide +kernel
theorem dX1_putShort_21 : decode cX1_putShort 21 = .ok (.getfield 81, 3) := by decide +kernel
theorem dX1_putShort_24 : decode cX1_putShort 24 = .ok (.ifCond .eq 12, 3) := by decide +kernel
theorem dX1_putShort_27 : decode cX1_putShort 27 = .ok (.lconst 1, 1) := by decide +kernel
theorem dX1_putShort_28 : decode cX1_putShort 28 = .ok (.iload 4, 2) := by decide +kernel
theorem dX1_putShort_30 : decode cX1_putShort 30 = .ok (.lshl, 1) := by decide +kernel
theorem dX1_putShort_31 : decode cX1_putShort 31 = .ok (.lload_n 2, 1) := by decide +kernel
theorem dX1_putShort_32 : decode cX1_putShort 32 = .ok (.lsub, 1) := by decide +kernel
theorem dX1_putShort_33 : decode cX1_putShort 33 = .ok (.goto 4, 3) := by decide +kernel
theorem dX1_putShort_36 : decode cX1_putShort 36 = .ok (.lload_n 2, 1) := by decide +kernel
theorem dX1_putShort_37 : decode cX1_putShort 37 = .ok (.iload 4, 2) := by decide +kernel
theorem dX1_putShort_39 : decode cX1_putShort 39 = .ok (.invokevirtual 88, 3) := by decide +kernel
theorem dX1_putShort_42 : decode cX1_putShort 42 = .ok (.aload_n 0, 1) := by decide +kernel
theorem dX1_putShort_43 : decode cX1_putShort 43 = .ok (.invokevirtual 92, 3) := by decide +kernel
theorem dX1_putShort_46 : decode cX1_putShort 46 = .ok (.aload_n 0, 1) := by decide +kernel
theorem dX1_putShort_47 : decode cX1_putShort 47 = .ok (.getfield 39, 3) := by decide +kernel
theorem dX1_putShort_50 : decode cX1_putShort 50 = .ok (.istore 5, 2) := by decide +kernel
theorem dX1_putShort_52 : decode cX1_putShort 52 = .ok (.iconst 0, 1) := by decide +kernel
theorem dX1_putShort_53 : decode cX1_putShort 53 = .ok (.istore 6, 2) := by decide +kernel
theorem dX1_putShort_55 : decode cX1_putShort 55 = .ok (.iload 6, 2) := by decide +kernel
theorem dX1_putShort_57 : decode cX1_putShort 57 = .ok (.bipush 60, 2) := by decide +kernel
theorem dX1_putShort_59 : decode cX1_putShort 59 = .ok (.if_icmp .ge 51, 3) := by decide +kernel
theorem dX1_putShort_62 : decode cX1_putShort 62 = .ok (.aload_n 0, 1) := by decide +kernel
theorem dX1_putShort_63 : decode cX1_putShort 63 = .ok (.aload_n 0, 1) := by decide +kernel
theorem dX1_putShort_64 : decode cX1_putShort 64 = .ok (.getfield 39, 3) := by decide +kernel
theorem dX1_putShort_67 : decode cX1_putShort 67 = .ok (.iload 5, 2) := by decide +kernel
theorem dX1_putShort_69 : decode cX1_putShort 69 = .ok (.if_icmp .ne 7, 3) := by decide +kernel
theorem dX1_putShort_72 : decode cX1_putShort 72 = .ok (.iconst 1, 1) := by decide +kernel
theorem dX1_putShort_73 : decode cX1_putShort 73 = .ok (.goto 4, 3) := by decide +kernel
theorem dX1_putShort_76 : decode cX1_putShort 76 = .ok (.iconst 0, 1) := by decide +kernel
theorem dX1_putShort_77 : decode cX1_putShort 77 = .ok (.invokevirtual 95, 3) := by decide +kernel
theorem dX1_putShort_80 : decode cX1_putShort 80 = .ok (.ifCond .ne 30, 3) := by decide +kernel
theorem dX1_putShort_83 : decode cX1_putShort 83 = .ok (.aload_n 0, 1) := by decide +kernel
theorem dX1_putShort_84 : decode cX1_putShort 84 = .ok (.getfield 39, 3) := by decide +kernel
theorem dX1_putShort_87 : decode cX1_putShort 87 = .ok (.iload 5, 2) := by decide +kernel
theorem dX1_putShort_89 : decode cX1_putShort 89 = .ok (.iconst 1, 1) := by decide +kernel
theorem dX1_putShort_90 : decode cX1_putShort 90 = .ok (.iadd, 1) := by decide +kernel
theorem dX1_putShort_91 : decode cX1_putShort 91 = .ok (.if_icmp .ne 9, 3) := by decide +kernel
theorem dX1_putShort_94 : decode cX1_putShort 94 = .ok (.aload_n 0, 1) := by decide +kernel
theorem dX1_putShort_95 : decode cX1_putShort 95 = .ok (.bipush 46, 2) := by decide +kernel
theorem dX1_putShort_97 : decode cX1_putShort 97 = .ok (.invokevirtual 43, 3) := by decide +kernel
theorem dX1_putShort_100 : decode cX1_putShort 100 = .ok (.aload_n 0, 1) := by decide +kernel
theorem dX1_putShort_101 : decode cX1_putShort 101 = .ok (.invokevirtual 99, 3) := by decide +kernel
theorem dX1_putShort_104 : decode cX1_putShort 104 = .ok (.iinc 6 1, 3) := by decide +kernel
theorem dX1_putShort_107 : decode cX1_putShort 107 = .ok (.goto (-52), 3) := by decide +kernel
theorem dX1_putShort_110 : decode cX1_putShort 110 = .ok (.aload_n 0, 1) := by decide +kernel
theorem dX1_putShort_111 : decode cX1_putShort 111 = .ok (.bipush 101, 2) := by decide +kernel
theorem dX1_putShort_113 : decode cX1_putShort 113 = .ok (.invokevirtual 43, 3) := by decide +kernel
theorem dX1_putShort_116 : decode cX1_putShort 116 = .ok (.aload_n 0, 1) := by decide +kernel
theorem dX1_putShort_117 : decode cX1_putShort 117 = .ok (.invokevirtual 102, 3) := by decide +kernel
theorem dX1_putShort_120 : decode cX1_putShort 120 = .ok (.return_, 1) := by decide +kernel
theorem dX1_loadBounds_0 : decode cX1_loadBounds 0 = .ok (.aload_n 0, 1) := by decide +kernel
theorem dX1_loadBounds_1 : decode cX1_loadBounds 1 = .ok (.lload_n 2, 1) := by decide +kernel
theorem dX1_loadBounds_2 : decode cX1_loadBounds 2 = .ok (.lconst 1, 1) := by decide +kernel
theorem dX1_loadBounds_3 : decode cX1_loadBounds 3 = .ok (.land, 1) := by decide +kernel
theorem dX1_loadBounds_4 : decode cX1_loadBounds 4 = .ok (.lconst 0, 1) := by decide +kernel
theorem dX1_loadBounds_5 : decode cX1_loadBounds 5 = .ok (.lcmp, 1) := by decide +kernel
theorem dX1_loadBounds_6 : decode cX1_loadBounds 6 = .ok (.ifCond .ne 7, 3) := by decide +kernel
theorem dX1_loadBounds_9 : decode cX1_loadBounds 9 = .ok (.iconst 1, 1) := by decide +kernel
theorem dX1_loadBounds_10 : decode cX1_loadBounds 10 = .ok (.goto 4, 3) := by decide +kernel
theorem dX1_loadBounds_13 : decode cX1_loadBounds 13 = .ok (.iconst 0, 1) := by decide +kernel
theorem dX1_loadBounds_14 : decode cX1_loadBounds 14 = .ok (.putfield 105, 3) := by decide +kernel
theorem dX1_loadBounds_17 : decode cX1_loadBounds 17 = .ok (.aload_n 0, 1) := by decide +kernel
theorem dX1_loadBounds_18 : decode cX1_loadBounds 18 = .ok (.lload_n 2, 1) := by decide +kernel
theorem dX1_loadBounds_19 : decode cX1_loadBounds 19 = .ok (.lconst 1, 1) := by decide +kernel
theorem dX1_loadBounds_20 : decode cX1_loadBounds 20 = .ok (.lcmp, 1) := by decide +kernel
theorem dX1_loadBounds_21 : decode cX1_loadBounds 21 = .ok (.ifCond .ne 7, 3) := by decide +kernel
theorem dX1_loadBounds_24 : decode cX1_loadBounds 24 = .ok (.iconst 1, 1) := by decide +kernel
theorem dX1_loadBounds_25 : decode cX1_loadBounds 25 = .ok (.goto 4, 3) := by decide +kernel
theorem dX1_loadBounds_28 : decode cX1_loadBounds 28 = .ok (.iconst 0, 1) := by decide +kernel
theorem dX1_loadBounds_29 : decode cX1_loadBounds 29 = .ok (.putfield 108, 3) := by decide +kernel
theorem dX1_loadBounds_32 : decode cX1_loadBounds 32 = .ok (.aload_n 0, 1) := by decide +kernel
theorem dX1_loadBounds_33 : decode cX1_loadBounds 33 = .ok (.lload_n 2, 1) := by decide +kernel
theorem dX1_loadBounds_34 : decode cX1_loadBounds 34 = .ok (.iload 4, 2) := by decide +kernel
theorem dX1_loadBounds_36 : decode cX1_loadBounds 36 = .ok (.iconst 1, 1) := by decide +kernel
theorem dX1_loadBounds_37 : decode cX1_loadBounds 37 = .ok (.isub, 1) := by decide +kernel
theorem dX1_loadBounds_38 : decode cX1_loadBounds 38 = .ok (.invokestatic 111, 3) := by decide +kernel
theorem dX1_loadBounds_41 : decode cX1_loadBounds 41 = .ok (.lcmp, 1) := by decide +kernel
theorem dX1_loadBounds_42 : decode cX1_loadBounds 42 = .ok (.ifCond .ne 7, 3) := by decide +kernel
theorem dX1_loadBounds_45 : decode cX1_loadBounds 45 = .ok (.iconst 1, 1) := by decide +kernel
theorem dX1_loadBounds_46 : decode cX1_loadBounds 46 = .ok (.goto 4, 3) := by decide +kernel
theorem dX1_loadBounds_49 : decode cX1_loadBounds 49 = .ok (.iconst 0, 1) := by decide +kernel
theorem dX1_loadBounds_50 : decode cX1_loadBounds 50 = .ok (.putfield 117, 3) := by decide +kernel
theorem dX1_loadBounds_53 : decode cX1_loadBounds 53 = .ok (.aload_n 0, 1) := by decide +kernel
theorem dX1_loadBounds_54 : decode cX1_loadBounds 54 = .ok (.getfield 23, 3) := by decide +kernel
theorem dX1_loadBounds_57 : decode cX1_loadBounds 57 = .ok (.aload_n 1, 1) := by decide +kernel
theorem dX1_loadBounds_58 : decode cX1_loadBounds 58 = .ok (.invokestatic 120, 3) := by decide +kernel
theorem dX1_loadBounds_61 : decode cX1_loadBounds 61 = .ok (.aload_n 0, 1) := by decide +kernel
theorem dX1_loadBounds_62 : decode cX1_loadBounds 62 = .ok (.getfield 30, 3) := by decide +kernel
theorem dX1_loadBounds_65 : decode cX1_loadBounds 65 = .ok (.lconst 0, 1) := by decide +kernel
theorem dX1_loadBounds_66 : decode cX1_loadBounds 66 = .ok (.invokevirtual 60, 3) := by decide +kernel
theorem dX1_loadBounds_69 : decode cX1_loadBounds 69 = .ok (.aload_n 0, 1) := by decide +kernel
theorem dX1_loadBounds_70 : decode cX1_loadBounds 70 = .ok (.getfield 33, 3) := by decide +kernel
theorem dX1_loadBounds_73 : decode cX1_loadBounds 73 = .ok (.lconst 0, 1) := by decide +kernel
theorem dX1_loadBounds_74 : decode cX1_loadBounds 74 = .ok (.invokevirtual 60, 3) := by decide +kernel
theorem dX1_loadBounds_77 : decode cX1_loadBounds 77 = .ok (.aload_n 0, 1) := by decide +kernel
theorem dX1_loadBounds_78 : decode cX1_loadBounds 78 = .ok (.getfield 108, 3) := by decide +kernel
theorem dX1_loadBounds_81 : decode cX1_loadBounds 81 = .ok (.ifCond .ne 54, 3) := by decide +kernel
theorem dX1_loadBounds_84 : decode cX1_loadBounds 84 = .ok (.aload_n 0, 1) := by decide +kernel
theorem dX1_loadBounds_85 : decode cX1_loadBounds 85 = .ok (.getfield 16, 3) := by decide +kernel
theorem dX1_loadBounds_88 : decode cX1_loadBounds 88 = .ok (.ldc2_w 124, 3) := by decide +kernel
theorem dX1_loadBounds_91 : decode cX1_loadBounds 91 = .ok (.lload_n 2, 1) := by decide +kernel
theorem dX1_loadBounds_92 : decode cX1_loadBounds 92 = .ok (.lmul, 1) := by decide +kernel
theorem dX1_loadBounds_93 : decode cX1_loadBounds 93 = .ok (.lconst 1, 1) := by decide +kernel
theorem dX1_loadBounds_94 : decode cX1_loadBounds 94 = .ok (.lsub, 1) := by decide +kernel
theorem dX1_loadBounds_95 : decode cX1_loadBounds 95 = .ok (.iload 4, 2) := by decide +kernel
theorem dX1_loadBounds_97 : decode cX1_loadBounds 97 = .ok (.iconst 1, 1) := by decide +kernel
theorem dX1_loadBounds_98 : decode cX1_loadBounds 98 = .ok (.iadd, 1) := by decide +kernel
theorem dX1_loadBounds_99 : decode cX1_loadBounds 99 = .ok (.invokevirtual 126, 3) := by decide +kernel
theorem dX1_loadBounds_102 : decode cX1_loadBounds 102 = .ok (.aload_n 0, 1) := by decide +kernel
theorem dX1_loadBounds_103 : decode cX1_loadBounds 103 = .ok (.getfield 36, 3) := by decide +kernel
theorem dX1_loadBounds_106 : decode cX1_loadBounds 106 = .ok (.aload_n 0, 1) := by decide +kernel
theorem dX1_loadBounds_107 : decode cX1_loadBounds 107 = .ok (.getfield 16, 3) := by decide +kernel
theorem dX1_loadBounds_110 : decode cX1_loadBounds 110 = .ok (.invokestatic 120, 3) := by decide +kernel
theorem dX1_loadBounds_113 : decode cX1_loadBounds 113 = .ok (.aload_n 0, 1) := by decide +kernel
theorem dX1_loadBounds_114 : decode cX1_loadBounds 114 = .ok (.getfield 30, 3) := by decide +kernel
theorem dX1_loadBounds_117 : decode cX1_loadBounds 117 = .ok (.aload_n 0, 1) := by decide +kernel
theorem dX1_loadBounds_118 : decode cX1_loadBounds 118 = .ok (.getfield 23, 3) := by decide +kernel
theorem dX1_loadBounds_121 : decode cX1_loadBounds 121 = .ok (.invokevirtual 129, 3) := by decide +kernel
theorem dX1_loadBounds_124 : decode cX1_loadBounds 124 = .ok (.aload_n 0, 1) := by decide +kernel
theorem dX1_loadBounds_125 : decode cX1_loadBounds 125 = .ok (.getfield 30, 3) := by decide +kernel
theorem dX1_loadBounds_128 : decode cX1_loadBounds 128 = .ok (.aload_n 0, 1) := by decide +kernel
theorem dX1_loadBounds_129 : decode cX1_loadBounds 129 = .ok (.getfield 36, 3) := by decide +kernel
theorem dX1_loadBounds_132 : decode cX1_loadBounds 132 = .ok (.invokevirtual 133, 3) := by decide +kernel
theorem dX1_loadBounds_135 : decode cX1_loadBounds 135 = .ok (.aload_n 0, 1) := by decide +kernel
theorem dX1_loadBounds_136 : decode cX1_loadBounds 136 = .ok (.getfield 117, 3) := by decide +kernel
theorem dX1_loadBounds_139 : decode cX1_loadBounds 139 = .ok (.ifCond .ne 43, 3) := by decide +kernel
theorem dX1_loadBounds_142 : decode cX1_loadBounds 142 = .ok (.aload_n 0, 1) := by decide +kernel
theorem dX1_loadBounds_143 : decode cX1_loadBounds 143 = .ok (.getfield 16, 3) := by decide +kernel
theorem dX1_loadBounds_146 : decode cX1_loadBounds 146 = .ok (.ldc2_w 124, 3) := by decide +kernel
theorem dX1_loadBounds_149 : decode cX1_loadBounds 149 = .ok (.lload_n 2, 1) := by decide +kernel
theorem dX1_loadBounds_150 : decode cX1_loadBounds 150 = .ok (.lmul, 1) := by decide +kernel
theorem dX1_loadBounds_151 : decode cX1_loadBounds 151 = .ok (.lconst 1, 1) := by decide +kernel
theorem dX1_loadBounds_152 : decode cX1_loadBounds 152 = .ok (.ladd, 1) := by decide +kernel
theorem dX1_loadBounds_153 : decode cX1_loadBounds 153 = .ok (.iload 4, 2) := by decide +kernel
theorem dX1_loadBounds_155 : decode cX1_loadBounds 155 = .ok (.iconst 1, 1) := by decide +kernel
theorem dX1_loadBounds_156 : decode cX1_loadBounds 156 = .ok (.iadd, 1) := by decide +kernel
theorem dX1_loadBounds_157 : decode cX1_loadBounds 157 = .ok (.invokevirtual 126, 3) := by decide +kernel
theorem dX1_loadBounds_160 : decode cX1_loadBounds 160 = .ok (.aload_n 0, 1) := by decide +kernel
theorem dX1_loadBounds_161 : decode cX1_loadBounds 161 = .ok (.getfield 33, 3) := by decide +kernel
theorem dX1_loadBounds_164 : decode cX1_loadBounds 164 = .ok (.aload_n 0, 1) := by decide +kernel
theorem dX1_loadBounds_165 : decode cX1_loadBounds 165 = .ok (.getfield 16, 3) := by decide +kernel
theorem dX1_loadBounds_168 : decode cX1_loadBounds 168 = .ok (.invokestatic 120, 3) := by decide +kernel
theorem dX1_loadBounds_171 : decode cX1_loadBounds 171 = .ok (.aload_n 0, 1) := by decide +kernel
theorem dX1_loadBounds_172 : decode cX1_loadBounds 172 = .ok (.getfield 33, 3) := by decide +kernel
theorem dX1_loadBounds_175 : decode cX1_loadBounds 175 = .ok (.aload_n 0, 1) := by decide +kernel
theorem dX1_loadBounds_176 : decode cX1_loadBounds 176 = .ok (.getfield 23, 3) := by decide +kernel
theorem dX1_loadBounds_179 : decode cX1_loadBounds 179 = .ok (.invokevirtual 133, 3) := by decide +kernel
theorem dX1_loadBounds_182 : decode cX1_loadBounds 182 = .ok (.aload_n 0, 1) := by decide +kernel
theorem dX1_loadBounds_183 : decode cX1_loadBounds 183 = .ok (.getfield 27, 3) := by decide +kernel
theorem dX1_loadBounds_186 : decode cX1_loadBounds 186 = .ok (.lconst 1, 1) := by decide +kernel
theorem dX1_loadBounds_187 : decode cX1_loadBounds 187 = .ok (.invokevirtual 60, 3) := by decide +kernel
theorem dX1_loadBounds_190 : decode cX1_loadBounds 190 = .ok (.aload_n 0, 1) := by decide +kernel
theorem dX1_loadBounds_191 : decode cX1_loadBounds 191 = .ok (.getfield 27, 3) := by decide +kernel
theorem dX1_loadBounds_194 : decode cX1_loadBounds 194 = .ok (.bipush 120, 2) := by decide +kernel
theorem dX1_loadBounds_196 : decode cX1_loadBounds 196 = .ok (.invokevirtual 64, 3) := by decide +kernel
theorem dX1_loadBounds_199 : decode cX1_loadBounds 199 = .ok (.return_, 1) := by decide +kernel
theorem dX1_loadUnits_0 : decode cX1_loadUnits 0 = .ok (.aload_n 0, 1) := by decide +kernel
theorem dX1_loadUnits_1 : decode cX1_loadUnits 1 = .ok (.aload_n 1, 1) := by decide +kernel
theorem dX1_loadUnits_2 : decode cX1_loadUnits 2 = .ok (.getfield 56, 3) := by decide +kernel
theorem dX1_loadUnits_5 : decode cX1_loadUnits 5 = .ok (.invokevirtual 60, 3) := by decide +kernel
theorem dX1_loadUnits_8 : decode cX1_loadUnits 8 = .ok (.aload_n 0, 1) := by decide +kernel
theorem dX1_loadUnits_9 : decode cX1_loadUnits 9 = .ok (.aload_n 1, 1) := by decide +kernel
theorem dX1_loadUnits_10 : decode cX1_loadUnits 10 = .ok (.getfield 47, 3) := by decide +kernel
theorem dX1_loadUnits_13 : decode cX1_loadUnits 13 = .ok (.bipush 120, 2) := by decide +kernel
theorem dX1_loadUnits_15 : decode cX1_loadUnits 15 = .ok (.iadd, 1) := by decide +kernel
theorem dX1_loadUnits_16 : decode cX1_loadUnits 16 = .ok (.invokevirtual 64, 3) := by decide +kernel
theorem dX1_loadUnits_19 : decode cX1_loadUnits 19 = .ok (.return_, 1) := by decide +kernel
theorem dX1_scaleToOneDigit_0 : decode cX1_scaleToOneDigit 0 = .ok (.aload_n 0, 1) := by decide +kernel
theorem dX1_scaleToOneDigit_1 : decode cX1_scaleToOneDigit 1 = .ok (.iconst 0, 1) := by decide +kernel
theorem dX1_scaleToOneDigit_2 : decode cX1_scaleToOneDigit 2 = .ok (.putfield 136, 3) := by decide +kernel
theorem dX1_scaleToOneDigit_5 : decode cX1_scaleToOneDigit 5 = .ok (.aload_n 0, 1) := by decide +kernel
theorem dX1_scaleToOneDigit_6 : decode cX1_scaleToOneDigit 6 = .ok (.getfield 36, 3) := by decide +kernel
theorem dX1_scaleToOneDigit_9 : decode cX1_scaleToOneDigit 9 = .ok (.aload_n 0, 1) := by decide +kernel
theorem dX1_scaleToOneDigit_10 : decode cX1_scaleToOneDigit 10 = .ok (.getfield 27, 3) := by decide +kernel
theorem dX1_scaleToOneDigit_13 : decode cX1_scaleToOneDigit 13 = .ok (.invokevirtual 129, 3) := by decide +kernel
theorem dX1_scaleToOneDigit_16 : decode cX1_scaleToOneDigit 16 = .ok (.aload_n 0, 1) := by decide +kernel
theorem dX1_scaleToOneDigit_17 : decode cX1_scaleToOneDigit 17 = .ok (.getfield 36, 3) := by decide +kernel
theorem dX1_scaleToOneDigit_20 : decode cX1_scaleToOneDigit 20 = .ok (.ldc2_w 139, 3) := by decide +kernel
theorem dX1_scaleToOneDigit_23 : decode cX1_scaleToOneDigit 23 = .ok (.lconst 0, 1) := by decide +kernel
theorem dX1_scaleToOneDigit_24 : decode cX1_scaleToOneDigit 24 = .ok (.invokevirtual 141, 3) := by decide +kernel
theorem dX1_scaleToOneDigit_27 : decode cX1_scaleToOneDigit 27 = .ok (.iconst 0, 1) := by decide +kernel
theorem dX1_scaleToOneDigit_28 : decode cX1_scaleToOneDigit 28 = .ok (.istore_n 1, 1) := by decide +kernel
theorem dX1_scaleToOneDigit_29 : decode cX1_scaleToOneDigit 29 = .ok (.iload_n 1, 1) := by decide +kernel
theorem dX1_scaleToOneDigit_30 : decode cX1_scaleToOneDigit 30 = .ok (.bipush 60, 2) := by decide +kernel
theorem dX1_scaleToOneDigit_32 : decode cX1_scaleToOneDigit 32 = .ok (.if_icmp .ge 55, 3) := by decide +kernel
theorem dX1_scaleToOneDigit_35 : decode cX1_scaleToOneDigit 35 = .ok (.aload_n 0, 1) := by decide +kernel
theorem dX1_scaleToOneDigit_36 : decode cX1_scaleToOneDigit 36 = .ok (.getfield 23, 3) := by decide +kernel
theorem dX1_scaleToOneDigit_39 : decode cX1_scaleToOneDigit 39 = .ok (.aload_n 0, 1) := by decide +kernel
theorem dX1_scaleToOneDigit_40 : decode cX1_scaleToOneDigit 40 = .ok (.getfield 36, 3) := by decide +kernel
theorem dX1_scaleToOneDigit_43 : decode cX1_scaleToOneDigit 43 = .ok (.invokevirtual 145, 3) := by decide +kernel
theorem dX1_scaleToOneDigit_46 : decode cX1_scaleToOneDigit 46 = .ok (.ifCond .lt 41, 3) := by decide +kernel
theorem dX1_scaleToOneDigit_49 : decode cX1_scaleToOneDigit 49 = .ok (.aload_n 0, 1) := by decide +kernel
theorem dX1_scaleToOneDigit_50 : decode cX1_scaleToOneDigit 50 = .ok (.getfield 27, 3) := by decide +kernel
theorem dX1_scaleToOneDigit_53 : decode cX1_scaleToOneDigit 53 = .ok (.aload_n 0, 1) := by decide +kernel
theorem dX1_scaleToOneDigit_54 : decode cX1_scaleToOneDigit 54 = .ok (.getfield 36, 3) := by decide +kernel
theorem dX1_scaleToOneDigit_57 : decode cX1_scaleToOneDigit 57 = .ok (.invokevirtual 129, 3) := by decide +kernel
theorem dX1_scaleToOneDigit_60 : decode cX1_scaleToOneDigit 60 = .ok (.aload_n 0, 1) := by decide +kernel
theorem dX1_scaleToOneDigit_61 : decode cX1_scaleToOneDigit 61 = .ok (.getfield 36, 3) := by decide +kernel
theorem dX1_scaleToOneDigit_64 : decode cX1_scaleToOneDigit 64 = .ok (.ldc2_w 139, 3) := by decide +kernel
theorem dX1_scaleToOneDigit_67 : decode cX1_scaleToOneDigit 67 = .ok (.lconst 0, 1) := by decide +kernel
theorem dX1_scaleToOneDigit_68 : decode cX1_scaleToOneDigit 68 = .ok (.invokevirtual 141, 3) := by decide +kernel
theorem dX1_scaleToOneDigit_71 : decode cX1_scaleToOneDigit 71 = .ok (.aload_n 0, 1) := by decide +kernel
theorem dX1_scaleToOneDigit_72 : decode cX1_scaleToOneDigit 72 = .ok (.dup, 1) := by decide +kernel
theorem dX1_scaleToOneDigit_73 : decode cX1_scaleToOneDigit 73 = .ok (.getfield 136, 3) := by decide +kernel
theorem dX1_scaleToOneDigit_76 : decode cX1_scaleToOneDigit 76 = .ok (.iconst 1, 1) := by decide +kernel
theorem dX1_scaleToOneDigit_77 : decode cX1_scaleToOneDigit 77 = .ok (.iadd, 1) := by decide +kernel
theorem dX1_scaleToOneDigit_78 : decode cX1_scaleToOneDigit 78 = .ok (.putfield 136, 3) := by decide +kernel
theorem dX1_scaleToOneDigit_81 : decode cX1_scaleToOneDigit 81 = .ok (.iinc 1 1, 3) := by decide +kernel
theorem dX1_scaleToOneDigit_84 : decode cX1_scaleToOneDigit 84 = .ok (.goto (-55), 3) := by decide +kernel
theorem dX1_scaleToOneDigit_87 : decode cX1_scaleToOneDigit 87 = .ok (.iconst 0, 1) := by decide +kernel
theorem dX1_scaleToOneDigit_88 : decode cX1_scaleToOneDigit 88 = .ok (.istore_n 1, 1) := by decide +kernel
theorem dX1_scaleToOneDigit_89 : decode cX1_scaleToOneDigit 89 = .ok (.iload_n 1, 1) := by decide +kernel
theorem dX1_scaleToOneDigit_90 : decode cX1_scaleToOneDigit 90 = .ok (.bipush 60, 2) := by decide +kernel
theorem dX1_scaleToOneDigit_92 : decode cX1_scaleToOneDigit 92 = .ok (.if_icmp .ge 37, 3) := by decide +kernel
theorem dX1_scaleToOneDigit_95 : decode cX1_scaleToOneDigit 95 = .ok (.aload_n 0, 1) := by decide +kernel
theorem dX1_scaleToOneDigit_96 : decode cX1_scaleToOneDigit 96 = .ok (.getfield 23, 3) := by decide +kernel
theorem dX1_scaleToOneDigit_99 : decode cX1_scaleToOneDigit 99 = .ok (.aload_n 0, 1) := by decide +kernel
theorem dX1_scaleToOneDigit_100 : decode cX1_scaleToOneDigit 100 = .ok (.getfield 27, 3) := by decide +kernel
theorem dX1_scaleToOneDigit_103 : decode cX1_scaleToOneDigit 103 = .ok (.invokevirtual 145, 3) := by decide +kernel
theorem dX1_scaleToOneDigit_106 : decode cX1_scaleToOneDigit 106 = .ok (.ifCond .ge 23, 3) := by decide +kernel
theorem dX1_scaleToOneDigit_109 : decode cX1_scaleToOneDigit 109 = .ok (.aload_n 0, 1) := by decide +kernel
theorem dX1_scaleToOneDigit_110 : decode cX1_scaleToOneDigit 110 = .ok (.invokevirtual 99, 3) := by decide +kernel
theorem dX1_scaleToOneDigit_113 : decode cX1_scaleToOneDigit 113 = .ok (.aload_n 0, 1) := by decide +kernel
theorem dX1_scaleToOneDigit_114 : decode cX1_scaleToOneDigit 114 = .ok (.dup, 1) := by decide +kernel
theorem dX1_scaleToOneDigit_115 : decode cX1_scaleToOneDigit 115 = .ok (.getfield 136, 3) := by decide +kernel
theorem dX1_scaleToOneDigit_118 : decode cX1_scaleToOneDigit 118 = .ok (.iconst 1, 1) := by decide +kernel
theorem dX1_scaleToOneDigit_119 : decode cX1_scaleToOneDigit 119 = .ok (.isub, 1) := by decide +kernel
theorem dX1_scaleToOneDigit_120 : decode cX1_scaleToOneDigit 120 = .ok (.putfield 136, 3) := by decide +kernel
theorem dX1_scaleToOneDigit_123 : decode cX1_scaleToOneDigit 123 = .ok (.iinc 1 1, 3) := by decide +kernel
theorem dX1_scaleToOneDigit_126 : decode cX1_scaleToOneDigit 126 = .ok (.goto (-37), 3) := by decide +kernel
theorem dX1_scaleToOneDigit_129 : decode cX1_scaleToOneDigit 129 = .ok (.return_, 1) := by decide +kernel
theorem dX1_growParts_0 : decode cX1_growParts 0 = .ok (.aload_n 0, 1) := by decide +kernel
theorem dX1_growParts_1 : decode cX1_growParts 1 = .ok (.getfield 23, 3) := by decide +kernel
theorem dX1_growParts_4 : decode cX1_growParts 4 = .ok (.ldc2_w 139, 3) := by decide +kernel
theorem dX1_growParts_7 : decode cX1_growParts 7 = .ok (.lconst 0, 1) := by decide +kernel
theorem dX1_growParts_8 : decode cX1_growParts 8 = .ok (.invokevirtual 141, 3) := by decide +kernel
theorem dX1_growParts_11 : decode cX1_growParts 11 = .ok (.aload_n 0, 1) := by decide +kernel
theorem dX1_growParts_12 : decode cX1_growParts 12 = .ok (.getfield 30, 3) := by decide +kernel
theorem dX1_growParts_15 : decode cX1_growParts 15 = .ok (.ldc2_w 139, 3) := by decide +kernel
theorem dX1_growParts_18 : decode cX1_growParts 18 = .ok (.lconst 0, 1) := by decide +kernel
theorem dX1_growParts_19 : decode cX1_growParts 19 = .ok (.invokevirtual 141, 3) := by decide +kernel
theorem dX1_growParts_22 : decode cX1_growParts 22 = .ok (.aload_n 0, 1) := by decide +kernel
theorem dX1_growParts_23 : decode cX1_growParts 23 = .ok (.getfield 33, 3) := by decide +kernel
theorem dX1_growParts_26 : decode cX1_growParts 26 = .ok (.ldc2_w 139, 3) := by decide +kernel
theorem dX1_growParts_29 : decode cX1_growParts 29 = .ok (.lconst 0, 1) := by decide +kernel
theorem dX1_growParts_30 : decode cX1_growParts 30 = .ok (.invokevirtual 141, 3) := by decide +kernel
theorem dX1_growParts_33 : decode cX1_growParts 33 = .ok (.return_, 1) := by decide +kernel
theorem dX1_putDigit_0 : decode cX1_putDigit 0 = .ok (.iconst 0, 1) := by decide +kernel
theorem dX1_putDigit_1 : decode cX1_putDigit 1 = .ok (.istore_n 2, 1) := by decide +kernel
theorem dX1_putDigit_2 : decode cX1_putDigit 2 = .ok (.iconst 0, 1) := by decide +kernel
theorem dX1_putDigit_3 : decode cX1_putDigit 3 = .ok (.istore_n 3, 1) := by decide +kernel
theorem dX1_putDigit_4 : decode cX1_putDigit 4 = .ok (.iload_n 3, 1) := by decide +kernel
theorem dX1_putDigit_5 : decode cX1_putDigit 5 = .ok (.bipush 9, 2) := by decide +kernel
theorem dX1_putDigit_7 : decode cX1_putDigit 7 = .ok (.if_icmp .ge 37, 3) := by decide +kernel
theorem dX1_putDigit_10 : decode cX1_putDigit 10 = .ok (.aload_n 0, 1) := by decide +kernel
theorem dX1_putDigit_11 : decode cX1_putDigit 11 = .ok (.getfield 23, 3) := by decide +kernel
theorem dX1_putDigit_14 : decode cX1_putDigit 14 = .ok (.aload_n 0, 1) := by decide +kernel
theorem dX1_putDigit_15 : decode cX1_putDigit 15 = .ok (.getfield 27, 3) := by decide +kernel
theorem dX1_putDigit_18 : decode cX1_putDigit 18 = .ok (.invokevirtual 145, 3) := by decide +kernel
theorem dX1_putDigit_21 : decode cX1_putDigit 21 = .ok (.ifCond .lt 23, 3) := by decide +kernel
theorem dX1_putDigit_24 : decode cX1_putDigit 24 = .ok (.aload_n 0, 1) := by decide +kernel
theorem dX1_putDigit_25 : decode cX1_putDigit 25 = .ok (.getfield 23, 3) := by decide +kernel
theorem dX1_putDigit_28 : decode cX1_putDigit 28 = .ok (.aload_n 0, 1) := by decide +kernel
theorem dX1_putDigit_29 : decode cX1_putDigit 29 = .ok (.getfield 27, 3) := by decide +kernel
theorem dX1_putDigit_32 : decode cX1_putDigit 32 = .ok (.invokevirtual 133, 3) := by decide +kernel
theorem dX1_putDigit_35 : decode cX1_putDigit 35 = .ok (.iinc 2 1, 3) := by decide +kernel
theorem dX1_putDigit_38 : decode cX1_putDigit 38 = .ok (.iinc 3 1, 3) := by decide +kernel
theorem dX1_putDigit_41 : decode cX1_putDigit 41 = .ok (.goto (-37), 3) := by decide +kernel
theorem dX1_putDigit_44 : decode cX1_putDigit 44 = .ok (.aload_n 0, 1) := by decide +kernel
theorem dX1_putDigit_45 : decode cX1_putDigit 45 = .ok (.getfield 36, 3) := by decide +kernel
theorem dX1_putDigit_48 : decode cX1_putDigit 48 = .ok (.aload_n 0, 1) := by decide +kernel
theorem dX1_putDigit_49 : decode cX1_putDigit 49 = .ok (.getfield 27, 3) := by decide +kernel
theorem dX1_putDigit_52 : decode cX1_putDigit 52 = .ok (.invokevirtual 129, 3) := by decide +kernel
theorem dX1_putDigit_55 : decode cX1_putDigit 55 = .ok (.aload_n 0, 1) := by decide +kernel
theorem dX1_putDigit_56 : decode cX1_putDigit 56 = .ok (.getfield 36, 3) := by decide +kernel
theorem dX1_putDigit_59 : decode cX1_putDigit 59 = .ok (.aload_n 0, 1) := by decide +kernel
theorem dX1_putDigit_60 : decode cX1_putDigit 60 = .ok (.getfield 23, 3) := by decide +kernel
theorem dX1_putDigit_63 : decode cX1_putDigit 63 = .ok (.invokevirtual 133, 3) := by decide +kernel
theorem dX1_putDigit_66 : decode cX1_putDigit 66 = .ok (.aload_n 0, 1) := by decide +kernel
theorem dX1_putDigit_67 : decode cX1_putDigit 67 = .ok (.getfield 108, 3) := by decide +kernel
theorem dX1_putDigit_70 : decode cX1_putDigit 70 = .ok (.ifCond .ne 18, 3) := by decide +kernel
theorem dX1_putDigit_73 : decode cX1_putDigit 73 = .ok (.aload_n 0, 1) := by decide +kernel
theorem dX1_putDigit_74 : decode cX1_putDigit 74 = .ok (.aload_n 0, 1) := by decide +kernel
theorem dX1_putDigit_75 : decode cX1_putDigit 75 = .ok (.getfield 23, 3) := by decide +kernel
theorem dX1_putDigit_78 : decode cX1_putDigit 78 = .ok (.aload_n 0, 1) := by decide +kernel
theorem dX1_putDigit_79 : decode cX1_putDigit 79 = .ok (.getfield 30, 3) := by decide +kernel
theorem dX1_putDigit_82 : decode cX1_putDigit 82 = .ok (.invokevirtual 149, 3) := by decide +kernel
theorem dX1_putDigit_85 : decode cX1_putDigit 85 = .ok (.ifCond .eq 7, 3) := by decide +kernel
theorem dX1_putDigit_88 : decode cX1_putDigit 88 = .ok (.iconst 1, 1) := by decide +kernel
theorem dX1_putDigit_89 : decode cX1_putDigit 89 = .ok (.goto 4, 3) := by decide +kernel
theorem dX1_putDigit_92 : decode cX1_putDigit 92 = .ok (.iconst 0, 1) := by decide +kernel
theorem dX1_putDigit_93 : decode cX1_putDigit 93 = .ok (.istore_n 3, 1) := by decide +kernel
theorem dX1_putDigit_94 : decode cX1_putDigit 94 = .ok (.aload_n 0, 1) := by decide +kernel
theorem dX1_putDigit_95 : decode cX1_putDigit 95 = .ok (.getfield 117, 3) := by decide +kernel
theorem dX1_putDigit_98 : decode cX1_putDigit 98 = .ok (.ifCond .ne 18, 3) := by decide +kernel
theorem dX1_putDigit_101 : decode cX1_putDigit 101 = .ok (.aload_n 0, 1) := by decide +kernel
theorem dX1_putDigit_102 : decode cX1_putDigit 102 = .ok (.aload_n 0, 1) := by decide +kernel
theorem dX1_putDigit_103 : decode cX1_putDigit 103 = .ok (.getfield 36, 3) := by decide +kernel
theorem dX1_putDigit_106 : decode cX1_putDigit 106 = .ok (.aload_n 0, 1) := by decide +kernel
theorem dX1_putDigit_107 : decode cX1_putDigit 107 = .ok (.getfield 33, 3) := by decide +kernel
theorem dX1_putDigit_110 : decode cX1_putDigit 110 = .ok (.invokevirtual 149, 3) := by decide +kernel
theorem dX1_putDigit_113 : decode cX1_putDigit 113 = .ok (.ifCond .eq 7, 3) := by decide +kernel
theorem dX1_putDigit_116 : decode cX1_putDigit 116 = .ok (.iconst 1, 1) := by decide +kernel
theorem dX1_putDigit_117 : decode cX1_putDigit 117 = .ok (.goto 4, 3) := by decide +kernel
theorem dX1_putDigit_120 : decode cX1_putDigit 120 = .ok (.iconst 0, 1) := by decide +kernel
theorem dX1_putDigit_121 : decode cX1_putDigit 121 = .ok (.istore 4, 2) := by decide +kernel
theorem dX1_putDigit_123 : decode cX1_putDigit 123 = .ok (.iload 4, 2) := by decide +kernel
theorem dX1_putDigit_125 : decode cX1_putDigit 125 = .ok (.ifCond .eq 25, 3) := by decide +kernel
theorem dX1_putDigit_128 : decode cX1_putDigit 128 = .ok (.iload_n 3, 1) := by decide +kernel
theorem dX1_putDigit_129 : decode cX1_putDigit 129 = .ok (.ifCond .eq 17, 3) := by decide +kernel
theorem dX1_putDigit_132 : decode cX1_putDigit 132 = .ok (.aload_n 0, 1) := by decide +kernel
theorem dX1_putDigit_133 : decode cX1_putDigit 133 = .ok (.getfield 36, 3) := by decide +kernel
theorem dX1_putDigit_136 : decode cX1_putDigit 136 = .ok (.aload_n 0, 1) := by decide +kernel
theorem dX1_putDigit_137 : decode cX1_putDigit 137 = .ok (.getfield 23, 3) := by decide +kernel
theorem dX1_putDigit_140 : decode cX1_putDigit 140 = .ok (.invokevirtual 145, 3) := by decide +kernel
theorem dX1_putDigit_143 : decode cX1_putDigit 143 = .ok (.ifCond .ge 7, 3) := by decide +kernel
theorem dX1_putDigit_146 : decode cX1_putDigit 146 = .ok (.iconst 1, 1) := by decide +kernel
theorem dX1_putDigit_147 : decode cX1_putDigit 147 = .ok (.goto 4, 3) := by decide +kernel
theorem dX1_putDigit_150 : decode cX1_putDigit 150 = .ok (.iconst 0, 1) := by decide +kernel
theorem dX1_putDigit_151 : decode cX1_putDigit 151 = .ok (.istore 5, 2) := by decide +kernel
theorem dX1_putDigit_153 : decode cX1_putDigit 153 = .ok (.iload 5, 2) := by decide +kernel
theorem dX1_putDigit_155 : decode cX1_putDigit 155 = .ok (.ifCond .eq 25, 3) := by decide +kernel
theorem dX1_putDigit_158 : decode cX1_putDigit 158 = .ok (.iload_n 1, 1) := by decide +kernel
theorem dX1_putDigit_159 : decode cX1_putDigit 159 = .ok (.ifCond .eq 21, 3) := by decide +kernel
theorem dX1_putDigit_162 : decode cX1_putDigit 162 = .ok (.iload_n 2, 1) := by decide +kernel
theorem dX1_putDigit_163 : decode cX1_putDigit 163 = .ok (.bipush 9, 2) := by decide +kernel
theorem dX1_putDigit_165 : decode cX1_putDigit 165 = .ok (.if_icmp .ne 15, 3) := by decide +kernel
theorem dX1_putDigit_168 : decode cX1_putDigit 168 = .ok (.aload_n 0, 1) := by decide +kernel
theorem dX1_putDigit_169 : decode cX1_putDigit 169 = .ok (.dup, 1) := by decide +kernel
theorem dX1_putDigit_170 : decode cX1_putDigit 170 = .ok (.getfield 136, 3) := by decide +kernel
theorem dX1_putDigit_173 : decode cX1_putDigit 173 = .ok (.iconst 1, 1) := by decide +kernel
theorem dX1_putDigit_174 : decode cX1_putDigit 174 = .ok (.iadd, 1) := by decide +kernel
theorem dX1_putDigit_175 : decode cX1_putDigit 175 = .ok (.putfield 136, 3) := by decide +kernel
theorem dX1_putDigit_178 : decode cX1_putDigit 178 = .ok (.iconst 0, 1) := by decide +kernel
theorem dX1_putDigit_179 : decode cX1_putDigit 179 = .ok (.istore_n 2, 1) := by decide +kernel
theorem dX1_putDigit_180 : decode cX1_putDigit 180 = .ok (.aload_n 0, 1) := by decide +kernel
theorem dX1_putDigit_181 : decode cX1_putDigit 181 = .ok (.bipush 48, 2) := by decide +kernel
theorem dX1_putDigit_183 : decode cX1_putDigit 183 = .ok (.iload_n 2, 1) := by decide +kernel
theorem dX1_putDigit_184 : decode cX1_putDigit 184 = .ok (.iadd, 1) := by decide +kernel
theorem dX1_putDigit_185 : decode cX1_putDigit 185 = .ok (.iload 5, 2) := by decide +kernel
theorem dX1_putDigit_187 : decode cX1_putDigit 187 = .ok (.ifCond .eq 7, 3) := by decide +kernel
theorem dX1_putDigit_190 : decode cX1_putDigit 190 = .ok (.iconst 1, 1) := by decide +kernel
theorem dX1_putDigit_191 : decode cX1_putDigit 191 = .ok (.goto 4, 3) := by decide +kernel
theorem dX1_putDigit_194 : decode cX1_putDigit 194 = .ok (.iconst 0, 1) := by decide +kernel
theorem dX1_putDigit_195 : decode cX1_putDigit 195 = .ok (.iadd, 1) := by decide +kernel
theorem dX1_putDigit_196 : decode cX1_putDigit 196 = .ok (.invokevirtual 43, 3) := by decide +kernel
theorem dX1_putDigit_199 : decode cX1_putDigit 199 = .ok (.iload_n 3, 1) := by decide +kernel
theorem dX1_putDigit_200 : decode cX1_putDigit 200 = .ok (.ifCond .ne 8, 3) := by decide +kernel
theorem dX1_putDigit_203 : decode cX1_putDigit 203 = .ok (.iload 4, 2) := by decide +kernel
theorem dX1_putDigit_205 : decode cX1_putDigit 205 = .ok (.ifCond .eq 7, 3) := by decide +kernel
theorem dX1_putDigit_208 : decode cX1_putDigit 208 = .ok (.iconst 1, 1) := by decide +kernel
theorem dX1_putDigit_209 : decode cX1_putDigit 209 = .ok (.goto 4, 3) := by decide +kernel
theorem dX1_putDigit_212 : decode cX1_putDigit 212 = .ok (.iconst 0, 1) := by decide +kernel
theorem dX1_putDigit_213 : decode cX1_putDigit 213 = .ok (.ireturn, 1) := by decide +kernel
theorem dX1_fits_0 : decode cX1_fits 0 = .ok (.aload_n 1, 1) := by decide +kernel
theorem dX1_fits_1 : decode cX1_fits 1 = .ok (.aload_n 2, 1) := by decide +kernel
theorem dX1_fits_2 : decode cX1_fits 2 = .ok (.invokevirtual 145, 3) := by decide +kernel
theorem dX1_fits_5 : decode cX1_fits 5 = .ok (.istore_n 3, 1) := by decide +kernel
theorem dX1_fits_6 : decode cX1_fits 6 = .ok (.iload_n 3, 1) := by decide +kernel
theorem dX1_fits_7 : decode cX1_fits 7 = .ok (.ifCond .lt 14, 3) := by decide +kernel
theorem dX1_fits_10 : decode cX1_fits 10 = .ok (.iload_n 3, 1) := by decide +kernel
theorem dX1_fits_11 : decode cX1_fits 11 = .ok (.ifCond .ne 14, 3) := by decide +kernel
theorem dX1_fits_14 : decode cX1_fits 14 = .ok (.aload_n 0, 1) := by decide +kernel
theorem dX1_fits_15 : decode cX1_fits 15 = .ok (.getfield 105, 3) := by decide +kernel
theorem dX1_fits_18 : decode cX1_fits 18 = .ok (.ifCond .eq 7, 3) := by decide +kernel
theorem dX1_fits_21 : decode cX1_fits 21 = .ok (.iconst 1, 1) := by decide +kernel
theorem dX1_fits_22 : decode cX1_fits 22 = .ok (.goto 4, 3) := by decide +kernel
theorem dX1_fits_25 : decode cX1_fits 25 = .ok (.iconst 0, 1) := by decide +kernel
theorem dX1_fits_26 : decode cX1_fits 26 = .ok (.ireturn, 1) := by decide +kernel
theorem dX1_putPower_0 : decode cX1_putPower 0 = .ok (.aload_n 0, 1) := by decide +kernel
theorem dX1_putPower_1 : decode cX1_putPower 1 = .ok (.getfield 136, 3) := by decide +kernel
theorem dX1_putPower_4 : decode cX1_putPower 4 = .ok (.ifCond .ge 9, 3) := by decide +kernel
theorem dX1_putPower_7 : decode cX1_putPower 7 = .ok (.aload_n 0, 1) := by decide +kernel
theorem dX1_putPower_8 : decode cX1_putPower 8 = .ok (.bipush 45, 2) := by decide +kernel
theorem dX1_putPower_10 : decode cX1_putPower 10 = .ok (.invokevirtual 43, 3) := by decide +kernel
theorem dX1_putPower_13 : decode cX1_putPower 13 = .ok (.aload_n 0, 1) := by decide +kernel
theorem dX1_putPower_14 : decode cX1_putPower 14 = .ok (.getfield 136, 3) := by decide +kernel
theorem dX1_putPower_17 : decode cX1_putPower 17 = .ok (.invokestatic 153, 3) := by decide +kernel
theorem dX1_putPower_20 : decode cX1_putPower 20 = .ok (.istore_n 1, 1) := by decide +kernel
theorem dX1_putPower_21 : decode cX1_putPower 21 = .ok (.iload_n 1, 1) := by decide +kernel
theorem dX1_putPower_22 : decode cX1_putPower 22 = .ok (.bipush 10, 2) := by decide +kernel
theorem dX1_putPower_24 : decode cX1_putPower 24 = .ok (.if_icmp .lt 14, 3) := by decide +kernel
theorem dX1_putPower_27 : decode cX1_putPower 27 = .ok (.aload_n 0, 1) := by decide +kernel
theorem dX1_putPower_28 : decode cX1_putPower 28 = .ok (.bipush 48, 2) := by decide +kernel
theorem dX1_putPower_30 : decode cX1_putPower 30 = .ok (.iload_n 1, 1) := by decide +kernel
theorem dX1_putPower_31 : decode cX1_putPower 31 = .ok (.bipush 10, 2) := by decide +kernel
theorem dX1_putPower_33 : decode cX1_putPower 33 = .ok (.idiv, 1) := by decide +kernel
theorem dX1_putPower_34 : decode cX1_putPower 34 = .ok (.iadd, 1) := by decide +kernel
theorem dX1_putPower_35 : decode cX1_putPower 35 = .ok (.invokevirtual 43, 3) := by decide +kernel
theorem dX1_putPower_38 : decode cX1_putPower 38 = .ok (.aload_n 0, 1) := by decide +kernel
theorem dX1_putPower_39 : decode cX1_putPower 39 = .ok (.bipush 48, 2) := by decide +kernel
theorem dX1_putPower_41 : decode cX1_putPower 41 = .ok (.iload_n 1, 1) := by decide +kernel
theorem dX1_putPower_42 : decode cX1_putPower 42 = .ok (.bipush 10, 2) := by decide +kernel
theorem dX1_putPower_44 : decode cX1_putPower 44 = .ok (.irem, 1) := by decide +kernel
theorem dX1_putPower_45 : decode cX1_putPower 45 = .ok (.iadd, 1) := by decide +kernel
theorem dX1_putPower_46 : decode cX1_putPower 46 = .ok (.invokevirtual 43, 3) := by decide +kernel
theorem dX1_putPower_49 : decode cX1_putPower 49 = .ok (.return_, 1) := by decide +kernel
theorem dX1_append_0 : decode cX1_append 0 = .ok (.aload_n 0, 1) := by decide +kernel
theorem dX1_append_1 : decode cX1_append 1 = .ok (.getfield 39, 3) := by decide +kernel
theorem dX1_append_4 : decode cX1_append 4 = .ok (.ifCond .lt 33, 3) := by decide +kernel
theorem dX1_append_7 : decode cX1_append 7 = .ok (.aload_n 0, 1) := by decide +kernel
theorem dX1_append_8 : decode cX1_append 8 = .ok (.getfield 39, 3) := by decide +kernel
theorem dX1_append_11 : decode cX1_append 11 = .ok (.sipush 160, 3) := by decide +kernel
theorem dX1_append_14 : decode cX1_append 14 = .ok (.if_icmp .ge 23, 3) := by decide +kernel
theorem dX1_append_17 : decode cX1_append 17 = .ok (.aload_n 0, 1) := by decide +kernel
theorem dX1_append_18 : decode cX1_append 18 = .ok (.getfield 9, 3) := by decide +kernel
theorem dX1_append_21 : decode cX1_append 21 = .ok (.aload_n 0, 1) := by decide +kernel
theorem dX1_append_22 : decode cX1_append 22 = .ok (.getfield 39, 3) := by decide +kernel
theorem dX1_append_25 : decode cX1_append 25 = .ok (.iload_n 1, 1) := by decide +kernel
theorem dX1_append_26 : decode cX1_append 26 = .ok (.iastore, 1) := by decide +kernel
theorem dX1_append_27 : decode cX1_append 27 = .ok (.aload_n 0, 1) := by decide +kernel
theorem dX1_append_28 : decode cX1_append 28 = .ok (.dup, 1) := by decide +kernel
theorem dX1_append_29 : decode cX1_append 29 = .ok (.getfield 39, 3) := by decide +kernel
theorem dX1_append_32 : decode cX1_append 32 = .ok (.iconst 1, 1) := by decide +kernel
theorem dX1_append_33 : decode cX1_append 33 = .ok (.iadd, 1) := by decide +kernel
theorem dX1_append_34 : decode cX1_append 34 = .ok (.putfield 39, 3) := by decide +kernel
theorem dX1_append_37 : decode cX1_append 37 = .ok (.return_, 1) := by decide +kernel
theorem dX1_reverse_0 : decode cX1_reverse 0 = .ok (.iconst 0, 1) := by decide +kernel
theorem dX1_reverse_1 : decode cX1_reverse 1 = .ok (.istore_n 1, 1) := by decide +kernel
theorem dX1_reverse_2 : decode cX1_reverse 2 = .ok (.iload_n 1, 1) := by decide +kernel
theorem dX1_reverse_3 : decode cX1_reverse 3 = .ok (.aload_n 0, 1) := by decide +kernel
theorem dX1_reverse_4 : decode cX1_reverse 4 = .ok (.getfield 39, 3) := by decide +kernel
theorem dX1_reverse_7 : decode cX1_reverse 7 = .ok (.iconst 2, 1) := by decide +kernel
theorem dX1_reverse_8 : decode cX1_reverse 8 = .ok (.idiv, 1) := by decide +kernel
theorem dX1_reverse_9 : decode cX1_reverse 9 = .ok (.if_icmp .ge 49, 3) := by decide +kernel
theorem dX1_reverse_12 : decode cX1_reverse 12 = .ok (.aload_n 0, 1) := by decide +kernel
theorem dX1_reverse_13 : decode cX1_reverse 13 = .ok (.getfield 9, 3) := by decide +kernel
theorem dX1_reverse_16 : decode cX1_reverse 16 = .ok (.iload_n 1, 1) := by decide +kernel
theorem dX1_reverse_17 : decode cX1_reverse 17 = .ok (.iaload, 1) := by decide +kernel
theorem dX1_reverse_18 : decode cX1_reverse 18 = .ok (.istore_n 2, 1) := by decide +kernel
theorem dX1_reverse_19 : decode cX1_reverse 19 = .ok (.aload_n 0, 1) := by decide +kernel
theorem dX1_reverse_20 : decode cX1_reverse 20 = .ok (.getfield 9, 3) := by decide +kernel
theorem dX1_reverse_23 : decode cX1_reverse 23 = .ok (.iload_n 1, 1) := by decide +kernel
theorem dX1_reverse_24 : decode cX1_reverse 24 = .ok (.aload_n 0, 1) := by decide +kernel
theorem dX1_reverse_25 : decode cX1_reverse 25 = .ok (.getfield 9, 3) := by decide +kernel
theorem dX1_reverse_28 : decode cX1_reverse 28 = .ok (.aload_n 0, 1) := by decide +kernel
theorem dX1_reverse_29 : decode cX1_reverse 29 = .ok (.getfield 39, 3) := by decide +kernel
theorem dX1_reverse_32 : decode cX1_reverse 32 = .ok (.iconst 1, 1) := by decide +kernel
theorem dX1_reverse_33 : decode cX1_reverse 33 = .ok (.isub, 1) := by decide +kernel
theorem dX1_reverse_34 : decode cX1_reverse 34 = .ok (.iload_n 1, 1) := by decide +kernel
theorem dX1_reverse_35 : decode cX1_reverse 35 = .ok (.isub, 1) := by decide +kernel
theorem dX1_reverse_36 : decode cX1_reverse 36 = .ok (.iaload, 1) := by decide +kernel
theorem dX1_reverse_37 : decode cX1_reverse 37 = .ok (.iastore, 1) := by decide +kernel
theorem dX1_reverse_38 : decode cX1_reverse 38 = .ok (.aload_n 0, 1) := by decide +kernel
theorem dX1_reverse_39 : decode cX1_reverse 39 = .ok (.getfield 9, 3) := by decide +kernel
theorem dX1_reverse_42 : decode cX1_reverse 42 = .ok (.aload_n 0, 1) := by decide +kernel
theorem dX1_reverse_43 : decode cX1_reverse 43 = .ok (.getfield 39, 3) := by decide +kernel
theorem dX1_reverse_46 : decode cX1_reverse 46 = .ok (.iconst 1, 1) := by decide +kernel
theorem dX1_reverse_47 : decode cX1_reverse 47 = .ok (.isub, 1) := by decide +kernel
theorem dX1_reverse_48 : decode cX1_reverse 48 = .ok (.iload_n 1, 1) := by decide +kernel
theorem dX1_reverse_49 : decode cX1_reverse 49 = .ok (.isub, 1) := by decide +kernel
theorem dX1_reverse_50 : decode cX1_reverse 50 = .ok (.iload_n 2, 1) := by decide +kernel
theorem dX1_reverse_51 : decode cX1_reverse 51 = .ok (.iastore, 1) := by decide +kernel
theorem dX1_reverse_52 : decode cX1_reverse 52 = .ok (.iinc 1 1, 3) := by decide +kernel
theorem dX1_reverse_55 : decode cX1_reverse 55 = .ok (.goto (-53), 3) := by decide +kernel
theorem dX1_reverse_58 : decode cX1_reverse 58 = .ok (.return_, 1) := by decide +kernel
