theorem dX11_decode_0 : decode cX11_decode 0 = .ok (.iload_n 3, 1) := by decide +kernel
theorem dX11_decode_1 : decode cX11_decode 1 = .ok (.iconst 2, 1) := by decide +kernel
theorem dX11_decode_2 : decode cX11_decode 2 = .ok (.isub, 1) := by decide +kernel
theorem dX11_decode_3 : decode cX11_decode 3 = .ok (.istore 4, 2) := by decide +kernel
theorem dX11_decode_5 : decode cX11_decode 5 = .ok (.lload_n 1, 1) := by decide +kernel
theorem dX11_decode_6 : decode cX11_decode 6 = .ok (.iload 4, 2) := by decide +kernel
theorem dX11_decode_8 : decode cX11_decode 8 = .ok (.lshr, 1) := by decide +kernel
theorem dX11_decode_9 : decode cX11_decode 9 = .ok (.lconst 1, 1) := by decide +kernel
theorem dX11_decode_10 : decode cX11_decode 10 = .ok (.land, 1) := by decide +kernel
theorem dX11_decode_11 : decode cX11_decode 11 = .ok (.l2i, 1) := by decide +kernel
theorem dX11_decode_12 : decode cX11_decode 12 = .ok (.istore 5, 2) := by decide +kernel
theorem dX11_decode_14 : decode cX11_decode 14 = .ok (.iconst 0, 1) := by decide +kernel
theorem dX11_decode_15 : decode cX11_decode 15 = .ok (.istore 6, 2) := by decide +kernel
theorem dX11_decode_17 : decode cX11_decode 17 = .ok (.iload 4, 2) := by decide +kernel
theorem dX11_decode_19 : decode cX11_decode 19 = .ok (.ifCond .lt 25, 3) := by decide +kernel
theorem dX11_decode_22 : decode cX11_decode 22 = .ok (.lload_n 1, 1) := by decide +kernel
theorem dX11_decode_23 : decode cX11_decode 23 = .ok (.iload 4, 2) := by decide +kernel
theorem dX11_decode_25 : decode cX11_decode 25 = .ok (.lshr, 1) := by decide +kernel
theorem dX11_decode_26 : decode cX11_decode 26 = .ok (.lconst 1, 1) := by decide +kernel
theorem dX11_decode_27 : decode cX11_decode 27 = .ok (.land, 1) := by decide +kernel
theorem dX11_decode_28 : decode cX11_decode 28 = .ok (.iload 5, 2) := by decide +kernel
theorem dX11_decode_30 : decode cX11_decode 30 = .ok (.i2l, 1) := by decide +kernel
theorem dX11_decode_31 : decode cX11_decode 31 = .ok (.lcmp, 1) := by decide +kernel
theorem dX11_decode_32 : decode cX11_decode 32 = .ok (.ifCond .ne 12, 3) := by decide +kernel
theorem dX11_decode_35 : decode cX11_decode 35 = .ok (.iinc 6 1, 3) := by decide +kernel
theorem dX11_decode_38 : decode cX11_decode 38 = .ok (.iinc 4 (-1), 3) := by decide +kernel
theorem dX11_decode_41 : decode cX11_decode 41 = .ok (.goto (-24), 3) := by decide +kernel
theorem dX11_decode_44 : decode cX11_decode 44 = .ok (.iinc 4 (-1), 3) := by decide +kernel
theorem dX11_decode_47 : decode cX11_decode 47 = .ok (.iconst 0, 1) := by decide +kernel
theorem dX11_decode_48 : decode cX11_decode 48 = .ok (.istore 7, 2) := by decide +kernel
theorem dX11_decode_50 : decode cX11_decode 50 = .ok (.iconst 0, 1) := by decide +kernel
theorem dX11_decode_51 : decode cX11_decode 51 = .ok (.istore 8, 2) := by decide +kernel
theorem dX11_decode_53 : decode cX11_decode 53 = .ok (.iload 8, 2) := by decide +kernel
theorem dX11_decode_55 : decode cX11_decode 55 = .ok (.iconst 2, 1) := by decide +kernel
theorem dX11_decode_56 : decode cX11_decode 56 = .ok (.if_icmp .ge 35, 3) := by decide +kernel
theorem dX11_decode_59 : decode cX11_decode 59 = .ok (.iconst 2, 1) := by decide +kernel
theorem dX11_decode_60 : decode cX11_decode 60 = .ok (.iload 7, 2) := by decide +kernel
theorem dX11_decode_62 : decode cX11_decode 62 = .ok (.imul, 1) := by decide +kernel
theorem dX11_decode_63 : decode cX11_decode 63 = .ok (.iload 4, 2) := by decide +kernel
theorem dX11_decode_65 : decode cX11_decode 65 = .ok (.ifCond .lt 13, 3) := by decide +kernel
theorem dX11_decode_68 : decode cX11_decode 68 = .ok (.lload_n 1, 1) := by decide +kernel
theorem dX11_decode_69 : decode cX11_decode 69 = .ok (.iload 4, 2) := by decide +kernel
theorem dX11_decode_71 : decode cX11_decode 71 = .ok (.lshr, 1) := by decide +kernel
theorem dX11_decode_72 : decode cX11_decode 72 = .ok (.lconst 1, 1) := by decide +kernel
theorem dX11_decode_73 : decode cX11_decode 73 = .ok (.land, 1) := by decide +kernel
theorem dX11_decode_74 : decode cX11_decode 74 = .ok (.l2i, 1) := by decide +kernel
theorem dX11_decode_75 : decode cX11_decode 75 = .ok (.goto 4, 3) := by decide +kernel
theorem dX11_decode_78 : decode cX11_decode 78 = .ok (.iconst 0, 1) := by decide +kernel
theorem dX11_decode_79 : decode cX11_decode 79 = .ok (.iadd, 1) := by decide +kernel
theorem dX11_decode_80 : decode cX11_decode 80 = .ok (.istore 7, 2) := by decide +kernel
theorem dX11_decode_82 : decode cX11_decode 82 = .ok (.iinc 4 (-1), 3) := by decide +kernel
theorem dX11_decode_85 : decode cX11_decode 85 = .ok (.iinc 8 1, 3) := by decide +kernel
theorem dX11_decode_88 : decode cX11_decode 88 = .ok (.goto (-35), 3) := by decide +kernel
theorem dX11_decode_91 : decode cX11_decode 91 = .ok (.iconst 0, 1) := by decide +kernel
theorem dX11_decode_92 : decode cX11_decode 92 = .ok (.iload 4, 2) := by decide +kernel
theorem dX11_decode_94 : decode cX11_decode 94 = .ok (.iconst 1, 1) := by decide +kernel
theorem dX11_decode_95 : decode cX11_decode 95 = .ok (.iadd, 1) := by decide +kernel
theorem dX11_decode_96 : decode cX11_decode 96 = .ok (.invokestatic 1, 3) := by decide +kernel
theorem dX11_decode_99 : decode cX11_decode 99 = .ok (.istore 8, 2) := by decide +kernel
theorem dX11_decode_101 : decode cX11_decode 101 = .ok (.aload_n 0, 1) := by decide +kernel
theorem dX11_decode_102 : decode cX11_decode 102 = .ok (.lconst 1, 1) := by decide +kernel
theorem dX11_decode_103 : decode cX11_decode 103 = .ok (.iload 8, 2) := by decide +kernel
theorem dX11_decode_105 : decode cX11_decode 105 = .ok (.lshl, 1) := by decide +kernel
theorem dX11_decode_106 : decode cX11_decode 106 = .ok (.lload_n 1, 1) := by decide +kernel
theorem dX11_decode_107 : decode cX11_decode 107 = .ok (.lconst 1, 1) := by decide +kernel
theorem dX11_decode_108 : decode cX11_decode 108 = .ok (.iload 8, 2) := by decide +kernel
theorem dX11_decode_110 : decode cX11_decode 110 = .ok (.lshl, 1) := by decide +kernel
theorem dX11_decode_111 : decode cX11_decode 111 = .ok (.lconst 1, 1) := by decide +kernel
theorem dX11_decode_112 : decode cX11_decode 112 = .ok (.lsub, 1) := by decide +kernel
theorem dX11_decode_113 : decode cX11_decode 113 = .ok (.land, 1) := by decide +kernel
theorem dX11_decode_114 : decode cX11_decode 114 = .ok (.lor, 1) := by decide +kernel
theorem dX11_decode_115 : decode cX11_decode 115 = .ok (.putfield 7, 3) := by decide +kernel
theorem dX11_decode_118 : decode cX11_decode 118 = .ok (.aload_n 0, 1) := by decide +kernel
theorem dX11_decode_119 : decode cX11_decode 119 = .ok (.iconst 4, 1) := by decide +kernel
theorem dX11_decode_120 : decode cX11_decode 120 = .ok (.iload 5, 2) := by decide +kernel
theorem dX11_decode_122 : decode cX11_decode 122 = .ok (.iconst 1, 1) := by decide +kernel
theorem dX11_decode_123 : decode cX11_decode 123 = .ok (.if_icmp .ne 10, 3) := by decide +kernel
theorem dX11_decode_126 : decode cX11_decode 126 = .ok (.iload 6, 2) := by decide +kernel
theorem dX11_decode_128 : decode cX11_decode 128 = .ok (.iconst 1, 1) := by decide +kernel
theorem dX11_decode_129 : decode cX11_decode 129 = .ok (.isub, 1) := by decide +kernel
theorem dX11_decode_130 : decode cX11_decode 130 = .ok (.goto 6, 3) := by decide +kernel
theorem dX11_decode_133 : decode cX11_decode 133 = .ok (.iload 6, 2) := by decide +kernel
theorem dX11_decode_135 : decode cX11_decode 135 = .ok (.ineg, 1) := by decide +kernel
theorem dX11_decode_136 : decode cX11_decode 136 = .ok (.imul, 1) := by decide +kernel
theorem dX11_decode_137 : decode cX11_decode 137 = .ok (.iload 7, 2) := by decide +kernel
theorem dX11_decode_139 : decode cX11_decode 139 = .ok (.iadd, 1) := by decide +kernel
theorem dX11_decode_140 : decode cX11_decode 140 = .ok (.iload 8, 2) := by decide +kernel
theorem dX11_decode_142 : decode cX11_decode 142 = .ok (.isub, 1) := by decide +kernel
theorem dX11_decode_143 : decode cX11_decode 143 = .ok (.putfield 13, 3) := by decide +kernel
theorem dX11_decode_146 : decode cX11_decode 146 = .ok (.aload_n 0, 1) := by decide +kernel
theorem dX11_decode_147 : decode cX11_decode 147 = .ok (.iconst 1, 1) := by decide +kernel
theorem dX11_decode_148 : decode cX11_decode 148 = .ok (.putfield 17, 3) := by decide +kernel
theorem dX11_decode_151 : decode cX11_decode 151 = .ok (.return_, 1) := by decide +kernel
theorem dX11_isNar_0 : decode cX11_isNar 0 = .ok (.aload_n 0, 1) := by decide +kernel
theorem dX11_isNar_1 : decode cX11_isNar 1 = .ok (.getfield 20, 3) := by decide +kernel
theorem dX11_isNar_4 : decode cX11_isNar 4 = .ok (.iload_n 1, 1) := by decide +kernel
theorem dX11_isNar_5 : decode cX11_isNar 5 = .ok (.laload, 1) := by decide +kernel
theorem dX11_isNar_6 : decode cX11_isNar 6 = .ok (.lconst 1, 1) := by decide +kernel
theorem dX11_isNar_7 : decode cX11_isNar 7 = .ok (.aload_n 0, 1) := by decide +kernel
theorem dX11_isNar_8 : decode cX11_isNar 8 = .ok (.getfield 24, 3) := by decide +kernel
theorem dX11_isNar_11 : decode cX11_isNar 11 = .ok (.iload_n 1, 1) := by decide +kernel
theorem dX11_isNar_12 : decode cX11_isNar 12 = .ok (.iaload, 1) := by decide +kernel
theorem dX11_isNar_13 : decode cX11_isNar 13 = .ok (.iconst 1, 1) := by decide +kernel
theorem dX11_isNar_14 : decode cX11_isNar 14 = .ok (.isub, 1) := by decide +kernel
theorem dX11_isNar_15 : decode cX11_isNar 15 = .ok (.lshl, 1) := by decide +kernel
theorem dX11_isNar_16 : decode cX11_isNar 16 = .ok (.lcmp, 1) := by decide +kernel
theorem dX11_isNar_17 : decode cX11_isNar 17 = .ok (.ifCond .ne 7, 3) := by decide +kernel
theorem dX11_isNar_20 : decode cX11_isNar 20 = .ok (.iconst 1, 1) := by decide +kernel
theorem dX11_isNar_21 : decode cX11_isNar 21 = .ok (.goto 4, 3) := by decide +kernel
theorem dX11_isNar_24 : decode cX11_isNar 24 = .ok (.iconst 0, 1) := by decide +kernel
theorem dX11_isNar_25 : decode cX11_isNar 25 = .ok (.ireturn, 1) := by decide +kernel
theorem dX11_look_0 : decode cX11_look 0 = .ok (.aload_n 0, 1) := by decide +kernel
theorem dX11_look_1 : decode cX11_look 1 = .ok (.getfield 20, 3) := by decide +kernel
theorem dX11_look_4 : decode cX11_look 4 = .ok (.iload_n 1, 1) := by decide +kernel
theorem dX11_look_5 : decode cX11_look 5 = .ok (.laload, 1) := by decide +kernel
theorem dX11_look_6 : decode cX11_look 6 = .ok (.lstore_n 2, 1) := by decide +kernel
theorem dX11_look_7 : decode cX11_look 7 = .ok (.aload_n 0, 1) := by decide +kernel
theorem dX11_look_8 : decode cX11_look 8 = .ok (.getfield 24, 3) := by decide +kernel
theorem dX11_look_11 : decode cX11_look 11 = .ok (.iload_n 1, 1) := by decide +kernel
theorem dX11_look_12 : decode cX11_look 12 = .ok (.iaload, 1) := by decide +kernel
theorem dX11_look_13 : decode cX11_look 13 = .ok (.istore 4, 2) := by decide +kernel
theorem dX11_look_15 : decode cX11_look 15 = .ok (.lload_n 2, 1) := by decide +kernel
theorem dX11_look_16 : decode cX11_look 16 = .ok (.lconst 0, 1) := by decide +kernel
theorem dX11_look_17 : decode cX11_look 17 = .ok (.lcmp, 1) := by decide +kernel
theorem dX11_look_18 : decode cX11_look 18 = .ok (.ifCond .ne 21, 3) := by decide +kernel
theorem dX11_look_21 : decode cX11_look 21 = .ok (.aload_n 0, 1) := by decide +kernel
theorem dX11_look_22 : decode cX11_look 22 = .ok (.iconst 0, 1) := by decide +kernel
theorem dX11_look_23 : decode cX11_look 23 = .ok (.putfield 17, 3) := by decide +kernel
theorem dX11_look_26 : decode cX11_look 26 = .ok (.aload_n 0, 1) := by decide +kernel
theorem dX11_look_27 : decode cX11_look 27 = .ok (.lconst 0, 1) := by decide +kernel
theorem dX11_look_28 : decode cX11_look 28 = .ok (.putfield 7, 3) := by decide +kernel
theorem dX11_look_31 : decode cX11_look 31 = .ok (.aload_n 0, 1) := by decide +kernel
theorem dX11_look_32 : decode cX11_look 32 = .ok (.iconst 0, 1) := by decide +kernel
theorem dX11_look_33 : decode cX11_look 33 = .ok (.putfield 13, 3) := by decide +kernel
theorem dX11_look_36 : decode cX11_look 36 = .ok (.goto 41, 3) := by decide +kernel
theorem dX11_look_39 : decode cX11_look 39 = .ok (.lload_n 2, 1) := by decide +kernel
theorem dX11_look_40 : decode cX11_look 40 = .ok (.lconst 1, 1) := by decide +kernel
theorem dX11_look_41 : decode cX11_look 41 = .ok (.iload 4, 2) := by decide +kernel
theorem dX11_look_43 : decode cX11_look 43 = .ok (.iconst 1, 1) := by decide +kernel
theorem dX11_look_44 : decode cX11_look 44 = .ok (.isub, 1) := by decide +kernel
theorem dX11_look_45 : decode cX11_look 45 = .ok (.lshl, 1) := by decide +kernel
theorem dX11_look_46 : decode cX11_look 46 = .ok (.lcmp, 1) := by decide +kernel
theorem dX11_look_47 : decode cX11_look 47 = .ok (.ifCond .ge 13, 3) := by decide +kernel
theorem dX11_look_50 : decode cX11_look 50 = .ok (.aload_n 0, 1) := by decide +kernel
theorem dX11_look_51 : decode cX11_look 51 = .ok (.lload_n 2, 1) := by decide +kernel
theorem dX11_look_52 : decode cX11_look 52 = .ok (.iload 4, 2) := by decide +kernel
theorem dX11_look_54 : decode cX11_look 54 = .ok (.invokevirtual 28, 3) := by decide +kernel
theorem dX11_look_57 : decode cX11_look 57 = .ok (.goto 20, 3) := by decide +kernel
theorem dX11_look_60 : decode cX11_look 60 = .ok (.aload_n 0, 1) := by decide +kernel
theorem dX11_look_61 : decode cX11_look 61 = .ok (.lconst 1, 1) := by decide +kernel
theorem dX11_look_62 : decode cX11_look 62 = .ok (.iload 4, 2) := by decide +kernel
theorem dX11_look_64 : decode cX11_look 64 = .ok (.lshl, 1) := by decide +kernel
theorem dX11_look_65 : decode cX11_look 65 = .ok (.lload_n 2, 1) := by decide +kernel
theorem dX11_look_66 : decode cX11_look 66 = .ok (.lsub, 1) := by decide +kernel
theorem dX11_look_67 : decode cX11_look 67 = .ok (.iload 4, 2) := by decide +kernel
theorem dX11_look_69 : decode cX11_look 69 = .ok (.invokevirtual 28, 3) := by decide +kernel
theorem dX11_look_72 : decode cX11_look 72 = .ok (.aload_n 0, 1) := by decide +kernel
theorem dX11_look_73 : decode cX11_look 73 = .ok (.iconst (-1), 1) := by decide +kernel
theorem dX11_look_74 : decode cX11_look 74 = .ok (.putfield 17, 3) := by decide +kernel
theorem dX11_look_77 : decode cX11_look 77 = .ok (.return_, 1) := by decide +kernel
theorem dX11_begin_0 : decode cX11_begin 0 = .ok (.aload_n 0, 1) := by decide +kernel
theorem dX11_begin_1 : decode cX11_begin 1 = .ok (.iload_n 1, 1) := by decide +kernel
theorem dX11_begin_2 : decode cX11_begin 2 = .ok (.putfield 32, 3) := by decide +kernel
theorem dX11_begin_5 : decode cX11_begin 5 = .ok (.aload_n 0, 1) := by decide +kernel
theorem dX11_begin_6 : decode cX11_begin 6 = .ok (.getfield 35, 3) := by decide +kernel
theorem dX11_begin_9 : decode cX11_begin 9 = .ok (.lconst 1, 1) := by decide +kernel
theorem dX11_begin_10 : decode cX11_begin 10 = .ok (.invokevirtual 39, 3) := by decide +kernel
theorem dX11_begin_13 : decode cX11_begin 13 = .ok (.aload_n 0, 1) := by decide +kernel
theorem dX11_begin_14 : decode cX11_begin 14 = .ok (.getfield 45, 3) := by decide +kernel
theorem dX11_begin_17 : decode cX11_begin 17 = .ok (.lconst 1, 1) := by decide +kernel
theorem dX11_begin_18 : decode cX11_begin 18 = .ok (.invokevirtual 39, 3) := by decide +kernel
theorem dX11_begin_21 : decode cX11_begin 21 = .ok (.aload_n 0, 1) := by decide +kernel
theorem dX11_begin_22 : decode cX11_begin 22 = .ok (.iconst 0, 1) := by decide +kernel
theorem dX11_begin_23 : decode cX11_begin 23 = .ok (.putfield 48, 3) := by decide +kernel
theorem dX11_begin_26 : decode cX11_begin 26 = .ok (.aload_n 0, 1) := by decide +kernel
theorem dX11_begin_27 : decode cX11_begin 27 = .ok (.iconst 1, 1) := by decide +kernel
theorem dX11_begin_28 : decode cX11_begin 28 = .ok (.putfield 51, 3) := by decide +kernel
theorem dX11_begin_31 : decode cX11_begin 31 = .ok (.return_, 1) := by decide +kernel
theorem dX11_compare_0 : decode cX11_compare 0 = .ok (.aload_n 0, 1) := by decide +kernel
theorem dX11_compare_1 : decode cX11_compare 1 = .ok (.getfield 54, 3) := by decide +kernel
theorem dX11_compare_4 : decode cX11_compare 4 = .ok (.aload_n 0, 1) := by decide +kernel
theorem dX11_compare_5 : decode cX11_compare 5 = .ok (.getfield 35, 3) := by decide +kernel
theorem dX11_compare_8 : decode cX11_compare 8 = .ok (.invokevirtual 57, 3) := by decide +kernel
theorem dX11_compare_11 : decode cX11_compare 11 = .ok (.aload_n 0, 1) := by decide +kernel
theorem dX11_compare_12 : decode cX11_compare 12 = .ok (.getfield 61, 3) := by decide +kernel
theorem dX11_compare_15 : decode cX11_compare 15 = .ok (.aload_n 0, 1) := by decide +kernel
theorem dX11_compare_16 : decode cX11_compare 16 = .ok (.getfield 45, 3) := by decide +kernel
theorem dX11_compare_19 : decode cX11_compare 19 = .ok (.invokevirtual 57, 3) := by decide +kernel
theorem dX11_compare_22 : decode cX11_compare 22 = .ok (.iconst 0, 1) := by decide +kernel
theorem dX11_compare_23 : decode cX11_compare 23 = .ok (.istore 4, 2) := by decide +kernel
theorem dX11_compare_25 : decode cX11_compare 25 = .ok (.iload 4, 2) := by decide +kernel
theorem dX11_compare_27 : decode cX11_compare 27 = .ok (.aload_n 0, 1) := by decide +kernel
theorem dX11_compare_28 : decode cX11_compare 28 = .ok (.getfield 51, 3) := by decide +kernel
theorem dX11_compare_31 : decode cX11_compare 31 = .ok (.if_icmp .ge 18, 3) := by decide +kernel
theorem dX11_compare_34 : decode cX11_compare 34 = .ok (.aload_n 0, 1) := by decide +kernel
theorem dX11_compare_35 : decode cX11_compare 35 = .ok (.getfield 61, 3) := by decide +kernel
theorem dX11_compare_38 : decode cX11_compare 38 = .ok (.lload_n 1, 1) := by decide +kernel
theorem dX11_compare_39 : decode cX11_compare 39 = .ok (.iconst 0, 1) := by decide +kernel
theorem dX11_compare_40 : decode cX11_compare 40 = .ok (.invokevirtual 64, 3) := by decide +kernel
theorem dX11_compare_43 : decode cX11_compare 43 = .ok (.iinc 4 1, 3) := by decide +kernel
theorem dX11_compare_46 : decode cX11_compare 46 = .ok (.goto (-21), 3) := by decide +kernel
theorem dX11_compare_49 : decode cX11_compare 49 = .ok (.aload_n 0, 1) := by decide +kernel
theorem dX11_compare_50 : decode cX11_compare 50 = .ok (.getfield 48, 3) := by decide +kernel
theorem dX11_compare_53 : decode cX11_compare 53 = .ok (.iload_n 3, 1) := by decide +kernel
theorem dX11_compare_54 : decode cX11_compare 54 = .ok (.aload_n 0, 1) := by decide +kernel
theorem dX11_compare_55 : decode cX11_compare 55 = .ok (.getfield 51, 3) := by decide +kernel
theorem dX11_compare_58 : decode cX11_compare 58 = .ok (.imul, 1) := by decide +kernel
theorem dX11_compare_59 : decode cX11_compare 59 = .ok (.isub, 1) := by decide +kernel
theorem dX11_compare_60 : decode cX11_compare 60 = .ok (.istore 4, 2) := by decide +kernel
theorem dX11_compare_62 : decode cX11_compare 62 = .ok (.aload_n 0, 1) := by decide +kernel
theorem dX11_compare_63 : decode cX11_compare 63 = .ok (.getfield 54, 3) := by decide +kernel
theorem dX11_compare_66 : decode cX11_compare 66 = .ok (.invokevirtual 67, 3) := by decide +kernel
theorem dX11_compare_69 : decode cX11_compare 69 = .ok (.iload 4, 2) := by decide +kernel
theorem dX11_compare_71 : decode cX11_compare 71 = .ok (.iadd, 1) := by decide +kernel
theorem dX11_compare_72 : decode cX11_compare 72 = .ok (.aload_n 0, 1) := by decide +kernel
theorem dX11_compare_73 : decode cX11_compare 73 = .ok (.getfield 61, 3) := by decide +kernel
theorem dX11_compare_76 : decode cX11_compare 76 = .ok (.invokevirtual 67, 3) := by decide +kernel
theorem dX11_compare_79 : decode cX11_compare 79 = .ok (.isub, 1) := by decide +kernel
theorem dX11_compare_80 : decode cX11_compare 80 = .ok (.istore 5, 2) := by decide +kernel
theorem dX11_compare_82 : decode cX11_compare 82 = .ok (.iload 5, 2) := by decide +kernel
theorem dX11_compare_84 : decode cX11_compare 84 = .ok (.ifCond .eq 14, 3) := by decide +kernel
theorem dX11_compare_87 : decode cX11_compare 87 = .ok (.iload 5, 2) := by decide +kernel
theorem dX11_compare_89 : decode cX11_compare 89 = .ok (.ifCond .ge 7, 3) := by decide +kernel
theorem dX11_compare_92 : decode cX11_compare 92 = .ok (.iconst (-1), 1) := by decide +kernel
theorem dX11_compare_93 : decode cX11_compare 93 = .ok (.goto 4, 3) := by decide +kernel
theorem dX11_compare_96 : decode cX11_compare 96 = .ok (.iconst 1, 1) := by decide +kernel
theorem dX11_compare_97 : decode cX11_compare 97 = .ok (.ireturn, 1) := by decide +kernel
theorem dX11_compare_98 : decode cX11_compare 98 = .ok (.iload 4, 2) := by decide +kernel
theorem dX11_compare_100 : decode cX11_compare 100 = .ok (.ifCond .le 15, 3) := by decide +kernel
theorem dX11_compare_103 : decode cX11_compare 103 = .ok (.aload_n 0, 1) := by decide +kernel
theorem dX11_compare_104 : decode cX11_compare 104 = .ok (.getfield 54, 3) := by decide +kernel
theorem dX11_compare_107 : decode cX11_compare 107 = .ok (.iload 4, 2) := by decide +kernel
theorem dX11_compare_109 : decode cX11_compare 109 = .ok (.invokevirtual 71, 3) := by decide +kernel
theorem dX11_compare_112 : decode cX11_compare 112 = .ok (.goto 13, 3) := by decide +kernel
theorem dX11_compare_115 : decode cX11_compare 115 = .ok (.aload_n 0, 1) := by decide +kernel
theorem dX11_compare_116 : decode cX11_compare 116 = .ok (.getfield 61, 3) := by decide +kernel
theorem dX11_compare_119 : decode cX11_compare 119 = .ok (.iload 4, 2) := by decide +kernel
theorem dX11_compare_121 : decode cX11_compare 121 = .ok (.ineg, 1) := by decide +kernel
theorem dX11_compare_122 : decode cX11_compare 122 = .ok (.invokevirtual 71, 3) := by decide +kernel
theorem dX11_compare_125 : decode cX11_compare 125 = .ok (.aload_n 0, 1) := by decide +kernel
theorem dX11_compare_126 : decode cX11_compare 126 = .ok (.getfield 54, 3) := by decide +kernel
theorem dX11_compare_129 : decode cX11_compare 129 = .ok (.aload_n 0, 1) := by decide +kernel
theorem dX11_compare_130 : decode cX11_compare 130 = .ok (.getfield 61, 3) := by decide +kernel
theorem dX11_compare_133 : decode cX11_compare 133 = .ok (.invokevirtual 75, 3) := by decide +kernel
theorem dX11_compare_136 : decode cX11_compare 136 = .ok (.ireturn, 1) := by decide +kernel
theorem dX11_compareTo_0 : decode cX11_compareTo 0 = .ok (.aload_n 0, 1) := by decide +kernel
theorem dX11_compareTo_1 : decode cX11_compareTo 1 = .ok (.lload_n 1, 1) := by decide +kernel
theorem dX11_compareTo_2 : decode cX11_compareTo 2 = .ok (.iload_n 3, 1) := by decide +kernel
theorem dX11_compareTo_3 : decode cX11_compareTo 3 = .ok (.invokevirtual 28, 3) := by decide +kernel
theorem dX11_compareTo_6 : decode cX11_compareTo 6 = .ok (.aload_n 0, 1) := by decide +kernel
theorem dX11_compareTo_7 : decode cX11_compareTo 7 = .ok (.aload_n 0, 1) := by decide +kernel
theorem dX11_compareTo_8 : decode cX11_compareTo 8 = .ok (.getfield 7, 3) := by decide +kernel
theorem dX11_compareTo_11 : decode cX11_compareTo 11 = .ok (.aload_n 0, 1) := by decide +kernel
theorem dX11_compareTo_12 : decode cX11_compareTo 12 = .ok (.getfield 13, 3) := by decide +kernel
theorem dX11_compareTo_15 : decode cX11_compareTo 15 = .ok (.invokevirtual 79, 3) := by decide +kernel
theorem dX11_compareTo_18 : decode cX11_compareTo 18 = .ok (.ireturn, 1) := by decide +kernel
theorem dX11_rounded_0 : decode cX11_rounded 0 = .ok (.aload_n 0, 1) := by decide +kernel
theorem dX11_rounded_1 : decode cX11_rounded 1 = .ok (.getfield 32, 3) := by decide +kernel
theorem dX11_rounded_4 : decode cX11_rounded 4 = .ok (.ifCond .ne 5, 3) := by decide +kernel
theorem dX11_rounded_7 : decode cX11_rounded 7 = .ok (.lconst 0, 1) := by decide +kernel
theorem dX11_rounded_8 : decode cX11_rounded 8 = .ok (.lreturn, 1) := by decide +kernel
theorem dX11_rounded_9 : decode cX11_rounded 9 = .ok (.aload_n 0, 1) := by decide +kernel
theorem dX11_rounded_10 : decode cX11_rounded 10 = .ok (.iload_n 1, 1) := by decide +kernel
theorem dX11_rounded_11 : decode cX11_rounded 11 = .ok (.invokevirtual 82, 3) := by decide +kernel
theorem dX11_rounded_14 : decode cX11_rounded 14 = .ok (.lstore_n 2, 1) := by decide +kernel
theorem dX11_rounded_15 : decode cX11_rounded 15 = .ok (.aload_n 0, 1) := by decide +kernel
theorem dX11_rounded_16 : decode cX11_rounded 16 = .ok (.getfield 32, 3) := by decide +kernel
theorem dX11_rounded_19 : decode cX11_rounded 19 = .ok (.ifCond .le 7, 3) := by decide +kernel
theorem dX11_rounded_22 : decode cX11_rounded 22 = .ok (.lload_n 2, 1) := by decide +kernel
theorem dX11_rounded_23 : decode cX11_rounded 23 = .ok (.goto 8, 3) := by decide +kernel
theorem dX11_rounded_26 : decode cX11_rounded 26 = .ok (.lconst 1, 1) := by decide +kernel
theorem dX11_rounded_27 : decode cX11_rounded 27 = .ok (.iload_n 1, 1) := by decide +kernel
theorem dX11_rounded_28 : decode cX11_rounded 28 = .ok (.lshl, 1) := by decide +kernel
theorem dX11_rounded_29 : decode cX11_rounded 29 = .ok (.lload_n 2, 1) := by decide +kernel
theorem dX11_rounded_30 : decode cX11_rounded 30 = .ok (.lsub, 1) := by decide +kernel
theorem dX11_rounded_31 : decode cX11_rounded 31 = .ok (.lreturn, 1) := by decide +kernel
theorem dX11_roundedSize_0 : decode cX11_roundedSize 0 = .ok (.lconst 1, 1) := by decide +kernel
theorem dX11_roundedSize_1 : decode cX11_roundedSize 1 = .ok (.iload_n 1, 1) := by decide +kernel
theorem dX11_roundedSize_2 : decode cX11_roundedSize 2 = .ok (.iconst 1, 1) := by decide +kernel
theorem dX11_roundedSize_3 : decode cX11_roundedSize 3 = .ok (.isub, 1) := by decide +kernel
theorem dX11_roundedSize_4 : decode cX11_roundedSize 4 = .ok (.lshl, 1) := by decide +kernel
theorem dX11_roundedSize_5 : decode cX11_roundedSize 5 = .ok (.lconst 1, 1) := by decide +kernel
theorem dX11_roundedSize_6 : decode cX11_roundedSize 6 = .ok (.lsub, 1) := by decide +kernel
theorem dX11_roundedSize_7 : decode cX11_roundedSize 7 = .ok (.lstore_n 2, 1) := by decide +kernel
theorem dX11_roundedSize_8 : decode cX11_roundedSize 8 = .ok (.aload_n 0, 1) := by decide +kernel
theorem dX11_roundedSize_9 : decode cX11_roundedSize 9 = .ok (.lconst 1, 1) := by decide +kernel
theorem dX11_roundedSize_10 : decode cX11_roundedSize 10 = .ok (.iload_n 1, 1) := by decide +kernel
theorem dX11_roundedSize_11 : decode cX11_roundedSize 11 = .ok (.invokevirtual 86, 3) := by decide +kernel
theorem dX11_roundedSize_14 : decode cX11_roundedSize 14 = .ok (.ifCond .gt 5, 3) := by decide +kernel
theorem dX11_roundedSize_17 : decode cX11_roundedSize 17 = .ok (.lconst 1, 1) := by decide +kernel
theorem dX11_roundedSize_18 : decode cX11_roundedSize 18 = .ok (.lreturn, 1) := by decide +kernel
theorem dX11_roundedSize_19 : decode cX11_roundedSize 19 = .ok (.aload_n 0, 1) := by decide +kernel
theorem dX11_roundedSize_20 : decode cX11_roundedSize 20 = .ok (.lload_n 2, 1) := by decide +kernel
theorem dX11_roundedSize_21 : decode cX11_roundedSize 21 = .ok (.iload_n 1, 1) := by decide +kernel
theorem dX11_roundedSize_22 : decode cX11_roundedSize 22 = .ok (.invokevirtual 86, 3) := by decide +kernel
theorem dX11_roundedSize_25 : decode cX11_roundedSize 25 = .ok (.ifCond .lt 5, 3) := by decide +kernel
theorem dX11_roundedSize_28 : decode cX11_roundedSize 28 = .ok (.lload_n 2, 1) := by decide +kernel
theorem dX11_roundedSize_29 : decode cX11_roundedSize 29 = .ok (.lreturn, 1) := by decide +kernel
theorem dX11_roundedSize_30 : decode cX11_roundedSize 30 = .ok (.lconst 1, 1) := by decide +kernel
theorem dX11_roundedSize_31 : decode cX11_roundedSize 31 = .ok (.lstore 4, 2) := by decide +kernel
theorem dX11_roundedSize_33 : decode cX11_roundedSize 33 = .ok (.lload_n 2, 1) := by decide +kernel
theorem dX11_roundedSize_34 : decode cX11_roundedSize 34 = .ok (.lstore 6, 2) := by decide +kernel
theorem dX11_roundedSize_36 : decode cX11_roundedSize 36 = .ok (.lload 6, 2) := by decide +kernel
theorem dX11_roundedSize_38 : decode cX11_roundedSize 38 = .ok (.lload 4, 2) := by decide +kernel
theorem dX11_roundedSize_40 : decode cX11_roundedSize 40 = .ok (.lsub, 1) := by decide +kernel
theorem dX11_roundedSize_41 : decode cX11_roundedSize 41 = .ok (.lconst 1, 1) := by decide +kernel
theorem dX11_roundedSize_42 : decode cX11_roundedSize 42 = .ok (.lcmp, 1) := by decide +kernel
theorem dX11_roundedSize_43 : decode cX11_roundedSize 43 = .ok (.ifCond .le 38, 3) := by decide +kernel
theorem dX11_roundedSize_46 : decode cX11_roundedSize 46 = .ok (.lload 4, 2) := by decide +kernel
theorem dX11_roundedSize_48 : decode cX11_roundedSize 48 = .ok (.lload 6, 2) := by decide +kernel
theorem dX11_roundedSize_50 : decode cX11_roundedSize 50 = .ok (.ladd, 1) := by decide +kernel
theorem dX11_roundedSize_51 : decode cX11_roundedSize 51 = .ok (.ldc2_w 89, 3) := by decide +kernel
theorem dX11_roundedSize_54 : decode cX11_roundedSize 54 = .ok (.ldiv, 1) := by decide +kernel
theorem dX11_roundedSize_55 : decode cX11_roundedSize 55 = .ok (.lstore 8, 2) := by decide +kernel
theorem dX11_roundedSize_57 : decode cX11_roundedSize 57 = .ok (.aload_n 0, 1) := by decide +kernel
theorem dX11_roundedSize_58 : decode cX11_roundedSize 58 = .ok (.lload 8, 2) := by decide +kernel
theorem dX11_roundedSize_60 : decode cX11_roundedSize 60 = .ok (.iload_n 1, 1) := by decide +kernel
theorem dX11_roundedSize_61 : decode cX11_roundedSize 61 = .ok (.invokevirtual 86, 3) := by decide +kernel
theorem dX11_roundedSize_64 : decode cX11_roundedSize 64 = .ok (.ifCond .lt 10, 3) := by decide +kernel
theorem dX11_roundedSize_67 : decode cX11_roundedSize 67 = .ok (.lload 8, 2) := by decide +kernel
theorem dX11_roundedSize_69 : decode cX11_roundedSize 69 = .ok (.lstore 4, 2) := by decide +kernel
theorem dX11_roundedSize_71 : decode cX11_roundedSize 71 = .ok (.goto 7, 3) := by decide +kernel
theorem dX11_roundedSize_74 : decode cX11_roundedSize 74 = .ok (.lload 8, 2) := by decide +kernel
theorem dX11_roundedSize_76 : decode cX11_roundedSize 76 = .ok (.lstore 6, 2) := by decide +kernel
theorem dX11_roundedSize_78 : decode cX11_roundedSize 78 = .ok (.goto (-42), 3) := by decide +kernel
theorem dX11_roundedSize_81 : decode cX11_roundedSize 81 = .ok (.aload_n 0, 1) := by decide +kernel
theorem dX11_roundedSize_82 : decode cX11_roundedSize 82 = .ok (.ldc2_w 89, 3) := by decide +kernel
theorem dX11_roundedSize_85 : decode cX11_roundedSize 85 = .ok (.lload 4, 2) := by decide +kernel
theorem dX11_roundedSize_87 : decode cX11_roundedSize 87 = .ok (.lmul, 1) := by decide +kernel
theorem dX11_roundedSize_88 : decode cX11_roundedSize 88 = .ok (.lconst 1, 1) := by decide +kernel
theorem dX11_roundedSize_89 : decode cX11_roundedSize 89 = .ok (.ladd, 1) := by decide +kernel
theorem dX11_roundedSize_90 : decode cX11_roundedSize 90 = .ok (.iload_n 1, 1) := by decide +kernel
theorem dX11_roundedSize_91 : decode cX11_roundedSize 91 = .ok (.iconst 1, 1) := by decide +kernel
theorem dX11_roundedSize_92 : decode cX11_roundedSize 92 = .ok (.iadd, 1) := by decide +kernel
theorem dX11_roundedSize_93 : decode cX11_roundedSize 93 = .ok (.invokevirtual 86, 3) := by decide +kernel
theorem dX11_roundedSize_96 : decode cX11_roundedSize 96 = .ok (.istore 8, 2) := by decide +kernel
theorem dX11_roundedSize_98 : decode cX11_roundedSize 98 = .ok (.iload 8, 2) := by decide +kernel
theorem dX11_roundedSize_100 : decode cX11_roundedSize 100 = .ok (.ifCond .lt 19, 3) := by decide +kernel
theorem dX11_roundedSize_103 : decode cX11_roundedSize 103 = .ok (.iload 8, 2) := by decide +kernel
theorem dX11_roundedSize_105 : decode cX11_roundedSize 105 = .ok (.ifCond .ne 19, 3) := by decide +kernel
theorem dX11_roundedSize_108 : decode cX11_roundedSize 108 = .ok (.lload 4, 2) := by decide +kernel
theorem dX11_roundedSize_110 : decode cX11_roundedSize 110 = .ok (.ldc2_w 89, 3) := by decide +kernel
theorem dX11_roundedSize_113 : decode cX11_roundedSize 113 = .ok (.lrem, 1) := by decide +kernel
theorem dX11_roundedSize_114 : decode cX11_roundedSize 114 = .ok (.lconst 0, 1) := by decide +kernel
theorem dX11_roundedSize_115 : decode cX11_roundedSize 115 = .ok (.lcmp, 1) := by decide +kernel
theorem dX11_roundedSize_116 : decode cX11_roundedSize 116 = .ok (.ifCond .ne 8, 3) := by decide +kernel
theorem dX11_roundedSize_119 : decode cX11_roundedSize 119 = .ok (.lload 4, 2) := by decide +kernel
theorem dX11_roundedSize_121 : decode cX11_roundedSize 121 = .ok (.goto 7, 3) := by decide +kernel
theorem dX11_roundedSize_124 : decode cX11_roundedSize 124 = .ok (.lload 4, 2) := by decide +kernel
theorem dX11_roundedSize_126 : decode cX11_roundedSize 126 = .ok (.lconst 1, 1) := by decide +kernel
theorem dX11_roundedSize_127 : decode cX11_roundedSize 127 = .ok (.ladd, 1) := by decide +kernel
theorem dX11_roundedSize_128 : decode cX11_roundedSize 128 = .ok (.lreturn, 1) := by decide +kernel
theorem dX11_become_0 : decode cX11_become 0 = .ok (.aload_n 0, 1) := by decide +kernel
theorem dX11_become_1 : decode cX11_become 1 = .ok (.getfield 20, 3) := by decide +kernel
theorem dX11_become_4 : decode cX11_become 4 = .ok (.iload_n 1, 1) := by decide +kernel
theorem dX11_become_5 : decode cX11_become 5 = .ok (.aload_n 0, 1) := by decide +kernel
theorem dX11_become_6 : decode cX11_become 6 = .ok (.aload_n 0, 1) := by decide +kernel
theorem dX11_become_7 : decode cX11_become 7 = .ok (.getfield 24, 3) := by decide +kernel
theorem dX11_become_10 : decode cX11_become 10 = .ok (.iload_n 1, 1) := by decide +kernel
theorem dX11_become_11 : decode cX11_become 11 = .ok (.iaload, 1) := by decide +kernel
theorem dX11_become_12 : decode cX11_become 12 = .ok (.invokevirtual 91, 3) := by decide +kernel
theorem dX11_become_15 : decode cX11_become 15 = .ok (.lastore, 1) := by decide +kernel
theorem dX11_become_16 : decode cX11_become 16 = .ok (.return_, 1) := by decide +kernel
theorem dX11_becomeNar_0 : decode cX11_becomeNar 0 = .ok (.aload_n 0, 1) := by decide +kernel
theorem dX11_becomeNar_1 : decode cX11_becomeNar 1 = .ok (.getfield 20, 3) := by decide +kernel
theorem dX11_becomeNar_4 : decode cX11_becomeNar 4 = .ok (.iload_n 1, 1) := by decide +kernel
theorem dX11_becomeNar_5 : decode cX11_becomeNar 5 = .ok (.lconst 1, 1) := by decide +kernel
theorem dX11_becomeNar_6 : decode cX11_becomeNar 6 = .ok (.aload_n 0, 1) := by decide +kernel
theorem dX11_becomeNar_7 : decode cX11_becomeNar 7 = .ok (.getfield 24, 3) := by decide +kernel
theorem dX11_becomeNar_10 : decode cX11_becomeNar 10 = .ok (.iload_n 1, 1) := by decide +kernel
theorem dX11_becomeNar_11 : decode cX11_becomeNar 11 = .ok (.iaload, 1) := by decide +kernel
theorem dX11_becomeNar_12 : decode cX11_becomeNar 12 = .ok (.iconst 1, 1) := by decide +kernel
theorem dX11_becomeNar_13 : decode cX11_becomeNar 13 = .ok (.isub, 1) := by decide +kernel
theorem dX11_becomeNar_14 : decode cX11_becomeNar 14 = .ok (.lshl, 1) := by decide +kernel
theorem dX11_becomeNar_15 : decode cX11_becomeNar 15 = .ok (.lastore, 1) := by decide +kernel
theorem dX11_becomeNar_16 : decode cX11_becomeNar 16 = .ok (.return_, 1) := by decide +kernel
theorem dX11_gather_0 : decode cX11_gather 0 = .ok (.iload_n 2, 1) := by decide +kernel
theorem dX11_gather_1 : decode cX11_gather 1 = .ok (.ifCond .ne 4, 3) := by decide +kernel
theorem dX11_gather_4 : decode cX11_gather 4 = .ok (.return_, 1) := by decide +kernel
theorem dX11_gather_5 : decode cX11_gather 5 = .ok (.aload_n 1, 1) := by decide +kernel
theorem dX11_gather_6 : decode cX11_gather 6 = .ok (.getfield 94, 3) := by decide +kernel
theorem dX11_gather_9 : decode cX11_gather 9 = .ok (.ifCond .eq 11, 3) := by decide +kernel
theorem dX11_gather_12 : decode cX11_gather 12 = .ok (.aload_n 1, 1) := by decide +kernel
theorem dX11_gather_13 : decode cX11_gather 13 = .ok (.getfield 94, 3) := by decide +kernel
theorem dX11_gather_16 : decode cX11_gather 16 = .ok (.iload_n 2, 1) := by decide +kernel
theorem dX11_gather_17 : decode cX11_gather 17 = .ok (.if_icmp .ne 20, 3) := by decide +kernel
theorem dX11_gather_20 : decode cX11_gather 20 = .ok (.aload_n 1, 1) := by decide +kernel
theorem dX11_gather_21 : decode cX11_gather 21 = .ok (.getfield 97, 3) := by decide +kernel
theorem dX11_gather_24 : decode cX11_gather 24 = .ok (.aload_n 0, 1) := by decide +kernel
theorem dX11_gather_25 : decode cX11_gather 25 = .ok (.getfield 100, 3) := by decide +kernel
theorem dX11_gather_28 : decode cX11_gather 28 = .ok (.invokevirtual 103, 3) := by decide +kernel
theorem dX11_gather_31 : decode cX11_gather 31 = .ok (.aload_n 1, 1) := by decide +kernel
theorem dX11_gather_32 : decode cX11_gather 32 = .ok (.iload_n 2, 1) := by decide +kernel
theorem dX11_gather_33 : decode cX11_gather 33 = .ok (.putfield 94, 3) := by decide +kernel
theorem dX11_gather_36 : decode cX11_gather 36 = .ok (.return_, 1) := by decide +kernel
theorem dX11_gather_37 : decode cX11_gather 37 = .ok (.aload_n 1, 1) := by decide +kernel
theorem dX11_gather_38 : decode cX11_gather 38 = .ok (.getfield 97, 3) := by decide +kernel
theorem dX11_gather_41 : decode cX11_gather 41 = .ok (.aload_n 0, 1) := by decide +kernel
theorem dX11_gather_42 : decode cX11_gather 42 = .ok (.getfield 100, 3) := by decide +kernel
theorem dX11_gather_45 : decode cX11_gather 45 = .ok (.invokevirtual 75, 3) := by decide +kernel
theorem dX11_gather_48 : decode cX11_gather 48 = .ok (.istore_n 3, 1) := by decide +kernel
theorem dX11_gather_49 : decode cX11_gather 49 = .ok (.iload_n 3, 1) := by decide +kernel
theorem dX11_gather_50 : decode cX11_gather 50 = .ok (.ifCond .ge 44, 3) := by decide +kernel
theorem dX11_gather_53 : decode cX11_gather 53 = .ok (.aload_n 0, 1) := by decide +kernel
theorem dX11_gather_54 : decode cX11_gather 54 = .ok (.getfield 106, 3) := by decide +kernel
theorem dX11_gather_57 : decode cX11_gather 57 = .ok (.aload_n 0, 1) := by decide +kernel
theorem dX11_gather_58 : decode cX11_gather 58 = .ok (.getfield 100, 3) := by decide +kernel
theorem dX11_gather_61 : decode cX11_gather 61 = .ok (.invokevirtual 57, 3) := by decide +kernel
theorem dX11_gather_64 : decode cX11_gather 64 = .ok (.aload_n 0, 1) := by decide +kernel
theorem dX11_gather_65 : decode cX11_gather 65 = .ok (.getfield 106, 3) := by decide +kernel
theorem dX11_gather_68 : decode cX11_gather 68 = .ok (.aload_n 1, 1) := by decide +kernel
theorem dX11_gather_69 : decode cX11_gather 69 = .ok (.getfield 97, 3) := by decide +kernel
theorem dX11_gather_72 : decode cX11_gather 72 = .ok (.invokevirtual 109, 3) := by decide +kernel
theorem dX11_gather_75 : decode cX11_gather 75 = .ok (.aload_n 1, 1) := by decide +kernel
theorem dX11_gather_76 : decode cX11_gather 76 = .ok (.getfield 97, 3) := by decide +kernel
theorem dX11_gather_79 : decode cX11_gather 79 = .ok (.aload_n 0, 1) := by decide +kernel
theorem dX11_gather_80 : decode cX11_gather 80 = .ok (.getfield 106, 3) := by decide +kernel
theorem dX11_gather_83 : decode cX11_gather 83 = .ok (.invokevirtual 57, 3) := by decide +kernel
theorem dX11_gather_86 : decode cX11_gather 86 = .ok (.aload_n 1, 1) := by decide +kernel
theorem dX11_gather_87 : decode cX11_gather 87 = .ok (.iload_n 2, 1) := by decide +kernel
theorem dX11_gather_88 : decode cX11_gather 88 = .ok (.putfield 94, 3) := by decide +kernel
theorem dX11_gather_91 : decode cX11_gather 91 = .ok (.goto 30, 3) := by decide +kernel
theorem dX11_gather_94 : decode cX11_gather 94 = .ok (.aload_n 1, 1) := by decide +kernel
theorem dX11_gather_95 : decode cX11_gather 95 = .ok (.getfield 97, 3) := by decide +kernel
theorem dX11_gather_98 : decode cX11_gather 98 = .ok (.aload_n 0, 1) := by decide +kernel
theorem dX11_gather_99 : decode cX11_gather 99 = .ok (.getfield 100, 3) := by decide +kernel
theorem dX11_gather_102 : decode cX11_gather 102 = .ok (.invokevirtual 109, 3) := by decide +kernel
theorem dX11_gather_105 : decode cX11_gather 105 = .ok (.aload_n 1, 1) := by decide +kernel
theorem dX11_gather_106 : decode cX11_gather 106 = .ok (.iload_n 3, 1) := by decide +kernel
theorem dX11_gather_107 : decode cX11_gather 107 = .ok (.ifCond .ne 7, 3) := by decide +kernel
theorem dX11_gather_110 : decode cX11_gather 110 = .ok (.iconst 0, 1) := by decide +kernel
theorem dX11_gather_111 : decode cX11_gather 111 = .ok (.goto 7, 3) := by decide +kernel
theorem dX11_gather_114 : decode cX11_gather 114 = .ok (.aload_n 1, 1) := by decide +kernel
theorem dX11_gather_115 : decode cX11_gather 115 = .ok (.getfield 94, 3) := by decide +kernel
theorem dX11_gather_118 : decode cX11_gather 118 = .ok (.putfield 94, 3) := by decide +kernel
theorem dX11_gather_121 : decode cX11_gather 121 = .ok (.return_, 1) := by decide +kernel
theorem dX11_gatherProduct_0 : decode cX11_gatherProduct 0 = .ok (.aload_n 0, 1) := by decide +kernel
theorem dX11_gatherProduct_1 : decode cX11_gatherProduct 1 = .ok (.iload_n 2, 1) := by decide +kernel
theorem dX11_gatherProduct_2 : decode cX11_gatherProduct 2 = .ok (.invokevirtual 112, 3) := by decide +kernel
theorem dX11_gatherProduct_5 : decode cX11_gatherProduct 5 = .ok (.aload_n 0, 1) := by decide +kernel
theorem dX11_gatherProduct_6 : decode cX11_gatherProduct 6 = .ok (.getfield 17, 3) := by decide +kernel
theorem dX11_gatherProduct_9 : decode cX11_gatherProduct 9 = .ok (.istore 5, 2) := by decide +kernel
theorem dX11_gatherProduct_11 : decode cX11_gatherProduct 11 = .ok (.aload_n 0, 1) := by decide +kernel
theorem dX11_gatherProduct_12 : decode cX11_gatherProduct 12 = .ok (.getfield 7, 3) := by decide +kernel
theorem dX11_gatherProduct_15 : decode cX11_gatherProduct 15 = .ok (.lstore 6, 2) := by decide +kernel
theorem dX11_gatherProduct_17 : decode cX11_gatherProduct 17 = .ok (.aload_n 0, 1) := by decide +kernel
theorem dX11_gatherProduct_18 : decode cX11_gatherProduct 18 = .ok (.getfield 13, 3) := by decide +kernel
theorem dX11_gatherProduct_21 : decode cX11_gatherProduct 21 = .ok (.istore 8, 2) := by decide +kernel
theorem dX11_gatherProduct_23 : decode cX11_gatherProduct 23 = .ok (.aload_n 0, 1) := by decide +kernel
theorem dX11_gatherProduct_24 : decode cX11_gatherProduct 24 = .ok (.iload_n 3, 1) := by decide +kernel
theorem dX11_gatherProduct_25 : decode cX11_gatherProduct 25 = .ok (.invokevirtual 112, 3) := by decide +kernel
theorem dX11_gatherProduct_28 : decode cX11_gatherProduct 28 = .ok (.aload_n 0, 1) := by decide +kernel
theorem dX11_gatherProduct_29 : decode cX11_gatherProduct 29 = .ok (.getfield 100, 3) := by decide +kernel
theorem dX11_gatherProduct_32 : decode cX11_gatherProduct 32 = .ok (.lload 6, 2) := by decide +kernel
theorem dX11_gatherProduct_34 : decode cX11_gatherProduct 34 = .ok (.invokevirtual 39, 3) := by decide +kernel
theorem dX11_gatherProduct_37 : decode cX11_gatherProduct 37 = .ok (.aload_n 0, 1) := by decide +kernel
theorem dX11_gatherProduct_38 : decode cX11_gatherProduct 38 = .ok (.getfield 100, 3) := by decide +kernel
theorem dX11_gatherProduct_41 : decode cX11_gatherProduct 41 = .ok (.aload_n 0, 1) := by decide +kernel
theorem dX11_gatherProduct_42 : decode cX11_gatherProduct 42 = .ok (.getfield 7, 3) := by decide +kernel
theorem dX11_gatherProduct_45 : decode cX11_gatherProduct 45 = .ok (.iconst 0, 1) := by decide +kernel
theorem dX11_gatherProduct_46 : decode cX11_gatherProduct 46 = .ok (.invokevirtual 64, 3) := by decide +kernel
theorem dX11_gatherProduct_49 : decode cX11_gatherProduct 49 = .ok (.iload 5, 2) := by decide +kernel
theorem dX11_gatherProduct_51 : decode cX11_gatherProduct 51 = .ok (.ifCond .eq 28, 3) := by decide +kernel
theorem dX11_gatherProduct_54 : decode cX11_gatherProduct 54 = .ok (.aload_n 0, 1) := by decide +kernel
theorem dX11_gatherProduct_55 : decode cX11_gatherProduct 55 = .ok (.getfield 17, 3) := by decide +kernel
theorem dX11_gatherProduct_58 : decode cX11_gatherProduct 58 = .ok (.ifCond .eq 21, 3) := by decide +kernel
theorem dX11_gatherProduct_61 : decode cX11_gatherProduct 61 = .ok (.aload_n 0, 1) := by decide +kernel
theorem dX11_gatherProduct_62 : decode cX11_gatherProduct 62 = .ok (.getfield 100, 3) := by decide +kernel
theorem dX11_gatherProduct_65 : decode cX11_gatherProduct 65 = .ok (.iload 8, 2) := by decide +kernel
theorem dX11_gatherProduct_67 : decode cX11_gatherProduct 67 = .ok (.aload_n 0, 1) := by decide +kernel
theorem dX11_gatherProduct_68 : decode cX11_gatherProduct 68 = .ok (.getfield 13, 3) := by decide +kernel
theorem dX11_gatherProduct_71 : decode cX11_gatherProduct 71 = .ok (.iadd, 1) := by decide +kernel
theorem dX11_gatherProduct_72 : decode cX11_gatherProduct 72 = .ok (.sipush 240, 3) := by decide +kernel
theorem dX11_gatherProduct_75 : decode cX11_gatherProduct 75 = .ok (.iadd, 1) := by decide +kernel
theorem dX11_gatherProduct_76 : decode cX11_gatherProduct 76 = .ok (.invokevirtual 71, 3) := by decide +kernel
theorem dX11_gatherProduct_79 : decode cX11_gatherProduct 79 = .ok (.aload_n 0, 1) := by decide +kernel
theorem dX11_gatherProduct_80 : decode cX11_gatherProduct 80 = .ok (.aload_n 1, 1) := by decide +kernel
theorem dX11_gatherProduct_81 : decode cX11_gatherProduct 81 = .ok (.iload 5, 2) := by decide +kernel
theorem dX11_gatherProduct_83 : decode cX11_gatherProduct 83 = .ok (.aload_n 0, 1) := by decide +kernel
theorem dX11_gatherProduct_84 : decode cX11_gatherProduct 84 = .ok (.getfield 17, 3) := by decide +kernel
theorem dX11_gatherProduct_87 : decode cX11_gatherProduct 87 = .ok (.imul, 1) := by decide +kernel
theorem dX11_gatherProduct_88 : decode cX11_gatherProduct 88 = .ok (.iload 4, 2) := by decide +kernel
theorem dX11_gatherProduct_90 : decode cX11_gatherProduct 90 = .ok (.imul, 1) := by decide +kernel
theorem dX11_gatherProduct_91 : decode cX11_gatherProduct 91 = .ok (.invokevirtual 115, 3) := by decide +kernel
theorem dX11_gatherProduct_94 : decode cX11_gatherProduct 94 = .ok (.return_, 1) := by decide +kernel
theorem dX11_gatherOne_0 : decode cX11_gatherOne 0 = .ok (.aload_n 0, 1) := by decide +kernel
theorem dX11_gatherOne_1 : decode cX11_gatherOne 1 = .ok (.iload_n 2, 1) := by decide +kernel
theorem dX11_gatherOne_2 : decode cX11_gatherOne 2 = .ok (.invokevirtual 112, 3) := by decide +kernel
theorem dX11_gatherOne_5 : decode cX11_gatherOne 5 = .ok (.aload_n 0, 1) := by decide +kernel
theorem dX11_gatherOne_6 : decode cX11_gatherOne 6 = .ok (.getfield 100, 3) := by decide +kernel
theorem dX11_gatherOne_9 : decode cX11_gatherOne 9 = .ok (.aload_n 0, 1) := by decide +kernel
theorem dX11_gatherOne_10 : decode cX11_gatherOne 10 = .ok (.getfield 7, 3) := by decide +kernel
theorem dX11_gatherOne_13 : decode cX11_gatherOne 13 = .ok (.invokevirtual 39, 3) := by decide +kernel
theorem dX11_gatherOne_16 : decode cX11_gatherOne 16 = .ok (.aload_n 0, 1) := by decide +kernel
theorem dX11_gatherOne_17 : decode cX11_gatherOne 17 = .ok (.getfield 17, 3) := by decide +kernel
theorem dX11_gatherOne_20 : decode cX11_gatherOne 20 = .ok (.ifCond .eq 18, 3) := by decide +kernel
theorem dX11_gatherOne_23 : decode cX11_gatherOne 23 = .ok (.aload_n 0, 1) := by decide +kernel
theorem dX11_gatherOne_24 : decode cX11_gatherOne 24 = .ok (.getfield 100, 3) := by decide +kernel
theorem dX11_gatherOne_27 : decode cX11_gatherOne 27 = .ok (.aload_n 0, 1) := by decide +kernel
theorem dX11_gatherOne_28 : decode cX11_gatherOne 28 = .ok (.getfield 13, 3) := by decide +kernel
theorem dX11_gatherOne_31 : decode cX11_gatherOne 31 = .ok (.sipush 240, 3) := by decide +kernel
theorem dX11_gatherOne_34 : decode cX11_gatherOne 34 = .ok (.iadd, 1) := by decide +kernel
theorem dX11_gatherOne_35 : decode cX11_gatherOne 35 = .ok (.invokevirtual 71, 3) := by decide +kernel
theorem dX11_gatherOne_38 : decode cX11_gatherOne 38 = .ok (.aload_n 0, 1) := by decide +kernel
theorem dX11_gatherOne_39 : decode cX11_gatherOne 39 = .ok (.aload_n 1, 1) := by decide +kernel
theorem dX11_gatherOne_40 : decode cX11_gatherOne 40 = .ok (.aload_n 0, 1) := by decide +kernel
theorem dX11_gatherOne_41 : decode cX11_gatherOne 41 = .ok (.getfield 17, 3) := by decide +kernel
theorem dX11_gatherOne_44 : decode cX11_gatherOne 44 = .ok (.iload_n 3, 1) := by decide +kernel
theorem dX11_gatherOne_45 : decode cX11_gatherOne 45 = .ok (.imul, 1) := by decide +kernel
theorem dX11_gatherOne_46 : decode cX11_gatherOne 46 = .ok (.invokevirtual 115, 3) := by decide +kernel
theorem dX11_gatherOne_49 : decode cX11_gatherOne 49 = .ok (.return_, 1) := by decide +kernel
theorem dX11_takeSum_0 : decode cX11_takeSum 0 = .ok (.aload_n 0, 1) := by decide +kernel
theorem dX11_takeSum_1 : decode cX11_takeSum 1 = .ok (.aload_n 1, 1) := by decide +kernel
theorem dX11_takeSum_2 : decode cX11_takeSum 2 = .ok (.getfield 94, 3) := by decide +kernel
theorem dX11_takeSum_5 : decode cX11_takeSum 5 = .ok (.invokevirtual 119, 3) := by decide +kernel
theorem dX11_takeSum_8 : decode cX11_takeSum 8 = .ok (.aload_n 0, 1) := by decide +kernel
theorem dX11_takeSum_9 : decode cX11_takeSum 9 = .ok (.getfield 35, 3) := by decide +kernel
theorem dX11_takeSum_12 : decode cX11_takeSum 12 = .ok (.aload_n 1, 1) := by decide +kernel
theorem dX11_takeSum_13 : decode cX11_takeSum 13 = .ok (.getfield 97, 3) := by decide +kernel
theorem dX11_takeSum_16 : decode cX11_takeSum 16 = .ok (.invokevirtual 57, 3) := by decide +kernel
theorem dX11_takeSum_19 : decode cX11_takeSum 19 = .ok (.aload_n 0, 1) := by decide +kernel
theorem dX11_takeSum_20 : decode cX11_takeSum 20 = .ok (.sipush (-240), 3) := by decide +kernel
theorem dX11_takeSum_23 : decode cX11_takeSum 23 = .ok (.putfield 48, 3) := by decide +kernel
theorem dX11_takeSum_26 : decode cX11_takeSum 26 = .ok (.return_, 1) := by decide +kernel
theorem dX11_init_0 : decode cX11_init 0 = .ok (.aload_n 0, 1) := by decide +kernel
theorem dX11_init_1 : decode cX11_init 1 = .ok (.invokespecial 122, 3) := by decide +kernel
theorem dX11_init_4 : decode cX11_init 4 = .ok (.aload_n 0, 1) := by decide +kernel
theorem dX11_init_5 : decode cX11_init 5 = .ok (.bipush 32, 2) := by decide +kernel
theorem dX11_init_7 : decode cX11_init 7 = .ok (.newarray .int, 2) := by decide +kernel
theorem dX11_init_9 : decode cX11_init 9 = .ok (.putfield 24, 3) := by decide +kernel
theorem dX11_init_12 : decode cX11_init 12 = .ok (.aload_n 0, 1) := by decide +kernel
theorem dX11_init_13 : decode cX11_init 13 = .ok (.bipush 32, 2) := by decide +kernel
theorem dX11_init_15 : decode cX11_init 15 = .ok (.newarray .long, 2) := by decide +kernel
theorem dX11_init_17 : decode cX11_init 17 = .ok (.putfield 20, 3) := by decide +kernel
theorem dX11_init_20 : decode cX11_init 20 = .ok (.aload_n 0, 1) := by decide +kernel
theorem dX11_init_21 : decode cX11_init 21 = .ok (.new 40, 3) := by decide +kernel
theorem dX11_init_24 : decode cX11_init 24 = .ok (.dup, 1) := by decide +kernel
theorem dX11_init_25 : decode cX11_init 25 = .ok (.invokespecial 128, 3) := by decide +kernel
theorem dX11_init_28 : decode cX11_init 28 = .ok (.putfield 35, 3) := by decide +kernel
theorem dX11_init_31 : decode cX11_init 31 = .ok (.aload_n 0, 1) := by decide +kernel
theorem dX11_init_32 : decode cX11_init 32 = .ok (.new 40, 3) := by decide +kernel
theorem dX11_init_35 : decode cX11_init 35 = .ok (.dup, 1) := by decide +kernel
theorem dX11_init_36 : decode cX11_init 36 = .ok (.invokespecial 128, 3) := by decide +kernel
theorem dX11_init_39 : decode cX11_init 39 = .ok (.putfield 45, 3) := by decide +kernel
theorem dX11_init_42 : decode cX11_init 42 = .ok (.aload_n 0, 1) := by decide +kernel
theorem dX11_init_43 : decode cX11_init 43 = .ok (.new 40, 3) := by decide +kernel
theorem dX11_init_46 : decode cX11_init 46 = .ok (.dup, 1) := by decide +kernel
theorem dX11_init_47 : decode cX11_init 47 = .ok (.invokespecial 128, 3) := by decide +kernel
theorem dX11_init_50 : decode cX11_init 50 = .ok (.putfield 54, 3) := by decide +kernel
theorem dX11_init_53 : decode cX11_init 53 = .ok (.aload_n 0, 1) := by decide +kernel
theorem dX11_init_54 : decode cX11_init 54 = .ok (.new 40, 3) := by decide +kernel
theorem dX11_init_57 : decode cX11_init 57 = .ok (.dup, 1) := by decide +kernel
theorem dX11_init_58 : decode cX11_init 58 = .ok (.invokespecial 128, 3) := by decide +kernel
theorem dX11_init_61 : decode cX11_init 61 = .ok (.putfield 61, 3) := by decide +kernel
theorem dX11_init_64 : decode cX11_init 64 = .ok (.aload_n 0, 1) := by decide +kernel
theorem dX11_init_65 : decode cX11_init 65 = .ok (.iconst 4, 1) := by decide +kernel
theorem dX11_init_66 : decode cX11_init 66 = .ok (.anewarray 95, 3) := by decide +kernel
theorem dX11_init_69 : decode cX11_init 69 = .ok (.putfield 129, 3) := by decide +kernel
theorem dX11_init_72 : decode cX11_init 72 = .ok (.aload_n 0, 1) := by decide +kernel
theorem dX11_init_73 : decode cX11_init 73 = .ok (.new 95, 3) := by decide +kernel
theorem dX11_init_76 : decode cX11_init 76 = .ok (.dup, 1) := by decide +kernel
theorem dX11_init_77 : decode cX11_init 77 = .ok (.invokespecial 133, 3) := by decide +kernel
theorem dX11_init_80 : decode cX11_init 80 = .ok (.putfield 134, 3) := by decide +kernel
theorem dX11_init_83 : decode cX11_init 83 = .ok (.aload_n 0, 1) := by decide +kernel
theorem dX11_init_84 : decode cX11_init 84 = .ok (.new 40, 3) := by decide +kernel
theorem dX11_init_87 : decode cX11_init 87 = .ok (.dup, 1) := by decide +kernel
theorem dX11_init_88 : decode cX11_init 88 = .ok (.invokespecial 128, 3) := by decide +kernel
theorem dX11_init_91 : decode cX11_init 91 = .ok (.putfield 100, 3) := by decide +kernel
theorem dX11_init_94 : decode cX11_init 94 = .ok (.aload_n 0, 1) := by decide +kernel
theorem dX11_init_95 : decode cX11_init 95 = .ok (.new 40, 3) := by decide +kernel
theorem dX11_init_98 : decode cX11_init 98 = .ok (.dup, 1) := by decide +kernel
theorem dX11_init_99 : decode cX11_init 99 = .ok (.invokespecial 128, 3) := by decide +kernel
theorem dX11_init_102 : decode cX11_init 102 = .ok (.putfield 106, 3) := by decide +kernel
theorem dX11_init_105 : decode cX11_init 105 = .ok (.aload_n 0, 1) := by decide +kernel
theorem dX11_init_106 : decode cX11_init 106 = .ok (.bipush 80, 2) := by decide +kernel
theorem dX11_init_108 : decode cX11_init 108 = .ok (.newarray .int, 2) := by decide +kernel
theorem dX11_init_110 : decode cX11_init 110 = .ok (.putfield 138, 3) := by decide +kernel
theorem dX11_init_113 : decode cX11_init 113 = .ok (.aload_n 0, 1) := by decide +kernel
theorem dX11_init_114 : decode cX11_init 114 = .ok (.sipush 400, 3) := by decide +kernel
theorem dX11_init_117 : decode cX11_init 117 = .ok (.newarray .int, 2) := by decide +kernel
theorem dX11_init_119 : decode cX11_init 119 = .ok (.putfield 141, 3) := by decide +kernel
theorem dX11_init_122 : decode cX11_init 122 = .ok (.aload_n 0, 1) := by decide +kernel
theorem dX11_init_123 : decode cX11_init 123 = .ok (.sipush 200, 3) := by decide +kernel
theorem dX11_init_126 : decode cX11_init 126 = .ok (.newarray .int, 2) := by decide +kernel
theorem dX11_init_128 : decode cX11_init 128 = .ok (.putfield 144, 3) := by decide +kernel
theorem dX11_init_131 : decode cX11_init 131 = .ok (.aload_n 0, 1) := by decide +kernel
theorem dX11_init_132 : decode cX11_init 132 = .ok (.new 40, 3) := by decide +kernel
theorem dX11_init_135 : decode cX11_init 135 = .ok (.dup, 1) := by decide +kernel
theorem dX11_init_136 : decode cX11_init 136 = .ok (.invokespecial 128, 3) := by decide +kernel
theorem dX11_init_139 : decode cX11_init 139 = .ok (.putfield 147, 3) := by decide +kernel
theorem dX11_init_142 : decode cX11_init 142 = .ok (.aload_n 0, 1) := by decide +kernel
theorem dX11_init_143 : decode cX11_init 143 = .ok (.new 40, 3) := by decide +kernel
theorem dX11_init_146 : decode cX11_init 146 = .ok (.dup, 1) := by decide +kernel
theorem dX11_init_147 : decode cX11_init 147 = .ok (.invokespecial 128, 3) := by decide +kernel
theorem dX11_init_150 : decode cX11_init 150 = .ok (.putfield 150, 3) := by decide +kernel
theorem dX11_init_153 : decode cX11_init 153 = .ok (.aload_n 0, 1) := by decide +kernel
theorem dX11_init_154 : decode cX11_init 154 = .ok (.bipush 80, 2) := by decide +kernel
theorem dX11_init_156 : decode cX11_init 156 = .ok (.newarray .int, 2) := by decide +kernel
theorem dX11_init_158 : decode cX11_init 158 = .ok (.putfield 153, 3) := by decide +kernel
theorem dX11_init_161 : decode cX11_init 161 = .ok (.aload_n 0, 1) := by decide +kernel
theorem dX11_init_162 : decode cX11_init 162 = .ok (.new 40, 3) := by decide +kernel
theorem dX11_init_165 : decode cX11_init 165 = .ok (.dup, 1) := by decide +kernel
theorem dX11_init_166 : decode cX11_init 166 = .ok (.invokespecial 128, 3) := by decide +kernel
theorem dX11_init_169 : decode cX11_init 169 = .ok (.putfield 156, 3) := by decide +kernel
theorem dX11_init_172 : decode cX11_init 172 = .ok (.aload_n 0, 1) := by decide +kernel
theorem dX11_init_173 : decode cX11_init 173 = .ok (.new 40, 3) := by decide +kernel
theorem dX11_init_176 : decode cX11_init 176 = .ok (.dup, 1) := by decide +kernel
theorem dX11_init_177 : decode cX11_init 177 = .ok (.invokespecial 128, 3) := by decide +kernel
theorem dX11_init_180 : decode cX11_init 180 = .ok (.putfield 159, 3) := by decide +kernel
theorem dX11_init_183 : decode cX11_init 183 = .ok (.iconst 0, 1) := by decide +kernel
theorem dX11_init_184 : decode cX11_init 184 = .ok (.istore_n 1, 1) := by decide +kernel
theorem dX11_init_185 : decode cX11_init 185 = .ok (.iload_n 1, 1) := by decide +kernel
theorem dX11_init_186 : decode cX11_init 186 = .ok (.bipush 32, 2) := by decide +kernel
theorem dX11_init_188 : decode cX11_init 188 = .ok (.if_icmp .ge 17, 3) := by decide +kernel
theorem dX11_init_191 : decode cX11_init 191 = .ok (.aload_n 0, 1) := by decide +kernel
theorem dX11_init_192 : decode cX11_init 192 = .ok (.getfield 24, 3) := by decide +kernel
theorem dX11_init_195 : decode cX11_init 195 = .ok (.iload_n 1, 1) := by decide +kernel
theorem dX11_init_196 : decode cX11_init 196 = .ok (.bipush 32, 2) := by decide +kernel
theorem dX11_init_198 : decode cX11_init 198 = .ok (.iastore, 1) := by decide +kernel
theorem dX11_init_199 : decode cX11_init 199 = .ok (.iinc 1 1, 3) := by decide +kernel
theorem dX11_init_202 : decode cX11_init 202 = .ok (.goto (-17), 3) := by decide +kernel
theorem dX11_init_205 : decode cX11_init 205 = .ok (.iconst 0, 1) := by decide +kernel
theorem dX11_init_206 : decode cX11_init 206 = .ok (.istore_n 1, 1) := by decide +kernel
theorem dX11_init_207 : decode cX11_init 207 = .ok (.iload_n 1, 1) := by decide +kernel
theorem dX11_init_208 : decode cX11_init 208 = .ok (.iconst 4, 1) := by decide +kernel
theorem dX11_init_209 : decode cX11_init 209 = .ok (.if_icmp .ge 22, 3) := by decide +kernel
theorem dX11_init_212 : decode cX11_init 212 = .ok (.aload_n 0, 1) := by decide +kernel
theorem dX11_init_213 : decode cX11_init 213 = .ok (.getfield 129, 3) := by decide +kernel
theorem dX11_init_216 : decode cX11_init 216 = .ok (.iload_n 1, 1) := by decide +kernel
theorem dX11_init_217 : decode cX11_init 217 = .ok (.new 95, 3) := by decide +kernel
theorem dX11_init_220 : decode cX11_init 220 = .ok (.dup, 1) := by decide +kernel
theorem dX11_init_221 : decode cX11_init 221 = .ok (.invokespecial 133, 3) := by decide +kernel
theorem dX11_init_224 : decode cX11_init 224 = .ok (.aastore, 1) := by decide +kernel
theorem dX11_init_225 : decode cX11_init 225 = .ok (.iinc 1 1, 3) := by decide +kernel
theorem dX11_init_228 : decode cX11_init 228 = .ok (.goto (-21), 3) := by decide +kernel
theorem dX11_init_231 : decode cX11_init 231 = .ok (.return_, 1) := by decide +kernel
theorem dX11_thrown_0 : decode cX11_thrown 0 = .ok (.aload_n 0, 1) := by decide +kernel
theorem dX11_thrown_1 : decode cX11_thrown 1 = .ok (.getfield 162, 3) := by decide +kernel
theorem dX11_thrown_4 : decode cX11_thrown 4 = .ok (.ireturn, 1) := by decide +kernel
theorem dX11_isPlace_0 : decode cX11_isPlace 0 = .ok (.iload_n 0, 1) := by decide +kernel
theorem dX11_isPlace_1 : decode cX11_isPlace 1 = .ok (.ifCond .lt 13, 3) := by decide +kernel
theorem dX11_isPlace_4 : decode cX11_isPlace 4 = .ok (.iload_n 0, 1) := by decide +kernel
theorem dX11_isPlace_5 : decode cX11_isPlace 5 = .ok (.bipush 32, 2) := by decide +kernel
theorem dX11_isPlace_7 : decode cX11_isPlace 7 = .ok (.if_icmp .ge 7, 3) := by decide +kernel
theorem dX11_isPlace_10 : decode cX11_isPlace 10 = .ok (.iconst 1, 1) := by decide +kernel
theorem dX11_isPlace_11 : decode cX11_isPlace 11 = .ok (.goto 4, 3) := by decide +kernel
theorem dX11_isPlace_14 : decode cX11_isPlace 14 = .ok (.iconst 0, 1) := by decide +kernel
theorem dX11_isPlace_15 : decode cX11_isPlace 15 = .ok (.ireturn, 1) := by decide +kernel
theorem dX11_goes_0 : decode cX11_goes 0 = .ok (.aload_n 0, 1) := by decide +kernel
theorem dX11_goes_1 : decode cX11_goes 1 = .ok (.iload_n 1, 1) := by decide +kernel
theorem dX11_goes_2 : decode cX11_goes 2 = .ok (.ifCond .ne 7, 3) := by decide +kernel
theorem dX11_goes_5 : decode cX11_goes 5 = .ok (.iconst 1, 1) := by decide +kernel
theorem dX11_goes_6 : decode cX11_goes 6 = .ok (.goto 12, 3) := by decide +kernel
theorem dX11_goes_9 : decode cX11_goes 9 = .ok (.iload_n 2, 1) := by decide +kernel
theorem dX11_goes_10 : decode cX11_goes 10 = .ok (.ifCond .ne 7, 3) := by decide +kernel
theorem dX11_goes_13 : decode cX11_goes 13 = .ok (.iconst 2, 1) := by decide +kernel
theorem dX11_goes_14 : decode cX11_goes 14 = .ok (.goto 4, 3) := by decide +kernel
theorem dX11_goes_17 : decode cX11_goes 17 = .ok (.iconst 0, 1) := by decide +kernel
theorem dX11_goes_18 : decode cX11_goes 18 = .ok (.putfield 162, 3) := by decide +kernel
theorem dX11_goes_21 : decode cX11_goes 21 = .ok (.aload_n 0, 1) := by decide +kernel
theorem dX11_goes_22 : decode cX11_goes 22 = .ok (.getfield 162, 3) := by decide +kernel
theorem dX11_goes_25 : decode cX11_goes 25 = .ok (.ifCond .ne 7, 3) := by decide +kernel
theorem dX11_goes_28 : decode cX11_goes 28 = .ok (.iconst 1, 1) := by decide +kernel
theorem dX11_goes_29 : decode cX11_goes 29 = .ok (.goto 4, 3) := by decide +kernel
theorem dX11_goes_32 : decode cX11_goes 32 = .ok (.iconst 0, 1) := by decide +kernel
theorem dX11_goes_33 : decode cX11_goes 33 = .ok (.ireturn, 1) := by decide +kernel
theorem dX11_isWidth_0 : decode cX11_isWidth 0 = .ok (.iload_n 0, 1) := by decide +kernel
theorem dX11_isWidth_1 : decode cX11_isWidth 1 = .ok (.iconst 3, 1) := by decide +kernel
theorem dX11_isWidth_2 : decode cX11_isWidth 2 = .ok (.if_icmp .lt 13, 3) := by decide +kernel
theorem dX11_isWidth_5 : decode cX11_isWidth 5 = .ok (.iload_n 0, 1) := by decide +kernel
theorem dX11_isWidth_6 : decode cX11_isWidth 6 = .ok (.bipush 32, 2) := by decide +kernel
theorem dX11_isWidth_8 : decode cX11_isWidth 8 = .ok (.if_icmp .gt 7, 3) := by decide +kernel
theorem dX11_isWidth_11 : decode cX11_isWidth 11 = .ok (.iconst 1, 1) := by decide +kernel
theorem dX11_isWidth_12 : decode cX11_isWidth 12 = .ok (.goto 4, 3) := by decide +kernel
theorem dX11_isWidth_15 : decode cX11_isWidth 15 = .ok (.iconst 0, 1) := by decide +kernel
theorem dX11_isWidth_16 : decode cX11_isWidth 16 = .ok (.ireturn, 1) := by decide +kernel
theorem dX11_set_0 : decode cX11_set 0 = .ok (.aload_n 0, 1) := by decide +kernel
theorem dX11_set_1 : decode cX11_set 1 = .ok (.iload_n 1, 1) := by decide +kernel
theorem dX11_set_2 : decode cX11_set 2 = .ok (.invokestatic 165, 3) := by decide +kernel
theorem dX11_set_5 : decode cX11_set 5 = .ok (.iload_n 2, 1) := by decide +kernel
theorem dX11_set_6 : decode cX11_set 6 = .ok (.invokestatic 169, 3) := by decide +kernel
theorem dX11_set_9 : decode cX11_set 9 = .ok (.invokevirtual 172, 3) := by decide +kernel
theorem dX11_set_12 : decode cX11_set 12 = .ok (.ifCond .eq 24, 3) := by decide +kernel
theorem dX11_set_15 : decode cX11_set 15 = .ok (.aload_n 0, 1) := by decide +kernel
theorem dX11_set_16 : decode cX11_set 16 = .ok (.getfield 24, 3) := by decide +kernel
theorem dX11_set_19 : decode cX11_set 19 = .ok (.iload_n 1, 1) := by decide +kernel
theorem dX11_set_20 : decode cX11_set 20 = .ok (.iload_n 2, 1) := by decide +kernel
theorem dX11_set_21 : decode cX11_set 21 = .ok (.iastore, 1) := by decide +kernel
theorem dX11_set_22 : decode cX11_set 22 = .ok (.aload_n 0, 1) := by decide +kernel
theorem dX11_set_23 : decode cX11_set 23 = .ok (.getfield 20, 3) := by decide +kernel
theorem dX11_set_26 : decode cX11_set 26 = .ok (.iload_n 1, 1) := by decide +kernel
theorem dX11_set_27 : decode cX11_set 27 = .ok (.iload_n 3, 1) := by decide +kernel
theorem dX11_set_28 : decode cX11_set 28 = .ok (.i2l, 1) := by decide +kernel
theorem dX11_set_29 : decode cX11_set 29 = .ok (.lconst 1, 1) := by decide +kernel
theorem dX11_set_30 : decode cX11_set 30 = .ok (.iload_n 2, 1) := by decide +kernel
theorem dX11_set_31 : decode cX11_set 31 = .ok (.lshl, 1) := by decide +kernel
theorem dX11_set_32 : decode cX11_set 32 = .ok (.lconst 1, 1) := by decide +kernel
theorem dX11_set_33 : decode cX11_set 33 = .ok (.lsub, 1) := by decide +kernel
theorem dX11_set_34 : decode cX11_set 34 = .ok (.land, 1) := by decide +kernel
theorem dX11_set_35 : decode cX11_set 35 = .ok (.lastore, 1) := by decide +kernel
theorem dX11_set_36 : decode cX11_set 36 = .ok (.return_, 1) := by decide +kernel
theorem dX11_pattern_0 : decode cX11_pattern 0 = .ok (.aload_n 0, 1) := by decide +kernel
theorem dX11_pattern_1 : decode cX11_pattern 1 = .ok (.iload_n 1, 1) := by decide +kernel
theorem dX11_pattern_2 : decode cX11_pattern 2 = .ok (.invokestatic 165, 3) := by decide +kernel
theorem dX11_pattern_5 : decode cX11_pattern 5 = .ok (.iconst 1, 1) := by decide +kernel
theorem dX11_pattern_6 : decode cX11_pattern 6 = .ok (.invokevirtual 172, 3) := by decide +kernel
theorem dX11_pattern_9 : decode cX11_pattern 9 = .ok (.ifCond .eq 12, 3) := by decide +kernel
theorem dX11_pattern_12 : decode cX11_pattern 12 = .ok (.aload_n 0, 1) := by decide +kernel
theorem dX11_pattern_13 : decode cX11_pattern 13 = .ok (.getfield 20, 3) := by decide +kernel
theorem dX11_pattern_16 : decode cX11_pattern 16 = .ok (.iload_n 1, 1) := by decide +kernel
theorem dX11_pattern_17 : decode cX11_pattern 17 = .ok (.laload, 1) := by decide +kernel
theorem dX11_pattern_18 : decode cX11_pattern 18 = .ok (.goto 4, 3) := by decide +kernel
theorem dX11_pattern_21 : decode cX11_pattern 21 = .ok (.lconst 0, 1) := by decide +kernel
theorem dX11_pattern_22 : decode cX11_pattern 22 = .ok (.lreturn, 1) := by decide +kernel
theorem dX11_width_0 : decode cX11_width 0 = .ok (.aload_n 0, 1) := by decide +kernel
theorem dX11_width_1 : decode cX11_width 1 = .ok (.iload_n 1, 1) := by decide +kernel
theorem dX11_width_2 : decode cX11_width 2 = .ok (.invokestatic 165, 3) := by decide +kernel
theorem dX11_width_5 : decode cX11_width 5 = .ok (.iconst 1, 1) := by decide +kernel
theorem dX11_width_6 : decode cX11_width 6 = .ok (.invokevirtual 172, 3) := by decide +kernel
theorem dX11_width_9 : decode cX11_width 9 = .ok (.ifCond .eq 12, 3) := by decide +kernel
theorem dX11_width_12 : decode cX11_width 12 = .ok (.aload_n 0, 1) := by decide +kernel
theorem dX11_width_13 : decode cX11_width 13 = .ok (.getfield 24, 3) := by decide +kernel
theorem dX11_width_16 : decode cX11_width 16 = .ok (.iload_n 1, 1) := by decide +kernel
theorem dX11_width_17 : decode cX11_width 17 = .ok (.iaload, 1) := by decide +kernel
theorem dX11_width_18 : decode cX11_width 18 = .ok (.goto 4, 3) := by decide +kernel
theorem dX11_width_21 : decode cX11_width 21 = .ok (.iconst 0, 1) := by decide +kernel
theorem dX11_width_22 : decode cX11_width 22 = .ok (.ireturn, 1) := by decide +kernel
theorem dX11_takeValue_0 : decode cX11_takeValue 0 = .ok (.aload_n 0, 1) := by decide +kernel
theorem dX11_takeValue_1 : decode cX11_takeValue 1 = .ok (.iload_n 1, 1) := by decide +kernel
theorem dX11_takeValue_2 : decode cX11_takeValue 2 = .ok (.invokevirtual 112, 3) := by decide +kernel
theorem dX11_takeValue_5 : decode cX11_takeValue 5 = .ok (.aload_n 0, 1) := by decide +kernel
theorem dX11_takeValue_6 : decode cX11_takeValue 6 = .ok (.aload_n 0, 1) := by decide +kernel
theorem dX11_takeValue_7 : decode cX11_takeValue 7 = .ok (.getfield 17, 3) := by decide +kernel
theorem dX11_takeValue_10 : decode cX11_takeValue 10 = .ok (.invokevirtual 119, 3) := by decide +kernel
theorem dX11_takeValue_13 : decode cX11_takeValue 13 = .ok (.aload_n 0, 1) := by decide +kernel
theorem dX11_takeValue_14 : decode cX11_takeValue 14 = .ok (.getfield 35, 3) := by decide +kernel
theorem dX11_takeValue_17 : decode cX11_takeValue 17 = .ok (.aload_n 0, 1) := by decide +kernel
theorem dX11_takeValue_18 : decode cX11_takeValue 18 = .ok (.getfield 7, 3) := by decide +kernel
theorem dX11_takeValue_21 : decode cX11_takeValue 21 = .ok (.invokevirtual 39, 3) := by decide +kernel
theorem dX11_takeValue_24 : decode cX11_takeValue 24 = .ok (.aload_n 0, 1) := by decide +kernel
theorem dX11_takeValue_25 : decode cX11_takeValue 25 = .ok (.aload_n 0, 1) := by decide +kernel
theorem dX11_takeValue_26 : decode cX11_takeValue 26 = .ok (.getfield 13, 3) := by decide +kernel
theorem dX11_takeValue_29 : decode cX11_takeValue 29 = .ok (.putfield 48, 3) := by decide +kernel
theorem dX11_takeValue_32 : decode cX11_takeValue 32 = .ok (.return_, 1) := by decide +kernel
theorem dX11_take_0 : decode cX11_take 0 = .ok (.aload_n 0, 1) := by decide +kernel
theorem dX11_take_1 : decode cX11_take 1 = .ok (.iload_n 1, 1) := by decide +kernel
theorem dX11_take_2 : decode cX11_take 2 = .ok (.invokestatic 165, 3) := by decide +kernel
theorem dX11_take_5 : decode cX11_take 5 = .ok (.ifCond .eq 14, 3) := by decide +kernel
theorem dX11_take_8 : decode cX11_take 8 = .ok (.iload_n 2, 1) := by decide +kernel
theorem dX11_take_9 : decode cX11_take 9 = .ok (.invokestatic 165, 3) := by decide +kernel
theorem dX11_take_12 : decode cX11_take 12 = .ok (.ifCond .eq 7, 3) := by decide +kernel
theorem dX11_take_15 : decode cX11_take 15 = .ok (.iconst 1, 1) := by decide +kernel
theorem dX11_take_16 : decode cX11_take 16 = .ok (.goto 4, 3) := by decide +kernel
theorem dX11_take_19 : decode cX11_take 19 = .ok (.iconst 0, 1) := by decide +kernel
theorem dX11_take_20 : decode cX11_take 20 = .ok (.iload_n 3, 1) := by decide +kernel
theorem dX11_take_21 : decode cX11_take 21 = .ok (.invokestatic 169, 3) := by decide +kernel
theorem dX11_take_24 : decode cX11_take 24 = .ok (.invokevirtual 172, 3) := by decide +kernel
theorem dX11_take_27 : decode cX11_take 27 = .ok (.ifCond .ne 4, 3) := by decide +kernel
theorem dX11_take_30 : decode cX11_take 30 = .ok (.return_, 1) := by decide +kernel
theorem dX11_take_31 : decode cX11_take 31 = .ok (.aload_n 0, 1) := by decide +kernel
theorem dX11_take_32 : decode cX11_take 32 = .ok (.iload_n 1, 1) := by decide +kernel
theorem dX11_take_33 : decode cX11_take 33 = .ok (.invokevirtual 176, 3) := by decide +kernel
theorem dX11_take_36 : decode cX11_take 36 = .ok (.istore 4, 2) := by decide +kernel
theorem dX11_take_38 : decode cX11_take 38 = .ok (.iload 4, 2) := by decide +kernel
theorem dX11_take_40 : decode cX11_take 40 = .ok (.ifCond .ne 8, 3) := by decide +kernel
theorem dX11_take_43 : decode cX11_take 43 = .ok (.aload_n 0, 1) := by decide +kernel
theorem dX11_take_44 : decode cX11_take 44 = .ok (.iload_n 1, 1) := by decide +kernel
theorem dX11_take_45 : decode cX11_take 45 = .ok (.invokevirtual 179, 3) := by decide +kernel
theorem dX11_take_48 : decode cX11_take 48 = .ok (.aload_n 0, 1) := by decide +kernel
theorem dX11_take_49 : decode cX11_take 49 = .ok (.getfield 24, 3) := by decide +kernel
theorem dX11_take_52 : decode cX11_take 52 = .ok (.iload_n 2, 1) := by decide +kernel
theorem dX11_take_53 : decode cX11_take 53 = .ok (.iload_n 3, 1) := by decide +kernel
theorem dX11_take_54 : decode cX11_take 54 = .ok (.iastore, 1) := by decide +kernel
theorem dX11_take_55 : decode cX11_take 55 = .ok (.iload 4, 2) := by decide +kernel
theorem dX11_take_57 : decode cX11_take 57 = .ok (.ifCond .eq 11, 3) := by decide +kernel
theorem dX11_take_60 : decode cX11_take 60 = .ok (.aload_n 0, 1) := by decide +kernel
theorem dX11_take_61 : decode cX11_take 61 = .ok (.iload_n 2, 1) := by decide +kernel
theorem dX11_take_62 : decode cX11_take 62 = .ok (.invokevirtual 182, 3) := by decide +kernel
theorem dX11_take_65 : decode cX11_take 65 = .ok (.goto 8, 3) := by decide +kernel
theorem dX11_take_68 : decode cX11_take 68 = .ok (.aload_n 0, 1) := by decide +kernel
theorem dX11_take_69 : decode cX11_take 69 = .ok (.iload_n 2, 1) := by decide +kernel
theorem dX11_take_70 : decode cX11_take 70 = .ok (.invokevirtual 185, 3) := by decide +kernel
theorem dX11_take_73 : decode cX11_take 73 = .ok (.return_, 1) := by decide +kernel
theorem dX11_ratio_0 : decode cX11_ratio 0 = .ok (.aload_n 0, 1) := by decide +kernel
theorem dX11_ratio_1 : decode cX11_ratio 1 = .ok (.iload_n 1, 1) := by decide +kernel
theorem dX11_ratio_2 : decode cX11_ratio 2 = .ok (.invokestatic 165, 3) := by decide +kernel
theorem dX11_ratio_5 : decode cX11_ratio 5 = .ok (.iconst 1, 1) := by decide +kernel
theorem dX11_ratio_6 : decode cX11_ratio 6 = .ok (.invokevirtual 172, 3) := by decide +kernel
theorem dX11_ratio_9 : decode cX11_ratio 9 = .ok (.ifCond .ne 4, 3) := by decide +kernel
theorem dX11_ratio_12 : decode cX11_ratio 12 = .ok (.return_, 1) := by decide +kernel
theorem dX11_ratio_13 : decode cX11_ratio 13 = .ok (.lload 4, 2) := by decide +kernel
theorem dX11_ratio_15 : decode cX11_ratio 15 = .ok (.lconst 0, 1) := by decide +kernel
theorem dX11_ratio_16 : decode cX11_ratio 16 = .ok (.lcmp, 1) := by decide +kernel
theorem dX11_ratio_17 : decode cX11_ratio 17 = .ok (.ifCond .ne 9, 3) := by decide +kernel
theorem dX11_ratio_20 : decode cX11_ratio 20 = .ok (.aload_n 0, 1) := by decide +kernel
theorem dX11_ratio_21 : decode cX11_ratio 21 = .ok (.iload_n 1, 1) := by decide +kernel
theorem dX11_ratio_22 : decode cX11_ratio 22 = .ok (.invokevirtual 182, 3) := by decide +kernel
theorem dX11_ratio_25 : decode cX11_ratio 25 = .ok (.return_, 1) := by decide +kernel
theorem dX11_ratio_26 : decode cX11_ratio 26 = .ok (.aload_n 0, 1) := by decide +kernel
theorem dX11_ratio_27 : decode cX11_ratio 27 = .ok (.lload_n 2, 1) := by decide +kernel
theorem dX11_ratio_28 : decode cX11_ratio 28 = .ok (.lconst 0, 1) := by decide +kernel
theorem dX11_ratio_29 : decode cX11_ratio 29 = .ok (.lcmp, 1) := by decide +kernel
theorem dX11_ratio_30 : decode cX11_ratio 30 = .ok (.ifCond .ne 7, 3) := by decide +kernel
theorem dX11_ratio_33 : decode cX11_ratio 33 = .ok (.iconst 0, 1) := by decide +kernel
theorem dX11_ratio_34 : decode cX11_ratio 34 = .ok (.goto 34, 3) := by decide +kernel
theorem dX11_ratio_37 : decode cX11_ratio 37 = .ok (.lload_n 2, 1) := by decide +kernel
theorem dX11_ratio_38 : decode cX11_ratio 38 = .ok (.lconst 0, 1) := by decide +kernel
theorem dX11_ratio_39 : decode cX11_ratio 39 = .ok (.lcmp, 1) := by decide +kernel
theorem dX11_ratio_40 : decode cX11_ratio 40 = .ok (.ifCond .ge 7, 3) := by decide +kernel
theorem dX11_ratio_43 : decode cX11_ratio 43 = .ok (.iconst 1, 1) := by decide +kernel
theorem dX11_ratio_44 : decode cX11_ratio 44 = .ok (.goto 4, 3) := by decide +kernel
theorem dX11_ratio_47 : decode cX11_ratio 47 = .ok (.iconst 0, 1) := by decide +kernel
theorem dX11_ratio_48 : decode cX11_ratio 48 = .ok (.lload 4, 2) := by decide +kernel
theorem dX11_ratio_50 : decode cX11_ratio 50 = .ok (.lconst 0, 1) := by decide +kernel
theorem dX11_ratio_51 : decode cX11_ratio 51 = .ok (.lcmp, 1) := by decide +kernel
theorem dX11_ratio_52 : decode cX11_ratio 52 = .ok (.ifCond .ge 7, 3) := by decide +kernel
theorem dX11_ratio_55 : decode cX11_ratio 55 = .ok (.iconst 1, 1) := by decide +kernel
theorem dX11_ratio_56 : decode cX11_ratio 56 = .ok (.goto 4, 3) := by decide +kernel
theorem dX11_ratio_59 : decode cX11_ratio 59 = .ok (.iconst 0, 1) := by decide +kernel
theorem dX11_ratio_60 : decode cX11_ratio 60 = .ok (.if_icmp .ne 7, 3) := by decide +kernel
theorem dX11_ratio_63 : decode cX11_ratio 63 = .ok (.iconst 1, 1) := by decide +kernel
theorem dX11_ratio_64 : decode cX11_ratio 64 = .ok (.goto 4, 3) := by decide +kernel
theorem dX11_ratio_67 : decode cX11_ratio 67 = .ok (.iconst (-1), 1) := by decide +kernel
theorem dX11_ratio_68 : decode cX11_ratio 68 = .ok (.invokevirtual 119, 3) := by decide +kernel
theorem dX11_ratio_71 : decode cX11_ratio 71 = .ok (.aload_n 0, 1) := by decide +kernel
theorem dX11_ratio_72 : decode cX11_ratio 72 = .ok (.getfield 35, 3) := by decide +kernel
theorem dX11_ratio_75 : decode cX11_ratio 75 = .ok (.lload_n 2, 1) := by decide +kernel
theorem dX11_ratio_76 : decode cX11_ratio 76 = .ok (.lconst 0, 1) := by decide +kernel
theorem dX11_ratio_77 : decode cX11_ratio 77 = .ok (.lcmp, 1) := by decide +kernel
theorem dX11_ratio_78 : decode cX11_ratio 78 = .ok (.ifCond .ge 8, 3) := by decide +kernel
theorem dX11_ratio_81 : decode cX11_ratio 81 = .ok (.lload_n 2, 1) := by decide +kernel
theorem dX11_ratio_82 : decode cX11_ratio 82 = .ok (.lneg, 1) := by decide +kernel
theorem dX11_ratio_83 : decode cX11_ratio 83 = .ok (.goto 4, 3) := by decide +kernel
theorem dX11_ratio_86 : decode cX11_ratio 86 = .ok (.lload_n 2, 1) := by decide +kernel
theorem dX11_ratio_87 : decode cX11_ratio 87 = .ok (.invokevirtual 39, 3) := by decide +kernel
theorem dX11_ratio_90 : decode cX11_ratio 90 = .ok (.aload_n 0, 1) := by decide +kernel
theorem dX11_ratio_91 : decode cX11_ratio 91 = .ok (.getfield 45, 3) := by decide +kernel
theorem dX11_ratio_94 : decode cX11_ratio 94 = .ok (.lload 4, 2) := by decide +kernel
theorem dX11_ratio_96 : decode cX11_ratio 96 = .ok (.lconst 0, 1) := by decide +kernel
theorem dX11_ratio_97 : decode cX11_ratio 97 = .ok (.lcmp, 1) := by decide +kernel
theorem dX11_ratio_98 : decode cX11_ratio 98 = .ok (.ifCond .ge 9, 3) := by decide +kernel
theorem dX11_ratio_101 : decode cX11_ratio 101 = .ok (.lload 4, 2) := by decide +kernel
theorem dX11_ratio_103 : decode cX11_ratio 103 = .ok (.lneg, 1) := by decide +kernel
theorem dX11_ratio_104 : decode cX11_ratio 104 = .ok (.goto 5, 3) := by decide +kernel
theorem dX11_ratio_107 : decode cX11_ratio 107 = .ok (.lload 4, 2) := by decide +kernel
theorem dX11_ratio_109 : decode cX11_ratio 109 = .ok (.invokevirtual 39, 3) := by decide +kernel
theorem dX11_ratio_112 : decode cX11_ratio 112 = .ok (.aload_n 0, 1) := by decide +kernel
theorem dX11_ratio_113 : decode cX11_ratio 113 = .ok (.iload_n 1, 1) := by decide +kernel
theorem dX11_ratio_114 : decode cX11_ratio 114 = .ok (.invokevirtual 185, 3) := by decide +kernel
theorem dX11_ratio_117 : decode cX11_ratio 117 = .ok (.return_, 1) := by decide +kernel
theorem dX11_wholeOf_0 : decode cX11_wholeOf 0 = .ok (.aload_n 0, 1) := by decide +kernel
theorem dX11_wholeOf_1 : decode cX11_wholeOf 1 = .ok (.getfield 17, 3) := by decide +kernel
theorem dX11_wholeOf_4 : decode cX11_wholeOf 4 = .ok (.ifCond .eq 10, 3) := by decide +kernel
theorem dX11_wholeOf_7 : decode cX11_wholeOf 7 = .ok (.aload_n 0, 1) := by decide +kernel
theorem dX11_wholeOf_8 : decode cX11_wholeOf 8 = .ok (.getfield 13, 3) := by decide +kernel
theorem dX11_wholeOf_11 : decode cX11_wholeOf 11 = .ok (.ifCond .lt 41, 3) := by decide +kernel
theorem dX11_wholeOf_14 : decode cX11_wholeOf 14 = .ok (.aload_n 0, 1) := by decide +kernel
theorem dX11_wholeOf_15 : decode cX11_wholeOf 15 = .ok (.getfield 100, 3) := by decide +kernel
theorem dX11_wholeOf_18 : decode cX11_wholeOf 18 = .ok (.aload_n 0, 1) := by decide +kernel
theorem dX11_wholeOf_19 : decode cX11_wholeOf 19 = .ok (.getfield 7, 3) := by decide +kernel
theorem dX11_wholeOf_22 : decode cX11_wholeOf 22 = .ok (.invokevirtual 39, 3) := by decide +kernel
theorem dX11_wholeOf_25 : decode cX11_wholeOf 25 = .ok (.aload_n 0, 1) := by decide +kernel
theorem dX11_wholeOf_26 : decode cX11_wholeOf 26 = .ok (.getfield 100, 3) := by decide +kernel
theorem dX11_wholeOf_29 : decode cX11_wholeOf 29 = .ok (.aload_n 0, 1) := by decide +kernel
theorem dX11_wholeOf_30 : decode cX11_wholeOf 30 = .ok (.getfield 17, 3) := by decide +kernel
theorem dX11_wholeOf_33 : decode cX11_wholeOf 33 = .ok (.ifCond .ne 7, 3) := by decide +kernel
theorem dX11_wholeOf_36 : decode cX11_wholeOf 36 = .ok (.iconst 0, 1) := by decide +kernel
theorem dX11_wholeOf_37 : decode cX11_wholeOf 37 = .ok (.goto 7, 3) := by decide +kernel
theorem dX11_wholeOf_40 : decode cX11_wholeOf 40 = .ok (.aload_n 0, 1) := by decide +kernel
theorem dX11_wholeOf_41 : decode cX11_wholeOf 41 = .ok (.getfield 13, 3) := by decide +kernel
theorem dX11_wholeOf_44 : decode cX11_wholeOf 44 = .ok (.invokevirtual 71, 3) := by decide +kernel
theorem dX11_wholeOf_47 : decode cX11_wholeOf 47 = .ok (.aload_n 0, 1) := by decide +kernel
theorem dX11_wholeOf_48 : decode cX11_wholeOf 48 = .ok (.getfield 17, 3) := by decide +kernel
theorem dX11_wholeOf_51 : decode cX11_wholeOf 51 = .ok (.ireturn, 1) := by decide +kernel
theorem dX11_wholeOf_52 : decode cX11_wholeOf 52 = .ok (.aload_n 0, 1) := by decide +kernel
theorem dX11_wholeOf_53 : decode cX11_wholeOf 53 = .ok (.getfield 13, 3) := by decide +kernel
theorem dX11_wholeOf_56 : decode cX11_wholeOf 56 = .ok (.ineg, 1) := by decide +kernel
theorem dX11_wholeOf_57 : decode cX11_wholeOf 57 = .ok (.istore_n 2, 1) := by decide +kernel
theorem dX11_wholeOf_58 : decode cX11_wholeOf 58 = .ok (.iload_n 2, 1) := by decide +kernel
theorem dX11_wholeOf_59 : decode cX11_wholeOf 59 = .ok (.bipush 40, 2) := by decide +kernel
theorem dX11_wholeOf_61 : decode cX11_wholeOf 61 = .ok (.if_icmp .le 7, 3) := by decide +kernel
theorem dX11_wholeOf_64 : decode cX11_wholeOf 64 = .ok (.lconst 0, 1) := by decide +kernel
theorem dX11_wholeOf_65 : decode cX11_wholeOf 65 = .ok (.goto 9, 3) := by decide +kernel
theorem dX11_wholeOf_68 : decode cX11_wholeOf 68 = .ok (.aload_n 0, 1) := by decide +kernel
theorem dX11_wholeOf_69 : decode cX11_wholeOf 69 = .ok (.getfield 7, 3) := by decide +kernel
theorem dX11_wholeOf_72 : decode cX11_wholeOf 72 = .ok (.iload_n 2, 1) := by decide +kernel
theorem dX11_wholeOf_73 : decode cX11_wholeOf 73 = .ok (.lshr, 1) := by decide +kernel
theorem dX11_wholeOf_74 : decode cX11_wholeOf 74 = .ok (.lstore_n 3, 1) := by decide +kernel
theorem dX11_wholeOf_75 : decode cX11_wholeOf 75 = .ok (.iload_n 2, 1) := by decide +kernel
theorem dX11_wholeOf_76 : decode cX11_wholeOf 76 = .ok (.bipush 40, 2) := by decide +kernel
theorem dX11_wholeOf_78 : decode cX11_wholeOf 78 = .ok (.if_icmp .gt 18, 3) := by decide +kernel
theorem dX11_wholeOf_81 : decode cX11_wholeOf 81 = .ok (.lload_n 3, 1) := by decide +kernel
theorem dX11_wholeOf_82 : decode cX11_wholeOf 82 = .ok (.iload_n 2, 1) := by decide +kernel
theorem dX11_wholeOf_83 : decode cX11_wholeOf 83 = .ok (.lshl, 1) := by decide +kernel
theorem dX11_wholeOf_84 : decode cX11_wholeOf 84 = .ok (.aload_n 0, 1) := by decide +kernel
theorem dX11_wholeOf_85 : decode cX11_wholeOf 85 = .ok (.getfield 7, 3) := by decide +kernel
theorem dX11_wholeOf_88 : decode cX11_wholeOf 88 = .ok (.lcmp, 1) := by decide +kernel
theorem dX11_wholeOf_89 : decode cX11_wholeOf 89 = .ok (.ifCond .ne 7, 3) := by decide +kernel
theorem dX11_wholeOf_92 : decode cX11_wholeOf 92 = .ok (.iconst 1, 1) := by decide +kernel
theorem dX11_wholeOf_93 : decode cX11_wholeOf 93 = .ok (.goto 4, 3) := by decide +kernel
theorem dX11_wholeOf_96 : decode cX11_wholeOf 96 = .ok (.iconst 0, 1) := by decide +kernel
theorem dX11_wholeOf_97 : decode cX11_wholeOf 97 = .ok (.istore 5, 2) := by decide +kernel
theorem dX11_wholeOf_99 : decode cX11_wholeOf 99 = .ok (.iload_n 1, 1) := by decide +kernel
theorem dX11_wholeOf_100 : decode cX11_wholeOf 100 = .ok (.iconst 3, 1) := by decide +kernel
theorem dX11_wholeOf_101 : decode cX11_wholeOf 101 = .ok (.if_icmp .ne 68, 3) := by decide +kernel
theorem dX11_wholeOf_104 : decode cX11_wholeOf 104 = .ok (.iload_n 2, 1) := by decide +kernel
theorem dX11_wholeOf_105 : decode cX11_wholeOf 105 = .ok (.bipush 40, 2) := by decide +kernel
theorem dX11_wholeOf_107 : decode cX11_wholeOf 107 = .ok (.if_icmp .le 9, 3) := by decide +kernel
theorem dX11_wholeOf_110 : decode cX11_wholeOf 110 = .ok (.ldc2_w 188, 3) := by decide +kernel
theorem dX11_wholeOf_113 : decode cX11_wholeOf 113 = .ok (.goto 20, 3) := by decide +kernel
theorem dX11_wholeOf_116 : decode cX11_wholeOf 116 = .ok (.aload_n 0, 1) := by decide +kernel
theorem dX11_wholeOf_117 : decode cX11_wholeOf 117 = .ok (.getfield 7, 3) := by decide +kernel
theorem dX11_wholeOf_120 : decode cX11_wholeOf 120 = .ok (.lload_n 3, 1) := by decide +kernel
theorem dX11_wholeOf_121 : decode cX11_wholeOf 121 = .ok (.iload_n 2, 1) := by decide +kernel
theorem dX11_wholeOf_122 : decode cX11_wholeOf 122 = .ok (.lshl, 1) := by decide +kernel
theorem dX11_wholeOf_123 : decode cX11_wholeOf 123 = .ok (.lsub, 1) := by decide +kernel
theorem dX11_wholeOf_124 : decode cX11_wholeOf 124 = .ok (.iconst 1, 1) := by decide +kernel
theorem dX11_wholeOf_125 : decode cX11_wholeOf 125 = .ok (.lshl, 1) := by decide +kernel
theorem dX11_wholeOf_126 : decode cX11_wholeOf 126 = .ok (.lconst 1, 1) := by decide +kernel
theorem dX11_wholeOf_127 : decode cX11_wholeOf 127 = .ok (.iload_n 2, 1) := by decide +kernel
theorem dX11_wholeOf_128 : decode cX11_wholeOf 128 = .ok (.lshl, 1) := by decide +kernel
theorem dX11_wholeOf_129 : decode cX11_wholeOf 129 = .ok (.invokestatic 190, 3) := by decide +kernel
theorem dX11_wholeOf_132 : decode cX11_wholeOf 132 = .ok (.i2l, 1) := by decide +kernel
theorem dX11_wholeOf_133 : decode cX11_wholeOf 133 = .ok (.lstore 7, 2) := by decide +kernel
theorem dX11_wholeOf_135 : decode cX11_wholeOf 135 = .ok (.lload 7, 2) := by decide +kernel
theorem dX11_wholeOf_137 : decode cX11_wholeOf 137 = .ok (.lconst 0, 1) := by decide +kernel
theorem dX11_wholeOf_138 : decode cX11_wholeOf 138 = .ok (.lcmp, 1) := by decide +kernel
theorem dX11_wholeOf_139 : decode cX11_wholeOf 139 = .ok (.ifCond .gt 20, 3) := by decide +kernel
theorem dX11_wholeOf_142 : decode cX11_wholeOf 142 = .ok (.lload 7, 2) := by decide +kernel
theorem dX11_wholeOf_144 : decode cX11_wholeOf 144 = .ok (.lconst 0, 1) := by decide +kernel
theorem dX11_wholeOf_145 : decode cX11_wholeOf 145 = .ok (.lcmp, 1) := by decide +kernel
theorem dX11_wholeOf_146 : decode cX11_wholeOf 146 = .ok (.ifCond .ne 17, 3) := by decide +kernel
theorem dX11_wholeOf_149 : decode cX11_wholeOf 149 = .ok (.lload_n 3, 1) := by decide +kernel
theorem dX11_wholeOf_150 : decode cX11_wholeOf 150 = .ok (.ldc2_w 89, 3) := by decide +kernel
theorem dX11_wholeOf_153 : decode cX11_wholeOf 153 = .ok (.lrem, 1) := by decide +kernel
theorem dX11_wholeOf_154 : decode cX11_wholeOf 154 = .ok (.lconst 1, 1) := by decide +kernel
theorem dX11_wholeOf_155 : decode cX11_wholeOf 155 = .ok (.lcmp, 1) := by decide +kernel
theorem dX11_wholeOf_156 : decode cX11_wholeOf 156 = .ok (.ifCond .ne 7, 3) := by decide +kernel
theorem dX11_wholeOf_159 : decode cX11_wholeOf 159 = .ok (.iconst 1, 1) := by decide +kernel
theorem dX11_wholeOf_160 : decode cX11_wholeOf 160 = .ok (.goto 4, 3) := by decide +kernel
theorem dX11_wholeOf_163 : decode cX11_wholeOf 163 = .ok (.iconst 0, 1) := by decide +kernel
theorem dX11_wholeOf_164 : decode cX11_wholeOf 164 = .ok (.istore 6, 2) := by decide +kernel
theorem dX11_wholeOf_166 : decode cX11_wholeOf 166 = .ok (.goto 40, 3) := by decide +kernel
theorem dX11_wholeOf_169 : decode cX11_wholeOf 169 = .ok (.iload 5, 2) := by decide +kernel
theorem dX11_wholeOf_171 : decode cX11_wholeOf 171 = .ok (.ifCond .ne 32, 3) := by decide +kernel
theorem dX11_wholeOf_174 : decode cX11_wholeOf 174 = .ok (.iload_n 1, 1) := by decide +kernel
theorem dX11_wholeOf_175 : decode cX11_wholeOf 175 = .ok (.iconst 5, 1) := by decide +kernel
theorem dX11_wholeOf_176 : decode cX11_wholeOf 176 = .ok (.if_icmp .ne 7, 3) := by decide +kernel
theorem dX11_wholeOf_179 : decode cX11_wholeOf 179 = .ok (.iconst 1, 1) := by decide +kernel
theorem dX11_wholeOf_180 : decode cX11_wholeOf 180 = .ok (.goto 4, 3) := by decide +kernel
theorem dX11_wholeOf_183 : decode cX11_wholeOf 183 = .ok (.iconst 0, 1) := by decide +kernel
theorem dX11_wholeOf_184 : decode cX11_wholeOf 184 = .ok (.aload_n 0, 1) := by decide +kernel
theorem dX11_wholeOf_185 : decode cX11_wholeOf 185 = .ok (.getfield 17, 3) := by decide +kernel
theorem dX11_wholeOf_188 : decode cX11_wholeOf 188 = .ok (.ifCond .le 7, 3) := by decide +kernel
theorem dX11_wholeOf_191 : decode cX11_wholeOf 191 = .ok (.iconst 1, 1) := by decide +kernel
theorem dX11_wholeOf_192 : decode cX11_wholeOf 192 = .ok (.goto 4, 3) := by decide +kernel
theorem dX11_wholeOf_195 : decode cX11_wholeOf 195 = .ok (.iconst 0, 1) := by decide +kernel
theorem dX11_wholeOf_196 : decode cX11_wholeOf 196 = .ok (.if_icmp .ne 7, 3) := by decide +kernel
theorem dX11_wholeOf_199 : decode cX11_wholeOf 199 = .ok (.iconst 1, 1) := by decide +kernel
theorem dX11_wholeOf_200 : decode cX11_wholeOf 200 = .ok (.goto 4, 3) := by decide +kernel
theorem dX11_wholeOf_203 : decode cX11_wholeOf 203 = .ok (.iconst 0, 1) := by decide +kernel
theorem dX11_wholeOf_204 : decode cX11_wholeOf 204 = .ok (.istore 6, 2) := by decide +kernel
theorem dX11_wholeOf_206 : decode cX11_wholeOf 206 = .ok (.lload_n 3, 1) := by decide +kernel
theorem dX11_wholeOf_207 : decode cX11_wholeOf 207 = .ok (.iload 6, 2) := by decide +kernel
theorem dX11_wholeOf_209 : decode cX11_wholeOf 209 = .ok (.ifCond .eq 7, 3) := by decide +kernel
theorem dX11_wholeOf_212 : decode cX11_wholeOf 212 = .ok (.lconst 1, 1) := by decide +kernel
theorem dX11_wholeOf_213 : decode cX11_wholeOf 213 = .ok (.goto 4, 3) := by decide +kernel
theorem dX11_wholeOf_216 : decode cX11_wholeOf 216 = .ok (.lconst 0, 1) := by decide +kernel
theorem dX11_wholeOf_217 : decode cX11_wholeOf 217 = .ok (.ladd, 1) := by decide +kernel
theorem dX11_wholeOf_218 : decode cX11_wholeOf 218 = .ok (.lstore_n 3, 1) := by decide +kernel
theorem dX11_wholeOf_219 : decode cX11_wholeOf 219 = .ok (.aload_n 0, 1) := by decide +kernel
theorem dX11_wholeOf_220 : decode cX11_wholeOf 220 = .ok (.getfield 100, 3) := by decide +kernel
theorem dX11_wholeOf_223 : decode cX11_wholeOf 223 = .ok (.lload_n 3, 1) := by decide +kernel
theorem dX11_wholeOf_224 : decode cX11_wholeOf 224 = .ok (.invokevirtual 39, 3) := by decide +kernel
theorem dX11_wholeOf_227 : decode cX11_wholeOf 227 = .ok (.lload_n 3, 1) := by decide +kernel
theorem dX11_wholeOf_228 : decode cX11_wholeOf 228 = .ok (.lconst 0, 1) := by decide +kernel
theorem dX11_wholeOf_229 : decode cX11_wholeOf 229 = .ok (.lcmp, 1) := by decide +kernel
theorem dX11_wholeOf_230 : decode cX11_wholeOf 230 = .ok (.ifCond .ne 7, 3) := by decide +kernel
theorem dX11_wholeOf_233 : decode cX11_wholeOf 233 = .ok (.iconst 0, 1) := by decide +kernel
theorem dX11_wholeOf_234 : decode cX11_wholeOf 234 = .ok (.goto 7, 3) := by decide +kernel
theorem dX11_wholeOf_237 : decode cX11_wholeOf 237 = .ok (.aload_n 0, 1) := by decide +kernel
theorem dX11_wholeOf_238 : decode cX11_wholeOf 238 = .ok (.getfield 17, 3) := by decide +kernel
theorem dX11_wholeOf_241 : decode cX11_wholeOf 241 = .ok (.ireturn, 1) := by decide +kernel
theorem dX11_whole_0 : decode cX11_whole 0 = .ok (.aload_n 0, 1) := by decide +kernel
theorem dX11_whole_1 : decode cX11_whole 1 = .ok (.iload_n 1, 1) := by decide +kernel
theorem dX11_whole_2 : decode cX11_whole 2 = .ok (.invokestatic 165, 3) := by decide +kernel
theorem dX11_whole_5 : decode cX11_whole 5 = .ok (.ifCond .eq 7, 3) := by decide +kernel
theorem dX11_whole_8 : decode cX11_whole 8 = .ok (.iconst 0, 1) := by decide +kernel
theorem dX11_whole_9 : decode cX11_whole 9 = .ok (.goto 4, 3) := by decide +kernel
theorem dX11_whole_12 : decode cX11_whole 12 = .ok (.iconst 1, 1) := by decide +kernel
theorem dX11_whole_13 : decode cX11_whole 13 = .ok (.putfield 162, 3) := by decide +kernel
theorem dX11_whole_16 : decode cX11_whole 16 = .ok (.aload_n 0, 1) := by decide +kernel
theorem dX11_whole_17 : decode cX11_whole 17 = .ok (.getfield 162, 3) := by decide +kernel
theorem dX11_whole_20 : decode cX11_whole 20 = .ok (.ifCond .eq 5, 3) := by decide +kernel
theorem dX11_whole_23 : decode cX11_whole 23 = .ok (.lconst 0, 1) := by decide +kernel
theorem dX11_whole_24 : decode cX11_whole 24 = .ok (.lreturn, 1) := by decide +kernel
theorem dX11_whole_25 : decode cX11_whole 25 = .ok (.aload_n 0, 1) := by decide +kernel
theorem dX11_whole_26 : decode cX11_whole 26 = .ok (.iload_n 1, 1) := by decide +kernel
theorem dX11_whole_27 : decode cX11_whole 27 = .ok (.invokevirtual 176, 3) := by decide +kernel
theorem dX11_whole_30 : decode cX11_whole 30 = .ok (.ifCond .eq 10, 3) := by decide +kernel
theorem dX11_whole_33 : decode cX11_whole 33 = .ok (.aload_n 0, 1) := by decide +kernel
theorem dX11_whole_34 : decode cX11_whole 34 = .ok (.iconst 2, 1) := by decide +kernel
theorem dX11_whole_35 : decode cX11_whole 35 = .ok (.putfield 162, 3) := by decide +kernel
theorem dX11_whole_38 : decode cX11_whole 38 = .ok (.lconst 0, 1) := by decide +kernel
theorem dX11_whole_39 : decode cX11_whole 39 = .ok (.lreturn, 1) := by decide +kernel
theorem dX11_whole_40 : decode cX11_whole 40 = .ok (.aload_n 0, 1) := by decide +kernel
theorem dX11_whole_41 : decode cX11_whole 41 = .ok (.iload_n 1, 1) := by decide +kernel
theorem dX11_whole_42 : decode cX11_whole 42 = .ok (.invokevirtual 112, 3) := by decide +kernel
theorem dX11_whole_45 : decode cX11_whole 45 = .ok (.aload_n 0, 1) := by decide +kernel
theorem dX11_whole_46 : decode cX11_whole 46 = .ok (.iconst 3, 1) := by decide +kernel
theorem dX11_whole_47 : decode cX11_whole 47 = .ok (.invokevirtual 195, 3) := by decide +kernel
theorem dX11_whole_50 : decode cX11_whole 50 = .ok (.istore_n 2, 1) := by decide +kernel
theorem dX11_whole_51 : decode cX11_whole 51 = .ok (.aload_n 0, 1) := by decide +kernel
theorem dX11_whole_52 : decode cX11_whole 52 = .ok (.getfield 100, 3) := by decide +kernel
theorem dX11_whole_55 : decode cX11_whole 55 = .ok (.invokevirtual 67, 3) := by decide +kernel
theorem dX11_whole_58 : decode cX11_whole 58 = .ok (.bipush 64, 2) := by decide +kernel
theorem dX11_whole_60 : decode cX11_whole 60 = .ok (.if_icmp .gt 42, 3) := by decide +kernel
theorem dX11_whole_63 : decode cX11_whole 63 = .ok (.aload_n 0, 1) := by decide +kernel
theorem dX11_whole_64 : decode cX11_whole 64 = .ok (.getfield 100, 3) := by decide +kernel
theorem dX11_whole_67 : decode cX11_whole 67 = .ok (.invokevirtual 67, 3) := by decide +kernel
theorem dX11_whole_70 : decode cX11_whole 70 = .ok (.bipush 64, 2) := by decide +kernel
theorem dX11_whole_72 : decode cX11_whole 72 = .ok (.if_icmp .ne 37, 3) := by decide +kernel
theorem dX11_whole_75 : decode cX11_whole 75 = .ok (.iload_n 2, 1) := by decide +kernel
theorem dX11_whole_76 : decode cX11_whole 76 = .ok (.ifCond .gt 26, 3) := by decide +kernel
theorem dX11_whole_79 : decode cX11_whole 79 = .ok (.aload_n 0, 1) := by decide +kernel
theorem dX11_whole_80 : decode cX11_whole 80 = .ok (.getfield 100, 3) := by decide +kernel
theorem dX11_whole_83 : decode cX11_whole 83 = .ok (.bipush 63, 2) := by decide +kernel
theorem dX11_whole_85 : decode cX11_whole 85 = .ok (.invokevirtual 199, 3) := by decide +kernel
theorem dX11_whole_88 : decode cX11_whole 88 = .ok (.iconst 1, 1) := by decide +kernel
theorem dX11_whole_89 : decode cX11_whole 89 = .ok (.if_icmp .ne 20, 3) := by decide +kernel
theorem dX11_whole_92 : decode cX11_whole 92 = .ok (.aload_n 0, 1) := by decide +kernel
theorem dX11_whole_93 : decode cX11_whole 93 = .ok (.getfield 100, 3) := by decide +kernel
theorem dX11_whole_96 : decode cX11_whole 96 = .ok (.invokestatic 202, 3) := by decide +kernel
theorem dX11_whole_99 : decode cX11_whole 99 = .ok (.ifCond .ne 10, 3) := by decide +kernel
theorem dX11_whole_102 : decode cX11_whole 102 = .ok (.aload_n 0, 1) := by decide +kernel
theorem dX11_whole_103 : decode cX11_whole 103 = .ok (.iconst 2, 1) := by decide +kernel
theorem dX11_whole_104 : decode cX11_whole 104 = .ok (.putfield 162, 3) := by decide +kernel
theorem dX11_whole_107 : decode cX11_whole 107 = .ok (.lconst 0, 1) := by decide +kernel
theorem dX11_whole_108 : decode cX11_whole 108 = .ok (.lreturn, 1) := by decide +kernel
theorem dX11_whole_109 : decode cX11_whole 109 = .ok (.lconst 0, 1) := by decide +kernel
theorem dX11_whole_110 : decode cX11_whole 110 = .ok (.lstore_n 3, 1) := by decide +kernel
theorem dX11_whole_111 : decode cX11_whole 111 = .ok (.aload_n 0, 1) := by decide +kernel
theorem dX11_whole_112 : decode cX11_whole 112 = .ok (.getfield 100, 3) := by decide +kernel
theorem dX11_whole_115 : decode cX11_whole 115 = .ok (.getfield 206, 3) := by decide +kernel
theorem dX11_whole_118 : decode cX11_whole 118 = .ok (.iconst 1, 1) := by decide +kernel
theorem dX11_whole_119 : decode cX11_whole 119 = .ok (.isub, 1) := by decide +kernel
theorem dX11_whole_120 : decode cX11_whole 120 = .ok (.istore 5, 2) := by decide +kernel
theorem dX11_whole_122 : decode cX11_whole 122 = .ok (.iload 5, 2) := by decide +kernel
theorem dX11_whole_124 : decode cX11_whole 124 = .ok (.ifCond .lt 26, 3) := by decide +kernel
theorem dX11_whole_127 : decode cX11_whole 127 = .ok (.lload_n 3, 1) := by decide +kernel
theorem dX11_whole_128 : decode cX11_whole 128 = .ok (.bipush 30, 2) := by decide +kernel
theorem dX11_whole_130 : decode cX11_whole 130 = .ok (.lshl, 1) := by decide +kernel
theorem dX11_whole_131 : decode cX11_whole 131 = .ok (.aload_n 0, 1) := by decide +kernel
theorem dX11_whole_132 : decode cX11_whole 132 = .ok (.getfield 100, 3) := by decide +kernel
theorem dX11_whole_135 : decode cX11_whole 135 = .ok (.getfield 209, 3) := by decide +kernel
theorem dX11_whole_138 : decode cX11_whole 138 = .ok (.iload 5, 2) := by decide +kernel
theorem dX11_whole_140 : decode cX11_whole 140 = .ok (.iaload, 1) := by decide +kernel
theorem dX11_whole_141 : decode cX11_whole 141 = .ok (.i2l, 1) := by decide +kernel
theorem dX11_whole_142 : decode cX11_whole 142 = .ok (.lor, 1) := by decide +kernel
theorem dX11_whole_143 : decode cX11_whole 143 = .ok (.lstore_n 3, 1) := by decide +kernel
theorem dX11_whole_144 : decode cX11_whole 144 = .ok (.iinc 5 (-1), 3) := by decide +kernel
theorem dX11_whole_147 : decode cX11_whole 147 = .ok (.goto (-25), 3) := by decide +kernel
theorem dX11_whole_150 : decode cX11_whole 150 = .ok (.iload_n 2, 1) := by decide +kernel
theorem dX11_whole_151 : decode cX11_whole 151 = .ok (.ifCond .ge 8, 3) := by decide +kernel
theorem dX11_whole_154 : decode cX11_whole 154 = .ok (.lload_n 3, 1) := by decide +kernel
theorem dX11_whole_155 : decode cX11_whole 155 = .ok (.lneg, 1) := by decide +kernel
theorem dX11_whole_156 : decode cX11_whole 156 = .ok (.goto 4, 3) := by decide +kernel
theorem dX11_whole_159 : decode cX11_whole 159 = .ok (.lload_n 3, 1) := by decide +kernel
theorem dX11_whole_160 : decode cX11_whole 160 = .ok (.lreturn, 1) := by decide +kernel
theorem dX11_isPower_0 : decode cX11_isPower 0 = .ok (.iconst 0, 1) := by decide +kernel
theorem dX11_isPower_1 : decode cX11_isPower 1 = .ok (.istore_n 1, 1) := by decide +kernel
theorem dX11_isPower_2 : decode cX11_isPower 2 = .ok (.iconst 0, 1) := by decide +kernel
theorem dX11_isPower_3 : decode cX11_isPower 3 = .ok (.istore_n 2, 1) := by decide +kernel
theorem dX11_isPower_4 : decode cX11_isPower 4 = .ok (.iload_n 2, 1) := by decide +kernel
theorem dX11_isPower_5 : decode cX11_isPower 5 = .ok (.aload_n 0, 1) := by decide +kernel
theorem dX11_isPower_6 : decode cX11_isPower 6 = .ok (.getfield 206, 3) := by decide +kernel
theorem dX11_isPower_9 : decode cX11_isPower 9 = .ok (.if_icmp .ge 21, 3) := by decide +kernel
theorem dX11_isPower_12 : decode cX11_isPower 12 = .ok (.iload_n 1, 1) := by decide +kernel
theorem dX11_isPower_13 : decode cX11_isPower 13 = .ok (.aload_n 0, 1) := by decide +kernel
theorem dX11_isPower_14 : decode cX11_isPower 14 = .ok (.getfield 209, 3) := by decide +kernel
theorem dX11_isPower_17 : decode cX11_isPower 17 = .ok (.iload_n 2, 1) := by decide +kernel
theorem dX11_isPower_18 : decode cX11_isPower 18 = .ok (.iaload, 1) := by decide +kernel
theorem dX11_isPower_19 : decode cX11_isPower 19 = .ok (.invokestatic 212, 3) := by decide +kernel
theorem dX11_isPower_22 : decode cX11_isPower 22 = .ok (.iadd, 1) := by decide +kernel
theorem dX11_isPower_23 : decode cX11_isPower 23 = .ok (.istore_n 1, 1) := by decide +kernel
theorem dX11_isPower_24 : decode cX11_isPower 24 = .ok (.iinc 2 1, 3) := by decide +kernel
theorem dX11_isPower_27 : decode cX11_isPower 27 = .ok (.goto (-23), 3) := by decide +kernel
theorem dX11_isPower_30 : decode cX11_isPower 30 = .ok (.iload_n 1, 1) := by decide +kernel
theorem dX11_isPower_31 : decode cX11_isPower 31 = .ok (.iconst 1, 1) := by decide +kernel
theorem dX11_isPower_32 : decode cX11_isPower 32 = .ok (.if_icmp .ne 7, 3) := by decide +kernel
theorem dX11_isPower_35 : decode cX11_isPower 35 = .ok (.iconst 1, 1) := by decide +kernel
theorem dX11_isPower_36 : decode cX11_isPower 36 = .ok (.goto 4, 3) := by decide +kernel
theorem dX11_isPower_39 : decode cX11_isPower 39 = .ok (.iconst 0, 1) := by decide +kernel
theorem dX11_isPower_40 : decode cX11_isPower 40 = .ok (.ireturn, 1) := by decide +kernel
theorem dX11_order_0 : decode cX11_order 0 = .ok (.aload_n 0, 1) := by decide +kernel
theorem dX11_order_1 : decode cX11_order 1 = .ok (.iload_n 1, 1) := by decide +kernel
theorem dX11_order_2 : decode cX11_order 2 = .ok (.invokestatic 165, 3) := by decide +kernel
theorem dX11_order_5 : decode cX11_order 5 = .ok (.ifCond .eq 14, 3) := by decide +kernel
theorem dX11_order_8 : decode cX11_order 8 = .ok (.iload_n 2, 1) := by decide +kernel
theorem dX11_order_9 : decode cX11_order 9 = .ok (.invokestatic 165, 3) := by decide +kernel
theorem dX11_order_12 : decode cX11_order 12 = .ok (.ifCond .eq 7, 3) := by decide +kernel
theorem dX11_order_15 : decode cX11_order 15 = .ok (.iconst 1, 1) := by decide +kernel
theorem dX11_order_16 : decode cX11_order 16 = .ok (.goto 4, 3) := by decide +kernel
theorem dX11_order_19 : decode cX11_order 19 = .ok (.iconst 0, 1) := by decide +kernel
theorem dX11_order_20 : decode cX11_order 20 = .ok (.iconst 1, 1) := by decide +kernel
theorem dX11_order_21 : decode cX11_order 21 = .ok (.invokevirtual 172, 3) := by decide +kernel
theorem dX11_order_24 : decode cX11_order 24 = .ok (.ifCond .ne 5, 3) := by decide +kernel
theorem dX11_order_27 : decode cX11_order 27 = .ok (.iconst 0, 1) := by decide +kernel
theorem dX11_order_28 : decode cX11_order 28 = .ok (.ireturn, 1) := by decide +kernel
theorem dX11_order_29 : decode cX11_order 29 = .ok (.aload_n 0, 1) := by decide +kernel
theorem dX11_order_30 : decode cX11_order 30 = .ok (.iload_n 1, 1) := by decide +kernel
theorem dX11_order_31 : decode cX11_order 31 = .ok (.invokevirtual 176, 3) := by decide +kernel
theorem dX11_order_34 : decode cX11_order 34 = .ok (.ifCond .ne 11, 3) := by decide +kernel
theorem dX11_order_37 : decode cX11_order 37 = .ok (.aload_n 0, 1) := by decide +kernel
theorem dX11_order_38 : decode cX11_order 38 = .ok (.iload_n 2, 1) := by decide +kernel
theorem dX11_order_39 : decode cX11_order 39 = .ok (.invokevirtual 176, 3) := by decide +kernel
theorem dX11_order_42 : decode cX11_order 42 = .ok (.ifCond .eq 29, 3) := by decide +kernel
theorem dX11_order_45 : decode cX11_order 45 = .ok (.aload_n 0, 1) := by decide +kernel
theorem dX11_order_46 : decode cX11_order 46 = .ok (.iload_n 1, 1) := by decide +kernel
theorem dX11_order_47 : decode cX11_order 47 = .ok (.invokevirtual 176, 3) := by decide +kernel
theorem dX11_order_50 : decode cX11_order 50 = .ok (.ifCond .eq 19, 3) := by decide +kernel
theorem dX11_order_53 : decode cX11_order 53 = .ok (.aload_n 0, 1) := by decide +kernel
theorem dX11_order_54 : decode cX11_order 54 = .ok (.iload_n 2, 1) := by decide +kernel
theorem dX11_order_55 : decode cX11_order 55 = .ok (.invokevirtual 176, 3) := by decide +kernel
theorem dX11_order_58 : decode cX11_order 58 = .ok (.ifCond .eq 7, 3) := by decide +kernel
theorem dX11_order_61 : decode cX11_order 61 = .ok (.iconst 0, 1) := by decide +kernel
theorem dX11_order_62 : decode cX11_order 62 = .ok (.goto 8, 3) := by decide +kernel
theorem dX11_order_65 : decode cX11_order 65 = .ok (.iconst (-1), 1) := by decide +kernel
theorem dX11_order_66 : decode cX11_order 66 = .ok (.goto 4, 3) := by decide +kernel
theorem dX11_order_69 : decode cX11_order 69 = .ok (.iconst 1, 1) := by decide +kernel
theorem dX11_order_70 : decode cX11_order 70 = .ok (.ireturn, 1) := by decide +kernel
theorem dX11_order_71 : decode cX11_order 71 = .ok (.aload_n 0, 1) := by decide +kernel
theorem dX11_order_72 : decode cX11_order 72 = .ok (.getfield 134, 3) := by decide +kernel
theorem dX11_order_75 : decode cX11_order 75 = .ok (.invokevirtual 217, 3) := by decide +kernel
theorem dX11_order_78 : decode cX11_order 78 = .ok (.aload_n 0, 1) := by decide +kernel
theorem dX11_order_79 : decode cX11_order 79 = .ok (.aload_n 0, 1) := by decide +kernel
theorem dX11_order_80 : decode cX11_order 80 = .ok (.getfield 134, 3) := by decide +kernel
theorem dX11_order_83 : decode cX11_order 83 = .ok (.iload_n 1, 1) := by decide +kernel
theorem dX11_order_84 : decode cX11_order 84 = .ok (.iconst 1, 1) := by decide +kernel
theorem dX11_order_85 : decode cX11_order 85 = .ok (.invokevirtual 220, 3) := by decide +kernel
theorem dX11_order_88 : decode cX11_order 88 = .ok (.aload_n 0, 1) := by decide +kernel
theorem dX11_order_89 : decode cX11_order 89 = .ok (.aload_n 0, 1) := by decide +kernel
theorem dX11_order_90 : decode cX11_order 90 = .ok (.getfield 134, 3) := by decide +kernel
theorem dX11_order_93 : decode cX11_order 93 = .ok (.iload_n 2, 1) := by decide +kernel
theorem dX11_order_94 : decode cX11_order 94 = .ok (.iconst (-1), 1) := by decide +kernel
theorem dX11_order_95 : decode cX11_order 95 = .ok (.invokevirtual 220, 3) := by decide +kernel
theorem dX11_order_98 : decode cX11_order 98 = .ok (.aload_n 0, 1) := by decide +kernel
theorem dX11_order_99 : decode cX11_order 99 = .ok (.getfield 134, 3) := by decide +kernel
theorem dX11_order_102 : decode cX11_order 102 = .ok (.getfield 94, 3) := by decide +kernel
theorem dX11_order_105 : decode cX11_order 105 = .ok (.ireturn, 1) := by decide +kernel
theorem dX11_goesThree_0 : decode cX11_goesThree 0 = .ok (.aload_n 0, 1) := by decide +kernel
theorem dX11_goesThree_1 : decode cX11_goesThree 1 = .ok (.iload_n 1, 1) := by decide +kernel
theorem dX11_goesThree_2 : decode cX11_goesThree 2 = .ok (.invokestatic 165, 3) := by decide +kernel
theorem dX11_goesThree_5 : decode cX11_goesThree 5 = .ok (.ifCond .eq 21, 3) := by decide +kernel
theorem dX11_goesThree_8 : decode cX11_goesThree 8 = .ok (.iload_n 2, 1) := by decide +kernel
theorem dX11_goesThree_9 : decode cX11_goesThree 9 = .ok (.invokestatic 165, 3) := by decide +kernel
theorem dX11_goesThree_12 : decode cX11_goesThree 12 = .ok (.ifCond .eq 14, 3) := by decide +kernel
theorem dX11_goesThree_15 : decode cX11_goesThree 15 = .ok (.iload_n 3, 1) := by decide +kernel
theorem dX11_goesThree_16 : decode cX11_goesThree 16 = .ok (.invokestatic 165, 3) := by decide +kernel
theorem dX11_goesThree_19 : decode cX11_goesThree 19 = .ok (.ifCond .eq 7, 3) := by decide +kernel
theorem dX11_goesThree_22 : decode cX11_goesThree 22 = .ok (.iconst 1, 1) := by decide +kernel
theorem dX11_goesThree_23 : decode cX11_goesThree 23 = .ok (.goto 4, 3) := by decide +kernel
theorem dX11_goesThree_26 : decode cX11_goesThree 26 = .ok (.iconst 0, 1) := by decide +kernel
theorem dX11_goesThree_27 : decode cX11_goesThree 27 = .ok (.iconst 1, 1) := by decide +kernel
theorem dX11_goesThree_28 : decode cX11_goesThree 28 = .ok (.invokevirtual 172, 3) := by decide +kernel
theorem dX11_goesThree_31 : decode cX11_goesThree 31 = .ok (.ireturn, 1) := by decide +kernel
theorem dX11_joined_0 : decode cX11_joined 0 = .ok (.aload_n 0, 1) := by decide +kernel
theorem dX11_joined_1 : decode cX11_joined 1 = .ok (.iload_n 1, 1) := by decide +kernel
theorem dX11_joined_2 : decode cX11_joined 2 = .ok (.iload_n 2, 1) := by decide +kernel
theorem dX11_joined_3 : decode cX11_joined 3 = .ok (.iload_n 3, 1) := by decide +kernel
theorem dX11_joined_4 : decode cX11_joined 4 = .ok (.invokevirtual 224, 3) := by decide +kernel
theorem dX11_joined_7 : decode cX11_joined 7 = .ok (.ifCond .ne 4, 3) := by decide +kernel
theorem dX11_joined_10 : decode cX11_joined 10 = .ok (.return_, 1) := by decide +kernel
theorem dX11_joined_11 : decode cX11_joined 11 = .ok (.aload_n 0, 1) := by decide +kernel
theorem dX11_joined_12 : decode cX11_joined 12 = .ok (.iload_n 1, 1) := by decide +kernel
theorem dX11_joined_13 : decode cX11_joined 13 = .ok (.invokevirtual 176, 3) := by decide +kernel
theorem dX11_joined_16 : decode cX11_joined 16 = .ok (.ifCond .ne 11, 3) := by decide +kernel
theorem dX11_joined_19 : decode cX11_joined 19 = .ok (.aload_n 0, 1) := by decide +kernel
theorem dX11_joined_20 : decode cX11_joined 20 = .ok (.iload_n 2, 1) := by decide +kernel
theorem dX11_joined_21 : decode cX11_joined 21 = .ok (.invokevirtual 176, 3) := by decide +kernel
theorem dX11_joined_24 : decode cX11_joined 24 = .ok (.ifCond .eq 9, 3) := by decide +kernel
theorem dX11_joined_27 : decode cX11_joined 27 = .ok (.aload_n 0, 1) := by decide +kernel
theorem dX11_joined_28 : decode cX11_joined 28 = .ok (.iload_n 3, 1) := by decide +kernel
theorem dX11_joined_29 : decode cX11_joined 29 = .ok (.invokevirtual 182, 3) := by decide +kernel
theorem dX11_joined_32 : decode cX11_joined 32 = .ok (.return_, 1) := by decide +kernel
theorem dX11_joined_33 : decode cX11_joined 33 = .ok (.aload_n 0, 1) := by decide +kernel
theorem dX11_joined_34 : decode cX11_joined 34 = .ok (.getfield 134, 3) := by decide +kernel
theorem dX11_joined_37 : decode cX11_joined 37 = .ok (.invokevirtual 217, 3) := by decide +kernel
theorem dX11_joined_40 : decode cX11_joined 40 = .ok (.aload_n 0, 1) := by decide +kernel
theorem dX11_joined_41 : decode cX11_joined 41 = .ok (.aload_n 0, 1) := by decide +kernel
theorem dX11_joined_42 : decode cX11_joined 42 = .ok (.getfield 134, 3) := by decide +kernel
theorem dX11_joined_45 : decode cX11_joined 45 = .ok (.iload_n 1, 1) := by decide +kernel
theorem dX11_joined_46 : decode cX11_joined 46 = .ok (.iconst 1, 1) := by decide +kernel
theorem dX11_joined_47 : decode cX11_joined 47 = .ok (.invokevirtual 220, 3) := by decide +kernel
theorem dX11_joined_50 : decode cX11_joined 50 = .ok (.aload_n 0, 1) := by decide +kernel
theorem dX11_joined_51 : decode cX11_joined 51 = .ok (.aload_n 0, 1) := by decide +kernel
theorem dX11_joined_52 : decode cX11_joined 52 = .ok (.getfield 134, 3) := by decide +kernel
theorem dX11_joined_55 : decode cX11_joined 55 = .ok (.iload_n 2, 1) := by decide +kernel
theorem dX11_joined_56 : decode cX11_joined 56 = .ok (.iload 4, 2) := by decide +kernel
theorem dX11_joined_58 : decode cX11_joined 58 = .ok (.invokevirtual 220, 3) := by decide +kernel
theorem dX11_joined_61 : decode cX11_joined 61 = .ok (.aload_n 0, 1) := by decide +kernel
theorem dX11_joined_62 : decode cX11_joined 62 = .ok (.aload_n 0, 1) := by decide +kernel
theorem dX11_joined_63 : decode cX11_joined 63 = .ok (.getfield 134, 3) := by decide +kernel
theorem dX11_joined_66 : decode cX11_joined 66 = .ok (.invokevirtual 228, 3) := by decide +kernel
theorem dX11_joined_69 : decode cX11_joined 69 = .ok (.aload_n 0, 1) := by decide +kernel
theorem dX11_joined_70 : decode cX11_joined 70 = .ok (.iload_n 3, 1) := by decide +kernel
theorem dX11_joined_71 : decode cX11_joined 71 = .ok (.invokevirtual 185, 3) := by decide +kernel
theorem dX11_joined_74 : decode cX11_joined 74 = .ok (.return_, 1) := by decide +kernel
theorem dX11_add_0 : decode cX11_add 0 = .ok (.aload_n 0, 1) := by decide +kernel
theorem dX11_add_1 : decode cX11_add 1 = .ok (.iload_n 1, 1) := by decide +kernel
theorem dX11_add_2 : decode cX11_add 2 = .ok (.iload_n 2, 1) := by decide +kernel
theorem dX11_add_3 : decode cX11_add 3 = .ok (.iload_n 3, 1) := by decide +kernel
theorem dX11_add_4 : decode cX11_add 4 = .ok (.iconst 1, 1) := by decide +kernel
theorem dX11_add_5 : decode cX11_add 5 = .ok (.invokevirtual 232, 3) := by decide +kernel
theorem dX11_add_8 : decode cX11_add 8 = .ok (.return_, 1) := by decide +kernel
theorem dX11_less_0 : decode cX11_less 0 = .ok (.aload_n 0, 1) := by decide +kernel
theorem dX11_less_1 : decode cX11_less 1 = .ok (.iload_n 1, 1) := by decide +kernel
theorem dX11_less_2 : decode cX11_less 2 = .ok (.iload_n 2, 1) := by decide +kernel
theorem dX11_less_3 : decode cX11_less 3 = .ok (.iload_n 3, 1) := by decide +kernel
theorem dX11_less_4 : decode cX11_less 4 = .ok (.iconst (-1), 1) := by decide +kernel
theorem dX11_less_5 : decode cX11_less 5 = .ok (.invokevirtual 232, 3) := by decide +kernel
theorem dX11_less_8 : decode cX11_less 8 = .ok (.return_, 1) := by decide +kernel
theorem dX11_times_0 : decode cX11_times 0 = .ok (.aload_n 0, 1) := by decide +kernel
theorem dX11_times_1 : decode cX11_times 1 = .ok (.iload_n 1, 1) := by decide +kernel
theorem dX11_times_2 : decode cX11_times 2 = .ok (.iload_n 2, 1) := by decide +kernel
theorem dX11_times_3 : decode cX11_times 3 = .ok (.iload_n 3, 1) := by decide +kernel
theorem dX11_times_4 : decode cX11_times 4 = .ok (.invokevirtual 224, 3) := by decide +kernel
theorem dX11_times_7 : decode cX11_times 7 = .ok (.ifCond .ne 4, 3) := by decide +kernel
theorem dX11_times_10 : decode cX11_times 10 = .ok (.return_, 1) := by decide +kernel
theorem dX11_times_11 : decode cX11_times 11 = .ok (.aload_n 0, 1) := by decide +kernel
theorem dX11_times_12 : decode cX11_times 12 = .ok (.iload_n 1, 1) := by decide +kernel
theorem dX11_times_13 : decode cX11_times 13 = .ok (.invokevirtual 176, 3) := by decide +kernel
theorem dX11_times_16 : decode cX11_times 16 = .ok (.ifCond .ne 11, 3) := by decide +kernel
theorem dX11_times_19 : decode cX11_times 19 = .ok (.aload_n 0, 1) := by decide +kernel
theorem dX11_times_20 : decode cX11_times 20 = .ok (.iload_n 2, 1) := by decide +kernel
theorem dX11_times_21 : decode cX11_times 21 = .ok (.invokevirtual 176, 3) := by decide +kernel
theorem dX11_times_24 : decode cX11_times 24 = .ok (.ifCond .eq 9, 3) := by decide +kernel
theorem dX11_times_27 : decode cX11_times 27 = .ok (.aload_n 0, 1) := by decide +kernel
theorem dX11_times_28 : decode cX11_times 28 = .ok (.iload_n 3, 1) := by decide +kernel
theorem dX11_times_29 : decode cX11_times 29 = .ok (.invokevirtual 182, 3) := by decide +kernel
theorem dX11_times_32 : decode cX11_times 32 = .ok (.return_, 1) := by decide +kernel
theorem dX11_times_33 : decode cX11_times 33 = .ok (.aload_n 0, 1) := by decide +kernel
theorem dX11_times_34 : decode cX11_times 34 = .ok (.getfield 134, 3) := by decide +kernel
theorem dX11_times_37 : decode cX11_times 37 = .ok (.invokevirtual 217, 3) := by decide +kernel
theorem dX11_times_40 : decode cX11_times 40 = .ok (.aload_n 0, 1) := by decide +kernel
theorem dX11_times_41 : decode cX11_times 41 = .ok (.aload_n 0, 1) := by decide +kernel
theorem dX11_times_42 : decode cX11_times 42 = .ok (.getfield 134, 3) := by decide +kernel
theorem dX11_times_45 : decode cX11_times 45 = .ok (.iload_n 1, 1) := by decide +kernel
theorem dX11_times_46 : decode cX11_times 46 = .ok (.iload_n 2, 1) := by decide +kernel
theorem dX11_times_47 : decode cX11_times 47 = .ok (.iconst 1, 1) := by decide +kernel
theorem dX11_times_48 : decode cX11_times 48 = .ok (.invokevirtual 236, 3) := by decide +kernel
theorem dX11_times_51 : decode cX11_times 51 = .ok (.aload_n 0, 1) := by decide +kernel
theorem dX11_times_52 : decode cX11_times 52 = .ok (.aload_n 0, 1) := by decide +kernel
theorem dX11_times_53 : decode cX11_times 53 = .ok (.getfield 134, 3) := by decide +kernel
theorem dX11_times_56 : decode cX11_times 56 = .ok (.invokevirtual 228, 3) := by decide +kernel
theorem dX11_times_59 : decode cX11_times 59 = .ok (.aload_n 0, 1) := by decide +kernel
theorem dX11_times_60 : decode cX11_times 60 = .ok (.iload_n 3, 1) := by decide +kernel
theorem dX11_times_61 : decode cX11_times 61 = .ok (.invokevirtual 185, 3) := by decide +kernel
theorem dX11_times_64 : decode cX11_times 64 = .ok (.return_, 1) := by decide +kernel
theorem dX11_over_0 : decode cX11_over 0 = .ok (.aload_n 0, 1) := by decide +kernel
theorem dX11_over_1 : decode cX11_over 1 = .ok (.iload_n 1, 1) := by decide +kernel
theorem dX11_over_2 : decode cX11_over 2 = .ok (.iload_n 2, 1) := by decide +kernel
theorem dX11_over_3 : decode cX11_over 3 = .ok (.iload_n 3, 1) := by decide +kernel
theorem dX11_over_4 : decode cX11_over 4 = .ok (.invokevirtual 224, 3) := by decide +kernel
theorem dX11_over_7 : decode cX11_over 7 = .ok (.ifCond .ne 4, 3) := by decide +kernel
theorem dX11_over_10 : decode cX11_over 10 = .ok (.return_, 1) := by decide +kernel
theorem dX11_over_11 : decode cX11_over 11 = .ok (.aload_n 0, 1) := by decide +kernel
theorem dX11_over_12 : decode cX11_over 12 = .ok (.iload_n 1, 1) := by decide +kernel
theorem dX11_over_13 : decode cX11_over 13 = .ok (.invokevirtual 176, 3) := by decide +kernel
theorem dX11_over_16 : decode cX11_over 16 = .ok (.ifCond .ne 22, 3) := by decide +kernel
theorem dX11_over_19 : decode cX11_over 19 = .ok (.aload_n 0, 1) := by decide +kernel
theorem dX11_over_20 : decode cX11_over 20 = .ok (.iload_n 2, 1) := by decide +kernel
theorem dX11_over_21 : decode cX11_over 21 = .ok (.invokevirtual 176, 3) := by decide +kernel
theorem dX11_over_24 : decode cX11_over 24 = .ok (.ifCond .ne 14, 3) := by decide +kernel
theorem dX11_over_27 : decode cX11_over 27 = .ok (.aload_n 0, 1) := by decide +kernel
theorem dX11_over_28 : decode cX11_over 28 = .ok (.getfield 20, 3) := by decide +kernel
theorem dX11_over_31 : decode cX11_over 31 = .ok (.iload_n 2, 1) := by decide +kernel
theorem dX11_over_32 : decode cX11_over 32 = .ok (.laload, 1) := by decide +kernel
theorem dX11_over_33 : decode cX11_over 33 = .ok (.lconst 0, 1) := by decide +kernel
theorem dX11_over_34 : decode cX11_over 34 = .ok (.lcmp, 1) := by decide +kernel
theorem dX11_over_35 : decode cX11_over 35 = .ok (.ifCond .ne 9, 3) := by decide +kernel
theorem dX11_over_38 : decode cX11_over 38 = .ok (.aload_n 0, 1) := by decide +kernel
theorem dX11_over_39 : decode cX11_over 39 = .ok (.iload_n 3, 1) := by decide +kernel
theorem dX11_over_40 : decode cX11_over 40 = .ok (.invokevirtual 182, 3) := by decide +kernel
theorem dX11_over_43 : decode cX11_over 43 = .ok (.return_, 1) := by decide +kernel
theorem dX11_over_44 : decode cX11_over 44 = .ok (.aload_n 0, 1) := by decide +kernel
theorem dX11_over_45 : decode cX11_over 45 = .ok (.iload_n 2, 1) := by decide +kernel
theorem dX11_over_46 : decode cX11_over 46 = .ok (.invokevirtual 112, 3) := by decide +kernel
theorem dX11_over_49 : decode cX11_over 49 = .ok (.aload_n 0, 1) := by decide +kernel
theorem dX11_over_50 : decode cX11_over 50 = .ok (.getfield 17, 3) := by decide +kernel
theorem dX11_over_53 : decode cX11_over 53 = .ok (.istore 4, 2) := by decide +kernel
theorem dX11_over_55 : decode cX11_over 55 = .ok (.aload_n 0, 1) := by decide +kernel
theorem dX11_over_56 : decode cX11_over 56 = .ok (.getfield 7, 3) := by decide +kernel
theorem dX11_over_59 : decode cX11_over 59 = .ok (.lstore 5, 2) := by decide +kernel
theorem dX11_over_61 : decode cX11_over 61 = .ok (.aload_n 0, 1) := by decide +kernel
theorem dX11_over_62 : decode cX11_over 62 = .ok (.getfield 13, 3) := by decide +kernel
theorem dX11_over_65 : decode cX11_over 65 = .ok (.istore 7, 2) := by decide +kernel
theorem dX11_over_67 : decode cX11_over 67 = .ok (.aload_n 0, 1) := by decide +kernel
theorem dX11_over_68 : decode cX11_over 68 = .ok (.iload_n 1, 1) := by decide +kernel
theorem dX11_over_69 : decode cX11_over 69 = .ok (.invokevirtual 179, 3) := by decide +kernel
theorem dX11_over_72 : decode cX11_over 72 = .ok (.aload_n 0, 1) := by decide +kernel
theorem dX11_over_73 : decode cX11_over 73 = .ok (.dup, 1) := by decide +kernel
theorem dX11_over_74 : decode cX11_over 74 = .ok (.getfield 32, 3) := by decide +kernel
theorem dX11_over_77 : decode cX11_over 77 = .ok (.iload 4, 2) := by decide +kernel
theorem dX11_over_79 : decode cX11_over 79 = .ok (.imul, 1) := by decide +kernel
theorem dX11_over_80 : decode cX11_over 80 = .ok (.putfield 32, 3) := by decide +kernel
theorem dX11_over_83 : decode cX11_over 83 = .ok (.aload_n 0, 1) := by decide +kernel
theorem dX11_over_84 : decode cX11_over 84 = .ok (.getfield 45, 3) := by decide +kernel
theorem dX11_over_87 : decode cX11_over 87 = .ok (.lload 5, 2) := by decide +kernel
theorem dX11_over_89 : decode cX11_over 89 = .ok (.invokevirtual 39, 3) := by decide +kernel
theorem dX11_over_92 : decode cX11_over 92 = .ok (.aload_n 0, 1) := by decide +kernel
theorem dX11_over_93 : decode cX11_over 93 = .ok (.dup, 1) := by decide +kernel
theorem dX11_over_94 : decode cX11_over 94 = .ok (.getfield 48, 3) := by decide +kernel
theorem dX11_over_97 : decode cX11_over 97 = .ok (.iload 7, 2) := by decide +kernel
theorem dX11_over_99 : decode cX11_over 99 = .ok (.isub, 1) := by decide +kernel
theorem dX11_over_100 : decode cX11_over 100 = .ok (.putfield 48, 3) := by decide +kernel
theorem dX11_over_103 : decode cX11_over 103 = .ok (.aload_n 0, 1) := by decide +kernel
theorem dX11_over_104 : decode cX11_over 104 = .ok (.iload_n 3, 1) := by decide +kernel
theorem dX11_over_105 : decode cX11_over 105 = .ok (.invokevirtual 185, 3) := by decide +kernel
theorem dX11_over_108 : decode cX11_over 108 = .ok (.return_, 1) := by decide +kernel
theorem dX11_fused_0 : decode cX11_fused 0 = .ok (.aload_n 0, 1) := by decide +kernel
theorem dX11_fused_1 : decode cX11_fused 1 = .ok (.iload_n 1, 1) := by decide +kernel
theorem dX11_fused_2 : decode cX11_fused 2 = .ok (.iload_n 2, 1) := by decide +kernel
theorem dX11_fused_3 : decode cX11_fused 3 = .ok (.iload_n 3, 1) := by decide +kernel
theorem dX11_fused_4 : decode cX11_fused 4 = .ok (.invokevirtual 224, 3) := by decide +kernel
theorem dX11_fused_7 : decode cX11_fused 7 = .ok (.ifCond .ne 4, 3) := by decide +kernel
theorem dX11_fused_10 : decode cX11_fused 10 = .ok (.return_, 1) := by decide +kernel
theorem dX11_fused_11 : decode cX11_fused 11 = .ok (.aload_n 0, 1) := by decide +kernel
theorem dX11_fused_12 : decode cX11_fused 12 = .ok (.iload_n 1, 1) := by decide +kernel
theorem dX11_fused_13 : decode cX11_fused 13 = .ok (.invokevirtual 176, 3) := by decide +kernel
theorem dX11_fused_16 : decode cX11_fused 16 = .ok (.ifCond .ne 19, 3) := by decide +kernel
theorem dX11_fused_19 : decode cX11_fused 19 = .ok (.aload_n 0, 1) := by decide +kernel
theorem dX11_fused_20 : decode cX11_fused 20 = .ok (.iload_n 2, 1) := by decide +kernel
theorem dX11_fused_21 : decode cX11_fused 21 = .ok (.invokevirtual 176, 3) := by decide +kernel
theorem dX11_fused_24 : decode cX11_fused 24 = .ok (.ifCond .ne 11, 3) := by decide +kernel
theorem dX11_fused_27 : decode cX11_fused 27 = .ok (.aload_n 0, 1) := by decide +kernel
theorem dX11_fused_28 : decode cX11_fused 28 = .ok (.iload_n 3, 1) := by decide +kernel
theorem dX11_fused_29 : decode cX11_fused 29 = .ok (.invokevirtual 176, 3) := by decide +kernel
theorem dX11_fused_32 : decode cX11_fused 32 = .ok (.ifCond .eq 9, 3) := by decide +kernel
theorem dX11_fused_35 : decode cX11_fused 35 = .ok (.aload_n 0, 1) := by decide +kernel
theorem dX11_fused_36 : decode cX11_fused 36 = .ok (.iload_n 3, 1) := by decide +kernel
theorem dX11_fused_37 : decode cX11_fused 37 = .ok (.invokevirtual 182, 3) := by decide +kernel
theorem dX11_fused_40 : decode cX11_fused 40 = .ok (.return_, 1) := by decide +kernel
theorem dX11_fused_41 : decode cX11_fused 41 = .ok (.aload_n 0, 1) := by decide +kernel
theorem dX11_fused_42 : decode cX11_fused 42 = .ok (.getfield 134, 3) := by decide +kernel
theorem dX11_fused_45 : decode cX11_fused 45 = .ok (.invokevirtual 217, 3) := by decide +kernel
theorem dX11_fused_48 : decode cX11_fused 48 = .ok (.aload_n 0, 1) := by decide +kernel
theorem dX11_fused_49 : decode cX11_fused 49 = .ok (.aload_n 0, 1) := by decide +kernel
theorem dX11_fused_50 : decode cX11_fused 50 = .ok (.getfield 134, 3) := by decide +kernel
theorem dX11_fused_53 : decode cX11_fused 53 = .ok (.iload_n 1, 1) := by decide +kernel
theorem dX11_fused_54 : decode cX11_fused 54 = .ok (.iload_n 2, 1) := by decide +kernel
theorem dX11_fused_55 : decode cX11_fused 55 = .ok (.iconst 1, 1) := by decide +kernel
theorem dX11_fused_56 : decode cX11_fused 56 = .ok (.invokevirtual 236, 3) := by decide +kernel
theorem dX11_fused_59 : decode cX11_fused 59 = .ok (.aload_n 0, 1) := by decide +kernel
theorem dX11_fused_60 : decode cX11_fused 60 = .ok (.aload_n 0, 1) := by decide +kernel
theorem dX11_fused_61 : decode cX11_fused 61 = .ok (.getfield 134, 3) := by decide +kernel
theorem dX11_fused_64 : decode cX11_fused 64 = .ok (.iload_n 3, 1) := by decide +kernel
theorem dX11_fused_65 : decode cX11_fused 65 = .ok (.iconst 1, 1) := by decide +kernel
theorem dX11_fused_66 : decode cX11_fused 66 = .ok (.invokevirtual 220, 3) := by decide +kernel
theorem dX11_fused_69 : decode cX11_fused 69 = .ok (.aload_n 0, 1) := by decide +kernel
theorem dX11_fused_70 : decode cX11_fused 70 = .ok (.aload_n 0, 1) := by decide +kernel
theorem dX11_fused_71 : decode cX11_fused 71 = .ok (.getfield 134, 3) := by decide +kernel
theorem dX11_fused_74 : decode cX11_fused 74 = .ok (.invokevirtual 228, 3) := by decide +kernel
theorem dX11_fused_77 : decode cX11_fused 77 = .ok (.aload_n 0, 1) := by decide +kernel
theorem dX11_fused_78 : decode cX11_fused 78 = .ok (.iload_n 3, 1) := by decide +kernel
theorem dX11_fused_79 : decode cX11_fused 79 = .ok (.invokevirtual 185, 3) := by decide +kernel
theorem dX11_fused_82 : decode cX11_fused 82 = .ok (.return_, 1) := by decide +kernel
theorem dX11_root_0 : decode cX11_root 0 = .ok (.aload_n 0, 1) := by decide +kernel
theorem dX11_root_1 : decode cX11_root 1 = .ok (.iload_n 1, 1) := by decide +kernel
theorem dX11_root_2 : decode cX11_root 2 = .ok (.invokestatic 165, 3) := by decide +kernel
theorem dX11_root_5 : decode cX11_root 5 = .ok (.ifCond .eq 14, 3) := by decide +kernel
theorem dX11_root_8 : decode cX11_root 8 = .ok (.iload_n 3, 1) := by decide +kernel
theorem dX11_root_9 : decode cX11_root 9 = .ok (.invokestatic 165, 3) := by decide +kernel
theorem dX11_root_12 : decode cX11_root 12 = .ok (.ifCond .eq 7, 3) := by decide +kernel
theorem dX11_root_15 : decode cX11_root 15 = .ok (.iconst 1, 1) := by decide +kernel
theorem dX11_root_16 : decode cX11_root 16 = .ok (.goto 4, 3) := by decide +kernel
theorem dX11_root_19 : decode cX11_root 19 = .ok (.iconst 0, 1) := by decide +kernel
theorem dX11_root_20 : decode cX11_root 20 = .ok (.iload_n 2, 1) := by decide +kernel
theorem dX11_root_21 : decode cX11_root 21 = .ok (.iconst 1, 1) := by decide +kernel
theorem dX11_root_22 : decode cX11_root 22 = .ok (.if_icmp .lt 13, 3) := by decide +kernel
theorem dX11_root_25 : decode cX11_root 25 = .ok (.iload_n 2, 1) := by decide +kernel
theorem dX11_root_26 : decode cX11_root 26 = .ok (.bipush 8, 2) := by decide +kernel
theorem dX11_root_28 : decode cX11_root 28 = .ok (.if_icmp .gt 7, 3) := by decide +kernel
theorem dX11_root_31 : decode cX11_root 31 = .ok (.iconst 1, 1) := by decide +kernel
theorem dX11_root_32 : decode cX11_root 32 = .ok (.goto 4, 3) := by decide +kernel
theorem dX11_root_35 : decode cX11_root 35 = .ok (.iconst 0, 1) := by decide +kernel
theorem dX11_root_36 : decode cX11_root 36 = .ok (.invokevirtual 172, 3) := by decide +kernel
theorem dX11_root_39 : decode cX11_root 39 = .ok (.ifCond .ne 4, 3) := by decide +kernel
theorem dX11_root_42 : decode cX11_root 42 = .ok (.return_, 1) := by decide +kernel
theorem dX11_root_43 : decode cX11_root 43 = .ok (.aload_n 0, 1) := by decide +kernel
theorem dX11_root_44 : decode cX11_root 44 = .ok (.iload_n 1, 1) := by decide +kernel
theorem dX11_root_45 : decode cX11_root 45 = .ok (.invokevirtual 176, 3) := by decide +kernel
theorem dX11_root_48 : decode cX11_root 48 = .ok (.ifCond .eq 9, 3) := by decide +kernel
theorem dX11_root_51 : decode cX11_root 51 = .ok (.aload_n 0, 1) := by decide +kernel
theorem dX11_root_52 : decode cX11_root 52 = .ok (.iload_n 3, 1) := by decide +kernel
theorem dX11_root_53 : decode cX11_root 53 = .ok (.invokevirtual 182, 3) := by decide +kernel
theorem dX11_root_56 : decode cX11_root 56 = .ok (.return_, 1) := by decide +kernel
theorem dX11_root_57 : decode cX11_root 57 = .ok (.aload_n 0, 1) := by decide +kernel
theorem dX11_root_58 : decode cX11_root 58 = .ok (.iload_n 1, 1) := by decide +kernel
theorem dX11_root_59 : decode cX11_root 59 = .ok (.invokevirtual 179, 3) := by decide +kernel
theorem dX11_root_62 : decode cX11_root 62 = .ok (.aload_n 0, 1) := by decide +kernel
theorem dX11_root_63 : decode cX11_root 63 = .ok (.getfield 32, 3) := by decide +kernel
theorem dX11_root_66 : decode cX11_root 66 = .ok (.ifCond .ge 15, 3) := by decide +kernel
theorem dX11_root_69 : decode cX11_root 69 = .ok (.iload_n 2, 1) := by decide +kernel
theorem dX11_root_70 : decode cX11_root 70 = .ok (.iconst 2, 1) := by decide +kernel
theorem dX11_root_71 : decode cX11_root 71 = .ok (.irem, 1) := by decide +kernel
theorem dX11_root_72 : decode cX11_root 72 = .ok (.ifCond .ne 9, 3) := by decide +kernel
theorem dX11_root_75 : decode cX11_root 75 = .ok (.aload_n 0, 1) := by decide +kernel
theorem dX11_root_76 : decode cX11_root 76 = .ok (.iload_n 3, 1) := by decide +kernel
theorem dX11_root_77 : decode cX11_root 77 = .ok (.invokevirtual 182, 3) := by decide +kernel
theorem dX11_root_80 : decode cX11_root 80 = .ok (.return_, 1) := by decide +kernel
theorem dX11_root_81 : decode cX11_root 81 = .ok (.aload_n 0, 1) := by decide +kernel
theorem dX11_root_82 : decode cX11_root 82 = .ok (.iload_n 2, 1) := by decide +kernel
theorem dX11_root_83 : decode cX11_root 83 = .ok (.putfield 51, 3) := by decide +kernel
theorem dX11_root_86 : decode cX11_root 86 = .ok (.aload_n 0, 1) := by decide +kernel
theorem dX11_root_87 : decode cX11_root 87 = .ok (.iload_n 3, 1) := by decide +kernel
theorem dX11_root_88 : decode cX11_root 88 = .ok (.invokevirtual 185, 3) := by decide +kernel
theorem dX11_root_91 : decode cX11_root 91 = .ok (.return_, 1) := by decide +kernel
theorem dX11_under_0 : decode cX11_under 0 = .ok (.aload_n 0, 1) := by decide +kernel
theorem dX11_under_1 : decode cX11_under 1 = .ok (.iload_n 1, 1) := by decide +kernel
theorem dX11_under_2 : decode cX11_under 2 = .ok (.invokestatic 165, 3) := by decide +kernel
theorem dX11_under_5 : decode cX11_under 5 = .ok (.ifCond .eq 14, 3) := by decide +kernel
theorem dX11_under_8 : decode cX11_under 8 = .ok (.iload_n 2, 1) := by decide +kernel
theorem dX11_under_9 : decode cX11_under 9 = .ok (.invokestatic 165, 3) := by decide +kernel
theorem dX11_under_12 : decode cX11_under 12 = .ok (.ifCond .eq 7, 3) := by decide +kernel
theorem dX11_under_15 : decode cX11_under 15 = .ok (.iconst 1, 1) := by decide +kernel
theorem dX11_under_16 : decode cX11_under 16 = .ok (.goto 4, 3) := by decide +kernel
theorem dX11_under_19 : decode cX11_under 19 = .ok (.iconst 0, 1) := by decide +kernel
theorem dX11_under_20 : decode cX11_under 20 = .ok (.iconst 1, 1) := by decide +kernel
theorem dX11_under_21 : decode cX11_under 21 = .ok (.invokevirtual 172, 3) := by decide +kernel
theorem dX11_under_24 : decode cX11_under 24 = .ok (.ifCond .ne 4, 3) := by decide +kernel
theorem dX11_under_27 : decode cX11_under 27 = .ok (.return_, 1) := by decide +kernel
theorem dX11_under_28 : decode cX11_under 28 = .ok (.aload_n 0, 1) := by decide +kernel
theorem dX11_under_29 : decode cX11_under 29 = .ok (.iload_n 1, 1) := by decide +kernel
theorem dX11_under_30 : decode cX11_under 30 = .ok (.invokevirtual 176, 3) := by decide +kernel
theorem dX11_under_33 : decode cX11_under 33 = .ok (.ifCond .eq 9, 3) := by decide +kernel
theorem dX11_under_36 : decode cX11_under 36 = .ok (.aload_n 0, 1) := by decide +kernel
theorem dX11_under_37 : decode cX11_under 37 = .ok (.iload_n 2, 1) := by decide +kernel
theorem dX11_under_38 : decode cX11_under 38 = .ok (.invokevirtual 182, 3) := by decide +kernel
theorem dX11_under_41 : decode cX11_under 41 = .ok (.return_, 1) := by decide +kernel
theorem dX11_under_42 : decode cX11_under 42 = .ok (.aload_n 0, 1) := by decide +kernel
theorem dX11_under_43 : decode cX11_under 43 = .ok (.iload_n 1, 1) := by decide +kernel
theorem dX11_under_44 : decode cX11_under 44 = .ok (.invokevirtual 179, 3) := by decide +kernel
theorem dX11_under_47 : decode cX11_under 47 = .ok (.aload_n 0, 1) := by decide +kernel
theorem dX11_under_48 : decode cX11_under 48 = .ok (.getfield 32, 3) := by decide +kernel
theorem dX11_under_51 : decode cX11_under 51 = .ok (.ifCond .gt 9, 3) := by decide +kernel
theorem dX11_under_54 : decode cX11_under 54 = .ok (.aload_n 0, 1) := by decide +kernel
theorem dX11_under_55 : decode cX11_under 55 = .ok (.iload_n 2, 1) := by decide +kernel
theorem dX11_under_56 : decode cX11_under 56 = .ok (.invokevirtual 182, 3) := by decide +kernel
theorem dX11_under_59 : decode cX11_under 59 = .ok (.return_, 1) := by decide +kernel
theorem dX11_under_60 : decode cX11_under 60 = .ok (.aload_n 0, 1) := by decide +kernel
theorem dX11_under_61 : decode cX11_under 61 = .ok (.getfield 45, 3) := by decide +kernel
theorem dX11_under_64 : decode cX11_under 64 = .ok (.aload_n 0, 1) := by decide +kernel
theorem dX11_under_65 : decode cX11_under 65 = .ok (.getfield 35, 3) := by decide +kernel
theorem dX11_under_68 : decode cX11_under 68 = .ok (.invokevirtual 57, 3) := by decide +kernel
theorem dX11_under_71 : decode cX11_under 71 = .ok (.aload_n 0, 1) := by decide +kernel
theorem dX11_under_72 : decode cX11_under 72 = .ok (.getfield 35, 3) := by decide +kernel
theorem dX11_under_75 : decode cX11_under 75 = .ok (.lconst 1, 1) := by decide +kernel
theorem dX11_under_76 : decode cX11_under 76 = .ok (.invokevirtual 39, 3) := by decide +kernel
theorem dX11_under_79 : decode cX11_under 79 = .ok (.aload_n 0, 1) := by decide +kernel
theorem dX11_under_80 : decode cX11_under 80 = .ok (.aload_n 0, 1) := by decide +kernel
theorem dX11_under_81 : decode cX11_under 81 = .ok (.getfield 48, 3) := by decide +kernel
theorem dX11_under_84 : decode cX11_under 84 = .ok (.ineg, 1) := by decide +kernel
theorem dX11_under_85 : decode cX11_under 85 = .ok (.putfield 48, 3) := by decide +kernel
theorem dX11_under_88 : decode cX11_under 88 = .ok (.aload_n 0, 1) := by decide +kernel
theorem dX11_under_89 : decode cX11_under 89 = .ok (.iconst 2, 1) := by decide +kernel
theorem dX11_under_90 : decode cX11_under 90 = .ok (.putfield 51, 3) := by decide +kernel
theorem dX11_under_93 : decode cX11_under 93 = .ok (.aload_n 0, 1) := by decide +kernel
theorem dX11_under_94 : decode cX11_under 94 = .ok (.iload_n 2, 1) := by decide +kernel
theorem dX11_under_95 : decode cX11_under 95 = .ok (.invokevirtual 185, 3) := by decide +kernel
theorem dX11_under_98 : decode cX11_under 98 = .ok (.return_, 1) := by decide +kernel
theorem dX11_far_0 : decode cX11_far 0 = .ok (.aload_n 0, 1) := by decide +kernel
theorem dX11_far_1 : decode cX11_far 1 = .ok (.iload_n 1, 1) := by decide +kernel
theorem dX11_far_2 : decode cX11_far 2 = .ok (.iload_n 2, 1) := by decide +kernel
theorem dX11_far_3 : decode cX11_far 3 = .ok (.iload_n 3, 1) := by decide +kernel
theorem dX11_far_4 : decode cX11_far 4 = .ok (.invokevirtual 224, 3) := by decide +kernel
theorem dX11_far_7 : decode cX11_far 7 = .ok (.ifCond .ne 4, 3) := by decide +kernel
theorem dX11_far_10 : decode cX11_far 10 = .ok (.return_, 1) := by decide +kernel
theorem dX11_far_11 : decode cX11_far 11 = .ok (.aload_n 0, 1) := by decide +kernel
theorem dX11_far_12 : decode cX11_far 12 = .ok (.iload_n 1, 1) := by decide +kernel
theorem dX11_far_13 : decode cX11_far 13 = .ok (.invokevirtual 176, 3) := by decide +kernel
theorem dX11_far_16 : decode cX11_far 16 = .ok (.ifCond .ne 11, 3) := by decide +kernel
theorem dX11_far_19 : decode cX11_far 19 = .ok (.aload_n 0, 1) := by decide +kernel
theorem dX11_far_20 : decode cX11_far 20 = .ok (.iload_n 2, 1) := by decide +kernel
theorem dX11_far_21 : decode cX11_far 21 = .ok (.invokevirtual 176, 3) := by decide +kernel
theorem dX11_far_24 : decode cX11_far 24 = .ok (.ifCond .eq 9, 3) := by decide +kernel
theorem dX11_far_27 : decode cX11_far 27 = .ok (.aload_n 0, 1) := by decide +kernel
theorem dX11_far_28 : decode cX11_far 28 = .ok (.iload_n 3, 1) := by decide +kernel
theorem dX11_far_29 : decode cX11_far 29 = .ok (.invokevirtual 182, 3) := by decide +kernel
theorem dX11_far_32 : decode cX11_far 32 = .ok (.return_, 1) := by decide +kernel
theorem dX11_far_33 : decode cX11_far 33 = .ok (.aload_n 0, 1) := by decide +kernel
theorem dX11_far_34 : decode cX11_far 34 = .ok (.getfield 134, 3) := by decide +kernel
theorem dX11_far_37 : decode cX11_far 37 = .ok (.invokevirtual 217, 3) := by decide +kernel
theorem dX11_far_40 : decode cX11_far 40 = .ok (.aload_n 0, 1) := by decide +kernel
theorem dX11_far_41 : decode cX11_far 41 = .ok (.aload_n 0, 1) := by decide +kernel
theorem dX11_far_42 : decode cX11_far 42 = .ok (.getfield 134, 3) := by decide +kernel
theorem dX11_far_45 : decode cX11_far 45 = .ok (.iload_n 1, 1) := by decide +kernel
theorem dX11_far_46 : decode cX11_far 46 = .ok (.iload_n 1, 1) := by decide +kernel
