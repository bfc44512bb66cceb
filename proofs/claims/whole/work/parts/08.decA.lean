theorem dX7_init_0 : decode cX7_init 0 = .ok (.aload_n 0, 1) := by decide +kernel
theorem dX7_init_1 : decode cX7_init 1 = .ok (.invokespecial 1, 3) := by decide +kernel
theorem dX7_init_4 : decode cX7_init 4 = .ok (.aload_n 0, 1) := by decide +kernel
theorem dX7_init_5 : decode cX7_init 5 = .ok (.bipush 16, 2) := by decide +kernel
theorem dX7_init_7 : decode cX7_init 7 = .ok (.newarray .int, 2) := by decide +kernel
theorem dX7_init_9 : decode cX7_init 9 = .ok (.putfield 9, 3) := by decide +kernel
theorem dX7_init_12 : decode cX7_init 12 = .ok (.return_, 1) := by decide +kernel
theorem dX7_put_0 : decode cX7_put 0 = .ok (.aload_n 0, 1) := by decide +kernel
theorem dX7_put_1 : decode cX7_put 1 = .ok (.getfield 9, 3) := by decide +kernel
theorem dX7_put_4 : decode cX7_put 4 = .ok (.iconst 0, 1) := by decide +kernel
theorem dX7_put_5 : decode cX7_put 5 = .ok (.lload_n 1, 1) := by decide +kernel
theorem dX7_put_6 : decode cX7_put 6 = .ok (.l2i, 1) := by decide +kernel
theorem dX7_put_7 : decode cX7_put 7 = .ok (.iastore, 1) := by decide +kernel
theorem dX7_put_8 : decode cX7_put 8 = .ok (.aload_n 0, 1) := by decide +kernel
theorem dX7_put_9 : decode cX7_put 9 = .ok (.getfield 9, 3) := by decide +kernel
theorem dX7_put_12 : decode cX7_put 12 = .ok (.iconst 1, 1) := by decide +kernel
theorem dX7_put_13 : decode cX7_put 13 = .ok (.lload_n 1, 1) := by decide +kernel
theorem dX7_put_14 : decode cX7_put 14 = .ok (.bipush 32, 2) := by decide +kernel
theorem dX7_put_16 : decode cX7_put 16 = .ok (.lushr, 1) := by decide +kernel
theorem dX7_put_17 : decode cX7_put 17 = .ok (.l2i, 1) := by decide +kernel
theorem dX7_put_18 : decode cX7_put 18 = .ok (.iastore, 1) := by decide +kernel
theorem dX7_put_19 : decode cX7_put 19 = .ok (.aload_n 0, 1) := by decide +kernel
theorem dX7_put_20 : decode cX7_put 20 = .ok (.iconst 2, 1) := by decide +kernel
theorem dX7_put_21 : decode cX7_put 21 = .ok (.putfield 13, 3) := by decide +kernel
theorem dX7_put_24 : decode cX7_put 24 = .ok (.aload_n 0, 1) := by decide +kernel
theorem dX7_put_25 : decode cX7_put 25 = .ok (.invokevirtual 17, 3) := by decide +kernel
theorem dX7_put_28 : decode cX7_put 28 = .ok (.return_, 1) := by decide +kernel
theorem dX7_copy_0 : decode cX7_copy 0 = .ok (.aload_n 1, 1) := by decide +kernel
theorem dX7_copy_1 : decode cX7_copy 1 = .ok (.getfield 9, 3) := by decide +kernel
theorem dX7_copy_4 : decode cX7_copy 4 = .ok (.iconst 0, 1) := by decide +kernel
theorem dX7_copy_5 : decode cX7_copy 5 = .ok (.aload_n 0, 1) := by decide +kernel
theorem dX7_copy_6 : decode cX7_copy 6 = .ok (.getfield 9, 3) := by decide +kernel
theorem dX7_copy_9 : decode cX7_copy 9 = .ok (.iconst 0, 1) := by decide +kernel
theorem dX7_copy_10 : decode cX7_copy 10 = .ok (.aload_n 1, 1) := by decide +kernel
theorem dX7_copy_11 : decode cX7_copy 11 = .ok (.getfield 13, 3) := by decide +kernel
theorem dX7_copy_14 : decode cX7_copy 14 = .ok (.invokestatic 20, 3) := by decide +kernel
theorem dX7_copy_17 : decode cX7_copy 17 = .ok (.aload_n 0, 1) := by decide +kernel
theorem dX7_copy_18 : decode cX7_copy 18 = .ok (.aload_n 1, 1) := by decide +kernel
theorem dX7_copy_19 : decode cX7_copy 19 = .ok (.getfield 13, 3) := by decide +kernel
theorem dX7_copy_22 : decode cX7_copy 22 = .ok (.putfield 13, 3) := by decide +kernel
theorem dX7_copy_25 : decode cX7_copy 25 = .ok (.return_, 1) := by decide +kernel
theorem dX7_copyWords_0 : decode cX7_copyWords 0 = .ok (.iload_n 2, 1) := by decide +kernel
theorem dX7_copyWords_1 : decode cX7_copyWords 1 = .ok (.ifCond .eq 7, 3) := by decide +kernel
theorem dX7_copyWords_4 : decode cX7_copyWords 4 = .ok (.lconst 1, 1) := by decide +kernel
theorem dX7_copyWords_5 : decode cX7_copyWords 5 = .ok (.goto 4, 3) := by decide +kernel
theorem dX7_copyWords_8 : decode cX7_copyWords 8 = .ok (.lconst 0, 1) := by decide +kernel
theorem dX7_copyWords_9 : decode cX7_copyWords 9 = .ok (.lstore_n 3, 1) := by decide +kernel
theorem dX7_copyWords_10 : decode cX7_copyWords 10 = .ok (.iconst 0, 1) := by decide +kernel
theorem dX7_copyWords_11 : decode cX7_copyWords 11 = .ok (.istore 5, 2) := by decide +kernel
theorem dX7_copyWords_13 : decode cX7_copyWords 13 = .ok (.iload 5, 2) := by decide +kernel
theorem dX7_copyWords_15 : decode cX7_copyWords 15 = .ok (.bipush 16, 2) := by decide +kernel
theorem dX7_copyWords_17 : decode cX7_copyWords 17 = .ok (.if_icmp .ge 58, 3) := by decide +kernel
theorem dX7_copyWords_20 : decode cX7_copyWords 20 = .ok (.iload 5, 2) := by decide +kernel
theorem dX7_copyWords_22 : decode cX7_copyWords 22 = .ok (.aload_n 1, 1) := by decide +kernel
theorem dX7_copyWords_23 : decode cX7_copyWords 23 = .ok (.arraylength, 1) := by decide +kernel
theorem dX7_copyWords_24 : decode cX7_copyWords 24 = .ok (.if_icmp .ge 51, 3) := by decide +kernel
theorem dX7_copyWords_27 : decode cX7_copyWords 27 = .ok (.iload_n 2, 1) := by decide +kernel
theorem dX7_copyWords_28 : decode cX7_copyWords 28 = .ok (.ifCond .eq 12, 3) := by decide +kernel
theorem dX7_copyWords_31 : decode cX7_copyWords 31 = .ok (.aload_n 1, 1) := by decide +kernel
theorem dX7_copyWords_32 : decode cX7_copyWords 32 = .ok (.iload 5, 2) := by decide +kernel
theorem dX7_copyWords_34 : decode cX7_copyWords 34 = .ok (.iaload, 1) := by decide +kernel
theorem dX7_copyWords_35 : decode cX7_copyWords 35 = .ok (.iconst (-1), 1) := by decide +kernel
theorem dX7_copyWords_36 : decode cX7_copyWords 36 = .ok (.ixor, 1) := by decide +kernel
theorem dX7_copyWords_37 : decode cX7_copyWords 37 = .ok (.goto 7, 3) := by decide +kernel
theorem dX7_copyWords_40 : decode cX7_copyWords 40 = .ok (.aload_n 1, 1) := by decide +kernel
theorem dX7_copyWords_41 : decode cX7_copyWords 41 = .ok (.iload 5, 2) := by decide +kernel
theorem dX7_copyWords_43 : decode cX7_copyWords 43 = .ok (.iaload, 1) := by decide +kernel
theorem dX7_copyWords_44 : decode cX7_copyWords 44 = .ok (.i2l, 1) := by decide +kernel
theorem dX7_copyWords_45 : decode cX7_copyWords 45 = .ok (.ldc2_w 26, 3) := by decide +kernel
theorem dX7_copyWords_48 : decode cX7_copyWords 48 = .ok (.land, 1) := by decide +kernel
theorem dX7_copyWords_49 : decode cX7_copyWords 49 = .ok (.lload_n 3, 1) := by decide +kernel
theorem dX7_copyWords_50 : decode cX7_copyWords 50 = .ok (.ladd, 1) := by decide +kernel
theorem dX7_copyWords_51 : decode cX7_copyWords 51 = .ok (.lstore 6, 2) := by decide +kernel
theorem dX7_copyWords_53 : decode cX7_copyWords 53 = .ok (.aload_n 0, 1) := by decide +kernel
theorem dX7_copyWords_54 : decode cX7_copyWords 54 = .ok (.getfield 9, 3) := by decide +kernel
theorem dX7_copyWords_57 : decode cX7_copyWords 57 = .ok (.iload 5, 2) := by decide +kernel
theorem dX7_copyWords_59 : decode cX7_copyWords 59 = .ok (.lload 6, 2) := by decide +kernel
theorem dX7_copyWords_61 : decode cX7_copyWords 61 = .ok (.l2i, 1) := by decide +kernel
theorem dX7_copyWords_62 : decode cX7_copyWords 62 = .ok (.iastore, 1) := by decide +kernel
theorem dX7_copyWords_63 : decode cX7_copyWords 63 = .ok (.lload 6, 2) := by decide +kernel
theorem dX7_copyWords_65 : decode cX7_copyWords 65 = .ok (.bipush 32, 2) := by decide +kernel
theorem dX7_copyWords_67 : decode cX7_copyWords 67 = .ok (.lushr, 1) := by decide +kernel
theorem dX7_copyWords_68 : decode cX7_copyWords 68 = .ok (.lstore_n 3, 1) := by decide +kernel
theorem dX7_copyWords_69 : decode cX7_copyWords 69 = .ok (.iinc 5 1, 3) := by decide +kernel
theorem dX7_copyWords_72 : decode cX7_copyWords 72 = .ok (.goto (-59), 3) := by decide +kernel
theorem dX7_copyWords_75 : decode cX7_copyWords 75 = .ok (.aload_n 0, 1) := by decide +kernel
theorem dX7_copyWords_76 : decode cX7_copyWords 76 = .ok (.bipush 16, 2) := by decide +kernel
theorem dX7_copyWords_78 : decode cX7_copyWords 78 = .ok (.putfield 13, 3) := by decide +kernel
theorem dX7_copyWords_81 : decode cX7_copyWords 81 = .ok (.aload_n 0, 1) := by decide +kernel
theorem dX7_copyWords_82 : decode cX7_copyWords 82 = .ok (.invokevirtual 17, 3) := by decide +kernel
theorem dX7_copyWords_85 : decode cX7_copyWords 85 = .ok (.return_, 1) := by decide +kernel
theorem dX7_isNought_0 : decode cX7_isNought 0 = .ok (.aload_n 0, 1) := by decide +kernel
theorem dX7_isNought_1 : decode cX7_isNought 1 = .ok (.getfield 13, 3) := by decide +kernel
theorem dX7_isNought_4 : decode cX7_isNought 4 = .ok (.ifCond .ne 7, 3) := by decide +kernel
theorem dX7_isNought_7 : decode cX7_isNought 7 = .ok (.iconst 1, 1) := by decide +kernel
theorem dX7_isNought_8 : decode cX7_isNought 8 = .ok (.goto 4, 3) := by decide +kernel
theorem dX7_isNought_11 : decode cX7_isNought 11 = .ok (.iconst 0, 1) := by decide +kernel
theorem dX7_isNought_12 : decode cX7_isNought 12 = .ok (.ireturn, 1) := by decide +kernel
theorem dX7_bits_0 : decode cX7_bits 0 = .ok (.aload_n 0, 1) := by decide +kernel
theorem dX7_bits_1 : decode cX7_bits 1 = .ok (.getfield 13, 3) := by decide +kernel
theorem dX7_bits_4 : decode cX7_bits 4 = .ok (.ifCond .ne 7, 3) := by decide +kernel
theorem dX7_bits_7 : decode cX7_bits 7 = .ok (.iconst 0, 1) := by decide +kernel
theorem dX7_bits_8 : decode cX7_bits 8 = .ok (.goto 25, 3) := by decide +kernel
theorem dX7_bits_11 : decode cX7_bits 11 = .ok (.bipush 32, 2) := by decide +kernel
theorem dX7_bits_13 : decode cX7_bits 13 = .ok (.aload_n 0, 1) := by decide +kernel
theorem dX7_bits_14 : decode cX7_bits 14 = .ok (.getfield 13, 3) := by decide +kernel
theorem dX7_bits_17 : decode cX7_bits 17 = .ok (.imul, 1) := by decide +kernel
theorem dX7_bits_18 : decode cX7_bits 18 = .ok (.aload_n 0, 1) := by decide +kernel
theorem dX7_bits_19 : decode cX7_bits 19 = .ok (.getfield 9, 3) := by decide +kernel
theorem dX7_bits_22 : decode cX7_bits 22 = .ok (.aload_n 0, 1) := by decide +kernel
theorem dX7_bits_23 : decode cX7_bits 23 = .ok (.getfield 13, 3) := by decide +kernel
theorem dX7_bits_26 : decode cX7_bits 26 = .ok (.iconst 1, 1) := by decide +kernel
theorem dX7_bits_27 : decode cX7_bits 27 = .ok (.isub, 1) := by decide +kernel
theorem dX7_bits_28 : decode cX7_bits 28 = .ok (.iaload, 1) := by decide +kernel
theorem dX7_bits_29 : decode cX7_bits 29 = .ok (.invokestatic 28, 3) := by decide +kernel
theorem dX7_bits_32 : decode cX7_bits 32 = .ok (.isub, 1) := by decide +kernel
theorem dX7_bits_33 : decode cX7_bits 33 = .ok (.ireturn, 1) := by decide +kernel
theorem dX7_grow_0 : decode cX7_grow 0 = .ok (.lload_n 3, 1) := by decide +kernel
theorem dX7_grow_1 : decode cX7_grow 1 = .ok (.lstore 5, 2) := by decide +kernel
theorem dX7_grow_3 : decode cX7_grow 3 = .ok (.iconst 0, 1) := by decide +kernel
theorem dX7_grow_4 : decode cX7_grow 4 = .ok (.istore 7, 2) := by decide +kernel
theorem dX7_grow_6 : decode cX7_grow 6 = .ok (.iload 7, 2) := by decide +kernel
theorem dX7_grow_8 : decode cX7_grow 8 = .ok (.aload_n 0, 1) := by decide +kernel
theorem dX7_grow_9 : decode cX7_grow 9 = .ok (.getfield 13, 3) := by decide +kernel
theorem dX7_grow_12 : decode cX7_grow 12 = .ok (.if_icmp .ge 45, 3) := by decide +kernel
theorem dX7_grow_15 : decode cX7_grow 15 = .ok (.aload_n 0, 1) := by decide +kernel
theorem dX7_grow_16 : decode cX7_grow 16 = .ok (.getfield 9, 3) := by decide +kernel
theorem dX7_grow_19 : decode cX7_grow 19 = .ok (.iload 7, 2) := by decide +kernel
theorem dX7_grow_21 : decode cX7_grow 21 = .ok (.iaload, 1) := by decide +kernel
theorem dX7_grow_22 : decode cX7_grow 22 = .ok (.i2l, 1) := by decide +kernel
theorem dX7_grow_23 : decode cX7_grow 23 = .ok (.ldc2_w 26, 3) := by decide +kernel
theorem dX7_grow_26 : decode cX7_grow 26 = .ok (.land, 1) := by decide +kernel
theorem dX7_grow_27 : decode cX7_grow 27 = .ok (.lload_n 1, 1) := by decide +kernel
theorem dX7_grow_28 : decode cX7_grow 28 = .ok (.lmul, 1) := by decide +kernel
theorem dX7_grow_29 : decode cX7_grow 29 = .ok (.lload 5, 2) := by decide +kernel
theorem dX7_grow_31 : decode cX7_grow 31 = .ok (.ladd, 1) := by decide +kernel
theorem dX7_grow_32 : decode cX7_grow 32 = .ok (.lstore 8, 2) := by decide +kernel
theorem dX7_grow_34 : decode cX7_grow 34 = .ok (.aload_n 0, 1) := by decide +kernel
theorem dX7_grow_35 : decode cX7_grow 35 = .ok (.getfield 9, 3) := by decide +kernel
theorem dX7_grow_38 : decode cX7_grow 38 = .ok (.iload 7, 2) := by decide +kernel
theorem dX7_grow_40 : decode cX7_grow 40 = .ok (.lload 8, 2) := by decide +kernel
theorem dX7_grow_42 : decode cX7_grow 42 = .ok (.l2i, 1) := by decide +kernel
theorem dX7_grow_43 : decode cX7_grow 43 = .ok (.iastore, 1) := by decide +kernel
theorem dX7_grow_44 : decode cX7_grow 44 = .ok (.lload 8, 2) := by decide +kernel
theorem dX7_grow_46 : decode cX7_grow 46 = .ok (.bipush 32, 2) := by decide +kernel
theorem dX7_grow_48 : decode cX7_grow 48 = .ok (.lushr, 1) := by decide +kernel
theorem dX7_grow_49 : decode cX7_grow 49 = .ok (.lstore 5, 2) := by decide +kernel
theorem dX7_grow_51 : decode cX7_grow 51 = .ok (.iinc 7 1, 3) := by decide +kernel
theorem dX7_grow_54 : decode cX7_grow 54 = .ok (.goto (-48), 3) := by decide +kernel
theorem dX7_grow_57 : decode cX7_grow 57 = .ok (.lload 5, 2) := by decide +kernel
theorem dX7_grow_59 : decode cX7_grow 59 = .ok (.lconst 0, 1) := by decide +kernel
theorem dX7_grow_60 : decode cX7_grow 60 = .ok (.lcmp, 1) := by decide +kernel
theorem dX7_grow_61 : decode cX7_grow 61 = .ok (.ifCond .eq 34, 3) := by decide +kernel
theorem dX7_grow_64 : decode cX7_grow 64 = .ok (.aload_n 0, 1) := by decide +kernel
theorem dX7_grow_65 : decode cX7_grow 65 = .ok (.getfield 13, 3) := by decide +kernel
theorem dX7_grow_68 : decode cX7_grow 68 = .ok (.bipush 16, 2) := by decide +kernel
theorem dX7_grow_70 : decode cX7_grow 70 = .ok (.if_icmp .ge 25, 3) := by decide +kernel
theorem dX7_grow_73 : decode cX7_grow 73 = .ok (.aload_n 0, 1) := by decide +kernel
theorem dX7_grow_74 : decode cX7_grow 74 = .ok (.getfield 9, 3) := by decide +kernel
theorem dX7_grow_77 : decode cX7_grow 77 = .ok (.aload_n 0, 1) := by decide +kernel
theorem dX7_grow_78 : decode cX7_grow 78 = .ok (.getfield 13, 3) := by decide +kernel
theorem dX7_grow_81 : decode cX7_grow 81 = .ok (.lload 5, 2) := by decide +kernel
theorem dX7_grow_83 : decode cX7_grow 83 = .ok (.l2i, 1) := by decide +kernel
theorem dX7_grow_84 : decode cX7_grow 84 = .ok (.iastore, 1) := by decide +kernel
theorem dX7_grow_85 : decode cX7_grow 85 = .ok (.aload_n 0, 1) := by decide +kernel
theorem dX7_grow_86 : decode cX7_grow 86 = .ok (.dup, 1) := by decide +kernel
theorem dX7_grow_87 : decode cX7_grow 87 = .ok (.getfield 13, 3) := by decide +kernel
theorem dX7_grow_90 : decode cX7_grow 90 = .ok (.iconst 1, 1) := by decide +kernel
theorem dX7_grow_91 : decode cX7_grow 91 = .ok (.iadd, 1) := by decide +kernel
theorem dX7_grow_92 : decode cX7_grow 92 = .ok (.putfield 13, 3) := by decide +kernel
theorem dX7_grow_95 : decode cX7_grow 95 = .ok (.aload_n 0, 1) := by decide +kernel
theorem dX7_grow_96 : decode cX7_grow 96 = .ok (.invokevirtual 17, 3) := by decide +kernel
theorem dX7_grow_99 : decode cX7_grow 99 = .ok (.return_, 1) := by decide +kernel
theorem dX7_growOften_0 : decode cX7_growOften 0 = .ok (.iconst 0, 1) := by decide +kernel
theorem dX7_growOften_1 : decode cX7_growOften 1 = .ok (.istore 4, 2) := by decide +kernel
theorem dX7_growOften_3 : decode cX7_growOften 3 = .ok (.iload 4, 2) := by decide +kernel
theorem dX7_growOften_5 : decode cX7_growOften 5 = .ok (.iload_n 3, 1) := by decide +kernel
theorem dX7_growOften_6 : decode cX7_growOften 6 = .ok (.if_icmp .ge 15, 3) := by decide +kernel
theorem dX7_growOften_9 : decode cX7_growOften 9 = .ok (.aload_n 0, 1) := by decide +kernel
theorem dX7_growOften_10 : decode cX7_growOften 10 = .ok (.lload_n 1, 1) := by decide +kernel
theorem dX7_growOften_11 : decode cX7_growOften 11 = .ok (.lconst 0, 1) := by decide +kernel
theorem dX7_growOften_12 : decode cX7_growOften 12 = .ok (.invokevirtual 34, 3) := by decide +kernel
theorem dX7_growOften_15 : decode cX7_growOften 15 = .ok (.iinc 4 1, 3) := by decide +kernel
theorem dX7_growOften_18 : decode cX7_growOften 18 = .ok (.goto (-15), 3) := by decide +kernel
theorem dX7_growOften_21 : decode cX7_growOften 21 = .ok (.return_, 1) := by decide +kernel
theorem dX7_shiftUp_0 : decode cX7_shiftUp 0 = .ok (.iload_n 1, 1) := by decide +kernel
theorem dX7_shiftUp_1 : decode cX7_shiftUp 1 = .ok (.iconst 5, 1) := by decide +kernel
theorem dX7_shiftUp_2 : decode cX7_shiftUp 2 = .ok (.ishr, 1) := by decide +kernel
theorem dX7_shiftUp_3 : decode cX7_shiftUp 3 = .ok (.istore_n 2, 1) := by decide +kernel
theorem dX7_shiftUp_4 : decode cX7_shiftUp 4 = .ok (.iload_n 1, 1) := by decide +kernel
theorem dX7_shiftUp_5 : decode cX7_shiftUp 5 = .ok (.bipush 31, 2) := by decide +kernel
theorem dX7_shiftUp_7 : decode cX7_shiftUp 7 = .ok (.iand, 1) := by decide +kernel
theorem dX7_shiftUp_8 : decode cX7_shiftUp 8 = .ok (.istore_n 3, 1) := by decide +kernel
theorem dX7_shiftUp_9 : decode cX7_shiftUp 9 = .ok (.bipush 15, 2) := by decide +kernel
theorem dX7_shiftUp_11 : decode cX7_shiftUp 11 = .ok (.istore 4, 2) := by decide +kernel
theorem dX7_shiftUp_13 : decode cX7_shiftUp 13 = .ok (.iload 4, 2) := by decide +kernel
theorem dX7_shiftUp_15 : decode cX7_shiftUp 15 = .ok (.ifCond .lt 48, 3) := by decide +kernel
theorem dX7_shiftUp_18 : decode cX7_shiftUp 18 = .ok (.aload_n 0, 1) := by decide +kernel
theorem dX7_shiftUp_19 : decode cX7_shiftUp 19 = .ok (.iload 4, 2) := by decide +kernel
theorem dX7_shiftUp_21 : decode cX7_shiftUp 21 = .ok (.iload_n 2, 1) := by decide +kernel
theorem dX7_shiftUp_22 : decode cX7_shiftUp 22 = .ok (.isub, 1) := by decide +kernel
theorem dX7_shiftUp_23 : decode cX7_shiftUp 23 = .ok (.invokevirtual 38, 3) := by decide +kernel
theorem dX7_shiftUp_26 : decode cX7_shiftUp 26 = .ok (.bipush 32, 2) := by decide +kernel
theorem dX7_shiftUp_28 : decode cX7_shiftUp 28 = .ok (.lshl, 1) := by decide +kernel
theorem dX7_shiftUp_29 : decode cX7_shiftUp 29 = .ok (.aload_n 0, 1) := by decide +kernel
theorem dX7_shiftUp_30 : decode cX7_shiftUp 30 = .ok (.iload 4, 2) := by decide +kernel
theorem dX7_shiftUp_32 : decode cX7_shiftUp 32 = .ok (.iload_n 2, 1) := by decide +kernel
theorem dX7_shiftUp_33 : decode cX7_shiftUp 33 = .ok (.isub, 1) := by decide +kernel
theorem dX7_shiftUp_34 : decode cX7_shiftUp 34 = .ok (.iconst 1, 1) := by decide +kernel
theorem dX7_shiftUp_35 : decode cX7_shiftUp 35 = .ok (.isub, 1) := by decide +kernel
theorem dX7_shiftUp_36 : decode cX7_shiftUp 36 = .ok (.invokevirtual 38, 3) := by decide +kernel
theorem dX7_shiftUp_39 : decode cX7_shiftUp 39 = .ok (.lor, 1) := by decide +kernel
theorem dX7_shiftUp_40 : decode cX7_shiftUp 40 = .ok (.lstore 5, 2) := by decide +kernel
theorem dX7_shiftUp_42 : decode cX7_shiftUp 42 = .ok (.aload_n 0, 1) := by decide +kernel
theorem dX7_shiftUp_43 : decode cX7_shiftUp 43 = .ok (.getfield 9, 3) := by decide +kernel
theorem dX7_shiftUp_46 : decode cX7_shiftUp 46 = .ok (.iload 4, 2) := by decide +kernel
theorem dX7_shiftUp_48 : decode cX7_shiftUp 48 = .ok (.lload 5, 2) := by decide +kernel
theorem dX7_shiftUp_50 : decode cX7_shiftUp 50 = .ok (.iload_n 3, 1) := by decide +kernel
theorem dX7_shiftUp_51 : decode cX7_shiftUp 51 = .ok (.lshl, 1) := by decide +kernel
theorem dX7_shiftUp_52 : decode cX7_shiftUp 52 = .ok (.bipush 32, 2) := by decide +kernel
theorem dX7_shiftUp_54 : decode cX7_shiftUp 54 = .ok (.lushr, 1) := by decide +kernel
theorem dX7_shiftUp_55 : decode cX7_shiftUp 55 = .ok (.l2i, 1) := by decide +kernel
theorem dX7_shiftUp_56 : decode cX7_shiftUp 56 = .ok (.iastore, 1) := by decide +kernel
theorem dX7_shiftUp_57 : decode cX7_shiftUp 57 = .ok (.iinc 4 (-1), 3) := by decide +kernel
theorem dX7_shiftUp_60 : decode cX7_shiftUp 60 = .ok (.goto (-47), 3) := by decide +kernel
theorem dX7_shiftUp_63 : decode cX7_shiftUp 63 = .ok (.aload_n 0, 1) := by decide +kernel
theorem dX7_shiftUp_64 : decode cX7_shiftUp 64 = .ok (.bipush 16, 2) := by decide +kernel
theorem dX7_shiftUp_66 : decode cX7_shiftUp 66 = .ok (.putfield 13, 3) := by decide +kernel
theorem dX7_shiftUp_69 : decode cX7_shiftUp 69 = .ok (.aload_n 0, 1) := by decide +kernel
theorem dX7_shiftUp_70 : decode cX7_shiftUp 70 = .ok (.invokevirtual 17, 3) := by decide +kernel
theorem dX7_shiftUp_73 : decode cX7_shiftUp 73 = .ok (.return_, 1) := by decide +kernel
theorem dX7_lower_0 : decode cX7_lower 0 = .ok (.lconst 0, 1) := by decide +kernel
theorem dX7_lower_1 : decode cX7_lower 1 = .ok (.lstore_n 2, 1) := by decide +kernel
theorem dX7_lower_2 : decode cX7_lower 2 = .ok (.iconst 0, 1) := by decide +kernel
theorem dX7_lower_3 : decode cX7_lower 3 = .ok (.istore 4, 2) := by decide +kernel
theorem dX7_lower_5 : decode cX7_lower 5 = .ok (.iload 4, 2) := by decide +kernel
theorem dX7_lower_7 : decode cX7_lower 7 = .ok (.aload_n 0, 1) := by decide +kernel
theorem dX7_lower_8 : decode cX7_lower 8 = .ok (.getfield 13, 3) := by decide +kernel
theorem dX7_lower_11 : decode cX7_lower 11 = .ok (.if_icmp .ge 48, 3) := by decide +kernel
theorem dX7_lower_14 : decode cX7_lower 14 = .ok (.aload_n 0, 1) := by decide +kernel
theorem dX7_lower_15 : decode cX7_lower 15 = .ok (.getfield 9, 3) := by decide +kernel
theorem dX7_lower_18 : decode cX7_lower 18 = .ok (.iload 4, 2) := by decide +kernel
theorem dX7_lower_20 : decode cX7_lower 20 = .ok (.iaload, 1) := by decide +kernel
theorem dX7_lower_21 : decode cX7_lower 21 = .ok (.i2l, 1) := by decide +kernel
theorem dX7_lower_22 : decode cX7_lower 22 = .ok (.ldc2_w 26, 3) := by decide +kernel
theorem dX7_lower_25 : decode cX7_lower 25 = .ok (.land, 1) := by decide +kernel
theorem dX7_lower_26 : decode cX7_lower 26 = .ok (.aload_n 1, 1) := by decide +kernel
theorem dX7_lower_27 : decode cX7_lower 27 = .ok (.iload 4, 2) := by decide +kernel
theorem dX7_lower_29 : decode cX7_lower 29 = .ok (.invokevirtual 38, 3) := by decide +kernel
theorem dX7_lower_32 : decode cX7_lower 32 = .ok (.lsub, 1) := by decide +kernel
theorem dX7_lower_33 : decode cX7_lower 33 = .ok (.lload_n 2, 1) := by decide +kernel
theorem dX7_lower_34 : decode cX7_lower 34 = .ok (.ladd, 1) := by decide +kernel
theorem dX7_lower_35 : decode cX7_lower 35 = .ok (.lstore 5, 2) := by decide +kernel
theorem dX7_lower_37 : decode cX7_lower 37 = .ok (.aload_n 0, 1) := by decide +kernel
theorem dX7_lower_38 : decode cX7_lower 38 = .ok (.getfield 9, 3) := by decide +kernel
theorem dX7_lower_41 : decode cX7_lower 41 = .ok (.iload 4, 2) := by decide +kernel
theorem dX7_lower_43 : decode cX7_lower 43 = .ok (.lload 5, 2) := by decide +kernel
theorem dX7_lower_45 : decode cX7_lower 45 = .ok (.l2i, 1) := by decide +kernel
theorem dX7_lower_46 : decode cX7_lower 46 = .ok (.iastore, 1) := by decide +kernel
theorem dX7_lower_47 : decode cX7_lower 47 = .ok (.lload 5, 2) := by decide +kernel
theorem dX7_lower_49 : decode cX7_lower 49 = .ok (.bipush 32, 2) := by decide +kernel
theorem dX7_lower_51 : decode cX7_lower 51 = .ok (.lshr, 1) := by decide +kernel
theorem dX7_lower_52 : decode cX7_lower 52 = .ok (.lstore_n 2, 1) := by decide +kernel
theorem dX7_lower_53 : decode cX7_lower 53 = .ok (.iinc 4 1, 3) := by decide +kernel
theorem dX7_lower_56 : decode cX7_lower 56 = .ok (.goto (-51), 3) := by decide +kernel
theorem dX7_lower_59 : decode cX7_lower 59 = .ok (.aload_n 0, 1) := by decide +kernel
theorem dX7_lower_60 : decode cX7_lower 60 = .ok (.invokevirtual 17, 3) := by decide +kernel
theorem dX7_lower_63 : decode cX7_lower 63 = .ok (.return_, 1) := by decide +kernel
theorem dX7_cutDigit_0 : decode cX7_cutDigit 0 = .ok (.lconst 0, 1) := by decide +kernel
theorem dX7_cutDigit_1 : decode cX7_cutDigit 1 = .ok (.lstore_n 1, 1) := by decide +kernel
theorem dX7_cutDigit_2 : decode cX7_cutDigit 2 = .ok (.aload_n 0, 1) := by decide +kernel
theorem dX7_cutDigit_3 : decode cX7_cutDigit 3 = .ok (.getfield 13, 3) := by decide +kernel
theorem dX7_cutDigit_6 : decode cX7_cutDigit 6 = .ok (.iconst 1, 1) := by decide +kernel
theorem dX7_cutDigit_7 : decode cX7_cutDigit 7 = .ok (.isub, 1) := by decide +kernel
theorem dX7_cutDigit_8 : decode cX7_cutDigit 8 = .ok (.istore_n 3, 1) := by decide +kernel
theorem dX7_cutDigit_9 : decode cX7_cutDigit 9 = .ok (.iload_n 3, 1) := by decide +kernel
theorem dX7_cutDigit_10 : decode cX7_cutDigit 10 = .ok (.ifCond .lt 47, 3) := by decide +kernel
theorem dX7_cutDigit_13 : decode cX7_cutDigit 13 = .ok (.lload_n 1, 1) := by decide +kernel
theorem dX7_cutDigit_14 : decode cX7_cutDigit 14 = .ok (.bipush 32, 2) := by decide +kernel
theorem dX7_cutDigit_16 : decode cX7_cutDigit 16 = .ok (.lshl, 1) := by decide +kernel
theorem dX7_cutDigit_17 : decode cX7_cutDigit 17 = .ok (.aload_n 0, 1) := by decide +kernel
theorem dX7_cutDigit_18 : decode cX7_cutDigit 18 = .ok (.getfield 9, 3) := by decide +kernel
theorem dX7_cutDigit_21 : decode cX7_cutDigit 21 = .ok (.iload_n 3, 1) := by decide +kernel
theorem dX7_cutDigit_22 : decode cX7_cutDigit 22 = .ok (.iaload, 1) := by decide +kernel
theorem dX7_cutDigit_23 : decode cX7_cutDigit 23 = .ok (.i2l, 1) := by decide +kernel
theorem dX7_cutDigit_24 : decode cX7_cutDigit 24 = .ok (.ldc2_w 26, 3) := by decide +kernel
theorem dX7_cutDigit_27 : decode cX7_cutDigit 27 = .ok (.land, 1) := by decide +kernel
theorem dX7_cutDigit_28 : decode cX7_cutDigit 28 = .ok (.lor, 1) := by decide +kernel
theorem dX7_cutDigit_29 : decode cX7_cutDigit 29 = .ok (.lstore 4, 2) := by decide +kernel
theorem dX7_cutDigit_31 : decode cX7_cutDigit 31 = .ok (.aload_n 0, 1) := by decide +kernel
theorem dX7_cutDigit_32 : decode cX7_cutDigit 32 = .ok (.getfield 9, 3) := by decide +kernel
theorem dX7_cutDigit_35 : decode cX7_cutDigit 35 = .ok (.iload_n 3, 1) := by decide +kernel
theorem dX7_cutDigit_36 : decode cX7_cutDigit 36 = .ok (.lload 4, 2) := by decide +kernel
theorem dX7_cutDigit_38 : decode cX7_cutDigit 38 = .ok (.ldc2_w 42, 3) := by decide +kernel
theorem dX7_cutDigit_41 : decode cX7_cutDigit 41 = .ok (.ldiv, 1) := by decide +kernel
theorem dX7_cutDigit_42 : decode cX7_cutDigit 42 = .ok (.l2i, 1) := by decide +kernel
theorem dX7_cutDigit_43 : decode cX7_cutDigit 43 = .ok (.iastore, 1) := by decide +kernel
theorem dX7_cutDigit_44 : decode cX7_cutDigit 44 = .ok (.lload 4, 2) := by decide +kernel
theorem dX7_cutDigit_46 : decode cX7_cutDigit 46 = .ok (.ldc2_w 42, 3) := by decide +kernel
theorem dX7_cutDigit_49 : decode cX7_cutDigit 49 = .ok (.lrem, 1) := by decide +kernel
theorem dX7_cutDigit_50 : decode cX7_cutDigit 50 = .ok (.lstore_n 1, 1) := by decide +kernel
theorem dX7_cutDigit_51 : decode cX7_cutDigit 51 = .ok (.iinc 3 (-1), 3) := by decide +kernel
theorem dX7_cutDigit_54 : decode cX7_cutDigit 54 = .ok (.goto (-45), 3) := by decide +kernel
theorem dX7_cutDigit_57 : decode cX7_cutDigit 57 = .ok (.aload_n 0, 1) := by decide +kernel
theorem dX7_cutDigit_58 : decode cX7_cutDigit 58 = .ok (.invokevirtual 17, 3) := by decide +kernel
theorem dX7_cutDigit_61 : decode cX7_cutDigit 61 = .ok (.lload_n 1, 1) := by decide +kernel
theorem dX7_cutDigit_62 : decode cX7_cutDigit 62 = .ok (.l2i, 1) := by decide +kernel
theorem dX7_cutDigit_63 : decode cX7_cutDigit 63 = .ok (.ireturn, 1) := by decide +kernel
theorem dX7_against_0 : decode cX7_against 0 = .ok (.aload_n 0, 1) := by decide +kernel
theorem dX7_against_1 : decode cX7_against 1 = .ok (.getfield 13, 3) := by decide +kernel
theorem dX7_against_4 : decode cX7_against 4 = .ok (.aload_n 1, 1) := by decide +kernel
theorem dX7_against_5 : decode cX7_against 5 = .ok (.getfield 13, 3) := by decide +kernel
theorem dX7_against_8 : decode cX7_against 8 = .ok (.if_icmp .eq 20, 3) := by decide +kernel
theorem dX7_against_11 : decode cX7_against 11 = .ok (.aload_n 0, 1) := by decide +kernel
theorem dX7_against_12 : decode cX7_against 12 = .ok (.getfield 13, 3) := by decide +kernel
theorem dX7_against_15 : decode cX7_against 15 = .ok (.aload_n 1, 1) := by decide +kernel
theorem dX7_against_16 : decode cX7_against 16 = .ok (.getfield 13, 3) := by decide +kernel
theorem dX7_against_19 : decode cX7_against 19 = .ok (.if_icmp .ge 7, 3) := by decide +kernel
theorem dX7_against_22 : decode cX7_against 22 = .ok (.iconst (-1), 1) := by decide +kernel
theorem dX7_against_23 : decode cX7_against 23 = .ok (.goto 4, 3) := by decide +kernel
theorem dX7_against_26 : decode cX7_against 26 = .ok (.iconst 1, 1) := by decide +kernel
theorem dX7_against_27 : decode cX7_against 27 = .ok (.ireturn, 1) := by decide +kernel
theorem dX7_against_28 : decode cX7_against 28 = .ok (.aload_n 0, 1) := by decide +kernel
theorem dX7_against_29 : decode cX7_against 29 = .ok (.getfield 13, 3) := by decide +kernel
theorem dX7_against_32 : decode cX7_against 32 = .ok (.iconst 1, 1) := by decide +kernel
theorem dX7_against_33 : decode cX7_against 33 = .ok (.isub, 1) := by decide +kernel
theorem dX7_against_34 : decode cX7_against 34 = .ok (.istore_n 2, 1) := by decide +kernel
theorem dX7_against_35 : decode cX7_against 35 = .ok (.iload_n 2, 1) := by decide +kernel
theorem dX7_against_36 : decode cX7_against 36 = .ok (.ifCond .lt 54, 3) := by decide +kernel
theorem dX7_against_39 : decode cX7_against 39 = .ok (.aload_n 0, 1) := by decide +kernel
theorem dX7_against_40 : decode cX7_against 40 = .ok (.getfield 9, 3) := by decide +kernel
theorem dX7_against_43 : decode cX7_against 43 = .ok (.iload_n 2, 1) := by decide +kernel
theorem dX7_against_44 : decode cX7_against 44 = .ok (.iaload, 1) := by decide +kernel
theorem dX7_against_45 : decode cX7_against 45 = .ok (.i2l, 1) := by decide +kernel
theorem dX7_against_46 : decode cX7_against 46 = .ok (.ldc2_w 26, 3) := by decide +kernel
theorem dX7_against_49 : decode cX7_against 49 = .ok (.land, 1) := by decide +kernel
theorem dX7_against_50 : decode cX7_against 50 = .ok (.lstore_n 3, 1) := by decide +kernel
theorem dX7_against_51 : decode cX7_against 51 = .ok (.aload_n 1, 1) := by decide +kernel
theorem dX7_against_52 : decode cX7_against 52 = .ok (.getfield 9, 3) := by decide +kernel
theorem dX7_against_55 : decode cX7_against 55 = .ok (.iload_n 2, 1) := by decide +kernel
theorem dX7_against_56 : decode cX7_against 56 = .ok (.iaload, 1) := by decide +kernel
theorem dX7_against_57 : decode cX7_against 57 = .ok (.i2l, 1) := by decide +kernel
theorem dX7_against_58 : decode cX7_against 58 = .ok (.ldc2_w 26, 3) := by decide +kernel
theorem dX7_against_61 : decode cX7_against 61 = .ok (.land, 1) := by decide +kernel
theorem dX7_against_62 : decode cX7_against 62 = .ok (.lstore 5, 2) := by decide +kernel
theorem dX7_against_64 : decode cX7_against 64 = .ok (.lload_n 3, 1) := by decide +kernel
theorem dX7_against_65 : decode cX7_against 65 = .ok (.lload 5, 2) := by decide +kernel
theorem dX7_against_67 : decode cX7_against 67 = .ok (.lcmp, 1) := by decide +kernel
theorem dX7_against_68 : decode cX7_against 68 = .ok (.ifCond .eq 16, 3) := by decide +kernel
theorem dX7_against_71 : decode cX7_against 71 = .ok (.lload_n 3, 1) := by decide +kernel
theorem dX7_against_72 : decode cX7_against 72 = .ok (.lload 5, 2) := by decide +kernel
theorem dX7_against_74 : decode cX7_against 74 = .ok (.lcmp, 1) := by decide +kernel
theorem dX7_against_75 : decode cX7_against 75 = .ok (.ifCond .ge 7, 3) := by decide +kernel
theorem dX7_against_78 : decode cX7_against 78 = .ok (.iconst (-1), 1) := by decide +kernel
theorem dX7_against_79 : decode cX7_against 79 = .ok (.goto 4, 3) := by decide +kernel
theorem dX7_against_82 : decode cX7_against 82 = .ok (.iconst 1, 1) := by decide +kernel
theorem dX7_against_83 : decode cX7_against 83 = .ok (.ireturn, 1) := by decide +kernel
theorem dX7_against_84 : decode cX7_against 84 = .ok (.iinc 2 (-1), 3) := by decide +kernel
theorem dX7_against_87 : decode cX7_against 87 = .ok (.goto (-52), 3) := by decide +kernel
theorem dX7_against_90 : decode cX7_against 90 = .ok (.iconst 0, 1) := by decide +kernel
theorem dX7_against_91 : decode cX7_against 91 = .ok (.ireturn, 1) := by decide +kernel
theorem dX7_window_0 : decode cX7_window 0 = .ok (.iload_n 1, 1) := by decide +kernel
theorem dX7_window_1 : decode cX7_window 1 = .ok (.iconst 5, 1) := by decide +kernel
theorem dX7_window_2 : decode cX7_window 2 = .ok (.ishr, 1) := by decide +kernel
theorem dX7_window_3 : decode cX7_window 3 = .ok (.istore_n 2, 1) := by decide +kernel
theorem dX7_window_4 : decode cX7_window 4 = .ok (.iload_n 1, 1) := by decide +kernel
theorem dX7_window_5 : decode cX7_window 5 = .ok (.bipush 31, 2) := by decide +kernel
theorem dX7_window_7 : decode cX7_window 7 = .ok (.iand, 1) := by decide +kernel
theorem dX7_window_8 : decode cX7_window 8 = .ok (.istore_n 3, 1) := by decide +kernel
theorem dX7_window_9 : decode cX7_window 9 = .ok (.aload_n 0, 1) := by decide +kernel
theorem dX7_window_10 : decode cX7_window 10 = .ok (.iload_n 2, 1) := by decide +kernel
theorem dX7_window_11 : decode cX7_window 11 = .ok (.iconst 1, 1) := by decide +kernel
theorem dX7_window_12 : decode cX7_window 12 = .ok (.iadd, 1) := by decide +kernel
theorem dX7_window_13 : decode cX7_window 13 = .ok (.invokevirtual 38, 3) := by decide +kernel
theorem dX7_window_16 : decode cX7_window 16 = .ok (.bipush 32, 2) := by decide +kernel
theorem dX7_window_18 : decode cX7_window 18 = .ok (.lshl, 1) := by decide +kernel
theorem dX7_window_19 : decode cX7_window 19 = .ok (.aload_n 0, 1) := by decide +kernel
theorem dX7_window_20 : decode cX7_window 20 = .ok (.iload_n 2, 1) := by decide +kernel
theorem dX7_window_21 : decode cX7_window 21 = .ok (.invokevirtual 38, 3) := by decide +kernel
theorem dX7_window_24 : decode cX7_window 24 = .ok (.lor, 1) := by decide +kernel
theorem dX7_window_25 : decode cX7_window 25 = .ok (.lstore 4, 2) := by decide +kernel
theorem dX7_window_27 : decode cX7_window 27 = .ok (.iload_n 3, 1) := by decide +kernel
theorem dX7_window_28 : decode cX7_window 28 = .ok (.ifCond .ne 8, 3) := by decide +kernel
theorem dX7_window_31 : decode cX7_window 31 = .ok (.lload 4, 2) := by decide +kernel
theorem dX7_window_33 : decode cX7_window 33 = .ok (.goto 20, 3) := by decide +kernel
theorem dX7_window_36 : decode cX7_window 36 = .ok (.lload 4, 2) := by decide +kernel
theorem dX7_window_38 : decode cX7_window 38 = .ok (.iload_n 3, 1) := by decide +kernel
theorem dX7_window_39 : decode cX7_window 39 = .ok (.lushr, 1) := by decide +kernel
theorem dX7_window_40 : decode cX7_window 40 = .ok (.aload_n 0, 1) := by decide +kernel
theorem dX7_window_41 : decode cX7_window 41 = .ok (.iload_n 2, 1) := by decide +kernel
theorem dX7_window_42 : decode cX7_window 42 = .ok (.iconst 2, 1) := by decide +kernel
theorem dX7_window_43 : decode cX7_window 43 = .ok (.iadd, 1) := by decide +kernel
theorem dX7_window_44 : decode cX7_window 44 = .ok (.invokevirtual 38, 3) := by decide +kernel
theorem dX7_window_47 : decode cX7_window 47 = .ok (.bipush 64, 2) := by decide +kernel
theorem dX7_window_49 : decode cX7_window 49 = .ok (.iload_n 3, 1) := by decide +kernel
theorem dX7_window_50 : decode cX7_window 50 = .ok (.isub, 1) := by decide +kernel
theorem dX7_window_51 : decode cX7_window 51 = .ok (.lshl, 1) := by decide +kernel
theorem dX7_window_52 : decode cX7_window 52 = .ok (.lor, 1) := by decide +kernel
theorem dX7_window_53 : decode cX7_window 53 = .ok (.lreturn, 1) := by decide +kernel
theorem dX7_anyBelow_0 : decode cX7_anyBelow 0 = .ok (.iload_n 1, 1) := by decide +kernel
theorem dX7_anyBelow_1 : decode cX7_anyBelow 1 = .ok (.iconst 5, 1) := by decide +kernel
theorem dX7_anyBelow_2 : decode cX7_anyBelow 2 = .ok (.ishr, 1) := by decide +kernel
theorem dX7_anyBelow_3 : decode cX7_anyBelow 3 = .ok (.istore_n 2, 1) := by decide +kernel
theorem dX7_anyBelow_4 : decode cX7_anyBelow 4 = .ok (.iconst 0, 1) := by decide +kernel
theorem dX7_anyBelow_5 : decode cX7_anyBelow 5 = .ok (.istore_n 3, 1) := by decide +kernel
theorem dX7_anyBelow_6 : decode cX7_anyBelow 6 = .ok (.iload_n 3, 1) := by decide +kernel
theorem dX7_anyBelow_7 : decode cX7_anyBelow 7 = .ok (.iload_n 2, 1) := by decide +kernel
theorem dX7_anyBelow_8 : decode cX7_anyBelow 8 = .ok (.if_icmp .ge 28, 3) := by decide +kernel
theorem dX7_anyBelow_11 : decode cX7_anyBelow 11 = .ok (.iload_n 3, 1) := by decide +kernel
theorem dX7_anyBelow_12 : decode cX7_anyBelow 12 = .ok (.aload_n 0, 1) := by decide +kernel
theorem dX7_anyBelow_13 : decode cX7_anyBelow 13 = .ok (.getfield 13, 3) := by decide +kernel
theorem dX7_anyBelow_16 : decode cX7_anyBelow 16 = .ok (.if_icmp .ge 20, 3) := by decide +kernel
theorem dX7_anyBelow_19 : decode cX7_anyBelow 19 = .ok (.aload_n 0, 1) := by decide +kernel
theorem dX7_anyBelow_20 : decode cX7_anyBelow 20 = .ok (.getfield 9, 3) := by decide +kernel
theorem dX7_anyBelow_23 : decode cX7_anyBelow 23 = .ok (.iload_n 3, 1) := by decide +kernel
theorem dX7_anyBelow_24 : decode cX7_anyBelow 24 = .ok (.iaload, 1) := by decide +kernel
theorem dX7_anyBelow_25 : decode cX7_anyBelow 25 = .ok (.ifCond .eq 5, 3) := by decide +kernel
theorem dX7_anyBelow_28 : decode cX7_anyBelow 28 = .ok (.iconst 1, 1) := by decide +kernel
theorem dX7_anyBelow_29 : decode cX7_anyBelow 29 = .ok (.ireturn, 1) := by decide +kernel
theorem dX7_anyBelow_30 : decode cX7_anyBelow 30 = .ok (.iinc 3 1, 3) := by decide +kernel
theorem dX7_anyBelow_33 : decode cX7_anyBelow 33 = .ok (.goto (-27), 3) := by decide +kernel
theorem dX7_anyBelow_36 : decode cX7_anyBelow 36 = .ok (.aload_n 0, 1) := by decide +kernel
theorem dX7_anyBelow_37 : decode cX7_anyBelow 37 = .ok (.iload_n 2, 1) := by decide +kernel
theorem dX7_anyBelow_38 : decode cX7_anyBelow 38 = .ok (.invokevirtual 38, 3) := by decide +kernel
theorem dX7_anyBelow_41 : decode cX7_anyBelow 41 = .ok (.lconst 1, 1) := by decide +kernel
theorem dX7_anyBelow_42 : decode cX7_anyBelow 42 = .ok (.iload_n 1, 1) := by decide +kernel
theorem dX7_anyBelow_43 : decode cX7_anyBelow 43 = .ok (.bipush 31, 2) := by decide +kernel
theorem dX7_anyBelow_45 : decode cX7_anyBelow 45 = .ok (.iand, 1) := by decide +kernel
theorem dX7_anyBelow_46 : decode cX7_anyBelow 46 = .ok (.lshl, 1) := by decide +kernel
theorem dX7_anyBelow_47 : decode cX7_anyBelow 47 = .ok (.lconst 1, 1) := by decide +kernel
theorem dX7_anyBelow_48 : decode cX7_anyBelow 48 = .ok (.lsub, 1) := by decide +kernel
theorem dX7_anyBelow_49 : decode cX7_anyBelow 49 = .ok (.land, 1) := by decide +kernel
theorem dX7_anyBelow_50 : decode cX7_anyBelow 50 = .ok (.lconst 0, 1) := by decide +kernel
theorem dX7_anyBelow_51 : decode cX7_anyBelow 51 = .ok (.lcmp, 1) := by decide +kernel
theorem dX7_anyBelow_52 : decode cX7_anyBelow 52 = .ok (.ifCond .eq 7, 3) := by decide +kernel
theorem dX7_anyBelow_55 : decode cX7_anyBelow 55 = .ok (.iconst 1, 1) := by decide +kernel
theorem dX7_anyBelow_56 : decode cX7_anyBelow 56 = .ok (.goto 4, 3) := by decide +kernel
theorem dX7_anyBelow_59 : decode cX7_anyBelow 59 = .ok (.iconst 0, 1) := by decide +kernel
theorem dX7_anyBelow_60 : decode cX7_anyBelow 60 = .ok (.ireturn, 1) := by decide +kernel
theorem dX7_wordAt_0 : decode cX7_wordAt 0 = .ok (.iload_n 1, 1) := by decide +kernel
theorem dX7_wordAt_1 : decode cX7_wordAt 1 = .ok (.ifCond .lt 25, 3) := by decide +kernel
theorem dX7_wordAt_4 : decode cX7_wordAt 4 = .ok (.iload_n 1, 1) := by decide +kernel
theorem dX7_wordAt_5 : decode cX7_wordAt 5 = .ok (.aload_n 0, 1) := by decide +kernel
theorem dX7_wordAt_6 : decode cX7_wordAt 6 = .ok (.getfield 13, 3) := by decide +kernel
theorem dX7_wordAt_9 : decode cX7_wordAt 9 = .ok (.if_icmp .ge 17, 3) := by decide +kernel
theorem dX7_wordAt_12 : decode cX7_wordAt 12 = .ok (.aload_n 0, 1) := by decide +kernel
theorem dX7_wordAt_13 : decode cX7_wordAt 13 = .ok (.getfield 9, 3) := by decide +kernel
theorem dX7_wordAt_16 : decode cX7_wordAt 16 = .ok (.iload_n 1, 1) := by decide +kernel
theorem dX7_wordAt_17 : decode cX7_wordAt 17 = .ok (.iaload, 1) := by decide +kernel
theorem dX7_wordAt_18 : decode cX7_wordAt 18 = .ok (.i2l, 1) := by decide +kernel
theorem dX7_wordAt_19 : decode cX7_wordAt 19 = .ok (.ldc2_w 26, 3) := by decide +kernel
theorem dX7_wordAt_22 : decode cX7_wordAt 22 = .ok (.land, 1) := by decide +kernel
theorem dX7_wordAt_23 : decode cX7_wordAt 23 = .ok (.goto 4, 3) := by decide +kernel
theorem dX7_wordAt_26 : decode cX7_wordAt 26 = .ok (.lconst 0, 1) := by decide +kernel
theorem dX7_wordAt_27 : decode cX7_wordAt 27 = .ok (.lreturn, 1) := by decide +kernel
theorem dX7_trim_0 : decode cX7_trim 0 = .ok (.aload_n 0, 1) := by decide +kernel
theorem dX7_trim_1 : decode cX7_trim 1 = .ok (.getfield 13, 3) := by decide +kernel
theorem dX7_trim_4 : decode cX7_trim 4 = .ok (.iconst 1, 1) := by decide +kernel
theorem dX7_trim_5 : decode cX7_trim 5 = .ok (.isub, 1) := by decide +kernel
theorem dX7_trim_6 : decode cX7_trim 6 = .ok (.istore_n 1, 1) := by decide +kernel
theorem dX7_trim_7 : decode cX7_trim 7 = .ok (.iload_n 1, 1) := by decide +kernel
theorem dX7_trim_8 : decode cX7_trim 8 = .ok (.ifCond .lt 23, 3) := by decide +kernel
theorem dX7_trim_11 : decode cX7_trim 11 = .ok (.aload_n 0, 1) := by decide +kernel
theorem dX7_trim_12 : decode cX7_trim 12 = .ok (.getfield 9, 3) := by decide +kernel
theorem dX7_trim_15 : decode cX7_trim 15 = .ok (.iload_n 1, 1) := by decide +kernel
theorem dX7_trim_16 : decode cX7_trim 16 = .ok (.iaload, 1) := by decide +kernel
theorem dX7_trim_17 : decode cX7_trim 17 = .ok (.ifCond .ne 14, 3) := by decide +kernel
theorem dX7_trim_20 : decode cX7_trim 20 = .ok (.aload_n 0, 1) := by decide +kernel
theorem dX7_trim_21 : decode cX7_trim 21 = .ok (.iload_n 1, 1) := by decide +kernel
theorem dX7_trim_22 : decode cX7_trim 22 = .ok (.putfield 13, 3) := by decide +kernel
theorem dX7_trim_25 : decode cX7_trim 25 = .ok (.iinc 1 (-1), 3) := by decide +kernel
theorem dX7_trim_28 : decode cX7_trim 28 = .ok (.goto (-21), 3) := by decide +kernel
theorem dX7_trim_31 : decode cX7_trim 31 = .ok (.return_, 1) := by decide +kernel
theorem dX2_init_0 : decode cX2_init 0 = .ok (.aload_n 0, 1) := by decide +kernel
theorem dX2_init_1 : decode cX2_init 1 = .ok (.invokespecial 1, 3) := by decide +kernel
theorem dX2_init_4 : decode cX2_init 4 = .ok (.return_, 1) := by decide +kernel
theorem dX2_load_0 : decode cX2_load 0 = .ok (.lconst 1, 1) := by decide +kernel
theorem dX2_load_1 : decode cX2_load 1 = .ok (.iload_n 3, 1) := by decide +kernel
theorem dX2_load_2 : decode cX2_load 2 = .ok (.iconst 1, 1) := by decide +kernel
theorem dX2_load_3 : decode cX2_load 3 = .ok (.isub, 1) := by decide +kernel
theorem dX2_load_4 : decode cX2_load 4 = .ok (.lshl, 1) := by decide +kernel
theorem dX2_load_5 : decode cX2_load 5 = .ok (.lstore 4, 2) := by decide +kernel
theorem dX2_load_7 : decode cX2_load 7 = .ok (.aload_n 0, 1) := by decide +kernel
theorem dX2_load_8 : decode cX2_load 8 = .ok (.lload_n 1, 1) := by decide +kernel
theorem dX2_load_9 : decode cX2_load 9 = .ok (.lload 4, 2) := by decide +kernel
theorem dX2_load_11 : decode cX2_load 11 = .ok (.lcmp, 1) := by decide +kernel
theorem dX2_load_12 : decode cX2_load 12 = .ok (.ifCond .ne 7, 3) := by decide +kernel
theorem dX2_load_15 : decode cX2_load 15 = .ok (.iconst 1, 1) := by decide +kernel
theorem dX2_load_16 : decode cX2_load 16 = .ok (.goto 4, 3) := by decide +kernel
theorem dX2_load_19 : decode cX2_load 19 = .ok (.iconst 0, 1) := by decide +kernel
theorem dX2_load_20 : decode cX2_load 20 = .ok (.putfield 7, 3) := by decide +kernel
theorem dX2_load_23 : decode cX2_load 23 = .ok (.aload_n 0, 1) := by decide +kernel
theorem dX2_load_24 : decode cX2_load 24 = .ok (.lload_n 1, 1) := by decide +kernel
theorem dX2_load_25 : decode cX2_load 25 = .ok (.lload 4, 2) := by decide +kernel
theorem dX2_load_27 : decode cX2_load 27 = .ok (.lcmp, 1) := by decide +kernel
theorem dX2_load_28 : decode cX2_load 28 = .ok (.ifCond .le 7, 3) := by decide +kernel
theorem dX2_load_31 : decode cX2_load 31 = .ok (.iconst 1, 1) := by decide +kernel
theorem dX2_load_32 : decode cX2_load 32 = .ok (.goto 4, 3) := by decide +kernel
theorem dX2_load_35 : decode cX2_load 35 = .ok (.iconst 0, 1) := by decide +kernel
theorem dX2_load_36 : decode cX2_load 36 = .ok (.putfield 13, 3) := by decide +kernel
theorem dX2_load_39 : decode cX2_load 39 = .ok (.aload_n 0, 1) := by decide +kernel
theorem dX2_load_40 : decode cX2_load 40 = .ok (.lconst 0, 1) := by decide +kernel
theorem dX2_load_41 : decode cX2_load 41 = .ok (.putfield 16, 3) := by decide +kernel
theorem dX2_load_44 : decode cX2_load 44 = .ok (.aload_n 0, 1) := by decide +kernel
theorem dX2_load_45 : decode cX2_load 45 = .ok (.iconst 0, 1) := by decide +kernel
theorem dX2_load_46 : decode cX2_load 46 = .ok (.putfield 20, 3) := by decide +kernel
theorem dX2_load_49 : decode cX2_load 49 = .ok (.aload_n 0, 1) := by decide +kernel
theorem dX2_load_50 : decode cX2_load 50 = .ok (.getfield 7, 3) := by decide +kernel
theorem dX2_load_53 : decode cX2_load 53 = .ok (.ifCond .ne 9, 3) := by decide +kernel
theorem dX2_load_56 : decode cX2_load 56 = .ok (.lload_n 1, 1) := by decide +kernel
theorem dX2_load_57 : decode cX2_load 57 = .ok (.lconst 0, 1) := by decide +kernel
theorem dX2_load_58 : decode cX2_load 58 = .ok (.lcmp, 1) := by decide +kernel
theorem dX2_load_59 : decode cX2_load 59 = .ok (.ifCond .ne 4, 3) := by decide +kernel
theorem dX2_load_62 : decode cX2_load 62 = .ok (.return_, 1) := by decide +kernel
theorem dX2_load_63 : decode cX2_load 63 = .ok (.aload_n 0, 1) := by decide +kernel
theorem dX2_load_64 : decode cX2_load 64 = .ok (.getfield 13, 3) := by decide +kernel
theorem dX2_load_67 : decode cX2_load 67 = .ok (.ifCond .eq 11, 3) := by decide +kernel
theorem dX2_load_70 : decode cX2_load 70 = .ok (.lconst 1, 1) := by decide +kernel
theorem dX2_load_71 : decode cX2_load 71 = .ok (.iload_n 3, 1) := by decide +kernel
theorem dX2_load_72 : decode cX2_load 72 = .ok (.lshl, 1) := by decide +kernel
theorem dX2_load_73 : decode cX2_load 73 = .ok (.lload_n 1, 1) := by decide +kernel
theorem dX2_load_74 : decode cX2_load 74 = .ok (.lsub, 1) := by decide +kernel
theorem dX2_load_75 : decode cX2_load 75 = .ok (.goto 4, 3) := by decide +kernel
theorem dX2_load_78 : decode cX2_load 78 = .ok (.lload_n 1, 1) := by decide +kernel
theorem dX2_load_79 : decode cX2_load 79 = .ok (.bipush 65, 2) := by decide +kernel
theorem dX2_load_81 : decode cX2_load 81 = .ok (.iload_n 3, 1) := by decide +kernel
theorem dX2_load_82 : decode cX2_load 82 = .ok (.isub, 1) := by decide +kernel
theorem dX2_load_83 : decode cX2_load 83 = .ok (.lshl, 1) := by decide +kernel
theorem dX2_load_84 : decode cX2_load 84 = .ok (.lstore 6, 2) := by decide +kernel
theorem dX2_load_86 : decode cX2_load 86 = .ok (.lload 6, 2) := by decide +kernel
theorem dX2_load_88 : decode cX2_load 88 = .ok (.lconst 0, 1) := by decide +kernel
theorem dX2_load_89 : decode cX2_load 89 = .ok (.lcmp, 1) := by decide +kernel
theorem dX2_load_90 : decode cX2_load 90 = .ok (.ifCond .ge 12, 3) := by decide +kernel
theorem dX2_load_93 : decode cX2_load 93 = .ok (.lload 6, 2) := by decide +kernel
theorem dX2_load_95 : decode cX2_load 95 = .ok (.ldc2_w 24, 3) := by decide +kernel
theorem dX2_load_98 : decode cX2_load 98 = .ok (.lxor, 1) := by decide +kernel
theorem dX2_load_99 : decode cX2_load 99 = .ok (.goto 5, 3) := by decide +kernel
theorem dX2_load_102 : decode cX2_load 102 = .ok (.lload 6, 2) := by decide +kernel
theorem dX2_load_104 : decode cX2_load 104 = .ok (.invokestatic 26, 3) := by decide +kernel
theorem dX2_load_107 : decode cX2_load 107 = .ok (.istore 8, 2) := by decide +kernel
theorem dX2_load_109 : decode cX2_load 109 = .ok (.lload 6, 2) := by decide +kernel
theorem dX2_load_111 : decode cX2_load 111 = .ok (.lconst 0, 1) := by decide +kernel
theorem dX2_load_112 : decode cX2_load 112 = .ok (.lcmp, 1) := by decide +kernel
theorem dX2_load_113 : decode cX2_load 113 = .ok (.ifCond .ge 10, 3) := by decide +kernel
theorem dX2_load_116 : decode cX2_load 116 = .ok (.iload 8, 2) := by decide +kernel
theorem dX2_load_118 : decode cX2_load 118 = .ok (.iconst 1, 1) := by decide +kernel
theorem dX2_load_119 : decode cX2_load 119 = .ok (.isub, 1) := by decide +kernel
theorem dX2_load_120 : decode cX2_load 120 = .ok (.goto 6, 3) := by decide +kernel
theorem dX2_load_123 : decode cX2_load 123 = .ok (.iload 8, 2) := by decide +kernel
theorem dX2_load_125 : decode cX2_load 125 = .ok (.ineg, 1) := by decide +kernel
theorem dX2_load_126 : decode cX2_load 126 = .ok (.istore 9, 2) := by decide +kernel
theorem dX2_load_128 : decode cX2_load 128 = .ok (.lload 6, 2) := by decide +kernel
theorem dX2_load_130 : decode cX2_load 130 = .ok (.iload 8, 2) := by decide +kernel
theorem dX2_load_132 : decode cX2_load 132 = .ok (.iconst 1, 1) := by decide +kernel
theorem dX2_load_133 : decode cX2_load 133 = .ok (.iadd, 1) := by decide +kernel
theorem dX2_load_134 : decode cX2_load 134 = .ok (.lshl, 1) := by decide +kernel
theorem dX2_load_135 : decode cX2_load 135 = .ok (.lstore 10, 2) := by decide +kernel
theorem dX2_load_137 : decode cX2_load 137 = .ok (.lload 10, 2) := by decide +kernel
theorem dX2_load_139 : decode cX2_load 139 = .ok (.bipush 62, 2) := by decide +kernel
theorem dX2_load_141 : decode cX2_load 141 = .ok (.lushr, 1) := by decide +kernel
theorem dX2_load_142 : decode cX2_load 142 = .ok (.l2i, 1) := by decide +kernel
theorem dX2_load_143 : decode cX2_load 143 = .ok (.istore 12, 2) := by decide +kernel
theorem dX2_load_145 : decode cX2_load 145 = .ok (.ldc2_w 32, 3) := by decide +kernel
theorem dX2_load_148 : decode cX2_load 148 = .ok (.lload 10, 2) := by decide +kernel
theorem dX2_load_150 : decode cX2_load 150 = .ok (.iconst 2, 1) := by decide +kernel
theorem dX2_load_151 : decode cX2_load 151 = .ok (.lshl, 1) := by decide +kernel
theorem dX2_load_152 : decode cX2_load 152 = .ok (.bipush 36, 2) := by decide +kernel
theorem dX2_load_154 : decode cX2_load 154 = .ok (.lushr, 1) := by decide +kernel
theorem dX2_load_155 : decode cX2_load 155 = .ok (.lor, 1) := by decide +kernel
theorem dX2_load_156 : decode cX2_load 156 = .ok (.lstore 13, 2) := by decide +kernel
theorem dX2_load_158 : decode cX2_load 158 = .ok (.lload 13, 2) := by decide +kernel
theorem dX2_load_160 : decode cX2_load 160 = .ok (.invokestatic 34, 3) := by decide +kernel
theorem dX2_load_163 : decode cX2_load 163 = .ok (.istore 15, 2) := by decide +kernel
theorem dX2_load_165 : decode cX2_load 165 = .ok (.aload_n 0, 1) := by decide +kernel
theorem dX2_load_166 : decode cX2_load 166 = .ok (.lload 13, 2) := by decide +kernel
theorem dX2_load_168 : decode cX2_load 168 = .ok (.iload 15, 2) := by decide +kernel
theorem dX2_load_170 : decode cX2_load 170 = .ok (.lushr, 1) := by decide +kernel
theorem dX2_load_171 : decode cX2_load 171 = .ok (.putfield 16, 3) := by decide +kernel
theorem dX2_load_174 : decode cX2_load 174 = .ok (.aload_n 0, 1) := by decide +kernel
theorem dX2_load_175 : decode cX2_load 175 = .ok (.iconst 4, 1) := by decide +kernel
theorem dX2_load_176 : decode cX2_load 176 = .ok (.iload 9, 2) := by decide +kernel
theorem dX2_load_178 : decode cX2_load 178 = .ok (.imul, 1) := by decide +kernel
theorem dX2_load_179 : decode cX2_load 179 = .ok (.iload 12, 2) := by decide +kernel
theorem dX2_load_181 : decode cX2_load 181 = .ok (.iadd, 1) := by decide +kernel
theorem dX2_load_182 : decode cX2_load 182 = .ok (.bipush 28, 2) := by decide +kernel
theorem dX2_load_184 : decode cX2_load 184 = .ok (.isub, 1) := by decide +kernel
theorem dX2_load_185 : decode cX2_load 185 = .ok (.iload 15, 2) := by decide +kernel
theorem dX2_load_187 : decode cX2_load 187 = .ok (.iadd, 1) := by decide +kernel
theorem dX2_load_188 : decode cX2_load 188 = .ok (.putfield 20, 3) := by decide +kernel
theorem dX2_load_191 : decode cX2_load 191 = .ok (.return_, 1) := by decide +kernel
theorem dX2_loadOne_0 : decode cX2_loadOne 0 = .ok (.aload_n 0, 1) := by decide +kernel
theorem dX2_loadOne_1 : decode cX2_loadOne 1 = .ok (.iconst 0, 1) := by decide +kernel
theorem dX2_loadOne_2 : decode cX2_loadOne 2 = .ok (.putfield 7, 3) := by decide +kernel
theorem dX2_loadOne_5 : decode cX2_loadOne 5 = .ok (.aload_n 0, 1) := by decide +kernel
theorem dX2_loadOne_6 : decode cX2_loadOne 6 = .ok (.iconst 0, 1) := by decide +kernel
theorem dX2_loadOne_7 : decode cX2_loadOne 7 = .ok (.putfield 13, 3) := by decide +kernel
theorem dX2_loadOne_10 : decode cX2_loadOne 10 = .ok (.aload_n 0, 1) := by decide +kernel
theorem dX2_loadOne_11 : decode cX2_loadOne 11 = .ok (.lconst 1, 1) := by decide +kernel
theorem dX2_loadOne_12 : decode cX2_loadOne 12 = .ok (.putfield 16, 3) := by decide +kernel
theorem dX2_loadOne_15 : decode cX2_loadOne 15 = .ok (.aload_n 0, 1) := by decide +kernel
theorem dX2_loadOne_16 : decode cX2_loadOne 16 = .ok (.iconst 0, 1) := by decide +kernel
theorem dX2_loadOne_17 : decode cX2_loadOne 17 = .ok (.putfield 20, 3) := by decide +kernel
theorem dX2_loadOne_20 : decode cX2_loadOne 20 = .ok (.return_, 1) := by decide +kernel
theorem dX2_scale_0 : decode cX2_scale 0 = .ok (.aload_n 0, 1) := by decide +kernel
theorem dX2_scale_1 : decode cX2_scale 1 = .ok (.getfield 20, 3) := by decide +kernel
theorem dX2_scale_4 : decode cX2_scale 4 = .ok (.bipush 63, 2) := by decide +kernel
theorem dX2_scale_6 : decode cX2_scale 6 = .ok (.iadd, 1) := by decide +kernel
theorem dX2_scale_7 : decode cX2_scale 7 = .ok (.aload_n 0, 1) := by decide +kernel
theorem dX2_scale_8 : decode cX2_scale 8 = .ok (.getfield 16, 3) := by decide +kernel
theorem dX2_scale_11 : decode cX2_scale 11 = .ok (.invokestatic 26, 3) := by decide +kernel
theorem dX2_scale_14 : decode cX2_scale 14 = .ok (.isub, 1) := by decide +kernel
theorem dX2_scale_15 : decode cX2_scale 15 = .ok (.ireturn, 1) := by decide +kernel
theorem dX2_isWhole_0 : decode cX2_isWhole 0 = .ok (.aload_n 0, 1) := by decide +kernel
theorem dX2_isWhole_1 : decode cX2_isWhole 1 = .ok (.getfield 20, 3) := by decide +kernel
theorem dX2_isWhole_4 : decode cX2_isWhole 4 = .ok (.ifCond .lt 7, 3) := by decide +kernel
theorem dX2_isWhole_7 : decode cX2_isWhole 7 = .ok (.iconst 1, 1) := by decide +kernel
theorem dX2_isWhole_8 : decode cX2_isWhole 8 = .ok (.goto 4, 3) := by decide +kernel
theorem dX2_isWhole_11 : decode cX2_isWhole 11 = .ok (.iconst 0, 1) := by decide +kernel
theorem dX2_isWhole_12 : decode cX2_isWhole 12 = .ok (.ireturn, 1) := by decide +kernel
theorem dX2_sizeDown_0 : decode cX2_sizeDown 0 = .ok (.aload_n 0, 1) := by decide +kernel
theorem dX2_sizeDown_1 : decode cX2_sizeDown 1 = .ok (.getfield 20, 3) := by decide +kernel
theorem dX2_sizeDown_4 : decode cX2_sizeDown 4 = .ok (.bipush (-63), 2) := by decide +kernel
theorem dX2_sizeDown_6 : decode cX2_sizeDown 6 = .ok (.if_icmp .le 16, 3) := by decide +kernel
theorem dX2_sizeDown_9 : decode cX2_sizeDown 9 = .ok (.aload_n 0, 1) := by decide +kernel
theorem dX2_sizeDown_10 : decode cX2_sizeDown 10 = .ok (.getfield 16, 3) := by decide +kernel
theorem dX2_sizeDown_13 : decode cX2_sizeDown 13 = .ok (.aload_n 0, 1) := by decide +kernel
theorem dX2_sizeDown_14 : decode cX2_sizeDown 14 = .ok (.getfield 20, 3) := by decide +kernel
theorem dX2_sizeDown_17 : decode cX2_sizeDown 17 = .ok (.ineg, 1) := by decide +kernel
theorem dX2_sizeDown_18 : decode cX2_sizeDown 18 = .ok (.lushr, 1) := by decide +kernel
theorem dX2_sizeDown_19 : decode cX2_sizeDown 19 = .ok (.goto 4, 3) := by decide +kernel
theorem dX2_sizeDown_22 : decode cX2_sizeDown 22 = .ok (.lconst 0, 1) := by decide +kernel
theorem dX2_sizeDown_23 : decode cX2_sizeDown 23 = .ok (.lreturn, 1) := by decide +kernel
theorem dX2_nearestSize_0 : decode cX2_nearestSize 0 = .ok (.aload_n 0, 1) := by decide +kernel
theorem dX2_nearestSize_1 : decode cX2_nearestSize 1 = .ok (.getfield 20, 3) := by decide +kernel
theorem dX2_nearestSize_4 : decode cX2_nearestSize 4 = .ok (.bipush (-30), 2) := by decide +kernel
theorem dX2_nearestSize_6 : decode cX2_nearestSize 6 = .ok (.if_icmp .ge 5, 3) := by decide +kernel
theorem dX2_nearestSize_9 : decode cX2_nearestSize 9 = .ok (.lconst 0, 1) := by decide +kernel
theorem dX2_nearestSize_10 : decode cX2_nearestSize 10 = .ok (.lreturn, 1) := by decide +kernel
theorem dX2_nearestSize_11 : decode cX2_nearestSize 11 = .ok (.aload_n 0, 1) := by decide +kernel
theorem dX2_nearestSize_12 : decode cX2_nearestSize 12 = .ok (.invokevirtual 37, 3) := by decide +kernel
theorem dX2_nearestSize_15 : decode cX2_nearestSize 15 = .ok (.lstore_n 1, 1) := by decide +kernel
theorem dX2_nearestSize_16 : decode cX2_nearestSize 16 = .ok (.aload_n 0, 1) := by decide +kernel
theorem dX2_nearestSize_17 : decode cX2_nearestSize 17 = .ok (.getfield 16, 3) := by decide +kernel
theorem dX2_nearestSize_20 : decode cX2_nearestSize 20 = .ok (.lload_n 1, 1) := by decide +kernel
theorem dX2_nearestSize_21 : decode cX2_nearestSize 21 = .ok (.aload_n 0, 1) := by decide +kernel
theorem dX2_nearestSize_22 : decode cX2_nearestSize 22 = .ok (.getfield 20, 3) := by decide +kernel
theorem dX2_nearestSize_25 : decode cX2_nearestSize 25 = .ok (.ineg, 1) := by decide +kernel
theorem dX2_nearestSize_26 : decode cX2_nearestSize 26 = .ok (.lshl, 1) := by decide +kernel
theorem dX2_nearestSize_27 : decode cX2_nearestSize 27 = .ok (.lsub, 1) := by decide +kernel
theorem dX2_nearestSize_28 : decode cX2_nearestSize 28 = .ok (.iconst 1, 1) := by decide +kernel
theorem dX2_nearestSize_29 : decode cX2_nearestSize 29 = .ok (.lshl, 1) := by decide +kernel
theorem dX2_nearestSize_30 : decode cX2_nearestSize 30 = .ok (.lstore_n 3, 1) := by decide +kernel
theorem dX2_nearestSize_31 : decode cX2_nearestSize 31 = .ok (.lconst 1, 1) := by decide +kernel
theorem dX2_nearestSize_32 : decode cX2_nearestSize 32 = .ok (.aload_n 0, 1) := by decide +kernel
theorem dX2_nearestSize_33 : decode cX2_nearestSize 33 = .ok (.getfield 20, 3) := by decide +kernel
theorem dX2_nearestSize_36 : decode cX2_nearestSize 36 = .ok (.ineg, 1) := by decide +kernel
theorem dX2_nearestSize_37 : decode cX2_nearestSize 37 = .ok (.lshl, 1) := by decide +kernel
theorem dX2_nearestSize_38 : decode cX2_nearestSize 38 = .ok (.lstore 5, 2) := by decide +kernel
theorem dX2_nearestSize_40 : decode cX2_nearestSize 40 = .ok (.lload_n 3, 1) := by decide +kernel
theorem dX2_nearestSize_41 : decode cX2_nearestSize 41 = .ok (.lload 5, 2) := by decide +kernel
theorem dX2_nearestSize_43 : decode cX2_nearestSize 43 = .ok (.lcmp, 1) := by decide +kernel
theorem dX2_nearestSize_44 : decode cX2_nearestSize 44 = .ok (.ifCond .gt 18, 3) := by decide +kernel
theorem dX2_nearestSize_47 : decode cX2_nearestSize 47 = .ok (.lload_n 3, 1) := by decide +kernel
theorem dX2_nearestSize_48 : decode cX2_nearestSize 48 = .ok (.lload 5, 2) := by decide +kernel
theorem dX2_nearestSize_50 : decode cX2_nearestSize 50 = .ok (.lcmp, 1) := by decide +kernel
theorem dX2_nearestSize_51 : decode cX2_nearestSize 51 = .ok (.ifCond .ne 17, 3) := by decide +kernel
theorem dX2_nearestSize_54 : decode cX2_nearestSize 54 = .ok (.lload_n 1, 1) := by decide +kernel
theorem dX2_nearestSize_55 : decode cX2_nearestSize 55 = .ok (.lconst 1, 1) := by decide +kernel
theorem dX2_nearestSize_56 : decode cX2_nearestSize 56 = .ok (.land, 1) := by decide +kernel
theorem dX2_nearestSize_57 : decode cX2_nearestSize 57 = .ok (.lconst 1, 1) := by decide +kernel
theorem dX2_nearestSize_58 : decode cX2_nearestSize 58 = .ok (.lcmp, 1) := by decide +kernel
theorem dX2_nearestSize_59 : decode cX2_nearestSize 59 = .ok (.ifCond .ne 9, 3) := by decide +kernel
theorem dX2_nearestSize_62 : decode cX2_nearestSize 62 = .ok (.lload_n 1, 1) := by decide +kernel
theorem dX2_nearestSize_63 : decode cX2_nearestSize 63 = .ok (.lconst 1, 1) := by decide +kernel
theorem dX2_nearestSize_64 : decode cX2_nearestSize 64 = .ok (.ladd, 1) := by decide +kernel
theorem dX2_nearestSize_65 : decode cX2_nearestSize 65 = .ok (.goto 4, 3) := by decide +kernel
theorem dX2_nearestSize_68 : decode cX2_nearestSize 68 = .ok (.lload_n 1, 1) := by decide +kernel
theorem dX2_nearestSize_69 : decode cX2_nearestSize 69 = .ok (.lreturn, 1) := by decide +kernel
theorem dX2_passesLong_0 : decode cX2_passesLong 0 = .ok (.aload_n 0, 1) := by decide +kernel
theorem dX2_passesLong_1 : decode cX2_passesLong 1 = .ok (.getfield 13, 3) := by decide +kernel
theorem dX2_passesLong_4 : decode cX2_passesLong 4 = .ok (.ifCond .eq 25, 3) := by decide +kernel
theorem dX2_passesLong_7 : decode cX2_passesLong 7 = .ok (.aload_n 0, 1) := by decide +kernel
theorem dX2_passesLong_8 : decode cX2_passesLong 8 = .ok (.getfield 16, 3) := by decide +kernel
theorem dX2_passesLong_11 : decode cX2_passesLong 11 = .ok (.lconst 1, 1) := by decide +kernel
theorem dX2_passesLong_12 : decode cX2_passesLong 12 = .ok (.lcmp, 1) := by decide +kernel
theorem dX2_passesLong_13 : decode cX2_passesLong 13 = .ok (.ifCond .ne 16, 3) := by decide +kernel
theorem dX2_passesLong_16 : decode cX2_passesLong 16 = .ok (.aload_n 0, 1) := by decide +kernel
theorem dX2_passesLong_17 : decode cX2_passesLong 17 = .ok (.getfield 20, 3) := by decide +kernel
theorem dX2_passesLong_20 : decode cX2_passesLong 20 = .ok (.bipush 63, 2) := by decide +kernel
theorem dX2_passesLong_22 : decode cX2_passesLong 22 = .ok (.if_icmp .ne 7, 3) := by decide +kernel
theorem dX2_passesLong_25 : decode cX2_passesLong 25 = .ok (.iconst 1, 1) := by decide +kernel
theorem dX2_passesLong_26 : decode cX2_passesLong 26 = .ok (.goto 4, 3) := by decide +kernel
theorem dX2_passesLong_29 : decode cX2_passesLong 29 = .ok (.iconst 0, 1) := by decide +kernel
theorem dX2_passesLong_30 : decode cX2_passesLong 30 = .ok (.istore_n 1, 1) := by decide +kernel
theorem dX2_passesLong_31 : decode cX2_passesLong 31 = .ok (.aload_n 0, 1) := by decide +kernel
theorem dX2_passesLong_32 : decode cX2_passesLong 32 = .ok (.getfield 16, 3) := by decide +kernel
theorem dX2_passesLong_35 : decode cX2_passesLong 35 = .ok (.lconst 0, 1) := by decide +kernel
theorem dX2_passesLong_36 : decode cX2_passesLong 36 = .ok (.lcmp, 1) := by decide +kernel
theorem dX2_passesLong_37 : decode cX2_passesLong 37 = .ok (.ifCond .eq 20, 3) := by decide +kernel
theorem dX2_passesLong_40 : decode cX2_passesLong 40 = .ok (.aload_n 0, 1) := by decide +kernel
theorem dX2_passesLong_41 : decode cX2_passesLong 41 = .ok (.invokevirtual 41, 3) := by decide +kernel
theorem dX2_passesLong_44 : decode cX2_passesLong 44 = .ok (.bipush 62, 2) := by decide +kernel
theorem dX2_passesLong_46 : decode cX2_passesLong 46 = .ok (.if_icmp .le 11, 3) := by decide +kernel
theorem dX2_passesLong_49 : decode cX2_passesLong 49 = .ok (.iload_n 1, 1) := by decide +kernel
theorem dX2_passesLong_50 : decode cX2_passesLong 50 = .ok (.ifCond .ne 7, 3) := by decide +kernel
theorem dX2_passesLong_53 : decode cX2_passesLong 53 = .ok (.iconst 1, 1) := by decide +kernel
theorem dX2_passesLong_54 : decode cX2_passesLong 54 = .ok (.goto 4, 3) := by decide +kernel
theorem dX2_passesLong_57 : decode cX2_passesLong 57 = .ok (.iconst 0, 1) := by decide +kernel
theorem dX2_passesLong_58 : decode cX2_passesLong 58 = .ok (.ireturn, 1) := by decide +kernel
theorem dX2_nearestLong_0 : decode cX2_nearestLong 0 = .ok (.aload_n 0, 1) := by decide +kernel
theorem dX2_nearestLong_1 : decode cX2_nearestLong 1 = .ok (.invokevirtual 45, 3) := by decide +kernel
theorem dX2_nearestLong_4 : decode cX2_nearestLong 4 = .ok (.ifCond .eq 15, 3) := by decide +kernel
theorem dX2_nearestLong_7 : decode cX2_nearestLong 7 = .ok (.aload_n 0, 1) := by decide +kernel
theorem dX2_nearestLong_8 : decode cX2_nearestLong 8 = .ok (.getfield 16, 3) := by decide +kernel
theorem dX2_nearestLong_11 : decode cX2_nearestLong 11 = .ok (.aload_n 0, 1) := by decide +kernel
theorem dX2_nearestLong_12 : decode cX2_nearestLong 12 = .ok (.getfield 20, 3) := by decide +kernel
theorem dX2_nearestLong_15 : decode cX2_nearestLong 15 = .ok (.lshl, 1) := by decide +kernel
theorem dX2_nearestLong_16 : decode cX2_nearestLong 16 = .ok (.goto 7, 3) := by decide +kernel
theorem dX2_nearestLong_19 : decode cX2_nearestLong 19 = .ok (.aload_n 0, 1) := by decide +kernel
theorem dX2_nearestLong_20 : decode cX2_nearestLong 20 = .ok (.invokevirtual 49, 3) := by decide +kernel
theorem dX2_nearestLong_23 : decode cX2_nearestLong 23 = .ok (.lstore_n 1, 1) := by decide +kernel
theorem dX2_nearestLong_24 : decode cX2_nearestLong 24 = .ok (.aload_n 0, 1) := by decide +kernel
theorem dX2_nearestLong_25 : decode cX2_nearestLong 25 = .ok (.getfield 13, 3) := by decide +kernel
theorem dX2_nearestLong_28 : decode cX2_nearestLong 28 = .ok (.ifCond .eq 8, 3) := by decide +kernel
theorem dX2_nearestLong_31 : decode cX2_nearestLong 31 = .ok (.lload_n 1, 1) := by decide +kernel
theorem dX2_nearestLong_32 : decode cX2_nearestLong 32 = .ok (.lneg, 1) := by decide +kernel
theorem dX2_nearestLong_33 : decode cX2_nearestLong 33 = .ok (.goto 4, 3) := by decide +kernel
theorem dX2_nearestLong_36 : decode cX2_nearestLong 36 = .ok (.lload_n 1, 1) := by decide +kernel
theorem dX2_nearestLong_37 : decode cX2_nearestLong 37 = .ok (.lreturn, 1) := by decide +kernel
theorem dX3_init_0 : decode cX3_init 0 = .ok (.aload_n 0, 1) := by decide +kernel
theorem dX3_init_1 : decode cX3_init 1 = .ok (.invokespecial 1, 3) := by decide +kernel
theorem dX3_init_4 : decode cX3_init 4 = .ok (.aload_n 0, 1) := by decide +kernel
theorem dX3_init_5 : decode cX3_init 5 = .ok (.bipush 16, 2) := by decide +kernel
theorem dX3_init_7 : decode cX3_init 7 = .ok (.newarray .int, 2) := by decide +kernel
theorem dX3_init_9 : decode cX3_init 9 = .ok (.putfield 9, 3) := by decide +kernel
theorem dX3_init_12 : decode cX3_init 12 = .ok (.return_, 1) := by decide +kernel
theorem dX3_empty_0 : decode cX3_empty 0 = .ok (.aload_n 0, 1) := by decide +kernel
theorem dX3_empty_1 : decode cX3_empty 1 = .ok (.iconst 0, 1) := by decide +kernel
theorem dX3_empty_2 : decode cX3_empty 2 = .ok (.putfield 13, 3) := by decide +kernel
theorem dX3_empty_5 : decode cX3_empty 5 = .ok (.iconst 0, 1) := by decide +kernel
theorem dX3_empty_6 : decode cX3_empty 6 = .ok (.istore_n 1, 1) := by decide +kernel
theorem dX3_empty_7 : decode cX3_empty 7 = .ok (.iload_n 1, 1) := by decide +kernel
theorem dX3_empty_8 : decode cX3_empty 8 = .ok (.bipush 16, 2) := by decide +kernel
theorem dX3_empty_10 : decode cX3_empty 10 = .ok (.if_icmp .ge 16, 3) := by decide +kernel
theorem dX3_empty_13 : decode cX3_empty 13 = .ok (.aload_n 0, 1) := by decide +kernel
theorem dX3_empty_14 : decode cX3_empty 14 = .ok (.getfield 9, 3) := by decide +kernel
theorem dX3_empty_17 : decode cX3_empty 17 = .ok (.iload_n 1, 1) := by decide +kernel
theorem dX3_empty_18 : decode cX3_empty 18 = .ok (.iconst 0, 1) := by decide +kernel
theorem dX3_empty_19 : decode cX3_empty 19 = .ok (.iastore, 1) := by decide +kernel
theorem dX3_empty_20 : decode cX3_empty 20 = .ok (.iinc 1 1, 3) := by decide +kernel
theorem dX3_empty_23 : decode cX3_empty 23 = .ok (.goto (-16), 3) := by decide +kernel
theorem dX3_empty_26 : decode cX3_empty 26 = .ok (.return_, 1) := by decide +kernel
theorem dX3_bring_0 : decode cX3_bring 0 = .ok (.aload_n 0, 1) := by decide +kernel
theorem dX3_bring_1 : decode cX3_bring 1 = .ok (.aload_n 0, 1) := by decide +kernel
theorem dX3_bring_2 : decode cX3_bring 2 = .ok (.getfield 13, 3) := by decide +kernel
theorem dX3_bring_5 : decode cX3_bring 5 = .ok (.ifCond .ne 17, 3) := by decide +kernel
theorem dX3_bring_8 : decode cX3_bring 8 = .ok (.aload_n 1, 1) := by decide +kernel
theorem dX3_bring_9 : decode cX3_bring 9 = .ok (.getfield 17, 3) := by decide +kernel
theorem dX3_bring_12 : decode cX3_bring 12 = .ok (.ifCond .ne 10, 3) := by decide +kernel
theorem dX3_bring_15 : decode cX3_bring 15 = .ok (.aload_n 2, 1) := by decide +kernel
theorem dX3_bring_16 : decode cX3_bring 16 = .ok (.getfield 17, 3) := by decide +kernel
theorem dX3_bring_19 : decode cX3_bring 19 = .ok (.ifCond .eq 7, 3) := by decide +kernel
theorem dX3_bring_22 : decode cX3_bring 22 = .ok (.iconst 1, 1) := by decide +kernel
theorem dX3_bring_23 : decode cX3_bring 23 = .ok (.goto 4, 3) := by decide +kernel
theorem dX3_bring_26 : decode cX3_bring 26 = .ok (.iconst 0, 1) := by decide +kernel
theorem dX3_bring_27 : decode cX3_bring 27 = .ok (.putfield 13, 3) := by decide +kernel
theorem dX3_bring_30 : decode cX3_bring 30 = .ok (.aload_n 0, 1) := by decide +kernel
theorem dX3_bring_31 : decode cX3_bring 31 = .ok (.getfield 13, 3) := by decide +kernel
theorem dX3_bring_34 : decode cX3_bring 34 = .ok (.ifCond .eq 4, 3) := by decide +kernel
theorem dX3_bring_37 : decode cX3_bring 37 = .ok (.return_, 1) := by decide +kernel
theorem dX3_bring_38 : decode cX3_bring 38 = .ok (.aload_n 1, 1) := by decide +kernel
theorem dX3_bring_39 : decode cX3_bring 39 = .ok (.getfield 20, 3) := by decide +kernel
theorem dX3_bring_42 : decode cX3_bring 42 = .ok (.aload_n 2, 1) := by decide +kernel
theorem dX3_bring_43 : decode cX3_bring 43 = .ok (.getfield 20, 3) := by decide +kernel
theorem dX3_bring_46 : decode cX3_bring 46 = .ok (.lmul, 1) := by decide +kernel
theorem dX3_bring_47 : decode cX3_bring 47 = .ok (.lstore 4, 2) := by decide +kernel
theorem dX3_bring_49 : decode cX3_bring 49 = .ok (.aload_n 1, 1) := by decide +kernel
theorem dX3_bring_50 : decode cX3_bring 50 = .ok (.getfield 24, 3) := by decide +kernel
theorem dX3_bring_53 : decode cX3_bring 53 = .ok (.aload_n 2, 1) := by decide +kernel
theorem dX3_bring_54 : decode cX3_bring 54 = .ok (.getfield 24, 3) := by decide +kernel
theorem dX3_bring_57 : decode cX3_bring 57 = .ok (.iadd, 1) := by decide +kernel
theorem dX3_bring_58 : decode cX3_bring 58 = .ok (.sipush 240, 3) := by decide +kernel
theorem dX3_bring_61 : decode cX3_bring 61 = .ok (.iadd, 1) := by decide +kernel
theorem dX3_bring_62 : decode cX3_bring 62 = .ok (.istore 6, 2) := by decide +kernel
theorem dX3_bring_64 : decode cX3_bring 64 = .ok (.iload_n 3, 1) := by decide +kernel
theorem dX3_bring_65 : decode cX3_bring 65 = .ok (.aload_n 1, 1) := by decide +kernel
theorem dX3_bring_66 : decode cX3_bring 66 = .ok (.getfield 28, 3) := by decide +kernel
theorem dX3_bring_69 : decode cX3_bring 69 = .ok (.ixor, 1) := by decide +kernel
theorem dX3_bring_70 : decode cX3_bring 70 = .ok (.aload_n 2, 1) := by decide +kernel
theorem dX3_bring_71 : decode cX3_bring 71 = .ok (.getfield 28, 3) := by decide +kernel
theorem dX3_bring_74 : decode cX3_bring 74 = .ok (.ixor, 1) := by decide +kernel
theorem dX3_bring_75 : decode cX3_bring 75 = .ok (.istore 7, 2) := by decide +kernel
theorem dX3_bring_77 : decode cX3_bring 77 = .ok (.lconst 0, 1) := by decide +kernel
theorem dX3_bring_78 : decode cX3_bring 78 = .ok (.lstore 8, 2) := by decide +kernel
theorem dX3_bring_80 : decode cX3_bring 80 = .ok (.iconst 0, 1) := by decide +kernel
theorem dX3_bring_81 : decode cX3_bring 81 = .ok (.istore 10, 2) := by decide +kernel
theorem dX3_bring_83 : decode cX3_bring 83 = .ok (.iload 10, 2) := by decide +kernel
theorem dX3_bring_85 : decode cX3_bring 85 = .ok (.bipush 16, 2) := by decide +kernel
theorem dX3_bring_87 : decode cX3_bring 87 = .ok (.if_icmp .ge 72, 3) := by decide +kernel
theorem dX3_bring_90 : decode cX3_bring 90 = .ok (.lload 4, 2) := by decide +kernel
theorem dX3_bring_92 : decode cX3_bring 92 = .ok (.bipush 32, 2) := by decide +kernel
theorem dX3_bring_94 : decode cX3_bring 94 = .ok (.iload 10, 2) := by decide +kernel
theorem dX3_bring_96 : decode cX3_bring 96 = .ok (.imul, 1) := by decide +kernel
theorem dX3_bring_97 : decode cX3_bring 97 = .ok (.iload 6, 2) := by decide +kernel
theorem dX3_bring_99 : decode cX3_bring 99 = .ok (.isub, 1) := by decide +kernel
theorem dX3_bring_100 : decode cX3_bring 100 = .ok (.invokestatic 31, 3) := by decide +kernel
theorem dX3_bring_103 : decode cX3_bring 103 = .ok (.lstore 11, 2) := by decide +kernel
theorem dX3_bring_105 : decode cX3_bring 105 = .ok (.aload_n 0, 1) := by decide +kernel
theorem dX3_bring_106 : decode cX3_bring 106 = .ok (.getfield 9, 3) := by decide +kernel
theorem dX3_bring_109 : decode cX3_bring 109 = .ok (.iload 10, 2) := by decide +kernel
theorem dX3_bring_111 : decode cX3_bring 111 = .ok (.iaload, 1) := by decide +kernel
theorem dX3_bring_112 : decode cX3_bring 112 = .ok (.i2l, 1) := by decide +kernel
theorem dX3_bring_113 : decode cX3_bring 113 = .ok (.ldc2_w 35, 3) := by decide +kernel
theorem dX3_bring_116 : decode cX3_bring 116 = .ok (.land, 1) := by decide +kernel
theorem dX3_bring_117 : decode cX3_bring 117 = .ok (.iload 7, 2) := by decide +kernel
theorem dX3_bring_119 : decode cX3_bring 119 = .ok (.ifCond .eq 9, 3) := by decide +kernel
theorem dX3_bring_122 : decode cX3_bring 122 = .ok (.lload 11, 2) := by decide +kernel
theorem dX3_bring_124 : decode cX3_bring 124 = .ok (.lneg, 1) := by decide +kernel
theorem dX3_bring_125 : decode cX3_bring 125 = .ok (.goto 5, 3) := by decide +kernel
theorem dX3_bring_128 : decode cX3_bring 128 = .ok (.lload 11, 2) := by decide +kernel
theorem dX3_bring_130 : decode cX3_bring 130 = .ok (.ladd, 1) := by decide +kernel
theorem dX3_bring_131 : decode cX3_bring 131 = .ok (.lload 8, 2) := by decide +kernel
theorem dX3_bring_133 : decode cX3_bring 133 = .ok (.ladd, 1) := by decide +kernel
theorem dX3_bring_134 : decode cX3_bring 134 = .ok (.lstore 13, 2) := by decide +kernel
theorem dX3_bring_136 : decode cX3_bring 136 = .ok (.aload_n 0, 1) := by decide +kernel
theorem dX3_bring_137 : decode cX3_bring 137 = .ok (.getfield 9, 3) := by decide +kernel
theorem dX3_bring_140 : decode cX3_bring 140 = .ok (.iload 10, 2) := by decide +kernel
theorem dX3_bring_142 : decode cX3_bring 142 = .ok (.lload 13, 2) := by decide +kernel
theorem dX3_bring_144 : decode cX3_bring 144 = .ok (.l2i, 1) := by decide +kernel
theorem dX3_bring_145 : decode cX3_bring 145 = .ok (.iastore, 1) := by decide +kernel
theorem dX3_bring_146 : decode cX3_bring 146 = .ok (.lload 13, 2) := by decide +kernel
theorem dX3_bring_148 : decode cX3_bring 148 = .ok (.bipush 32, 2) := by decide +kernel
theorem dX3_bring_150 : decode cX3_bring 150 = .ok (.lshr, 1) := by decide +kernel
theorem dX3_bring_151 : decode cX3_bring 151 = .ok (.lstore 8, 2) := by decide +kernel
theorem dX3_bring_153 : decode cX3_bring 153 = .ok (.iinc 10 1, 3) := by decide +kernel
theorem dX3_bring_156 : decode cX3_bring 156 = .ok (.goto (-73), 3) := by decide +kernel
theorem dX3_bring_159 : decode cX3_bring 159 = .ok (.return_, 1) := by decide +kernel
theorem dX3_partOf_0 : decode cX3_partOf 0 = .ok (.iload_n 2, 1) := by decide +kernel
theorem dX3_partOf_1 : decode cX3_partOf 1 = .ok (.bipush (-32), 2) := by decide +kernel
theorem dX3_partOf_3 : decode cX3_partOf 3 = .ok (.if_icmp .le 9, 3) := by decide +kernel
theorem dX3_partOf_6 : decode cX3_partOf 6 = .ok (.iload_n 2, 1) := by decide +kernel
theorem dX3_partOf_7 : decode cX3_partOf 7 = .ok (.bipush 64, 2) := by decide +kernel
theorem dX3_partOf_9 : decode cX3_partOf 9 = .ok (.if_icmp .lt 5, 3) := by decide +kernel
theorem dX3_partOf_12 : decode cX3_partOf 12 = .ok (.lconst 0, 1) := by decide +kernel
theorem dX3_partOf_13 : decode cX3_partOf 13 = .ok (.lreturn, 1) := by decide +kernel
theorem dX3_partOf_14 : decode cX3_partOf 14 = .ok (.iload_n 2, 1) := by decide +kernel
theorem dX3_partOf_15 : decode cX3_partOf 15 = .ok (.ifCond .ge 10, 3) := by decide +kernel
theorem dX3_partOf_18 : decode cX3_partOf 18 = .ok (.lload_n 0, 1) := by decide +kernel
theorem dX3_partOf_19 : decode cX3_partOf 19 = .ok (.iload_n 2, 1) := by decide +kernel
theorem dX3_partOf_20 : decode cX3_partOf 20 = .ok (.ineg, 1) := by decide +kernel
theorem dX3_partOf_21 : decode cX3_partOf 21 = .ok (.lshl, 1) := by decide +kernel
theorem dX3_partOf_22 : decode cX3_partOf 22 = .ok (.goto 6, 3) := by decide +kernel
theorem dX3_partOf_25 : decode cX3_partOf 25 = .ok (.lload_n 0, 1) := by decide +kernel
theorem dX3_partOf_26 : decode cX3_partOf 26 = .ok (.iload_n 2, 1) := by decide +kernel
theorem dX3_partOf_27 : decode cX3_partOf 27 = .ok (.lushr, 1) := by decide +kernel
theorem dX3_partOf_28 : decode cX3_partOf 28 = .ok (.ldc2_w 35, 3) := by decide +kernel
theorem dX3_partOf_31 : decode cX3_partOf 31 = .ok (.land, 1) := by decide +kernel
theorem dX3_partOf_32 : decode cX3_partOf 32 = .ok (.lreturn, 1) := by decide +kernel
theorem dX3_isMinus_0 : decode cX3_isMinus 0 = .ok (.aload_n 0, 1) := by decide +kernel
theorem dX3_isMinus_1 : decode cX3_isMinus 1 = .ok (.getfield 9, 3) := by decide +kernel
theorem dX3_isMinus_4 : decode cX3_isMinus 4 = .ok (.bipush 15, 2) := by decide +kernel
theorem dX3_isMinus_6 : decode cX3_isMinus 6 = .ok (.iaload, 1) := by decide +kernel
theorem dX3_isMinus_7 : decode cX3_isMinus 7 = .ok (.ifCond .ge 7, 3) := by decide +kernel
theorem dX3_isMinus_10 : decode cX3_isMinus 10 = .ok (.iconst 1, 1) := by decide +kernel
theorem dX3_isMinus_11 : decode cX3_isMinus 11 = .ok (.goto 4, 3) := by decide +kernel
theorem dX3_isMinus_14 : decode cX3_isMinus 14 = .ok (.iconst 0, 1) := by decide +kernel
theorem dX3_isMinus_15 : decode cX3_isMinus 15 = .ok (.ireturn, 1) := by decide +kernel
theorem dX3_copySize_0 : decode cX3_copySize 0 = .ok (.aload_n 1, 1) := by decide +kernel
theorem dX3_copySize_1 : decode cX3_copySize 1 = .ok (.aload_n 0, 1) := by decide +kernel
theorem dX3_copySize_2 : decode cX3_copySize 2 = .ok (.getfield 9, 3) := by decide +kernel
theorem dX3_copySize_5 : decode cX3_copySize 5 = .ok (.aload_n 0, 1) := by decide +kernel
theorem dX3_copySize_6 : decode cX3_copySize 6 = .ok (.invokevirtual 37, 3) := by decide +kernel
theorem dX3_copySize_9 : decode cX3_copySize 9 = .ok (.invokevirtual 41, 3) := by decide +kernel
theorem dX3_copySize_12 : decode cX3_copySize 12 = .ok (.return_, 1) := by decide +kernel
theorem dX3_wordOfImage_0 : decode cX3_wordOfImage 0 = .ok (.aload_n 0, 1) := by decide +kernel
theorem dX3_wordOfImage_1 : decode cX3_wordOfImage 1 = .ok (.getfield 13, 3) := by decide +kernel
theorem dX3_wordOfImage_4 : decode cX3_wordOfImage 4 = .ok (.ifCond .eq 16, 3) := by decide +kernel
theorem dX3_wordOfImage_7 : decode cX3_wordOfImage 7 = .ok (.iload_n 1, 1) := by decide +kernel
theorem dX3_wordOfImage_8 : decode cX3_wordOfImage 8 = .ok (.bipush 15, 2) := by decide +kernel
theorem dX3_wordOfImage_10 : decode cX3_wordOfImage 10 = .ok (.if_icmp .ne 8, 3) := by decide +kernel
theorem dX3_wordOfImage_13 : decode cX3_wordOfImage 13 = .ok (.ldc 49, 2) := by decide +kernel
theorem dX3_wordOfImage_15 : decode cX3_wordOfImage 15 = .ok (.goto 4, 3) := by decide +kernel
theorem dX3_wordOfImage_18 : decode cX3_wordOfImage 18 = .ok (.iconst 0, 1) := by decide +kernel
theorem dX3_wordOfImage_19 : decode cX3_wordOfImage 19 = .ok (.ireturn, 1) := by decide +kernel
theorem dX3_wordOfImage_20 : decode cX3_wordOfImage 20 = .ok (.iload_n 1, 1) := by decide +kernel
theorem dX3_wordOfImage_21 : decode cX3_wordOfImage 21 = .ok (.ifCond .lt 18, 3) := by decide +kernel
theorem dX3_wordOfImage_24 : decode cX3_wordOfImage 24 = .ok (.iload_n 1, 1) := by decide +kernel
theorem dX3_wordOfImage_25 : decode cX3_wordOfImage 25 = .ok (.bipush 16, 2) := by decide +kernel
theorem dX3_wordOfImage_27 : decode cX3_wordOfImage 27 = .ok (.if_icmp .ge 12, 3) := by decide +kernel
theorem dX3_wordOfImage_30 : decode cX3_wordOfImage 30 = .ok (.aload_n 0, 1) := by decide +kernel
theorem dX3_wordOfImage_31 : decode cX3_wordOfImage 31 = .ok (.getfield 9, 3) := by decide +kernel
theorem dX3_wordOfImage_34 : decode cX3_wordOfImage 34 = .ok (.iload_n 1, 1) := by decide +kernel
theorem dX3_wordOfImage_35 : decode cX3_wordOfImage 35 = .ok (.iaload, 1) := by decide +kernel
theorem dX3_wordOfImage_36 : decode cX3_wordOfImage 36 = .ok (.goto 4, 3) := by decide +kernel
theorem dX3_wordOfImage_39 : decode cX3_wordOfImage 39 = .ok (.iconst 0, 1) := by decide +kernel
theorem dX3_wordOfImage_40 : decode cX3_wordOfImage 40 = .ok (.ireturn, 1) := by decide +kernel
theorem dX4_greatest_0 : decode cX4_greatest 0 = .ok (.lconst 1, 1) := by decide +kernel
theorem dX4_greatest_1 : decode cX4_greatest 1 = .ok (.iload_n 0, 1) := by decide +kernel
theorem dX4_greatest_2 : decode cX4_greatest 2 = .ok (.lshl, 1) := by decide +kernel
theorem dX4_greatest_3 : decode cX4_greatest 3 = .ok (.lconst 1, 1) := by decide +kernel
theorem dX4_greatest_4 : decode cX4_greatest 4 = .ok (.lsub, 1) := by decide +kernel
theorem dX4_greatest_5 : decode cX4_greatest 5 = .ok (.lreturn, 1) := by decide +kernel
theorem dX4_notReal_0 : decode cX4_notReal 0 = .ok (.lconst 1, 1) := by decide +kernel
theorem dX4_notReal_1 : decode cX4_notReal 1 = .ok (.iload_n 0, 1) := by decide +kernel
theorem dX4_notReal_2 : decode cX4_notReal 2 = .ok (.iconst 1, 1) := by decide +kernel
theorem dX4_notReal_3 : decode cX4_notReal 3 = .ok (.isub, 1) := by decide +kernel
theorem dX4_notReal_4 : decode cX4_notReal 4 = .ok (.lshl, 1) := by decide +kernel
theorem dX4_notReal_5 : decode cX4_notReal 5 = .ok (.lreturn, 1) := by decide +kernel
theorem dX4_ofLong_0 : decode cX4_ofLong 0 = .ok (.lload_n 2, 1) := by decide +kernel
theorem dX4_ofLong_1 : decode cX4_ofLong 1 = .ok (.lconst 0, 1) := by decide +kernel
theorem dX4_ofLong_2 : decode cX4_ofLong 2 = .ok (.lcmp, 1) := by decide +kernel
theorem dX4_ofLong_3 : decode cX4_ofLong 3 = .ok (.ifCond .gt 5, 3) := by decide +kernel
theorem dX4_ofLong_6 : decode cX4_ofLong 6 = .ok (.lconst 0, 1) := by decide +kernel
theorem dX4_ofLong_7 : decode cX4_ofLong 7 = .ok (.lreturn, 1) := by decide +kernel
theorem dX4_ofLong_8 : decode cX4_ofLong 8 = .ok (.bipush 63, 2) := by decide +kernel
theorem dX4_ofLong_10 : decode cX4_ofLong 10 = .ok (.lload_n 2, 1) := by decide +kernel
theorem dX4_ofLong_11 : decode cX4_ofLong 11 = .ok (.invokestatic 7, 3) := by decide +kernel
theorem dX4_ofLong_14 : decode cX4_ofLong 14 = .ok (.isub, 1) := by decide +kernel
theorem dX4_ofLong_15 : decode cX4_ofLong 15 = .ok (.istore 6, 2) := by decide +kernel
theorem dX4_ofLong_17 : decode cX4_ofLong 17 = .ok (.iload 6, 2) := by decide +kernel
theorem dX4_ofLong_19 : decode cX4_ofLong 19 = .ok (.bipush 30, 2) := by decide +kernel
theorem dX4_ofLong_21 : decode cX4_ofLong 21 = .ok (.isub, 1) := by decide +kernel
theorem dX4_ofLong_22 : decode cX4_ofLong 22 = .ok (.istore 7, 2) := by decide +kernel
theorem dX4_ofLong_24 : decode cX4_ofLong 24 = .ok (.iload 7, 2) := by decide +kernel
theorem dX4_ofLong_26 : decode cX4_ofLong 26 = .ok (.ifCond .le 10, 3) := by decide +kernel
theorem dX4_ofLong_29 : decode cX4_ofLong 29 = .ok (.lload_n 2, 1) := by decide +kernel
theorem dX4_ofLong_30 : decode cX4_ofLong 30 = .ok (.iload 7, 2) := by decide +kernel
theorem dX4_ofLong_32 : decode cX4_ofLong 32 = .ok (.lushr, 1) := by decide +kernel
theorem dX4_ofLong_33 : decode cX4_ofLong 33 = .ok (.goto 8, 3) := by decide +kernel
theorem dX4_ofLong_36 : decode cX4_ofLong 36 = .ok (.lload_n 2, 1) := by decide +kernel
theorem dX4_ofLong_37 : decode cX4_ofLong 37 = .ok (.iload 7, 2) := by decide +kernel
theorem dX4_ofLong_39 : decode cX4_ofLong 39 = .ok (.ineg, 1) := by decide +kernel
theorem dX4_ofLong_40 : decode cX4_ofLong 40 = .ok (.lshl, 1) := by decide +kernel
theorem dX4_ofLong_41 : decode cX4_ofLong 41 = .ok (.lstore 8, 2) := by decide +kernel
theorem dX4_ofLong_43 : decode cX4_ofLong 43 = .ok (.iload 7, 2) := by decide +kernel
theorem dX4_ofLong_45 : decode cX4_ofLong 45 = .ok (.ifCond .le 17, 3) := by decide +kernel
theorem dX4_ofLong_48 : decode cX4_ofLong 48 = .ok (.lload 8, 2) := by decide +kernel
theorem dX4_ofLong_50 : decode cX4_ofLong 50 = .ok (.iload 7, 2) := by decide +kernel
theorem dX4_ofLong_52 : decode cX4_ofLong 52 = .ok (.lshl, 1) := by decide +kernel
theorem dX4_ofLong_53 : decode cX4_ofLong 53 = .ok (.lload_n 2, 1) := by decide +kernel
theorem dX4_ofLong_54 : decode cX4_ofLong 54 = .ok (.lcmp, 1) := by decide +kernel
theorem dX4_ofLong_55 : decode cX4_ofLong 55 = .ok (.ifCond .eq 7, 3) := by decide +kernel
theorem dX4_ofLong_58 : decode cX4_ofLong 58 = .ok (.iconst 1, 1) := by decide +kernel
theorem dX4_ofLong_59 : decode cX4_ofLong 59 = .ok (.goto 4, 3) := by decide +kernel
theorem dX4_ofLong_62 : decode cX4_ofLong 62 = .ok (.iconst 0, 1) := by decide +kernel
theorem dX4_ofLong_63 : decode cX4_ofLong 63 = .ok (.istore 10, 2) := by decide +kernel
theorem dX4_ofLong_65 : decode cX4_ofLong 65 = .ok (.iload_n 0, 1) := by decide +kernel
theorem dX4_ofLong_66 : decode cX4_ofLong 66 = .ok (.iload 4, 2) := by decide +kernel
theorem dX4_ofLong_68 : decode cX4_ofLong 68 = .ok (.iload 6, 2) := by decide +kernel
theorem dX4_ofLong_70 : decode cX4_ofLong 70 = .ok (.iadd, 1) := by decide +kernel
theorem dX4_ofLong_71 : decode cX4_ofLong 71 = .ok (.lload 8, 2) := by decide +kernel
theorem dX4_ofLong_73 : decode cX4_ofLong 73 = .ok (.iload 5, 2) := by decide +kernel
theorem dX4_ofLong_75 : decode cX4_ofLong 75 = .ok (.ifCond .ne 8, 3) := by decide +kernel
theorem dX4_ofLong_78 : decode cX4_ofLong 78 = .ok (.iload 10, 2) := by decide +kernel
theorem dX4_ofLong_80 : decode cX4_ofLong 80 = .ok (.ifCond .eq 7, 3) := by decide +kernel
theorem dX4_ofLong_83 : decode cX4_ofLong 83 = .ok (.iconst 1, 1) := by decide +kernel
theorem dX4_ofLong_84 : decode cX4_ofLong 84 = .ok (.goto 4, 3) := by decide +kernel
theorem dX4_ofLong_87 : decode cX4_ofLong 87 = .ok (.iconst 0, 1) := by decide +kernel
theorem dX4_ofLong_88 : decode cX4_ofLong 88 = .ok (.invokestatic 15, 3) := by decide +kernel
theorem dX4_ofLong_91 : decode cX4_ofLong 91 = .ok (.lstore 11, 2) := by decide +kernel
theorem dX4_ofLong_93 : decode cX4_ofLong 93 = .ok (.iload_n 1, 1) := by decide +kernel
theorem dX4_ofLong_94 : decode cX4_ofLong 94 = .ok (.ifCond .eq 12, 3) := by decide +kernel
theorem dX4_ofLong_97 : decode cX4_ofLong 97 = .ok (.lconst 1, 1) := by decide +kernel
theorem dX4_ofLong_98 : decode cX4_ofLong 98 = .ok (.iload_n 0, 1) := by decide +kernel
theorem dX4_ofLong_99 : decode cX4_ofLong 99 = .ok (.lshl, 1) := by decide +kernel
theorem dX4_ofLong_100 : decode cX4_ofLong 100 = .ok (.lload 11, 2) := by decide +kernel
theorem dX4_ofLong_102 : decode cX4_ofLong 102 = .ok (.lsub, 1) := by decide +kernel
theorem dX4_ofLong_103 : decode cX4_ofLong 103 = .ok (.goto 5, 3) := by decide +kernel
theorem dX4_ofLong_106 : decode cX4_ofLong 106 = .ok (.lload 11, 2) := by decide +kernel
theorem dX4_ofLong_108 : decode cX4_ofLong 108 = .ok (.lreturn, 1) := by decide +kernel
theorem dX4_ofWide_0 : decode cX4_ofWide 0 = .ok (.iconst 0, 1) := by decide +kernel
theorem dX4_ofWide_1 : decode cX4_ofWide 1 = .ok (.aload_n 2, 1) := by decide +kernel
theorem dX4_ofWide_2 : decode cX4_ofWide 2 = .ok (.invokevirtual 19, 3) := by decide +kernel
theorem dX4_ofWide_5 : decode cX4_ofWide 5 = .ok (.bipush 62, 2) := by decide +kernel
theorem dX4_ofWide_7 : decode cX4_ofWide 7 = .ok (.isub, 1) := by decide +kernel
theorem dX4_ofWide_8 : decode cX4_ofWide 8 = .ok (.invokestatic 25, 3) := by decide +kernel
theorem dX4_ofWide_11 : decode cX4_ofWide 11 = .ok (.istore 4, 2) := by decide +kernel
theorem dX4_ofWide_13 : decode cX4_ofWide 13 = .ok (.iload_n 0, 1) := by decide +kernel
theorem dX4_ofWide_14 : decode cX4_ofWide 14 = .ok (.iload_n 1, 1) := by decide +kernel
theorem dX4_ofWide_15 : decode cX4_ofWide 15 = .ok (.aload_n 2, 1) := by decide +kernel
theorem dX4_ofWide_16 : decode cX4_ofWide 16 = .ok (.iload 4, 2) := by decide +kernel
theorem dX4_ofWide_18 : decode cX4_ofWide 18 = .ok (.invokevirtual 31, 3) := by decide +kernel
theorem dX4_ofWide_21 : decode cX4_ofWide 21 = .ok (.iload_n 3, 1) := by decide +kernel
theorem dX4_ofWide_22 : decode cX4_ofWide 22 = .ok (.iload 4, 2) := by decide +kernel
theorem dX4_ofWide_24 : decode cX4_ofWide 24 = .ok (.iadd, 1) := by decide +kernel
theorem dX4_ofWide_25 : decode cX4_ofWide 25 = .ok (.aload_n 2, 1) := by decide +kernel
theorem dX4_ofWide_26 : decode cX4_ofWide 26 = .ok (.iload 4, 2) := by decide +kernel
theorem dX4_ofWide_28 : decode cX4_ofWide 28 = .ok (.invokevirtual 35, 3) := by decide +kernel
theorem dX4_ofWide_31 : decode cX4_ofWide 31 = .ok (.invokestatic 39, 3) := by decide +kernel
theorem dX4_ofWide_34 : decode cX4_ofWide 34 = .ok (.lreturn, 1) := by decide +kernel
theorem dX4_ofSize_0 : decode cX4_ofSize 0 = .ok (.iload_n 1, 1) := by decide +kernel
theorem dX4_ofSize_1 : decode cX4_ofSize 1 = .ok (.iconst 4, 1) := by decide +kernel
theorem dX4_ofSize_2 : decode cX4_ofSize 2 = .ok (.iload_n 0, 1) := by decide +kernel
theorem dX4_ofSize_3 : decode cX4_ofSize 3 = .ok (.iconst 2, 1) := by decide +kernel
theorem dX4_ofSize_4 : decode cX4_ofSize 4 = .ok (.isub, 1) := by decide +kernel
theorem dX4_ofSize_5 : decode cX4_ofSize 5 = .ok (.imul, 1) := by decide +kernel
theorem dX4_ofSize_6 : decode cX4_ofSize 6 = .ok (.if_icmp .lt 10, 3) := by decide +kernel
theorem dX4_ofSize_9 : decode cX4_ofSize 9 = .ok (.iload_n 0, 1) := by decide +kernel
theorem dX4_ofSize_10 : decode cX4_ofSize 10 = .ok (.iconst 1, 1) := by decide +kernel
theorem dX4_ofSize_11 : decode cX4_ofSize 11 = .ok (.isub, 1) := by decide +kernel
theorem dX4_ofSize_12 : decode cX4_ofSize 12 = .ok (.invokestatic 43, 3) := by decide +kernel
theorem dX4_ofSize_15 : decode cX4_ofSize 15 = .ok (.lreturn, 1) := by decide +kernel
theorem dX4_ofSize_16 : decode cX4_ofSize 16 = .ok (.iload_n 1, 1) := by decide +kernel
theorem dX4_ofSize_17 : decode cX4_ofSize 17 = .ok (.bipush (-4), 2) := by decide +kernel
theorem dX4_ofSize_19 : decode cX4_ofSize 19 = .ok (.iload_n 0, 1) := by decide +kernel
theorem dX4_ofSize_20 : decode cX4_ofSize 20 = .ok (.iconst 2, 1) := by decide +kernel
theorem dX4_ofSize_21 : decode cX4_ofSize 21 = .ok (.isub, 1) := by decide +kernel
theorem dX4_ofSize_22 : decode cX4_ofSize 22 = .ok (.imul, 1) := by decide +kernel
theorem dX4_ofSize_23 : decode cX4_ofSize 23 = .ok (.if_icmp .ge 5, 3) := by decide +kernel
theorem dX4_ofSize_26 : decode cX4_ofSize 26 = .ok (.lconst 1, 1) := by decide +kernel
theorem dX4_ofSize_27 : decode cX4_ofSize 27 = .ok (.lreturn, 1) := by decide +kernel
theorem dX4_ofSize_28 : decode cX4_ofSize 28 = .ok (.iload_n 1, 1) := by decide +kernel
theorem dX4_ofSize_29 : decode cX4_ofSize 29 = .ok (.iconst 2, 1) := by decide +kernel
theorem dX4_ofSize_30 : decode cX4_ofSize 30 = .ok (.ishr, 1) := by decide +kernel
theorem dX4_ofSize_31 : decode cX4_ofSize 31 = .ok (.istore 5, 2) := by decide +kernel
theorem dX4_ofSize_33 : decode cX4_ofSize 33 = .ok (.iload 5, 2) := by decide +kernel
theorem dX4_ofSize_35 : decode cX4_ofSize 35 = .ok (.ifCond .lt 10, 3) := by decide +kernel
theorem dX4_ofSize_38 : decode cX4_ofSize 38 = .ok (.iload 5, 2) := by decide +kernel
theorem dX4_ofSize_40 : decode cX4_ofSize 40 = .ok (.iconst 2, 1) := by decide +kernel
theorem dX4_ofSize_41 : decode cX4_ofSize 41 = .ok (.iadd, 1) := by decide +kernel
theorem dX4_ofSize_42 : decode cX4_ofSize 42 = .ok (.goto 7, 3) := by decide +kernel
theorem dX4_ofSize_45 : decode cX4_ofSize 45 = .ok (.iconst 1, 1) := by decide +kernel
theorem dX4_ofSize_46 : decode cX4_ofSize 46 = .ok (.iload 5, 2) := by decide +kernel
theorem dX4_ofSize_48 : decode cX4_ofSize 48 = .ok (.isub, 1) := by decide +kernel
theorem dX4_ofSize_49 : decode cX4_ofSize 49 = .ok (.istore 6, 2) := by decide +kernel
theorem dX4_ofSize_51 : decode cX4_ofSize 51 = .ok (.iload 5, 2) := by decide +kernel
theorem dX4_ofSize_53 : decode cX4_ofSize 53 = .ok (.ifCond .lt 15, 3) := by decide +kernel
theorem dX4_ofSize_56 : decode cX4_ofSize 56 = .ok (.iload 5, 2) := by decide +kernel
theorem dX4_ofSize_58 : decode cX4_ofSize 58 = .ok (.iconst 1, 1) := by decide +kernel
theorem dX4_ofSize_59 : decode cX4_ofSize 59 = .ok (.iadd, 1) := by decide +kernel
theorem dX4_ofSize_60 : decode cX4_ofSize 60 = .ok (.invokestatic 43, 3) := by decide +kernel
theorem dX4_ofSize_63 : decode cX4_ofSize 63 = .ok (.iconst 1, 1) := by decide +kernel
theorem dX4_ofSize_64 : decode cX4_ofSize 64 = .ok (.lshl, 1) := by decide +kernel
theorem dX4_ofSize_65 : decode cX4_ofSize 65 = .ok (.goto 4, 3) := by decide +kernel
theorem dX4_ofSize_68 : decode cX4_ofSize 68 = .ok (.lconst 1, 1) := by decide +kernel
theorem dX4_ofSize_69 : decode cX4_ofSize 69 = .ok (.lstore 7, 2) := by decide +kernel
theorem dX4_ofSize_71 : decode cX4_ofSize 71 = .ok (.iload_n 1, 1) := by decide +kernel
theorem dX4_ofSize_72 : decode cX4_ofSize 72 = .ok (.iconst 3, 1) := by decide +kernel
theorem dX4_ofSize_73 : decode cX4_ofSize 73 = .ok (.iand, 1) := by decide +kernel
theorem dX4_ofSize_74 : decode cX4_ofSize 74 = .ok (.i2l, 1) := by decide +kernel
theorem dX4_ofSize_75 : decode cX4_ofSize 75 = .ok (.bipush 30, 2) := by decide +kernel
theorem dX4_ofSize_77 : decode cX4_ofSize 77 = .ok (.lshl, 1) := by decide +kernel
theorem dX4_ofSize_78 : decode cX4_ofSize 78 = .ok (.lload_n 2, 1) := by decide +kernel
theorem dX4_ofSize_79 : decode cX4_ofSize 79 = .ok (.bipush 30, 2) := by decide +kernel
theorem dX4_ofSize_81 : decode cX4_ofSize 81 = .ok (.invokestatic 43, 3) := by decide +kernel
theorem dX4_ofSize_84 : decode cX4_ofSize 84 = .ok (.land, 1) := by decide +kernel
theorem dX4_ofSize_85 : decode cX4_ofSize 85 = .ok (.lor, 1) := by decide +kernel
theorem dX4_ofSize_86 : decode cX4_ofSize 86 = .ok (.lstore 9, 2) := by decide +kernel
theorem dX4_ofSize_88 : decode cX4_ofSize 88 = .ok (.lload 7, 2) := by decide +kernel
theorem dX4_ofSize_90 : decode cX4_ofSize 90 = .ok (.bipush 32, 2) := by decide +kernel
theorem dX4_ofSize_92 : decode cX4_ofSize 92 = .ok (.lshl, 1) := by decide +kernel
theorem dX4_ofSize_93 : decode cX4_ofSize 93 = .ok (.lload 9, 2) := by decide +kernel
theorem dX4_ofSize_95 : decode cX4_ofSize 95 = .ok (.lor, 1) := by decide +kernel
theorem dX4_ofSize_96 : decode cX4_ofSize 96 = .ok (.lstore 11, 2) := by decide +kernel
theorem dX4_ofSize_98 : decode cX4_ofSize 98 = .ok (.iload 6, 2) := by decide +kernel
theorem dX4_ofSize_100 : decode cX4_ofSize 100 = .ok (.bipush 30, 2) := by decide +kernel
theorem dX4_ofSize_102 : decode cX4_ofSize 102 = .ok (.iadd, 1) := by decide +kernel
theorem dX4_ofSize_103 : decode cX4_ofSize 103 = .ok (.iconst 2, 1) := by decide +kernel
theorem dX4_ofSize_104 : decode cX4_ofSize 104 = .ok (.iadd, 1) := by decide +kernel
theorem dX4_ofSize_105 : decode cX4_ofSize 105 = .ok (.iload_n 0, 1) := by decide +kernel
theorem dX4_ofSize_106 : decode cX4_ofSize 106 = .ok (.iconst 1, 1) := by decide +kernel
theorem dX4_ofSize_107 : decode cX4_ofSize 107 = .ok (.isub, 1) := by decide +kernel
theorem dX4_ofSize_108 : decode cX4_ofSize 108 = .ok (.isub, 1) := by decide +kernel
theorem dX4_ofSize_109 : decode cX4_ofSize 109 = .ok (.istore 13, 2) := by decide +kernel
theorem dX4_ofSize_111 : decode cX4_ofSize 111 = .ok (.lload 11, 2) := by decide +kernel
theorem dX4_ofSize_113 : decode cX4_ofSize 113 = .ok (.iload 13, 2) := by decide +kernel
theorem dX4_ofSize_115 : decode cX4_ofSize 115 = .ok (.lushr, 1) := by decide +kernel
theorem dX4_ofSize_116 : decode cX4_ofSize 116 = .ok (.lstore 14, 2) := by decide +kernel
theorem dX4_ofSize_118 : decode cX4_ofSize 118 = .ok (.lload 11, 2) := by decide +kernel
theorem dX4_ofSize_120 : decode cX4_ofSize 120 = .ok (.iload 13, 2) := by decide +kernel
theorem dX4_ofSize_122 : decode cX4_ofSize 122 = .ok (.invokestatic 43, 3) := by decide +kernel
theorem dX4_ofSize_125 : decode cX4_ofSize 125 = .ok (.land, 1) := by decide +kernel
theorem dX4_ofSize_126 : decode cX4_ofSize 126 = .ok (.lstore 16, 2) := by decide +kernel
theorem dX4_ofSize_128 : decode cX4_ofSize 128 = .ok (.lconst 1, 1) := by decide +kernel
theorem dX4_ofSize_129 : decode cX4_ofSize 129 = .ok (.iload 13, 2) := by decide +kernel
theorem dX4_ofSize_131 : decode cX4_ofSize 131 = .ok (.iconst 1, 1) := by decide +kernel
theorem dX4_ofSize_132 : decode cX4_ofSize 132 = .ok (.isub, 1) := by decide +kernel
theorem dX4_ofSize_133 : decode cX4_ofSize 133 = .ok (.lshl, 1) := by decide +kernel
theorem dX4_ofSize_134 : decode cX4_ofSize 134 = .ok (.lstore 18, 2) := by decide +kernel
theorem dX4_ofSize_136 : decode cX4_ofSize 136 = .ok (.lload 16, 2) := by decide +kernel
theorem dX4_ofSize_138 : decode cX4_ofSize 138 = .ok (.lload 18, 2) := by decide +kernel
theorem dX4_ofSize_140 : decode cX4_ofSize 140 = .ok (.lcmp, 1) := by decide +kernel
theorem dX4_ofSize_141 : decode cX4_ofSize 141 = .ok (.ifCond .gt 25, 3) := by decide +kernel
theorem dX4_ofSize_144 : decode cX4_ofSize 144 = .ok (.lload 16, 2) := by decide +kernel
theorem dX4_ofSize_146 : decode cX4_ofSize 146 = .ok (.lload 18, 2) := by decide +kernel
theorem dX4_ofSize_148 : decode cX4_ofSize 148 = .ok (.lcmp, 1) := by decide +kernel
theorem dX4_ofSize_149 : decode cX4_ofSize 149 = .ok (.ifCond .ne 21, 3) := by decide +kernel
theorem dX4_ofSize_152 : decode cX4_ofSize 152 = .ok (.iload 4, 2) := by decide +kernel
theorem dX4_ofSize_154 : decode cX4_ofSize 154 = .ok (.ifCond .ne 12, 3) := by decide +kernel
theorem dX4_ofSize_157 : decode cX4_ofSize 157 = .ok (.lload 14, 2) := by decide +kernel
theorem dX4_ofSize_159 : decode cX4_ofSize 159 = .ok (.lconst 1, 1) := by decide +kernel
theorem dX4_ofSize_160 : decode cX4_ofSize 160 = .ok (.land, 1) := by decide +kernel
theorem dX4_ofSize_161 : decode cX4_ofSize 161 = .ok (.lconst 1, 1) := by decide +kernel
theorem dX4_ofSize_162 : decode cX4_ofSize 162 = .ok (.lcmp, 1) := by decide +kernel
theorem dX4_ofSize_163 : decode cX4_ofSize 163 = .ok (.ifCond .ne 7, 3) := by decide +kernel
theorem dX4_ofSize_166 : decode cX4_ofSize 166 = .ok (.iconst 1, 1) := by decide +kernel
theorem dX4_ofSize_167 : decode cX4_ofSize 167 = .ok (.goto 4, 3) := by decide +kernel
theorem dX4_ofSize_170 : decode cX4_ofSize 170 = .ok (.iconst 0, 1) := by decide +kernel
theorem dX4_ofSize_171 : decode cX4_ofSize 171 = .ok (.istore 20, 2) := by decide +kernel
theorem dX4_ofSize_173 : decode cX4_ofSize 173 = .ok (.iload 20, 2) := by decide +kernel
theorem dX4_ofSize_175 : decode cX4_ofSize 175 = .ok (.ifCond .eq 10, 3) := by decide +kernel
theorem dX4_ofSize_178 : decode cX4_ofSize 178 = .ok (.lload 14, 2) := by decide +kernel
theorem dX4_ofSize_180 : decode cX4_ofSize 180 = .ok (.lconst 1, 1) := by decide +kernel
theorem dX4_ofSize_181 : decode cX4_ofSize 181 = .ok (.ladd, 1) := by decide +kernel
theorem dX4_ofSize_182 : decode cX4_ofSize 182 = .ok (.goto 5, 3) := by decide +kernel
theorem dX4_ofSize_185 : decode cX4_ofSize 185 = .ok (.lload 14, 2) := by decide +kernel
theorem dX4_ofSize_187 : decode cX4_ofSize 187 = .ok (.lreturn, 1) := by decide +kernel
theorem dX5_init_0 : decode cX5_init 0 = .ok (.aload_n 0, 1) := by decide +kernel
theorem dX5_init_1 : decode cX5_init 1 = .ok (.invokespecial 1, 3) := by decide +kernel
theorem dX5_init_4 : decode cX5_init 4 = .ok (.aload_n 0, 1) := by decide +kernel
theorem dX5_init_5 : decode cX5_init 5 = .ok (.new 7, 3) := by decide +kernel
theorem dX5_init_8 : decode cX5_init 8 = .ok (.dup, 1) := by decide +kernel
theorem dX5_init_9 : decode cX5_init 9 = .ok (.invokespecial 9, 3) := by decide +kernel
theorem dX5_init_12 : decode cX5_init 12 = .ok (.putfield 10, 3) := by decide +kernel
theorem dX5_init_15 : decode cX5_init 15 = .ok (.aload_n 0, 1) := by decide +kernel
theorem dX5_init_16 : decode cX5_init 16 = .ok (.new 7, 3) := by decide +kernel
theorem dX5_init_19 : decode cX5_init 19 = .ok (.dup, 1) := by decide +kernel
theorem dX5_init_20 : decode cX5_init 20 = .ok (.invokespecial 9, 3) := by decide +kernel
theorem dX5_init_23 : decode cX5_init 23 = .ok (.putfield 16, 3) := by decide +kernel
theorem dX5_init_26 : decode cX5_init 26 = .ok (.aload_n 0, 1) := by decide +kernel
theorem dX5_init_27 : decode cX5_init 27 = .ok (.new 7, 3) := by decide +kernel
theorem dX5_init_30 : decode cX5_init 30 = .ok (.dup, 1) := by decide +kernel
theorem dX5_init_31 : decode cX5_init 31 = .ok (.invokespecial 9, 3) := by decide +kernel
theorem dX5_init_34 : decode cX5_init 34 = .ok (.putfield 19, 3) := by decide +kernel
theorem dX5_init_37 : decode cX5_init 37 = .ok (.return_, 1) := by decide +kernel
theorem dX5_seek_0 : decode cX5_seek 0 = .ok (.lconst 0, 1) := by decide +kernel
theorem dX5_seek_1 : decode cX5_seek 1 = .ok (.lstore_n 2, 1) := by decide +kernel
theorem dX5_seek_2 : decode cX5_seek 2 = .ok (.aload_n 0, 1) := by decide +kernel
theorem dX5_seek_3 : decode cX5_seek 3 = .ok (.iconst 1, 1) := by decide +kernel
theorem dX5_seek_4 : decode cX5_seek 4 = .ok (.putfield 22, 3) := by decide +kernel
theorem dX5_seek_7 : decode cX5_seek 7 = .ok (.bipush 31, 2) := by decide +kernel
theorem dX5_seek_9 : decode cX5_seek 9 = .ok (.istore 4, 2) := by decide +kernel
theorem dX5_seek_11 : decode cX5_seek 11 = .ok (.iload 4, 2) := by decide +kernel
theorem dX5_seek_13 : decode cX5_seek 13 = .ok (.ifCond .lt 73, 3) := by decide +kernel
theorem dX5_seek_16 : decode cX5_seek 16 = .ok (.lload_n 2, 1) := by decide +kernel
theorem dX5_seek_17 : decode cX5_seek 17 = .ok (.lconst 1, 1) := by decide +kernel
theorem dX5_seek_18 : decode cX5_seek 18 = .ok (.iload 4, 2) := by decide +kernel
theorem dX5_seek_20 : decode cX5_seek 20 = .ok (.lshl, 1) := by decide +kernel
theorem dX5_seek_21 : decode cX5_seek 21 = .ok (.lor, 1) := by decide +kernel
theorem dX5_seek_22 : decode cX5_seek 22 = .ok (.lstore 5, 2) := by decide +kernel
theorem dX5_seek_24 : decode cX5_seek 24 = .ok (.aload_n 0, 1) := by decide +kernel
theorem dX5_seek_25 : decode cX5_seek 25 = .ok (.getfield 19, 3) := by decide +kernel
theorem dX5_seek_28 : decode cX5_seek 28 = .ok (.aload_n 0, 1) := by decide +kernel
theorem dX5_seek_29 : decode cX5_seek 29 = .ok (.getfield 10, 3) := by decide +kernel
theorem dX5_seek_32 : decode cX5_seek 32 = .ok (.invokevirtual 26, 3) := by decide +kernel
theorem dX5_seek_35 : decode cX5_seek 35 = .ok (.aload_n 0, 1) := by decide +kernel
theorem dX5_seek_36 : decode cX5_seek 36 = .ok (.getfield 19, 3) := by decide +kernel
theorem dX5_seek_39 : decode cX5_seek 39 = .ok (.lload 5, 2) := by decide +kernel
theorem dX5_seek_41 : decode cX5_seek 41 = .ok (.iload_n 1, 1) := by decide +kernel
theorem dX5_seek_42 : decode cX5_seek 42 = .ok (.invokevirtual 30, 3) := by decide +kernel
theorem dX5_seek_45 : decode cX5_seek 45 = .ok (.aload_n 0, 1) := by decide +kernel
theorem dX5_seek_46 : decode cX5_seek 46 = .ok (.getfield 19, 3) := by decide +kernel
theorem dX5_seek_49 : decode cX5_seek 49 = .ok (.aload_n 0, 1) := by decide +kernel
theorem dX5_seek_50 : decode cX5_seek 50 = .ok (.getfield 16, 3) := by decide +kernel
theorem dX5_seek_53 : decode cX5_seek 53 = .ok (.invokevirtual 34, 3) := by decide +kernel
theorem dX5_seek_56 : decode cX5_seek 56 = .ok (.istore 7, 2) := by decide +kernel
theorem dX5_seek_58 : decode cX5_seek 58 = .ok (.iload 7, 2) := by decide +kernel
theorem dX5_seek_60 : decode cX5_seek 60 = .ok (.ifCond .gt 20, 3) := by decide +kernel
theorem dX5_seek_63 : decode cX5_seek 63 = .ok (.lload 5, 2) := by decide +kernel
theorem dX5_seek_65 : decode cX5_seek 65 = .ok (.lstore_n 2, 1) := by decide +kernel
theorem dX5_seek_66 : decode cX5_seek 66 = .ok (.aload_n 0, 1) := by decide +kernel
theorem dX5_seek_67 : decode cX5_seek 67 = .ok (.iload 7, 2) := by decide +kernel
theorem dX5_seek_69 : decode cX5_seek 69 = .ok (.ifCond .ge 7, 3) := by decide +kernel
theorem dX5_seek_72 : decode cX5_seek 72 = .ok (.iconst 1, 1) := by decide +kernel
theorem dX5_seek_73 : decode cX5_seek 73 = .ok (.goto 4, 3) := by decide +kernel
theorem dX5_seek_76 : decode cX5_seek 76 = .ok (.iconst 0, 1) := by decide +kernel
theorem dX5_seek_77 : decode cX5_seek 77 = .ok (.putfield 22, 3) := by decide +kernel
theorem dX5_seek_80 : decode cX5_seek 80 = .ok (.iinc 4 (-1), 3) := by decide +kernel
theorem dX5_seek_83 : decode cX5_seek 83 = .ok (.goto (-72), 3) := by decide +kernel
theorem dX5_seek_86 : decode cX5_seek 86 = .ok (.lload_n 2, 1) := by decide +kernel
theorem dX5_seek_87 : decode cX5_seek 87 = .ok (.lreturn, 1) := by decide +kernel
theorem dX6_init_0 : decode cX6_init 0 = .ok (.aload_n 0, 1) := by decide +kernel
theorem dX6_init_1 : decode cX6_init 1 = .ok (.invokespecial 1, 3) := by decide +kernel
theorem dX6_init_4 : decode cX6_init 4 = .ok (.aload_n 0, 1) := by decide +kernel
theorem dX6_init_5 : decode cX6_init 5 = .ok (.bipush 80, 2) := by decide +kernel
theorem dX6_init_7 : decode cX6_init 7 = .ok (.newarray .int, 2) := by decide +kernel
theorem dX6_init_9 : decode cX6_init 9 = .ok (.putfield 9, 3) := by decide +kernel
theorem dX6_init_12 : decode cX6_init 12 = .ok (.aload_n 0, 1) := by decide +kernel
theorem dX6_init_13 : decode cX6_init 13 = .ok (.new 13, 3) := by decide +kernel
theorem dX6_init_16 : decode cX6_init 16 = .ok (.dup, 1) := by decide +kernel
theorem dX6_init_17 : decode cX6_init 17 = .ok (.invokespecial 15, 3) := by decide +kernel
theorem dX6_init_20 : decode cX6_init 20 = .ok (.putfield 16, 3) := by decide +kernel
theorem dX6_init_23 : decode cX6_init 23 = .ok (.return_, 1) := by decide +kernel
theorem dX6_append_0 : decode cX6_append 0 = .ok (.aload_n 0, 1) := by decide +kernel
theorem dX6_append_1 : decode cX6_append 1 = .ok (.getfield 20, 3) := by decide +kernel
theorem dX6_append_4 : decode cX6_append 4 = .ok (.ifCond .lt 32, 3) := by decide +kernel
theorem dX6_append_7 : decode cX6_append 7 = .ok (.aload_n 0, 1) := by decide +kernel
theorem dX6_append_8 : decode cX6_append 8 = .ok (.getfield 20, 3) := by decide +kernel
theorem dX6_append_11 : decode cX6_append 11 = .ok (.bipush 80, 2) := by decide +kernel
theorem dX6_append_13 : decode cX6_append 13 = .ok (.if_icmp .ge 23, 3) := by decide +kernel
theorem dX6_append_16 : decode cX6_append 16 = .ok (.aload_n 0, 1) := by decide +kernel
theorem dX6_append_17 : decode cX6_append 17 = .ok (.getfield 9, 3) := by decide +kernel
theorem dX6_append_20 : decode cX6_append 20 = .ok (.aload_n 0, 1) := by decide +kernel
theorem dX6_append_21 : decode cX6_append 21 = .ok (.getfield 20, 3) := by decide +kernel
theorem dX6_append_24 : decode cX6_append 24 = .ok (.iload_n 1, 1) := by decide +kernel
theorem dX6_append_25 : decode cX6_append 25 = .ok (.iastore, 1) := by decide +kernel
theorem dX6_append_26 : decode cX6_append 26 = .ok (.aload_n 0, 1) := by decide +kernel
theorem dX6_append_27 : decode cX6_append 27 = .ok (.dup, 1) := by decide +kernel
theorem dX6_append_28 : decode cX6_append 28 = .ok (.getfield 20, 3) := by decide +kernel
theorem dX6_append_31 : decode cX6_append 31 = .ok (.iconst 1, 1) := by decide +kernel
theorem dX6_append_32 : decode cX6_append 32 = .ok (.iadd, 1) := by decide +kernel
theorem dX6_append_33 : decode cX6_append 33 = .ok (.putfield 20, 3) := by decide +kernel
theorem dX6_append_36 : decode cX6_append 36 = .ok (.return_, 1) := by decide +kernel
theorem dX6_scan_0 : decode cX6_scan 0 = .ok (.aload_n 0, 1) := by decide +kernel
theorem dX6_scan_1 : decode cX6_scan 1 = .ok (.iconst 0, 1) := by decide +kernel
theorem dX6_scan_2 : decode cX6_scan 2 = .ok (.putfield 24, 3) := by decide +kernel
theorem dX6_scan_5 : decode cX6_scan 5 = .ok (.aload_n 0, 1) := by decide +kernel
theorem dX6_scan_6 : decode cX6_scan 6 = .ok (.iconst 0, 1) := by decide +kernel
theorem dX6_scan_7 : decode cX6_scan 7 = .ok (.putfield 27, 3) := by decide +kernel
theorem dX6_scan_10 : decode cX6_scan 10 = .ok (.aload_n 0, 1) := by decide +kernel
theorem dX6_scan_11 : decode cX6_scan 11 = .ok (.iconst 0, 1) := by decide +kernel
theorem dX6_scan_12 : decode cX6_scan 12 = .ok (.putfield 30, 3) := by decide +kernel
theorem dX6_scan_15 : decode cX6_scan 15 = .ok (.aload_n 0, 1) := by decide +kernel
theorem dX6_scan_16 : decode cX6_scan 16 = .ok (.getfield 16, 3) := by decide +kernel
theorem dX6_scan_19 : decode cX6_scan 19 = .ok (.lconst 0, 1) := by decide +kernel
theorem dX6_scan_20 : decode cX6_scan 20 = .ok (.invokevirtual 33, 3) := by decide +kernel
theorem dX6_scan_23 : decode cX6_scan 23 = .ok (.aload_n 0, 1) := by decide +kernel
theorem dX6_scan_24 : decode cX6_scan 24 = .ok (.aload_n 0, 1) := by decide +kernel
theorem dX6_scan_25 : decode cX6_scan 25 = .ok (.invokevirtual 37, 3) := by decide +kernel
theorem dX6_scan_28 : decode cX6_scan 28 = .ok (.bipush 78, 2) := by decide +kernel
theorem dX6_scan_30 : decode cX6_scan 30 = .ok (.if_icmp .ne 7, 3) := by decide +kernel
theorem dX6_scan_33 : decode cX6_scan 33 = .ok (.iconst 1, 1) := by decide +kernel
theorem dX6_scan_34 : decode cX6_scan 34 = .ok (.goto 4, 3) := by decide +kernel
theorem dX6_scan_37 : decode cX6_scan 37 = .ok (.iconst 0, 1) := by decide +kernel
theorem dX6_scan_38 : decode cX6_scan 38 = .ok (.putfield 41, 3) := by decide +kernel
theorem dX6_scan_41 : decode cX6_scan 41 = .ok (.aload_n 0, 1) := by decide +kernel
theorem dX6_scan_42 : decode cX6_scan 42 = .ok (.getfield 41, 3) := by decide +kernel
theorem dX6_scan_45 : decode cX6_scan 45 = .ok (.ifCond .eq 47, 3) := by decide +kernel
theorem dX6_scan_48 : decode cX6_scan 48 = .ok (.aload_n 0, 1) := by decide +kernel
theorem dX6_scan_49 : decode cX6_scan 49 = .ok (.bipush 78, 2) := by decide +kernel
theorem dX6_scan_51 : decode cX6_scan 51 = .ok (.invokevirtual 45, 3) := by decide +kernel
theorem dX6_scan_54 : decode cX6_scan 54 = .ok (.ifCond .eq 36, 3) := by decide +kernel
theorem dX6_scan_57 : decode cX6_scan 57 = .ok (.aload_n 0, 1) := by decide +kernel
theorem dX6_scan_58 : decode cX6_scan 58 = .ok (.bipush 97, 2) := by decide +kernel
theorem dX6_scan_60 : decode cX6_scan 60 = .ok (.invokevirtual 45, 3) := by decide +kernel
theorem dX6_scan_63 : decode cX6_scan 63 = .ok (.ifCond .eq 27, 3) := by decide +kernel
theorem dX6_scan_66 : decode cX6_scan 66 = .ok (.aload_n 0, 1) := by decide +kernel
theorem dX6_scan_67 : decode cX6_scan 67 = .ok (.bipush 82, 2) := by decide +kernel
theorem dX6_scan_69 : decode cX6_scan 69 = .ok (.invokevirtual 45, 3) := by decide +kernel
theorem dX6_scan_72 : decode cX6_scan 72 = .ok (.ifCond .eq 18, 3) := by decide +kernel
theorem dX6_scan_75 : decode cX6_scan 75 = .ok (.aload_n 0, 1) := by decide +kernel
theorem dX6_scan_76 : decode cX6_scan 76 = .ok (.getfield 24, 3) := by decide +kernel
theorem dX6_scan_79 : decode cX6_scan 79 = .ok (.aload_n 0, 1) := by decide +kernel
theorem dX6_scan_80 : decode cX6_scan 80 = .ok (.getfield 20, 3) := by decide +kernel
theorem dX6_scan_83 : decode cX6_scan 83 = .ok (.if_icmp .ne 7, 3) := by decide +kernel
theorem dX6_scan_86 : decode cX6_scan 86 = .ok (.iconst 1, 1) := by decide +kernel
theorem dX6_scan_87 : decode cX6_scan 87 = .ok (.goto 4, 3) := by decide +kernel
theorem dX6_scan_90 : decode cX6_scan 90 = .ok (.iconst 0, 1) := by decide +kernel
theorem dX6_scan_91 : decode cX6_scan 91 = .ok (.ireturn, 1) := by decide +kernel
theorem dX6_scan_92 : decode cX6_scan 92 = .ok (.aload_n 0, 1) := by decide +kernel
theorem dX6_scan_93 : decode cX6_scan 93 = .ok (.aload_n 0, 1) := by decide +kernel
theorem dX6_scan_94 : decode cX6_scan 94 = .ok (.bipush 45, 2) := by decide +kernel
theorem dX6_scan_96 : decode cX6_scan 96 = .ok (.invokevirtual 45, 3) := by decide +kernel
theorem dX6_scan_99 : decode cX6_scan 99 = .ok (.putfield 49, 3) := by decide +kernel
theorem dX6_scan_102 : decode cX6_scan 102 = .ok (.aload_n 0, 1) := by decide +kernel
theorem dX6_scan_103 : decode cX6_scan 103 = .ok (.invokevirtual 52, 3) := by decide +kernel
theorem dX6_scan_106 : decode cX6_scan 106 = .ok (.ifCond .ne 5, 3) := by decide +kernel
theorem dX6_scan_109 : decode cX6_scan 109 = .ok (.iconst 0, 1) := by decide +kernel
theorem dX6_scan_110 : decode cX6_scan 110 = .ok (.ireturn, 1) := by decide +kernel
theorem dX6_scan_111 : decode cX6_scan 111 = .ok (.aload_n 0, 1) := by decide +kernel
theorem dX6_scan_112 : decode cX6_scan 112 = .ok (.getfield 27, 3) := by decide +kernel
theorem dX6_scan_115 : decode cX6_scan 115 = .ok (.istore_n 1, 1) := by decide +kernel
theorem dX6_scan_116 : decode cX6_scan 116 = .ok (.aload_n 0, 1) := by decide +kernel
theorem dX6_scan_117 : decode cX6_scan 117 = .ok (.bipush 46, 2) := by decide +kernel
theorem dX6_scan_119 : decode cX6_scan 119 = .ok (.invokevirtual 45, 3) := by decide +kernel
theorem dX6_scan_122 : decode cX6_scan 122 = .ok (.ifCond .eq 12, 3) := by decide +kernel
theorem dX6_scan_125 : decode cX6_scan 125 = .ok (.aload_n 0, 1) := by decide +kernel
theorem dX6_scan_126 : decode cX6_scan 126 = .ok (.invokevirtual 52, 3) := by decide +kernel
theorem dX6_scan_129 : decode cX6_scan 129 = .ok (.ifCond .ne 5, 3) := by decide +kernel
theorem dX6_scan_132 : decode cX6_scan 132 = .ok (.iconst 0, 1) := by decide +kernel
theorem dX6_scan_133 : decode cX6_scan 133 = .ok (.ireturn, 1) := by decide +kernel
theorem dX6_scan_134 : decode cX6_scan 134 = .ok (.aload_n 0, 1) := by decide +kernel
theorem dX6_scan_135 : decode cX6_scan 135 = .ok (.bipush 101, 2) := by decide +kernel
theorem dX6_scan_137 : decode cX6_scan 137 = .ok (.invokevirtual 45, 3) := by decide +kernel
theorem dX6_scan_140 : decode cX6_scan 140 = .ok (.ifCond .eq 12, 3) := by decide +kernel
theorem dX6_scan_143 : decode cX6_scan 143 = .ok (.aload_n 0, 1) := by decide +kernel
theorem dX6_scan_144 : decode cX6_scan 144 = .ok (.invokevirtual 56, 3) := by decide +kernel
theorem dX6_scan_147 : decode cX6_scan 147 = .ok (.ifCond .ne 5, 3) := by decide +kernel
theorem dX6_scan_150 : decode cX6_scan 150 = .ok (.iconst 0, 1) := by decide +kernel
theorem dX6_scan_151 : decode cX6_scan 151 = .ok (.ireturn, 1) := by decide +kernel
theorem dX6_scan_152 : decode cX6_scan 152 = .ok (.aload_n 0, 1) := by decide +kernel
theorem dX6_scan_153 : decode cX6_scan 153 = .ok (.dup, 1) := by decide +kernel
theorem dX6_scan_154 : decode cX6_scan 154 = .ok (.getfield 30, 3) := by decide +kernel
theorem dX6_scan_157 : decode cX6_scan 157 = .ok (.iload_n 1, 1) := by decide +kernel
theorem dX6_scan_158 : decode cX6_scan 158 = .ok (.aload_n 0, 1) := by decide +kernel
theorem dX6_scan_159 : decode cX6_scan 159 = .ok (.getfield 27, 3) := by decide +kernel
theorem dX6_scan_162 : decode cX6_scan 162 = .ok (.isub, 1) := by decide +kernel
theorem dX6_scan_163 : decode cX6_scan 163 = .ok (.iadd, 1) := by decide +kernel
theorem dX6_scan_164 : decode cX6_scan 164 = .ok (.putfield 30, 3) := by decide +kernel
theorem dX6_scan_167 : decode cX6_scan 167 = .ok (.aload_n 0, 1) := by decide +kernel
theorem dX6_scan_168 : decode cX6_scan 168 = .ok (.getfield 24, 3) := by decide +kernel
theorem dX6_scan_171 : decode cX6_scan 171 = .ok (.aload_n 0, 1) := by decide +kernel
theorem dX6_scan_172 : decode cX6_scan 172 = .ok (.getfield 20, 3) := by decide +kernel
theorem dX6_scan_175 : decode cX6_scan 175 = .ok (.if_icmp .ne 7, 3) := by decide +kernel
theorem dX6_scan_178 : decode cX6_scan 178 = .ok (.iconst 1, 1) := by decide +kernel
theorem dX6_scan_179 : decode cX6_scan 179 = .ok (.goto 4, 3) := by decide +kernel
theorem dX6_scan_182 : decode cX6_scan 182 = .ok (.iconst 0, 1) := by decide +kernel
theorem dX6_scan_183 : decode cX6_scan 183 = .ok (.ireturn, 1) := by decide +kernel
theorem dX6_scanDigits_0 : decode cX6_scanDigits 0 = .ok (.aload_n 0, 1) := by decide +kernel
theorem dX6_scanDigits_1 : decode cX6_scanDigits 1 = .ok (.getfield 24, 3) := by decide +kernel
theorem dX6_scanDigits_4 : decode cX6_scanDigits 4 = .ok (.istore_n 1, 1) := by decide +kernel
theorem dX6_scanDigits_5 : decode cX6_scanDigits 5 = .ok (.aload_n 0, 1) := by decide +kernel
theorem dX6_scanDigits_6 : decode cX6_scanDigits 6 = .ok (.getfield 24, 3) := by decide +kernel
theorem dX6_scanDigits_9 : decode cX6_scanDigits 9 = .ok (.istore_n 2, 1) := by decide +kernel
theorem dX6_scanDigits_10 : decode cX6_scanDigits 10 = .ok (.iload_n 2, 1) := by decide +kernel
theorem dX6_scanDigits_11 : decode cX6_scanDigits 11 = .ok (.aload_n 0, 1) := by decide +kernel
theorem dX6_scanDigits_12 : decode cX6_scanDigits 12 = .ok (.getfield 20, 3) := by decide +kernel
theorem dX6_scanDigits_15 : decode cX6_scanDigits 15 = .ok (.if_icmp .ge 65, 3) := by decide +kernel
theorem dX6_scanDigits_18 : decode cX6_scanDigits 18 = .ok (.aload_n 0, 1) := by decide +kernel
theorem dX6_scanDigits_19 : decode cX6_scanDigits 19 = .ok (.invokevirtual 59, 3) := by decide +kernel
theorem dX6_scanDigits_22 : decode cX6_scanDigits 22 = .ok (.ifCond .eq 58, 3) := by decide +kernel
theorem dX6_scanDigits_25 : decode cX6_scanDigits 25 = .ok (.aload_n 0, 1) := by decide +kernel
theorem dX6_scanDigits_26 : decode cX6_scanDigits 26 = .ok (.getfield 27, 3) := by decide +kernel
theorem dX6_scanDigits_29 : decode cX6_scanDigits 29 = .ok (.bipush 60, 2) := by decide +kernel
theorem dX6_scanDigits_31 : decode cX6_scanDigits 31 = .ok (.if_icmp .ne 5, 3) := by decide +kernel
theorem dX6_scanDigits_34 : decode cX6_scanDigits 34 = .ok (.iconst 0, 1) := by decide +kernel
theorem dX6_scanDigits_35 : decode cX6_scanDigits 35 = .ok (.ireturn, 1) := by decide +kernel
theorem dX6_scanDigits_36 : decode cX6_scanDigits 36 = .ok (.aload_n 0, 1) := by decide +kernel
theorem dX6_scanDigits_37 : decode cX6_scanDigits 37 = .ok (.getfield 16, 3) := by decide +kernel
theorem dX6_scanDigits_40 : decode cX6_scanDigits 40 = .ok (.ldc2_w 62, 3) := by decide +kernel
theorem dX6_scanDigits_43 : decode cX6_scanDigits 43 = .ok (.aload_n 0, 1) := by decide +kernel
theorem dX6_scanDigits_44 : decode cX6_scanDigits 44 = .ok (.invokevirtual 37, 3) := by decide +kernel
theorem dX6_scanDigits_47 : decode cX6_scanDigits 47 = .ok (.bipush 48, 2) := by decide +kernel
theorem dX6_scanDigits_49 : decode cX6_scanDigits 49 = .ok (.isub, 1) := by decide +kernel
theorem dX6_scanDigits_50 : decode cX6_scanDigits 50 = .ok (.i2l, 1) := by decide +kernel
theorem dX6_scanDigits_51 : decode cX6_scanDigits 51 = .ok (.invokevirtual 64, 3) := by decide +kernel
theorem dX6_scanDigits_54 : decode cX6_scanDigits 54 = .ok (.aload_n 0, 1) := by decide +kernel
theorem dX6_scanDigits_55 : decode cX6_scanDigits 55 = .ok (.dup, 1) := by decide +kernel
theorem dX6_scanDigits_56 : decode cX6_scanDigits 56 = .ok (.getfield 27, 3) := by decide +kernel
theorem dX6_scanDigits_59 : decode cX6_scanDigits 59 = .ok (.iconst 1, 1) := by decide +kernel
theorem dX6_scanDigits_60 : decode cX6_scanDigits 60 = .ok (.iadd, 1) := by decide +kernel
theorem dX6_scanDigits_61 : decode cX6_scanDigits 61 = .ok (.putfield 27, 3) := by decide +kernel
theorem dX6_scanDigits_64 : decode cX6_scanDigits 64 = .ok (.aload_n 0, 1) := by decide +kernel
theorem dX6_scanDigits_65 : decode cX6_scanDigits 65 = .ok (.dup, 1) := by decide +kernel
theorem dX6_scanDigits_66 : decode cX6_scanDigits 66 = .ok (.getfield 24, 3) := by decide +kernel
theorem dX6_scanDigits_69 : decode cX6_scanDigits 69 = .ok (.iconst 1, 1) := by decide +kernel
theorem dX6_scanDigits_70 : decode cX6_scanDigits 70 = .ok (.iadd, 1) := by decide +kernel
theorem dX6_scanDigits_71 : decode cX6_scanDigits 71 = .ok (.putfield 24, 3) := by decide +kernel
theorem dX6_scanDigits_74 : decode cX6_scanDigits 74 = .ok (.iinc 2 1, 3) := by decide +kernel
theorem dX6_scanDigits_77 : decode cX6_scanDigits 77 = .ok (.goto (-67), 3) := by decide +kernel
theorem dX6_scanDigits_80 : decode cX6_scanDigits 80 = .ok (.aload_n 0, 1) := by decide +kernel
theorem dX6_scanDigits_81 : decode cX6_scanDigits 81 = .ok (.getfield 24, 3) := by decide +kernel
theorem dX6_scanDigits_84 : decode cX6_scanDigits 84 = .ok (.iload_n 1, 1) := by decide +kernel
theorem dX6_scanDigits_85 : decode cX6_scanDigits 85 = .ok (.if_icmp .le 7, 3) := by decide +kernel
theorem dX6_scanDigits_88 : decode cX6_scanDigits 88 = .ok (.iconst 1, 1) := by decide +kernel
theorem dX6_scanDigits_89 : decode cX6_scanDigits 89 = .ok (.goto 4, 3) := by decide +kernel
theorem dX6_scanDigits_92 : decode cX6_scanDigits 92 = .ok (.iconst 0, 1) := by decide +kernel
theorem dX6_scanDigits_93 : decode cX6_scanDigits 93 = .ok (.ireturn, 1) := by decide +kernel
theorem dX6_scanPower_0 : decode cX6_scanPower 0 = .ok (.aload_n 0, 1) := by decide +kernel
theorem dX6_scanPower_1 : decode cX6_scanPower 1 = .ok (.bipush 45, 2) := by decide +kernel
theorem dX6_scanPower_3 : decode cX6_scanPower 3 = .ok (.invokevirtual 45, 3) := by decide +kernel
theorem dX6_scanPower_6 : decode cX6_scanPower 6 = .ok (.istore_n 1, 1) := by decide +kernel
theorem dX6_scanPower_7 : decode cX6_scanPower 7 = .ok (.iload_n 1, 1) := by decide +kernel
theorem dX6_scanPower_8 : decode cX6_scanPower 8 = .ok (.ifCond .ne 10, 3) := by decide +kernel
theorem dX6_scanPower_11 : decode cX6_scanPower 11 = .ok (.aload_n 0, 1) := by decide +kernel
theorem dX6_scanPower_12 : decode cX6_scanPower 12 = .ok (.bipush 43, 2) := by decide +kernel
theorem dX6_scanPower_14 : decode cX6_scanPower 14 = .ok (.invokevirtual 45, 3) := by decide +kernel
theorem dX6_scanPower_17 : decode cX6_scanPower 17 = .ok (.pop, 1) := by decide +kernel
theorem dX6_scanPower_18 : decode cX6_scanPower 18 = .ok (.aload_n 0, 1) := by decide +kernel
theorem dX6_scanPower_19 : decode cX6_scanPower 19 = .ok (.getfield 24, 3) := by decide +kernel
theorem dX6_scanPower_22 : decode cX6_scanPower 22 = .ok (.istore_n 2, 1) := by decide +kernel
theorem dX6_scanPower_23 : decode cX6_scanPower 23 = .ok (.iconst 0, 1) := by decide +kernel
theorem dX6_scanPower_24 : decode cX6_scanPower 24 = .ok (.istore_n 3, 1) := by decide +kernel
theorem dX6_scanPower_25 : decode cX6_scanPower 25 = .ok (.iload_n 3, 1) := by decide +kernel
theorem dX6_scanPower_26 : decode cX6_scanPower 26 = .ok (.iconst 3, 1) := by decide +kernel
theorem dX6_scanPower_27 : decode cX6_scanPower 27 = .ok (.if_icmp .ge 45, 3) := by decide +kernel
theorem dX6_scanPower_30 : decode cX6_scanPower 30 = .ok (.aload_n 0, 1) := by decide +kernel
theorem dX6_scanPower_31 : decode cX6_scanPower 31 = .ok (.invokevirtual 59, 3) := by decide +kernel
theorem dX6_scanPower_34 : decode cX6_scanPower 34 = .ok (.ifCond .eq 38, 3) := by decide +kernel
theorem dX6_scanPower_37 : decode cX6_scanPower 37 = .ok (.aload_n 0, 1) := by decide +kernel
theorem dX6_scanPower_38 : decode cX6_scanPower 38 = .ok (.bipush 10, 2) := by decide +kernel
theorem dX6_scanPower_40 : decode cX6_scanPower 40 = .ok (.aload_n 0, 1) := by decide +kernel
theorem dX6_scanPower_41 : decode cX6_scanPower 41 = .ok (.getfield 30, 3) := by decide +kernel
theorem dX6_scanPower_44 : decode cX6_scanPower 44 = .ok (.imul, 1) := by decide +kernel
theorem dX6_scanPower_45 : decode cX6_scanPower 45 = .ok (.aload_n 0, 1) := by decide +kernel
theorem dX6_scanPower_46 : decode cX6_scanPower 46 = .ok (.invokevirtual 37, 3) := by decide +kernel
theorem dX6_scanPower_49 : decode cX6_scanPower 49 = .ok (.iadd, 1) := by decide +kernel
theorem dX6_scanPower_50 : decode cX6_scanPower 50 = .ok (.bipush 48, 2) := by decide +kernel
theorem dX6_scanPower_52 : decode cX6_scanPower 52 = .ok (.isub, 1) := by decide +kernel
theorem dX6_scanPower_53 : decode cX6_scanPower 53 = .ok (.putfield 30, 3) := by decide +kernel
theorem dX6_scanPower_56 : decode cX6_scanPower 56 = .ok (.aload_n 0, 1) := by decide +kernel
theorem dX6_scanPower_57 : decode cX6_scanPower 57 = .ok (.dup, 1) := by decide +kernel
theorem dX6_scanPower_58 : decode cX6_scanPower 58 = .ok (.getfield 24, 3) := by decide +kernel
theorem dX6_scanPower_61 : decode cX6_scanPower 61 = .ok (.iconst 1, 1) := by decide +kernel
theorem dX6_scanPower_62 : decode cX6_scanPower 62 = .ok (.iadd, 1) := by decide +kernel
theorem dX6_scanPower_63 : decode cX6_scanPower 63 = .ok (.putfield 24, 3) := by decide +kernel
theorem dX6_scanPower_66 : decode cX6_scanPower 66 = .ok (.iinc 3 1, 3) := by decide +kernel
theorem dX6_scanPower_69 : decode cX6_scanPower 69 = .ok (.goto (-44), 3) := by decide +kernel
theorem dX6_scanPower_72 : decode cX6_scanPower 72 = .ok (.aload_n 0, 1) := by decide +kernel
theorem dX6_scanPower_73 : decode cX6_scanPower 73 = .ok (.iload_n 1, 1) := by decide +kernel
theorem dX6_scanPower_74 : decode cX6_scanPower 74 = .ok (.ifCond .eq 11, 3) := by decide +kernel
theorem dX6_scanPower_77 : decode cX6_scanPower 77 = .ok (.aload_n 0, 1) := by decide +kernel
theorem dX6_scanPower_78 : decode cX6_scanPower 78 = .ok (.getfield 30, 3) := by decide +kernel
theorem dX6_scanPower_81 : decode cX6_scanPower 81 = .ok (.ineg, 1) := by decide +kernel
theorem dX6_scanPower_82 : decode cX6_scanPower 82 = .ok (.goto 7, 3) := by decide +kernel
theorem dX6_scanPower_85 : decode cX6_scanPower 85 = .ok (.aload_n 0, 1) := by decide +kernel
theorem dX6_scanPower_86 : decode cX6_scanPower 86 = .ok (.getfield 30, 3) := by decide +kernel
theorem dX6_scanPower_89 : decode cX6_scanPower 89 = .ok (.putfield 30, 3) := by decide +kernel
theorem dX6_scanPower_92 : decode cX6_scanPower 92 = .ok (.aload_n 0, 1) := by decide +kernel
theorem dX6_scanPower_93 : decode cX6_scanPower 93 = .ok (.getfield 24, 3) := by decide +kernel
theorem dX6_scanPower_96 : decode cX6_scanPower 96 = .ok (.iload_n 2, 1) := by decide +kernel
theorem dX6_scanPower_97 : decode cX6_scanPower 97 = .ok (.if_icmp .le 7, 3) := by decide +kernel
theorem dX6_scanPower_100 : decode cX6_scanPower 100 = .ok (.iconst 1, 1) := by decide +kernel
theorem dX6_scanPower_101 : decode cX6_scanPower 101 = .ok (.goto 4, 3) := by decide +kernel
theorem dX6_scanPower_104 : decode cX6_scanPower 104 = .ok (.iconst 0, 1) := by decide +kernel
theorem dX6_scanPower_105 : decode cX6_scanPower 105 = .ok (.ireturn, 1) := by decide +kernel
theorem dX6_pass_0 : decode cX6_pass 0 = .ok (.aload_n 0, 1) := by decide +kernel
theorem dX6_pass_1 : decode cX6_pass 1 = .ok (.invokevirtual 37, 3) := by decide +kernel
theorem dX6_pass_4 : decode cX6_pass 4 = .ok (.iload_n 1, 1) := by decide +kernel
theorem dX6_pass_5 : decode cX6_pass 5 = .ok (.if_icmp .ne 7, 3) := by decide +kernel
theorem dX6_pass_8 : decode cX6_pass 8 = .ok (.iconst 1, 1) := by decide +kernel
theorem dX6_pass_9 : decode cX6_pass 9 = .ok (.goto 4, 3) := by decide +kernel
theorem dX6_pass_12 : decode cX6_pass 12 = .ok (.iconst 0, 1) := by decide +kernel
theorem dX6_pass_13 : decode cX6_pass 13 = .ok (.istore_n 2, 1) := by decide +kernel
theorem dX6_pass_14 : decode cX6_pass 14 = .ok (.aload_n 0, 1) := by decide +kernel
theorem dX6_pass_15 : decode cX6_pass 15 = .ok (.dup, 1) := by decide +kernel
theorem dX6_pass_16 : decode cX6_pass 16 = .ok (.getfield 24, 3) := by decide +kernel
theorem dX6_pass_19 : decode cX6_pass 19 = .ok (.iload_n 2, 1) := by decide +kernel
theorem dX6_pass_20 : decode cX6_pass 20 = .ok (.ifCond .eq 7, 3) := by decide +kernel
theorem dX6_pass_23 : decode cX6_pass 23 = .ok (.iconst 1, 1) := by decide +kernel
theorem dX6_pass_24 : decode cX6_pass 24 = .ok (.goto 4, 3) := by decide +kernel
theorem dX6_pass_27 : decode cX6_pass 27 = .ok (.iconst 0, 1) := by decide +kernel
theorem dX6_pass_28 : decode cX6_pass 28 = .ok (.iadd, 1) := by decide +kernel
theorem dX6_pass_29 : decode cX6_pass 29 = .ok (.putfield 24, 3) := by decide +kernel
theorem dX6_pass_32 : decode cX6_pass 32 = .ok (.iload_n 2, 1) := by decide +kernel
theorem dX6_pass_33 : decode cX6_pass 33 = .ok (.ireturn, 1) := by decide +kernel
theorem dX6_isDigit_0 : decode cX6_isDigit 0 = .ok (.aload_n 0, 1) := by decide +kernel
theorem dX6_isDigit_1 : decode cX6_isDigit 1 = .ok (.invokevirtual 37, 3) := by decide +kernel
theorem dX6_isDigit_4 : decode cX6_isDigit 4 = .ok (.bipush 48, 2) := by decide +kernel
theorem dX6_isDigit_6 : decode cX6_isDigit 6 = .ok (.if_icmp .lt 16, 3) := by decide +kernel
theorem dX6_isDigit_9 : decode cX6_isDigit 9 = .ok (.aload_n 0, 1) := by decide +kernel
theorem dX6_isDigit_10 : decode cX6_isDigit 10 = .ok (.invokevirtual 37, 3) := by decide +kernel
theorem dX6_isDigit_13 : decode cX6_isDigit 13 = .ok (.bipush 57, 2) := by decide +kernel
theorem dX6_isDigit_15 : decode cX6_isDigit 15 = .ok (.if_icmp .gt 7, 3) := by decide +kernel
theorem dX6_isDigit_18 : decode cX6_isDigit 18 = .ok (.iconst 1, 1) := by decide +kernel
theorem dX6_isDigit_19 : decode cX6_isDigit 19 = .ok (.goto 4, 3) := by decide +kernel
theorem dX6_isDigit_22 : decode cX6_isDigit 22 = .ok (.iconst 0, 1) := by decide +kernel
theorem dX6_isDigit_23 : decode cX6_isDigit 23 = .ok (.ireturn, 1) := by decide +kernel
theorem dX6_here_0 : decode cX6_here 0 = .ok (.aload_n 0, 1) := by decide +kernel
theorem dX6_here_1 : decode cX6_here 1 = .ok (.getfield 24, 3) := by decide +kernel
theorem dX6_here_4 : decode cX6_here 4 = .ok (.ifCond .lt 35, 3) := by decide +kernel
theorem dX6_here_7 : decode cX6_here 7 = .ok (.aload_n 0, 1) := by decide +kernel
theorem dX6_here_8 : decode cX6_here 8 = .ok (.getfield 24, 3) := by decide +kernel
theorem dX6_here_11 : decode cX6_here 11 = .ok (.aload_n 0, 1) := by decide +kernel
theorem dX6_here_12 : decode cX6_here 12 = .ok (.getfield 20, 3) := by decide +kernel
theorem dX6_here_15 : decode cX6_here 15 = .ok (.if_icmp .ge 24, 3) := by decide +kernel
theorem dX6_here_18 : decode cX6_here 18 = .ok (.aload_n 0, 1) := by decide +kernel
theorem dX6_here_19 : decode cX6_here 19 = .ok (.getfield 24, 3) := by decide +kernel
theorem dX6_here_22 : decode cX6_here 22 = .ok (.bipush 80, 2) := by decide +kernel
theorem dX6_here_24 : decode cX6_here 24 = .ok (.if_icmp .ge 15, 3) := by decide +kernel
theorem dX6_here_27 : decode cX6_here 27 = .ok (.aload_n 0, 1) := by decide +kernel
theorem dX6_here_28 : decode cX6_here 28 = .ok (.getfield 9, 3) := by decide +kernel
theorem dX6_here_31 : decode cX6_here 31 = .ok (.aload_n 0, 1) := by decide +kernel
theorem dX6_here_32 : decode cX6_here 32 = .ok (.getfield 24, 3) := by decide +kernel
theorem dX6_here_35 : decode cX6_here 35 = .ok (.iaload, 1) := by decide +kernel
theorem dX6_here_36 : decode cX6_here 36 = .ok (.goto 4, 3) := by decide +kernel
theorem dX6_here_39 : decode cX6_here 39 = .ok (.iconst (-1), 1) := by decide +kernel
theorem dX6_here_40 : decode cX6_here 40 = .ok (.ireturn, 1) := by decide +kernel
theorem dJ6_numberOfLeadingZeros_0f7a4_0 : decode cJ6_numberOfLeadingZeros_0f7a4 0 = .ok (.iload_n 0, 1) := by decide +kernel
theorem dJ6_numberOfLeadingZeros_0f7a4_1 : decode cJ6_numberOfLeadingZeros_0f7a4 1 = .ok (.ifCond .gt 14, 3) := by decide +kernel
theorem dJ6_numberOfLeadingZeros_0f7a4_4 : decode cJ6_numberOfLeadingZeros_0f7a4 4 = .ok (.iload_n 0, 1) := by decide +kernel
theorem dJ6_numberOfLeadingZeros_0f7a4_5 : decode cJ6_numberOfLeadingZeros_0f7a4 5 = .ok (.ifCond .ne 8, 3) := by decide +kernel
theorem dJ6_numberOfLeadingZeros_0f7a4_8 : decode cJ6_numberOfLeadingZeros_0f7a4 8 = .ok (.bipush 32, 2) := by decide +kernel
theorem dJ6_numberOfLeadingZeros_0f7a4_10 : decode cJ6_numberOfLeadingZeros_0f7a4 10 = .ok (.goto 4, 3) := by decide +kernel
theorem dJ6_numberOfLeadingZeros_0f7a4_13 : decode cJ6_numberOfLeadingZeros_0f7a4 13 = .ok (.iconst 0, 1) := by decide +kernel
theorem dJ6_numberOfLeadingZeros_0f7a4_14 : decode cJ6_numberOfLeadingZeros_0f7a4 14 = .ok (.ireturn, 1) := by decide +kernel
theorem dJ6_numberOfLeadingZeros_0f7a4_15 : decode cJ6_numberOfLeadingZeros_0f7a4 15 = .ok (.bipush 31, 2) := by decide +kernel
theorem dJ6_numberOfLeadingZeros_0f7a4_17 : decode cJ6_numberOfLeadingZeros_0f7a4 17 = .ok (.istore_n 1, 1) := by decide +kernel
theorem dJ6_numberOfLeadingZeros_0f7a4_18 : decode cJ6_numberOfLeadingZeros_0f7a4 18 = .ok (.iload_n 0, 1) := by decide +kernel
theorem dJ6_numberOfLeadingZeros_0f7a4_19 : decode cJ6_numberOfLeadingZeros_0f7a4 19 = .ok (.ldc_w 264, 3) := by decide +kernel
theorem dJ6_numberOfLeadingZeros_0f7a4_22 : decode cJ6_numberOfLeadingZeros_0f7a4 22 = .ok (.if_icmp .lt 11, 3) := by decide +kernel
theorem dJ6_numberOfLeadingZeros_0f7a4_25 : decode cJ6_numberOfLeadingZeros_0f7a4 25 = .ok (.iinc 1 (-16), 3) := by decide +kernel
theorem dJ6_numberOfLeadingZeros_0f7a4_28 : decode cJ6_numberOfLeadingZeros_0f7a4 28 = .ok (.iload_n 0, 1) := by decide +kernel
theorem dJ6_numberOfLeadingZeros_0f7a4_29 : decode cJ6_numberOfLeadingZeros_0f7a4 29 = .ok (.bipush 16, 2) := by decide +kernel
theorem dJ6_numberOfLeadingZeros_0f7a4_31 : decode cJ6_numberOfLeadingZeros_0f7a4 31 = .ok (.iushr, 1) := by decide +kernel
theorem dJ6_numberOfLeadingZeros_0f7a4_32 : decode cJ6_numberOfLeadingZeros_0f7a4 32 = .ok (.istore_n 0, 1) := by decide +kernel
theorem dJ6_numberOfLeadingZeros_0f7a4_33 : decode cJ6_numberOfLeadingZeros_0f7a4 33 = .ok (.iload_n 0, 1) := by decide +kernel
theorem dJ6_numberOfLeadingZeros_0f7a4_34 : decode cJ6_numberOfLeadingZeros_0f7a4 34 = .ok (.sipush 256, 3) := by decide +kernel
theorem dJ6_numberOfLeadingZeros_0f7a4_37 : decode cJ6_numberOfLeadingZeros_0f7a4 37 = .ok (.if_icmp .lt 11, 3) := by decide +kernel
theorem dJ6_numberOfLeadingZeros_0f7a4_40 : decode cJ6_numberOfLeadingZeros_0f7a4 40 = .ok (.iinc 1 (-8), 3) := by decide +kernel
theorem dJ6_numberOfLeadingZeros_0f7a4_43 : decode cJ6_numberOfLeadingZeros_0f7a4 43 = .ok (.iload_n 0, 1) := by decide +kernel
theorem dJ6_numberOfLeadingZeros_0f7a4_44 : decode cJ6_numberOfLeadingZeros_0f7a4 44 = .ok (.bipush 8, 2) := by decide +kernel
theorem dJ6_numberOfLeadingZeros_0f7a4_46 : decode cJ6_numberOfLeadingZeros_0f7a4 46 = .ok (.iushr, 1) := by decide +kernel
theorem dJ6_numberOfLeadingZeros_0f7a4_47 : decode cJ6_numberOfLeadingZeros_0f7a4 47 = .ok (.istore_n 0, 1) := by decide +kernel
theorem dJ6_numberOfLeadingZeros_0f7a4_48 : decode cJ6_numberOfLeadingZeros_0f7a4 48 = .ok (.iload_n 0, 1) := by decide +kernel
theorem dJ6_numberOfLeadingZeros_0f7a4_49 : decode cJ6_numberOfLeadingZeros_0f7a4 49 = .ok (.bipush 16, 2) := by decide +kernel
theorem dJ6_numberOfLeadingZeros_0f7a4_51 : decode cJ6_numberOfLeadingZeros_0f7a4 51 = .ok (.if_icmp .lt 10, 3) := by decide +kernel
theorem dJ6_numberOfLeadingZeros_0f7a4_54 : decode cJ6_numberOfLeadingZeros_0f7a4 54 = .ok (.iinc 1 (-4), 3) := by decide +kernel
theorem dJ6_numberOfLeadingZeros_0f7a4_57 : decode cJ6_numberOfLeadingZeros_0f7a4 57 = .ok (.iload_n 0, 1) := by decide +kernel
theorem dJ6_numberOfLeadingZeros_0f7a4_58 : decode cJ6_numberOfLeadingZeros_0f7a4 58 = .ok (.iconst 4, 1) := by decide +kernel
theorem dJ6_numberOfLeadingZeros_0f7a4_59 : decode cJ6_numberOfLeadingZeros_0f7a4 59 = .ok (.iushr, 1) := by decide +kernel
theorem dJ6_numberOfLeadingZeros_0f7a4_60 : decode cJ6_numberOfLeadingZeros_0f7a4 60 = .ok (.istore_n 0, 1) := by decide +kernel
theorem dJ6_numberOfLeadingZeros_0f7a4_61 : decode cJ6_numberOfLeadingZeros_0f7a4 61 = .ok (.iload_n 0, 1) := by decide +kernel
theorem dJ6_numberOfLeadingZeros_0f7a4_62 : decode cJ6_numberOfLeadingZeros_0f7a4 62 = .ok (.iconst 4, 1) := by decide +kernel
theorem dJ6_numberOfLeadingZeros_0f7a4_63 : decode cJ6_numberOfLeadingZeros_0f7a4 63 = .ok (.if_icmp .lt 10, 3) := by decide +kernel
theorem dJ6_numberOfLeadingZeros_0f7a4_66 : decode cJ6_numberOfLeadingZeros_0f7a4 66 = .ok (.iinc 1 (-2), 3) := by decide +kernel
theorem dJ6_numberOfLeadingZeros_0f7a4_69 : decode cJ6_numberOfLeadingZeros_0f7a4 69 = .ok (.iload_n 0, 1) := by decide +kernel
theorem dJ6_numberOfLeadingZeros_0f7a4_70 : decode cJ6_numberOfLeadingZeros_0f7a4 70 = .ok (.iconst 2, 1) := by decide +kernel
theorem dJ6_numberOfLeadingZeros_0f7a4_71 : decode cJ6_numberOfLeadingZeros_0f7a4 71 = .ok (.iushr, 1) := by decide +kernel
theorem dJ6_numberOfLeadingZeros_0f7a4_72 : decode cJ6_numberOfLeadingZeros_0f7a4 72 = .ok (.istore_n 0, 1) := by decide +kernel
theorem dJ6_numberOfLeadingZeros_0f7a4_73 : decode cJ6_numberOfLeadingZeros_0f7a4 73 = .ok (.iload_n 1, 1) := by decide +kernel
theorem dJ6_numberOfLeadingZeros_0f7a4_74 : decode cJ6_numberOfLeadingZeros_0f7a4 74 = .ok (.iload_n 0, 1) := by decide +kernel
theorem dJ6_numberOfLeadingZeros_0f7a4_75 : decode cJ6_numberOfLeadingZeros_0f7a4 75 = .ok (.iconst 1, 1) := by decide +kernel
theorem dJ6_numberOfLeadingZeros_0f7a4_76 : decode cJ6_numberOfLeadingZeros_0f7a4 76 = .ok (.iushr, 1) := by decide +kernel
theorem dJ6_numberOfLeadingZeros_0f7a4_77 : decode cJ6_numberOfLeadingZeros_0f7a4 77 = .ok (.isub, 1) := by decide +kernel
theorem dJ6_numberOfLeadingZeros_0f7a4_78 : decode cJ6_numberOfLeadingZeros_0f7a4 78 = .ok (.ireturn, 1) := by decide +kernel
theorem dJ6_numberOfTrailingZeros_0f7a4_0 : decode cJ6_numberOfTrailingZeros_0f7a4 0 = .ok (.iload_n 0, 1) := by decide +kernel
theorem dJ6_numberOfTrailingZeros_0f7a4_1 : decode cJ6_numberOfTrailingZeros_0f7a4 1 = .ok (.iconst (-1), 1) := by decide +kernel
theorem dJ6_numberOfTrailingZeros_0f7a4_2 : decode cJ6_numberOfTrailingZeros_0f7a4 2 = .ok (.ixor, 1) := by decide +kernel
theorem dJ6_numberOfTrailingZeros_0f7a4_3 : decode cJ6_numberOfTrailingZeros_0f7a4 3 = .ok (.iload_n 0, 1) := by decide +kernel
theorem dJ6_numberOfTrailingZeros_0f7a4_4 : decode cJ6_numberOfTrailingZeros_0f7a4 4 = .ok (.iconst 1, 1) := by decide +kernel
theorem dJ6_numberOfTrailingZeros_0f7a4_5 : decode cJ6_numberOfTrailingZeros_0f7a4 5 = .ok (.isub, 1) := by decide +kernel
theorem dJ6_numberOfTrailingZeros_0f7a4_6 : decode cJ6_numberOfTrailingZeros_0f7a4 6 = .ok (.iand, 1) := by decide +kernel
theorem dJ6_numberOfTrailingZeros_0f7a4_7 : decode cJ6_numberOfTrailingZeros_0f7a4 7 = .ok (.istore_n 0, 1) := by decide +kernel
theorem dJ6_numberOfTrailingZeros_0f7a4_8 : decode cJ6_numberOfTrailingZeros_0f7a4 8 = .ok (.iload_n 0, 1) := by decide +kernel
theorem dJ6_numberOfTrailingZeros_0f7a4_9 : decode cJ6_numberOfTrailingZeros_0f7a4 9 = .ok (.ifCond .gt 8, 3) := by decide +kernel
theorem dJ6_numberOfTrailingZeros_0f7a4_12 : decode cJ6_numberOfTrailingZeros_0f7a4 12 = .ok (.iload_n 0, 1) := by decide +kernel
theorem dJ6_numberOfTrailingZeros_0f7a4_13 : decode cJ6_numberOfTrailingZeros_0f7a4 13 = .ok (.bipush 32, 2) := by decide +kernel
theorem dJ6_numberOfTrailingZeros_0f7a4_15 : decode cJ6_numberOfTrailingZeros_0f7a4 15 = .ok (.iand, 1) := by decide +kernel
theorem dJ6_numberOfTrailingZeros_0f7a4_16 : decode cJ6_numberOfTrailingZeros_0f7a4 16 = .ok (.ireturn, 1) := by decide +kernel
theorem dJ6_numberOfTrailingZeros_0f7a4_17 : decode cJ6_numberOfTrailingZeros_0f7a4 17 = .ok (.iconst 1, 1) := by decide +kernel
theorem dJ6_numberOfTrailingZeros_0f7a4_18 : decode cJ6_numberOfTrailingZeros_0f7a4 18 = .ok (.istore_n 1, 1) := by decide +kernel
theorem dJ6_numberOfTrailingZeros_0f7a4_19 : decode cJ6_numberOfTrailingZeros_0f7a4 19 = .ok (.iload_n 0, 1) := by decide +kernel
theorem dJ6_numberOfTrailingZeros_0f7a4_20 : decode cJ6_numberOfTrailingZeros_0f7a4 20 = .ok (.ldc_w 264, 3) := by decide +kernel
theorem dJ6_numberOfTrailingZeros_0f7a4_23 : decode cJ6_numberOfTrailingZeros_0f7a4 23 = .ok (.if_icmp .le 11, 3) := by decide +kernel
theorem dJ6_numberOfTrailingZeros_0f7a4_26 : decode cJ6_numberOfTrailingZeros_0f7a4 26 = .ok (.iinc 1 16, 3) := by decide +kernel
theorem dJ6_numberOfTrailingZeros_0f7a4_29 : decode cJ6_numberOfTrailingZeros_0f7a4 29 = .ok (.iload_n 0, 1) := by decide +kernel
theorem dJ6_numberOfTrailingZeros_0f7a4_30 : decode cJ6_numberOfTrailingZeros_0f7a4 30 = .ok (.bipush 16, 2) := by decide +kernel
theorem dJ6_numberOfTrailingZeros_0f7a4_32 : decode cJ6_numberOfTrailingZeros_0f7a4 32 = .ok (.iushr, 1) := by decide +kernel
theorem dJ6_numberOfTrailingZeros_0f7a4_33 : decode cJ6_numberOfTrailingZeros_0f7a4 33 = .ok (.istore_n 0, 1) := by decide +kernel
theorem dJ6_numberOfTrailingZeros_0f7a4_34 : decode cJ6_numberOfTrailingZeros_0f7a4 34 = .ok (.iload_n 0, 1) := by decide +kernel
theorem dJ6_numberOfTrailingZeros_0f7a4_35 : decode cJ6_numberOfTrailingZeros_0f7a4 35 = .ok (.sipush 256, 3) := by decide +kernel
theorem dJ6_numberOfTrailingZeros_0f7a4_38 : decode cJ6_numberOfTrailingZeros_0f7a4 38 = .ok (.if_icmp .le 11, 3) := by decide +kernel
theorem dJ6_numberOfTrailingZeros_0f7a4_41 : decode cJ6_numberOfTrailingZeros_0f7a4 41 = .ok (.iinc 1 8, 3) := by decide +kernel
theorem dJ6_numberOfTrailingZeros_0f7a4_44 : decode cJ6_numberOfTrailingZeros_0f7a4 44 = .ok (.iload_n 0, 1) := by decide +kernel
theorem dJ6_numberOfTrailingZeros_0f7a4_45 : decode cJ6_numberOfTrailingZeros_0f7a4 45 = .ok (.bipush 8, 2) := by decide +kernel
theorem dJ6_numberOfTrailingZeros_0f7a4_47 : decode cJ6_numberOfTrailingZeros_0f7a4 47 = .ok (.iushr, 1) := by decide +kernel
theorem dJ6_numberOfTrailingZeros_0f7a4_48 : decode cJ6_numberOfTrailingZeros_0f7a4 48 = .ok (.istore_n 0, 1) := by decide +kernel
theorem dJ6_numberOfTrailingZeros_0f7a4_49 : decode cJ6_numberOfTrailingZeros_0f7a4 49 = .ok (.iload_n 0, 1) := by decide +kernel
theorem dJ6_numberOfTrailingZeros_0f7a4_50 : decode cJ6_numberOfTrailingZeros_0f7a4 50 = .ok (.bipush 16, 2) := by decide +kernel
theorem dJ6_numberOfTrailingZeros_0f7a4_52 : decode cJ6_numberOfTrailingZeros_0f7a4 52 = .ok (.if_icmp .le 10, 3) := by decide +kernel
theorem dJ6_numberOfTrailingZeros_0f7a4_55 : decode cJ6_numberOfTrailingZeros_0f7a4 55 = .ok (.iinc 1 4, 3) := by decide +kernel
theorem dJ6_numberOfTrailingZeros_0f7a4_58 : decode cJ6_numberOfTrailingZeros_0f7a4 58 = .ok (.iload_n 0, 1) := by decide +kernel
theorem dJ6_numberOfTrailingZeros_0f7a4_59 : decode cJ6_numberOfTrailingZeros_0f7a4 59 = .ok (.iconst 4, 1) := by decide +kernel
theorem dJ6_numberOfTrailingZeros_0f7a4_60 : decode cJ6_numberOfTrailingZeros_0f7a4 60 = .ok (.iushr, 1) := by decide +kernel
theorem dJ6_numberOfTrailingZeros_0f7a4_61 : decode cJ6_numberOfTrailingZeros_0f7a4 61 = .ok (.istore_n 0, 1) := by decide +kernel
theorem dJ6_numberOfTrailingZeros_0f7a4_62 : decode cJ6_numberOfTrailingZeros_0f7a4 62 = .ok (.iload_n 0, 1) := by decide +kernel
theorem dJ6_numberOfTrailingZeros_0f7a4_63 : decode cJ6_numberOfTrailingZeros_0f7a4 63 = .ok (.iconst 4, 1) := by decide +kernel
theorem dJ6_numberOfTrailingZeros_0f7a4_64 : decode cJ6_numberOfTrailingZeros_0f7a4 64 = .ok (.if_icmp .le 10, 3) := by decide +kernel
theorem dJ6_numberOfTrailingZeros_0f7a4_67 : decode cJ6_numberOfTrailingZeros_0f7a4 67 = .ok (.iinc 1 2, 3) := by decide +kernel
theorem dJ6_numberOfTrailingZeros_0f7a4_70 : decode cJ6_numberOfTrailingZeros_0f7a4 70 = .ok (.iload_n 0, 1) := by decide +kernel
theorem dJ6_numberOfTrailingZeros_0f7a4_71 : decode cJ6_numberOfTrailingZeros_0f7a4 71 = .ok (.iconst 2, 1) := by decide +kernel
theorem dJ6_numberOfTrailingZeros_0f7a4_72 : decode cJ6_numberOfTrailingZeros_0f7a4 72 = .ok (.iushr, 1) := by decide +kernel
theorem dJ6_numberOfTrailingZeros_0f7a4_73 : decode cJ6_numberOfTrailingZeros_0f7a4 73 = .ok (.istore_n 0, 1) := by decide +kernel
theorem dJ6_numberOfTrailingZeros_0f7a4_74 : decode cJ6_numberOfTrailingZeros_0f7a4 74 = .ok (.iload_n 1, 1) := by decide +kernel
theorem dJ6_numberOfTrailingZeros_0f7a4_75 : decode cJ6_numberOfTrailingZeros_0f7a4 75 = .ok (.iload_n 0, 1) := by decide +kernel
theorem dJ6_numberOfTrailingZeros_0f7a4_76 : decode cJ6_numberOfTrailingZeros_0f7a4 76 = .ok (.iconst 1, 1) := by decide +kernel
theorem dJ6_numberOfTrailingZeros_0f7a4_77 : decode cJ6_numberOfTrailingZeros_0f7a4 77 = .ok (.iushr, 1) := by decide +kernel
theorem dJ6_numberOfTrailingZeros_0f7a4_78 : decode cJ6_numberOfTrailingZeros_0f7a4 78 = .ok (.iadd, 1) := by decide +kernel
theorem dJ6_numberOfTrailingZeros_0f7a4_79 : decode cJ6_numberOfTrailingZeros_0f7a4 79 = .ok (.ireturn, 1) := by decide +kernel
theorem dJ6_bitCount_0f7a4_0 : decode cJ6_bitCount_0f7a4 0 = .ok (.iload_n 0, 1) := by decide +kernel
theorem dJ6_bitCount_0f7a4_1 : decode cJ6_bitCount_0f7a4 1 = .ok (.iload_n 0, 1) := by decide +kernel
theorem dJ6_bitCount_0f7a4_2 : decode cJ6_bitCount_0f7a4 2 = .ok (.iconst 1, 1) := by decide +kernel
theorem dJ6_bitCount_0f7a4_3 : decode cJ6_bitCount_0f7a4 3 = .ok (.iushr, 1) := by decide +kernel
theorem dJ6_bitCount_0f7a4_4 : decode cJ6_bitCount_0f7a4 4 = .ok (.ldc_w 265, 3) := by decide +kernel
theorem dJ6_bitCount_0f7a4_7 : decode cJ6_bitCount_0f7a4 7 = .ok (.iand, 1) := by decide +kernel
theorem dJ6_bitCount_0f7a4_8 : decode cJ6_bitCount_0f7a4 8 = .ok (.isub, 1) := by decide +kernel
theorem dJ6_bitCount_0f7a4_9 : decode cJ6_bitCount_0f7a4 9 = .ok (.istore_n 0, 1) := by decide +kernel
theorem dJ6_bitCount_0f7a4_10 : decode cJ6_bitCount_0f7a4 10 = .ok (.iload_n 0, 1) := by decide +kernel
theorem dJ6_bitCount_0f7a4_11 : decode cJ6_bitCount_0f7a4 11 = .ok (.ldc_w 266, 3) := by decide +kernel
theorem dJ6_bitCount_0f7a4_14 : decode cJ6_bitCount_0f7a4 14 = .ok (.iand, 1) := by decide +kernel
theorem dJ6_bitCount_0f7a4_15 : decode cJ6_bitCount_0f7a4 15 = .ok (.iload_n 0, 1) := by decide +kernel
theorem dJ6_bitCount_0f7a4_16 : decode cJ6_bitCount_0f7a4 16 = .ok (.iconst 2, 1) := by decide +kernel
theorem dJ6_bitCount_0f7a4_17 : decode cJ6_bitCount_0f7a4 17 = .ok (.iushr, 1) := by decide +kernel
theorem dJ6_bitCount_0f7a4_18 : decode cJ6_bitCount_0f7a4 18 = .ok (.ldc_w 266, 3) := by decide +kernel
theorem dJ6_bitCount_0f7a4_21 : decode cJ6_bitCount_0f7a4 21 = .ok (.iand, 1) := by decide +kernel
theorem dJ6_bitCount_0f7a4_22 : decode cJ6_bitCount_0f7a4 22 = .ok (.iadd, 1) := by decide +kernel
theorem dJ6_bitCount_0f7a4_23 : decode cJ6_bitCount_0f7a4 23 = .ok (.istore_n 0, 1) := by decide +kernel
theorem dJ6_bitCount_0f7a4_24 : decode cJ6_bitCount_0f7a4 24 = .ok (.iload_n 0, 1) := by decide +kernel
theorem dJ6_bitCount_0f7a4_25 : decode cJ6_bitCount_0f7a4 25 = .ok (.iload_n 0, 1) := by decide +kernel
theorem dJ6_bitCount_0f7a4_26 : decode cJ6_bitCount_0f7a4 26 = .ok (.iconst 4, 1) := by decide +kernel
theorem dJ6_bitCount_0f7a4_27 : decode cJ6_bitCount_0f7a4 27 = .ok (.iushr, 1) := by decide +kernel
theorem dJ6_bitCount_0f7a4_28 : decode cJ6_bitCount_0f7a4 28 = .ok (.iadd, 1) := by decide +kernel
theorem dJ6_bitCount_0f7a4_29 : decode cJ6_bitCount_0f7a4 29 = .ok (.ldc_w 267, 3) := by decide +kernel
theorem dJ6_bitCount_0f7a4_32 : decode cJ6_bitCount_0f7a4 32 = .ok (.iand, 1) := by decide +kernel
theorem dJ6_bitCount_0f7a4_33 : decode cJ6_bitCount_0f7a4 33 = .ok (.istore_n 0, 1) := by decide +kernel
theorem dJ6_bitCount_0f7a4_34 : decode cJ6_bitCount_0f7a4 34 = .ok (.iload_n 0, 1) := by decide +kernel
theorem dJ6_bitCount_0f7a4_35 : decode cJ6_bitCount_0f7a4 35 = .ok (.iload_n 0, 1) := by decide +kernel
theorem dJ6_bitCount_0f7a4_36 : decode cJ6_bitCount_0f7a4 36 = .ok (.bipush 8, 2) := by decide +kernel
theorem dJ6_bitCount_0f7a4_38 : decode cJ6_bitCount_0f7a4 38 = .ok (.iushr, 1) := by decide +kernel
theorem dJ6_bitCount_0f7a4_39 : decode cJ6_bitCount_0f7a4 39 = .ok (.iadd, 1) := by decide +kernel
theorem dJ6_bitCount_0f7a4_40 : decode cJ6_bitCount_0f7a4 40 = .ok (.istore_n 0, 1) := by decide +kernel
theorem dJ6_bitCount_0f7a4_41 : decode cJ6_bitCount_0f7a4 41 = .ok (.iload_n 0, 1) := by decide +kernel
theorem dJ6_bitCount_0f7a4_42 : decode cJ6_bitCount_0f7a4 42 = .ok (.iload_n 0, 1) := by decide +kernel
theorem dJ6_bitCount_0f7a4_43 : decode cJ6_bitCount_0f7a4 43 = .ok (.bipush 16, 2) := by decide +kernel
theorem dJ6_bitCount_0f7a4_45 : decode cJ6_bitCount_0f7a4 45 = .ok (.iushr, 1) := by decide +kernel
theorem dJ6_bitCount_0f7a4_46 : decode cJ6_bitCount_0f7a4 46 = .ok (.iadd, 1) := by decide +kernel
theorem dJ6_bitCount_0f7a4_47 : decode cJ6_bitCount_0f7a4 47 = .ok (.istore_n 0, 1) := by decide +kernel
theorem dJ6_bitCount_0f7a4_48 : decode cJ6_bitCount_0f7a4 48 = .ok (.iload_n 0, 1) := by decide +kernel
theorem dJ6_bitCount_0f7a4_49 : decode cJ6_bitCount_0f7a4 49 = .ok (.bipush 63, 2) := by decide +kernel
theorem dJ6_bitCount_0f7a4_51 : decode cJ6_bitCount_0f7a4 51 = .ok (.iand, 1) := by decide +kernel
theorem dJ6_bitCount_0f7a4_52 : decode cJ6_bitCount_0f7a4 52 = .ok (.ireturn, 1) := by decide +kernel
theorem dJ13_compare_74951_0 : decode cJ13_compare_74951 0 = .ok (.lload_n 0, 1) := by decide +kernel
theorem dJ13_compare_74951_1 : decode cJ13_compare_74951 1 = .ok (.lload_n 2, 1) := by decide +kernel
theorem dJ13_compare_74951_2 : decode cJ13_compare_74951 2 = .ok (.lcmp, 1) := by decide +kernel
theorem dJ13_compare_74951_3 : decode cJ13_compare_74951 3 = .ok (.ifCond .ge 7, 3) := by decide +kernel
theorem dJ13_compare_74951_6 : decode cJ13_compare_74951 6 = .ok (.iconst (-1), 1) := by decide +kernel
theorem dJ13_compare_74951_7 : decode cJ13_compare_74951 7 = .ok (.goto 14, 3) := by decide +kernel
theorem dJ13_compare_74951_10 : decode cJ13_compare_74951 10 = .ok (.lload_n 0, 1) := by decide +kernel
theorem dJ13_compare_74951_11 : decode cJ13_compare_74951 11 = .ok (.lload_n 2, 1) := by decide +kernel
theorem dJ13_compare_74951_12 : decode cJ13_compare_74951 12 = .ok (.lcmp, 1) := by decide +kernel
theorem dJ13_compare_74951_13 : decode cJ13_compare_74951 13 = .ok (.ifCond .ne 7, 3) := by decide +kernel
theorem dJ13_compare_74951_16 : decode cJ13_compare_74951 16 = .ok (.iconst 0, 1) := by decide +kernel
theorem dJ13_compare_74951_17 : decode cJ13_compare_74951 17 = .ok (.goto 4, 3) := by decide +kernel
theorem dJ13_compare_74951_20 : decode cJ13_compare_74951 20 = .ok (.iconst 1, 1) := by decide +kernel
theorem dJ13_compare_74951_21 : decode cJ13_compare_74951 21 = .ok (.ireturn, 1) := by decide +kernel
theorem dJ13_numberOfLeadingZeros_95d88_0 : decode cJ13_numberOfLeadingZeros_95d88 0 = .ok (.lload_n 0, 1) := by decide +kernel
theorem dJ13_numberOfLeadingZeros_95d88_1 : decode cJ13_numberOfLeadingZeros_95d88 1 = .ok (.bipush 32, 2) := by decide +kernel
theorem dJ13_numberOfLeadingZeros_95d88_3 : decode cJ13_numberOfLeadingZeros_95d88 3 = .ok (.lushr, 1) := by decide +kernel
theorem dJ13_numberOfLeadingZeros_95d88_4 : decode cJ13_numberOfLeadingZeros_95d88 4 = .ok (.l2i, 1) := by decide +kernel
theorem dJ13_numberOfLeadingZeros_95d88_5 : decode cJ13_numberOfLeadingZeros_95d88 5 = .ok (.istore_n 2, 1) := by decide +kernel
theorem dJ13_numberOfLeadingZeros_95d88_6 : decode cJ13_numberOfLeadingZeros_95d88 6 = .ok (.iload_n 2, 1) := by decide +kernel
theorem dJ13_numberOfLeadingZeros_95d88_7 : decode cJ13_numberOfLeadingZeros_95d88 7 = .ok (.ifCond .ne 14, 3) := by decide +kernel
theorem dJ13_numberOfLeadingZeros_95d88_10 : decode cJ13_numberOfLeadingZeros_95d88 10 = .ok (.bipush 32, 2) := by decide +kernel
theorem dJ13_numberOfLeadingZeros_95d88_12 : decode cJ13_numberOfLeadingZeros_95d88 12 = .ok (.lload_n 0, 1) := by decide +kernel
theorem dJ13_numberOfLeadingZeros_95d88_13 : decode cJ13_numberOfLeadingZeros_95d88 13 = .ok (.l2i, 1) := by decide +kernel
theorem dJ13_numberOfLeadingZeros_95d88_14 : decode cJ13_numberOfLeadingZeros_95d88 14 = .ok (.invokestatic 308, 3) := by decide +kernel
theorem dJ13_numberOfLeadingZeros_95d88_17 : decode cJ13_numberOfLeadingZeros_95d88 17 = .ok (.iadd, 1) := by decide +kernel
theorem dJ13_numberOfLeadingZeros_95d88_18 : decode cJ13_numberOfLeadingZeros_95d88 18 = .ok (.goto 7, 3) := by decide +kernel
theorem dJ13_numberOfLeadingZeros_95d88_21 : decode cJ13_numberOfLeadingZeros_95d88 21 = .ok (.iload_n 2, 1) := by decide +kernel
theorem dJ13_numberOfLeadingZeros_95d88_22 : decode cJ13_numberOfLeadingZeros_95d88 22 = .ok (.invokestatic 308, 3) := by decide +kernel
theorem dJ13_numberOfLeadingZeros_95d88_25 : decode cJ13_numberOfLeadingZeros_95d88 25 = .ok (.ireturn, 1) := by decide +kernel
theorem dJ13_numberOfTrailingZeros_95d88_0 : decode cJ13_numberOfTrailingZeros_95d88 0 = .ok (.lload_n 0, 1) := by decide +kernel
theorem dJ13_numberOfTrailingZeros_95d88_1 : decode cJ13_numberOfTrailingZeros_95d88 1 = .ok (.l2i, 1) := by decide +kernel
theorem dJ13_numberOfTrailingZeros_95d88_2 : decode cJ13_numberOfTrailingZeros_95d88 2 = .ok (.istore_n 2, 1) := by decide +kernel
theorem dJ13_numberOfTrailingZeros_95d88_3 : decode cJ13_numberOfTrailingZeros_95d88 3 = .ok (.iload_n 2, 1) := by decide +kernel
theorem dJ13_numberOfTrailingZeros_95d88_4 : decode cJ13_numberOfTrailingZeros_95d88 4 = .ok (.ifCond .ne 17, 3) := by decide +kernel
theorem dJ13_numberOfTrailingZeros_95d88_7 : decode cJ13_numberOfTrailingZeros_95d88 7 = .ok (.bipush 32, 2) := by decide +kernel
theorem dJ13_numberOfTrailingZeros_95d88_9 : decode cJ13_numberOfTrailingZeros_95d88 9 = .ok (.lload_n 0, 1) := by decide +kernel
theorem dJ13_numberOfTrailingZeros_95d88_10 : decode cJ13_numberOfTrailingZeros_95d88 10 = .ok (.bipush 32, 2) := by decide +kernel
theorem dJ13_numberOfTrailingZeros_95d88_12 : decode cJ13_numberOfTrailingZeros_95d88 12 = .ok (.lushr, 1) := by decide +kernel
theorem dJ13_numberOfTrailingZeros_95d88_13 : decode cJ13_numberOfTrailingZeros_95d88 13 = .ok (.l2i, 1) := by decide +kernel
theorem dJ13_numberOfTrailingZeros_95d88_14 : decode cJ13_numberOfTrailingZeros_95d88 14 = .ok (.invokestatic 311, 3) := by decide +kernel
theorem dJ13_numberOfTrailingZeros_95d88_17 : decode cJ13_numberOfTrailingZeros_95d88 17 = .ok (.iadd, 1) := by decide +kernel
theorem dJ13_numberOfTrailingZeros_95d88_18 : decode cJ13_numberOfTrailingZeros_95d88 18 = .ok (.goto 7, 3) := by decide +kernel
theorem dJ13_numberOfTrailingZeros_95d88_21 : decode cJ13_numberOfTrailingZeros_95d88 21 = .ok (.iload_n 2, 1) := by decide +kernel
theorem dJ13_numberOfTrailingZeros_95d88_22 : decode cJ13_numberOfTrailingZeros_95d88 22 = .ok (.invokestatic 311, 3) := by decide +kernel
theorem dJ13_numberOfTrailingZeros_95d88_25 : decode cJ13_numberOfTrailingZeros_95d88 25 = .ok (.ireturn, 1) := by decide +kernel
theorem dJ9_floorDiv_7cf53_0 : decode cJ9_floorDiv_7cf53 0 = .ok (.iload_n 0, 1) := by decide +kernel
theorem dJ9_floorDiv_7cf53_1 : decode cJ9_floorDiv_7cf53 1 = .ok (.iload_n 1, 1) := by decide +kernel
theorem dJ9_floorDiv_7cf53_2 : decode cJ9_floorDiv_7cf53 2 = .ok (.idiv, 1) := by decide +kernel
theorem dJ9_floorDiv_7cf53_3 : decode cJ9_floorDiv_7cf53 3 = .ok (.istore_n 2, 1) := by decide +kernel
theorem dJ9_floorDiv_7cf53_4 : decode cJ9_floorDiv_7cf53 4 = .ok (.iload_n 0, 1) := by decide +kernel
theorem dJ9_floorDiv_7cf53_5 : decode cJ9_floorDiv_7cf53 5 = .ok (.iload_n 1, 1) := by decide +kernel
theorem dJ9_floorDiv_7cf53_6 : decode cJ9_floorDiv_7cf53 6 = .ok (.ixor, 1) := by decide +kernel
theorem dJ9_floorDiv_7cf53_7 : decode cJ9_floorDiv_7cf53 7 = .ok (.ifCond .ge 14, 3) := by decide +kernel
theorem dJ9_floorDiv_7cf53_10 : decode cJ9_floorDiv_7cf53 10 = .ok (.iload_n 2, 1) := by decide +kernel
theorem dJ9_floorDiv_7cf53_11 : decode cJ9_floorDiv_7cf53 11 = .ok (.iload_n 1, 1) := by decide +kernel
theorem dJ9_floorDiv_7cf53_12 : decode cJ9_floorDiv_7cf53 12 = .ok (.imul, 1) := by decide +kernel
theorem dJ9_floorDiv_7cf53_13 : decode cJ9_floorDiv_7cf53 13 = .ok (.iload_n 0, 1) := by decide +kernel
theorem dJ9_floorDiv_7cf53_14 : decode cJ9_floorDiv_7cf53 14 = .ok (.if_icmp .eq 7, 3) := by decide +kernel
theorem dJ9_floorDiv_7cf53_17 : decode cJ9_floorDiv_7cf53 17 = .ok (.iload_n 2, 1) := by decide +kernel
theorem dJ9_floorDiv_7cf53_18 : decode cJ9_floorDiv_7cf53 18 = .ok (.iconst 1, 1) := by decide +kernel
theorem dJ9_floorDiv_7cf53_19 : decode cJ9_floorDiv_7cf53 19 = .ok (.isub, 1) := by decide +kernel
theorem dJ9_floorDiv_7cf53_20 : decode cJ9_floorDiv_7cf53 20 = .ok (.ireturn, 1) := by decide +kernel
theorem dJ9_floorDiv_7cf53_21 : decode cJ9_floorDiv_7cf53 21 = .ok (.iload_n 2, 1) := by decide +kernel
theorem dJ9_floorDiv_7cf53_22 : decode cJ9_floorDiv_7cf53 22 = .ok (.ireturn, 1) := by decide +kernel
theorem dJ9_abs_0f7a4_0 : decode cJ9_abs_0f7a4 0 = .ok (.iload_n 0, 1) := by decide +kernel
theorem dJ9_abs_0f7a4_1 : decode cJ9_abs_0f7a4 1 = .ok (.ifCond .ge 8, 3) := by decide +kernel
theorem dJ9_abs_0f7a4_4 : decode cJ9_abs_0f7a4 4 = .ok (.iload_n 0, 1) := by decide +kernel
theorem dJ9_abs_0f7a4_5 : decode cJ9_abs_0f7a4 5 = .ok (.ineg, 1) := by decide +kernel
theorem dJ9_abs_0f7a4_6 : decode cJ9_abs_0f7a4 6 = .ok (.goto 4, 3) := by decide +kernel
theorem dJ9_abs_0f7a4_9 : decode cJ9_abs_0f7a4 9 = .ok (.iload_n 0, 1) := by decide +kernel
theorem dJ9_abs_0f7a4_10 : decode cJ9_abs_0f7a4 10 = .ok (.ireturn, 1) := by decide +kernel
theorem dJ9_max_7cf53_0 : decode cJ9_max_7cf53 0 = .ok (.iload_n 0, 1) := by decide +kernel
theorem dJ9_max_7cf53_1 : decode cJ9_max_7cf53 1 = .ok (.iload_n 1, 1) := by decide +kernel
theorem dJ9_max_7cf53_2 : decode cJ9_max_7cf53 2 = .ok (.if_icmp .lt 7, 3) := by decide +kernel
theorem dJ9_max_7cf53_5 : decode cJ9_max_7cf53 5 = .ok (.iload_n 0, 1) := by decide +kernel
theorem dJ9_max_7cf53_6 : decode cJ9_max_7cf53 6 = .ok (.goto 4, 3) := by decide +kernel
theorem dJ9_max_7cf53_9 : decode cJ9_max_7cf53 9 = .ok (.iload_n 1, 1) := by decide +kernel
theorem dJ9_max_7cf53_10 : decode cJ9_max_7cf53 10 = .ok (.ireturn, 1) := by decide +kernel
theorem dJ9_min_7cf53_0 : decode cJ9_min_7cf53 0 = .ok (.iload_n 0, 1) := by decide +kernel
theorem dJ9_min_7cf53_1 : decode cJ9_min_7cf53 1 = .ok (.iload_n 1, 1) := by decide +kernel
theorem dJ9_min_7cf53_2 : decode cJ9_min_7cf53 2 = .ok (.if_icmp .gt 7, 3) := by decide +kernel
theorem dJ9_min_7cf53_5 : decode cJ9_min_7cf53 5 = .ok (.iload_n 0, 1) := by decide +kernel
theorem dJ9_min_7cf53_6 : decode cJ9_min_7cf53 6 = .ok (.goto 4, 3) := by decide +kernel
theorem dJ9_min_7cf53_9 : decode cJ9_min_7cf53 9 = .ok (.iload_n 1, 1) := by decide +kernel
theorem dJ9_min_7cf53_10 : decode cJ9_min_7cf53 10 = .ok (.ireturn, 1) := by decide +kernel
