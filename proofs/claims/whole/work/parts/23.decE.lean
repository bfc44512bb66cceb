theorem dX9_init_0 : decode cX9_init 0 = .ok (.aload_n 0, 1) := by decide +kernel
theorem dX9_init_1 : decode cX9_init 1 = .ok (.invokespecial 3, 3) := by decide +kernel
theorem dX9_init_4 : decode cX9_init 4 = .ok (.aload_n 0, 1) := by decide +kernel
theorem dX9_init_5 : decode cX9_init 5 = .ok (.sipush 420, 3) := by decide +kernel
theorem dX9_init_8 : decode cX9_init 8 = .ok (.newarray .int, 2) := by decide +kernel
theorem dX9_init_10 : decode cX9_init 10 = .ok (.putfield 9, 3) := by decide +kernel
theorem dX9_init_13 : decode cX9_init 13 = .ok (.return_, 1) := by decide +kernel
theorem dX9_set_0 : decode cX9_set 0 = .ok (.aload_n 0, 1) := by decide +kernel
theorem dX9_set_1 : decode cX9_set 1 = .ok (.iconst 0, 1) := by decide +kernel
theorem dX9_set_2 : decode cX9_set 2 = .ok (.putfield 15, 3) := by decide +kernel
theorem dX9_set_5 : decode cX9_set 5 = .ok (.lload_n 1, 1) := by decide +kernel
theorem dX9_set_6 : decode cX9_set 6 = .ok (.lstore_n 3, 1) := by decide +kernel
theorem dX9_set_7 : decode cX9_set 7 = .ok (.lload_n 3, 1) := by decide +kernel
theorem dX9_set_8 : decode cX9_set 8 = .ok (.lconst 0, 1) := by decide +kernel
theorem dX9_set_9 : decode cX9_set 9 = .ok (.lcmp, 1) := by decide +kernel
theorem dX9_set_10 : decode cX9_set 10 = .ok (.ifCond .eq 36, 3) := by decide +kernel
theorem dX9_set_13 : decode cX9_set 13 = .ok (.aload_n 0, 1) := by decide +kernel
theorem dX9_set_14 : decode cX9_set 14 = .ok (.getfield 9, 3) := by decide +kernel
theorem dX9_set_17 : decode cX9_set 17 = .ok (.aload_n 0, 1) := by decide +kernel
theorem dX9_set_18 : decode cX9_set 18 = .ok (.getfield 15, 3) := by decide +kernel
theorem dX9_set_21 : decode cX9_set 21 = .ok (.lload_n 3, 1) := by decide +kernel
theorem dX9_set_22 : decode cX9_set 22 = .ok (.ldc2_w 19, 3) := by decide +kernel
theorem dX9_set_25 : decode cX9_set 25 = .ok (.land, 1) := by decide +kernel
theorem dX9_set_26 : decode cX9_set 26 = .ok (.l2i, 1) := by decide +kernel
theorem dX9_set_27 : decode cX9_set 27 = .ok (.iastore, 1) := by decide +kernel
theorem dX9_set_28 : decode cX9_set 28 = .ok (.aload_n 0, 1) := by decide +kernel
theorem dX9_set_29 : decode cX9_set 29 = .ok (.dup, 1) := by decide +kernel
theorem dX9_set_30 : decode cX9_set 30 = .ok (.getfield 15, 3) := by decide +kernel
theorem dX9_set_33 : decode cX9_set 33 = .ok (.iconst 1, 1) := by decide +kernel
theorem dX9_set_34 : decode cX9_set 34 = .ok (.iadd, 1) := by decide +kernel
theorem dX9_set_35 : decode cX9_set 35 = .ok (.putfield 15, 3) := by decide +kernel
theorem dX9_set_38 : decode cX9_set 38 = .ok (.lload_n 3, 1) := by decide +kernel
theorem dX9_set_39 : decode cX9_set 39 = .ok (.bipush 30, 2) := by decide +kernel
theorem dX9_set_41 : decode cX9_set 41 = .ok (.lushr, 1) := by decide +kernel
theorem dX9_set_42 : decode cX9_set 42 = .ok (.lstore_n 3, 1) := by decide +kernel
theorem dX9_set_43 : decode cX9_set 43 = .ok (.goto (-36), 3) := by decide +kernel
theorem dX9_set_46 : decode cX9_set 46 = .ok (.return_, 1) := by decide +kernel
theorem dX9_copy_0 : decode cX9_copy 0 = .ok (.aload_n 0, 1) := by decide +kernel
theorem dX9_copy_1 : decode cX9_copy 1 = .ok (.aload_n 1, 1) := by decide +kernel
theorem dX9_copy_2 : decode cX9_copy 2 = .ok (.getfield 15, 3) := by decide +kernel
theorem dX9_copy_5 : decode cX9_copy 5 = .ok (.putfield 15, 3) := by decide +kernel
theorem dX9_copy_8 : decode cX9_copy 8 = .ok (.iconst 0, 1) := by decide +kernel
theorem dX9_copy_9 : decode cX9_copy 9 = .ok (.istore_n 2, 1) := by decide +kernel
theorem dX9_copy_10 : decode cX9_copy 10 = .ok (.iload_n 2, 1) := by decide +kernel
theorem dX9_copy_11 : decode cX9_copy 11 = .ok (.aload_n 0, 1) := by decide +kernel
theorem dX9_copy_12 : decode cX9_copy 12 = .ok (.getfield 15, 3) := by decide +kernel
theorem dX9_copy_15 : decode cX9_copy 15 = .ok (.if_icmp .ge 21, 3) := by decide +kernel
theorem dX9_copy_18 : decode cX9_copy 18 = .ok (.aload_n 0, 1) := by decide +kernel
theorem dX9_copy_19 : decode cX9_copy 19 = .ok (.getfield 9, 3) := by decide +kernel
theorem dX9_copy_22 : decode cX9_copy 22 = .ok (.iload_n 2, 1) := by decide +kernel
theorem dX9_copy_23 : decode cX9_copy 23 = .ok (.aload_n 1, 1) := by decide +kernel
theorem dX9_copy_24 : decode cX9_copy 24 = .ok (.getfield 9, 3) := by decide +kernel
theorem dX9_copy_27 : decode cX9_copy 27 = .ok (.iload_n 2, 1) := by decide +kernel
theorem dX9_copy_28 : decode cX9_copy 28 = .ok (.iaload, 1) := by decide +kernel
theorem dX9_copy_29 : decode cX9_copy 29 = .ok (.iastore, 1) := by decide +kernel
theorem dX9_copy_30 : decode cX9_copy 30 = .ok (.iinc 2 1, 3) := by decide +kernel
theorem dX9_copy_33 : decode cX9_copy 33 = .ok (.goto (-23), 3) := by decide +kernel
theorem dX9_copy_36 : decode cX9_copy 36 = .ok (.return_, 1) := by decide +kernel
theorem dX9_bits_0 : decode cX9_bits 0 = .ok (.aload_n 0, 1) := by decide +kernel
theorem dX9_bits_1 : decode cX9_bits 1 = .ok (.getfield 15, 3) := by decide +kernel
theorem dX9_bits_4 : decode cX9_bits 4 = .ok (.ifCond .ne 7, 3) := by decide +kernel
theorem dX9_bits_7 : decode cX9_bits 7 = .ok (.iconst 0, 1) := by decide +kernel
theorem dX9_bits_8 : decode cX9_bits 8 = .ok (.goto 27, 3) := by decide +kernel
theorem dX9_bits_11 : decode cX9_bits 11 = .ok (.bipush 30, 2) := by decide +kernel
theorem dX9_bits_13 : decode cX9_bits 13 = .ok (.aload_n 0, 1) := by decide +kernel
theorem dX9_bits_14 : decode cX9_bits 14 = .ok (.getfield 15, 3) := by decide +kernel
theorem dX9_bits_17 : decode cX9_bits 17 = .ok (.imul, 1) := by decide +kernel
theorem dX9_bits_18 : decode cX9_bits 18 = .ok (.aload_n 0, 1) := by decide +kernel
theorem dX9_bits_19 : decode cX9_bits 19 = .ok (.getfield 9, 3) := by decide +kernel
theorem dX9_bits_22 : decode cX9_bits 22 = .ok (.aload_n 0, 1) := by decide +kernel
theorem dX9_bits_23 : decode cX9_bits 23 = .ok (.getfield 15, 3) := by decide +kernel
theorem dX9_bits_26 : decode cX9_bits 26 = .ok (.iconst 1, 1) := by decide +kernel
theorem dX9_bits_27 : decode cX9_bits 27 = .ok (.isub, 1) := by decide +kernel
theorem dX9_bits_28 : decode cX9_bits 28 = .ok (.iaload, 1) := by decide +kernel
theorem dX9_bits_29 : decode cX9_bits 29 = .ok (.invokestatic 21, 3) := by decide +kernel
theorem dX9_bits_32 : decode cX9_bits 32 = .ok (.iconst 2, 1) := by decide +kernel
theorem dX9_bits_33 : decode cX9_bits 33 = .ok (.isub, 1) := by decide +kernel
theorem dX9_bits_34 : decode cX9_bits 34 = .ok (.isub, 1) := by decide +kernel
theorem dX9_bits_35 : decode cX9_bits 35 = .ok (.ireturn, 1) := by decide +kernel
theorem dX9_compare_0 : decode cX9_compare 0 = .ok (.aload_n 0, 1) := by decide +kernel
theorem dX9_compare_1 : decode cX9_compare 1 = .ok (.getfield 15, 3) := by decide +kernel
theorem dX9_compare_4 : decode cX9_compare 4 = .ok (.aload_n 1, 1) := by decide +kernel
theorem dX9_compare_5 : decode cX9_compare 5 = .ok (.getfield 15, 3) := by decide +kernel
theorem dX9_compare_8 : decode cX9_compare 8 = .ok (.if_icmp .eq 20, 3) := by decide +kernel
theorem dX9_compare_11 : decode cX9_compare 11 = .ok (.aload_n 0, 1) := by decide +kernel
theorem dX9_compare_12 : decode cX9_compare 12 = .ok (.getfield 15, 3) := by decide +kernel
theorem dX9_compare_15 : decode cX9_compare 15 = .ok (.aload_n 1, 1) := by decide +kernel
theorem dX9_compare_16 : decode cX9_compare 16 = .ok (.getfield 15, 3) := by decide +kernel
theorem dX9_compare_19 : decode cX9_compare 19 = .ok (.if_icmp .ge 7, 3) := by decide +kernel
theorem dX9_compare_22 : decode cX9_compare 22 = .ok (.iconst (-1), 1) := by decide +kernel
theorem dX9_compare_23 : decode cX9_compare 23 = .ok (.goto 4, 3) := by decide +kernel
theorem dX9_compare_26 : decode cX9_compare 26 = .ok (.iconst 1, 1) := by decide +kernel
theorem dX9_compare_27 : decode cX9_compare 27 = .ok (.ireturn, 1) := by decide +kernel
theorem dX9_compare_28 : decode cX9_compare 28 = .ok (.aload_n 0, 1) := by decide +kernel
theorem dX9_compare_29 : decode cX9_compare 29 = .ok (.getfield 15, 3) := by decide +kernel
theorem dX9_compare_32 : decode cX9_compare 32 = .ok (.iconst 1, 1) := by decide +kernel
theorem dX9_compare_33 : decode cX9_compare 33 = .ok (.isub, 1) := by decide +kernel
theorem dX9_compare_34 : decode cX9_compare 34 = .ok (.istore_n 2, 1) := by decide +kernel
theorem dX9_compare_35 : decode cX9_compare 35 = .ok (.iload_n 2, 1) := by decide +kernel
theorem dX9_compare_36 : decode cX9_compare 36 = .ok (.ifCond .lt 45, 3) := by decide +kernel
theorem dX9_compare_39 : decode cX9_compare 39 = .ok (.aload_n 0, 1) := by decide +kernel
theorem dX9_compare_40 : decode cX9_compare 40 = .ok (.getfield 9, 3) := by decide +kernel
theorem dX9_compare_43 : decode cX9_compare 43 = .ok (.iload_n 2, 1) := by decide +kernel
theorem dX9_compare_44 : decode cX9_compare 44 = .ok (.iaload, 1) := by decide +kernel
theorem dX9_compare_45 : decode cX9_compare 45 = .ok (.aload_n 1, 1) := by decide +kernel
theorem dX9_compare_46 : decode cX9_compare 46 = .ok (.getfield 9, 3) := by decide +kernel
theorem dX9_compare_49 : decode cX9_compare 49 = .ok (.iload_n 2, 1) := by decide +kernel
theorem dX9_compare_50 : decode cX9_compare 50 = .ok (.iaload, 1) := by decide +kernel
theorem dX9_compare_51 : decode cX9_compare 51 = .ok (.if_icmp .eq 24, 3) := by decide +kernel
theorem dX9_compare_54 : decode cX9_compare 54 = .ok (.aload_n 0, 1) := by decide +kernel
theorem dX9_compare_55 : decode cX9_compare 55 = .ok (.getfield 9, 3) := by decide +kernel
theorem dX9_compare_58 : decode cX9_compare 58 = .ok (.iload_n 2, 1) := by decide +kernel
theorem dX9_compare_59 : decode cX9_compare 59 = .ok (.iaload, 1) := by decide +kernel
theorem dX9_compare_60 : decode cX9_compare 60 = .ok (.aload_n 1, 1) := by decide +kernel
theorem dX9_compare_61 : decode cX9_compare 61 = .ok (.getfield 9, 3) := by decide +kernel
theorem dX9_compare_64 : decode cX9_compare 64 = .ok (.iload_n 2, 1) := by decide +kernel
theorem dX9_compare_65 : decode cX9_compare 65 = .ok (.iaload, 1) := by decide +kernel
theorem dX9_compare_66 : decode cX9_compare 66 = .ok (.if_icmp .ge 7, 3) := by decide +kernel
theorem dX9_compare_69 : decode cX9_compare 69 = .ok (.iconst (-1), 1) := by decide +kernel
theorem dX9_compare_70 : decode cX9_compare 70 = .ok (.goto 4, 3) := by decide +kernel
theorem dX9_compare_73 : decode cX9_compare 73 = .ok (.iconst 1, 1) := by decide +kernel
theorem dX9_compare_74 : decode cX9_compare 74 = .ok (.ireturn, 1) := by decide +kernel
theorem dX9_compare_75 : decode cX9_compare 75 = .ok (.iinc 2 (-1), 3) := by decide +kernel
theorem dX9_compare_78 : decode cX9_compare 78 = .ok (.goto (-43), 3) := by decide +kernel
theorem dX9_compare_81 : decode cX9_compare 81 = .ok (.iconst 0, 1) := by decide +kernel
theorem dX9_compare_82 : decode cX9_compare 82 = .ok (.ireturn, 1) := by decide +kernel
theorem dX9_trim_0 : decode cX9_trim 0 = .ok (.aload_n 0, 1) := by decide +kernel
theorem dX9_trim_1 : decode cX9_trim 1 = .ok (.iload_n 1, 1) := by decide +kernel
theorem dX9_trim_2 : decode cX9_trim 2 = .ok (.putfield 15, 3) := by decide +kernel
theorem dX9_trim_5 : decode cX9_trim 5 = .ok (.aload_n 0, 1) := by decide +kernel
theorem dX9_trim_6 : decode cX9_trim 6 = .ok (.getfield 15, 3) := by decide +kernel
theorem dX9_trim_9 : decode cX9_trim 9 = .ok (.ifCond .le 30, 3) := by decide +kernel
theorem dX9_trim_12 : decode cX9_trim 12 = .ok (.aload_n 0, 1) := by decide +kernel
theorem dX9_trim_13 : decode cX9_trim 13 = .ok (.getfield 9, 3) := by decide +kernel
theorem dX9_trim_16 : decode cX9_trim 16 = .ok (.aload_n 0, 1) := by decide +kernel
theorem dX9_trim_17 : decode cX9_trim 17 = .ok (.getfield 15, 3) := by decide +kernel
theorem dX9_trim_20 : decode cX9_trim 20 = .ok (.iconst 1, 1) := by decide +kernel
theorem dX9_trim_21 : decode cX9_trim 21 = .ok (.isub, 1) := by decide +kernel
theorem dX9_trim_22 : decode cX9_trim 22 = .ok (.iaload, 1) := by decide +kernel
theorem dX9_trim_23 : decode cX9_trim 23 = .ok (.ifCond .ne 16, 3) := by decide +kernel
theorem dX9_trim_26 : decode cX9_trim 26 = .ok (.aload_n 0, 1) := by decide +kernel
theorem dX9_trim_27 : decode cX9_trim 27 = .ok (.dup, 1) := by decide +kernel
theorem dX9_trim_28 : decode cX9_trim 28 = .ok (.getfield 15, 3) := by decide +kernel
theorem dX9_trim_31 : decode cX9_trim 31 = .ok (.iconst 1, 1) := by decide +kernel
theorem dX9_trim_32 : decode cX9_trim 32 = .ok (.isub, 1) := by decide +kernel
theorem dX9_trim_33 : decode cX9_trim 33 = .ok (.putfield 15, 3) := by decide +kernel
theorem dX9_trim_36 : decode cX9_trim 36 = .ok (.goto (-31), 3) := by decide +kernel
theorem dX9_trim_39 : decode cX9_trim 39 = .ok (.return_, 1) := by decide +kernel
theorem dX9_add_0 : decode cX9_add 0 = .ok (.aload_n 0, 1) := by decide +kernel
theorem dX9_add_1 : decode cX9_add 1 = .ok (.getfield 15, 3) := by decide +kernel
theorem dX9_add_4 : decode cX9_add 4 = .ok (.aload_n 1, 1) := by decide +kernel
theorem dX9_add_5 : decode cX9_add 5 = .ok (.getfield 15, 3) := by decide +kernel
theorem dX9_add_8 : decode cX9_add 8 = .ok (.invokestatic 27, 3) := by decide +kernel
theorem dX9_add_11 : decode cX9_add 11 = .ok (.istore_n 2, 1) := by decide +kernel
theorem dX9_add_12 : decode cX9_add 12 = .ok (.iconst 0, 1) := by decide +kernel
theorem dX9_add_13 : decode cX9_add 13 = .ok (.istore_n 3, 1) := by decide +kernel
theorem dX9_add_14 : decode cX9_add 14 = .ok (.iconst 0, 1) := by decide +kernel
theorem dX9_add_15 : decode cX9_add 15 = .ok (.istore 4, 2) := by decide +kernel
theorem dX9_add_17 : decode cX9_add 17 = .ok (.iload 4, 2) := by decide +kernel
theorem dX9_add_19 : decode cX9_add 19 = .ok (.iload_n 2, 1) := by decide +kernel
theorem dX9_add_20 : decode cX9_add 20 = .ok (.if_icmp .ge 79, 3) := by decide +kernel
theorem dX9_add_23 : decode cX9_add 23 = .ok (.iload_n 3, 1) := by decide +kernel
theorem dX9_add_24 : decode cX9_add 24 = .ok (.iload 4, 2) := by decide +kernel
theorem dX9_add_26 : decode cX9_add 26 = .ok (.aload_n 0, 1) := by decide +kernel
theorem dX9_add_27 : decode cX9_add 27 = .ok (.getfield 15, 3) := by decide +kernel
theorem dX9_add_30 : decode cX9_add 30 = .ok (.if_icmp .ge 13, 3) := by decide +kernel
theorem dX9_add_33 : decode cX9_add 33 = .ok (.aload_n 0, 1) := by decide +kernel
theorem dX9_add_34 : decode cX9_add 34 = .ok (.getfield 9, 3) := by decide +kernel
theorem dX9_add_37 : decode cX9_add 37 = .ok (.iload 4, 2) := by decide +kernel
theorem dX9_add_39 : decode cX9_add 39 = .ok (.iaload, 1) := by decide +kernel
theorem dX9_add_40 : decode cX9_add 40 = .ok (.goto 4, 3) := by decide +kernel
theorem dX9_add_43 : decode cX9_add 43 = .ok (.iconst 0, 1) := by decide +kernel
theorem dX9_add_44 : decode cX9_add 44 = .ok (.iadd, 1) := by decide +kernel
theorem dX9_add_45 : decode cX9_add 45 = .ok (.istore_n 3, 1) := by decide +kernel
theorem dX9_add_46 : decode cX9_add 46 = .ok (.iload_n 3, 1) := by decide +kernel
theorem dX9_add_47 : decode cX9_add 47 = .ok (.i2l, 1) := by decide +kernel
theorem dX9_add_48 : decode cX9_add 48 = .ok (.iload 4, 2) := by decide +kernel
theorem dX9_add_50 : decode cX9_add 50 = .ok (.aload_n 1, 1) := by decide +kernel
theorem dX9_add_51 : decode cX9_add 51 = .ok (.getfield 15, 3) := by decide +kernel
theorem dX9_add_54 : decode cX9_add 54 = .ok (.if_icmp .ge 13, 3) := by decide +kernel
theorem dX9_add_57 : decode cX9_add 57 = .ok (.aload_n 1, 1) := by decide +kernel
theorem dX9_add_58 : decode cX9_add 58 = .ok (.getfield 9, 3) := by decide +kernel
theorem dX9_add_61 : decode cX9_add 61 = .ok (.iload 4, 2) := by decide +kernel
theorem dX9_add_63 : decode cX9_add 63 = .ok (.iaload, 1) := by decide +kernel
theorem dX9_add_64 : decode cX9_add 64 = .ok (.goto 4, 3) := by decide +kernel
theorem dX9_add_67 : decode cX9_add 67 = .ok (.iconst 0, 1) := by decide +kernel
theorem dX9_add_68 : decode cX9_add 68 = .ok (.i2l, 1) := by decide +kernel
theorem dX9_add_69 : decode cX9_add 69 = .ok (.ladd, 1) := by decide +kernel
theorem dX9_add_70 : decode cX9_add 70 = .ok (.lstore 5, 2) := by decide +kernel
theorem dX9_add_72 : decode cX9_add 72 = .ok (.aload_n 0, 1) := by decide +kernel
theorem dX9_add_73 : decode cX9_add 73 = .ok (.getfield 9, 3) := by decide +kernel
theorem dX9_add_76 : decode cX9_add 76 = .ok (.iload 4, 2) := by decide +kernel
theorem dX9_add_78 : decode cX9_add 78 = .ok (.lload 5, 2) := by decide +kernel
theorem dX9_add_80 : decode cX9_add 80 = .ok (.ldc2_w 19, 3) := by decide +kernel
theorem dX9_add_83 : decode cX9_add 83 = .ok (.land, 1) := by decide +kernel
theorem dX9_add_84 : decode cX9_add 84 = .ok (.l2i, 1) := by decide +kernel
theorem dX9_add_85 : decode cX9_add 85 = .ok (.iastore, 1) := by decide +kernel
theorem dX9_add_86 : decode cX9_add 86 = .ok (.lload 5, 2) := by decide +kernel
theorem dX9_add_88 : decode cX9_add 88 = .ok (.bipush 30, 2) := by decide +kernel
theorem dX9_add_90 : decode cX9_add 90 = .ok (.lshr, 1) := by decide +kernel
theorem dX9_add_91 : decode cX9_add 91 = .ok (.l2i, 1) := by decide +kernel
theorem dX9_add_92 : decode cX9_add 92 = .ok (.istore_n 3, 1) := by decide +kernel
theorem dX9_add_93 : decode cX9_add 93 = .ok (.iinc 4 1, 3) := by decide +kernel
theorem dX9_add_96 : decode cX9_add 96 = .ok (.goto (-79), 3) := by decide +kernel
theorem dX9_add_99 : decode cX9_add 99 = .ok (.aload_n 0, 1) := by decide +kernel
theorem dX9_add_100 : decode cX9_add 100 = .ok (.getfield 9, 3) := by decide +kernel
theorem dX9_add_103 : decode cX9_add 103 = .ok (.iload_n 2, 1) := by decide +kernel
theorem dX9_add_104 : decode cX9_add 104 = .ok (.iload_n 3, 1) := by decide +kernel
theorem dX9_add_105 : decode cX9_add 105 = .ok (.iastore, 1) := by decide +kernel
theorem dX9_add_106 : decode cX9_add 106 = .ok (.aload_n 0, 1) := by decide +kernel
theorem dX9_add_107 : decode cX9_add 107 = .ok (.iload_n 2, 1) := by decide +kernel
theorem dX9_add_108 : decode cX9_add 108 = .ok (.iconst 1, 1) := by decide +kernel
theorem dX9_add_109 : decode cX9_add 109 = .ok (.iadd, 1) := by decide +kernel
theorem dX9_add_110 : decode cX9_add 110 = .ok (.invokevirtual 33, 3) := by decide +kernel
theorem dX9_add_113 : decode cX9_add 113 = .ok (.return_, 1) := by decide +kernel
theorem dX9_less_0 : decode cX9_less 0 = .ok (.iconst 0, 1) := by decide +kernel
theorem dX9_less_1 : decode cX9_less 1 = .ok (.istore_n 2, 1) := by decide +kernel
theorem dX9_less_2 : decode cX9_less 2 = .ok (.iconst 0, 1) := by decide +kernel
theorem dX9_less_3 : decode cX9_less 3 = .ok (.istore_n 3, 1) := by decide +kernel
theorem dX9_less_4 : decode cX9_less 4 = .ok (.iload_n 3, 1) := by decide +kernel
theorem dX9_less_5 : decode cX9_less 5 = .ok (.aload_n 0, 1) := by decide +kernel
theorem dX9_less_6 : decode cX9_less 6 = .ok (.getfield 15, 3) := by decide +kernel
theorem dX9_less_9 : decode cX9_less 9 = .ok (.if_icmp .ge 60, 3) := by decide +kernel
theorem dX9_less_12 : decode cX9_less 12 = .ok (.aload_n 0, 1) := by decide +kernel
theorem dX9_less_13 : decode cX9_less 13 = .ok (.getfield 9, 3) := by decide +kernel
theorem dX9_less_16 : decode cX9_less 16 = .ok (.iload_n 3, 1) := by decide +kernel
theorem dX9_less_17 : decode cX9_less 17 = .ok (.iaload, 1) := by decide +kernel
theorem dX9_less_18 : decode cX9_less 18 = .ok (.iload_n 2, 1) := by decide +kernel
theorem dX9_less_19 : decode cX9_less 19 = .ok (.isub, 1) := by decide +kernel
theorem dX9_less_20 : decode cX9_less 20 = .ok (.iload_n 3, 1) := by decide +kernel
theorem dX9_less_21 : decode cX9_less 21 = .ok (.aload_n 1, 1) := by decide +kernel
theorem dX9_less_22 : decode cX9_less 22 = .ok (.getfield 15, 3) := by decide +kernel
theorem dX9_less_25 : decode cX9_less 25 = .ok (.if_icmp .ge 12, 3) := by decide +kernel
theorem dX9_less_28 : decode cX9_less 28 = .ok (.aload_n 1, 1) := by decide +kernel
theorem dX9_less_29 : decode cX9_less 29 = .ok (.getfield 9, 3) := by decide +kernel
theorem dX9_less_32 : decode cX9_less 32 = .ok (.iload_n 3, 1) := by decide +kernel
theorem dX9_less_33 : decode cX9_less 33 = .ok (.iaload, 1) := by decide +kernel
theorem dX9_less_34 : decode cX9_less 34 = .ok (.goto 4, 3) := by decide +kernel
theorem dX9_less_37 : decode cX9_less 37 = .ok (.iconst 0, 1) := by decide +kernel
theorem dX9_less_38 : decode cX9_less 38 = .ok (.isub, 1) := by decide +kernel
theorem dX9_less_39 : decode cX9_less 39 = .ok (.istore 4, 2) := by decide +kernel
theorem dX9_less_41 : decode cX9_less 41 = .ok (.iload 4, 2) := by decide +kernel
theorem dX9_less_43 : decode cX9_less 43 = .ok (.ifCond .ge 7, 3) := by decide +kernel
theorem dX9_less_46 : decode cX9_less 46 = .ok (.iconst 1, 1) := by decide +kernel
theorem dX9_less_47 : decode cX9_less 47 = .ok (.goto 4, 3) := by decide +kernel
theorem dX9_less_50 : decode cX9_less 50 = .ok (.iconst 0, 1) := by decide +kernel
theorem dX9_less_51 : decode cX9_less 51 = .ok (.istore_n 2, 1) := by decide +kernel
theorem dX9_less_52 : decode cX9_less 52 = .ok (.aload_n 0, 1) := by decide +kernel
theorem dX9_less_53 : decode cX9_less 53 = .ok (.getfield 9, 3) := by decide +kernel
theorem dX9_less_56 : decode cX9_less 56 = .ok (.iload_n 3, 1) := by decide +kernel
theorem dX9_less_57 : decode cX9_less 57 = .ok (.iload 4, 2) := by decide +kernel
theorem dX9_less_59 : decode cX9_less 59 = .ok (.ldc 37, 2) := by decide +kernel
theorem dX9_less_61 : decode cX9_less 61 = .ok (.iand, 1) := by decide +kernel
theorem dX9_less_62 : decode cX9_less 62 = .ok (.iastore, 1) := by decide +kernel
theorem dX9_less_63 : decode cX9_less 63 = .ok (.iinc 3 1, 3) := by decide +kernel
theorem dX9_less_66 : decode cX9_less 66 = .ok (.goto (-62), 3) := by decide +kernel
theorem dX9_less_69 : decode cX9_less 69 = .ok (.aload_n 0, 1) := by decide +kernel
theorem dX9_less_70 : decode cX9_less 70 = .ok (.aload_n 0, 1) := by decide +kernel
theorem dX9_less_71 : decode cX9_less 71 = .ok (.getfield 15, 3) := by decide +kernel
theorem dX9_less_74 : decode cX9_less 74 = .ok (.invokevirtual 33, 3) := by decide +kernel
theorem dX9_less_77 : decode cX9_less 77 = .ok (.return_, 1) := by decide +kernel
theorem dX9_times_0 : decode cX9_times 0 = .ok (.iload_n 3, 1) := by decide +kernel
theorem dX9_times_1 : decode cX9_times 1 = .ok (.i2l, 1) := by decide +kernel
theorem dX9_times_2 : decode cX9_times 2 = .ok (.lstore 4, 2) := by decide +kernel
theorem dX9_times_4 : decode cX9_times 4 = .ok (.iconst 0, 1) := by decide +kernel
theorem dX9_times_5 : decode cX9_times 5 = .ok (.istore 6, 2) := by decide +kernel
theorem dX9_times_7 : decode cX9_times 7 = .ok (.iload 6, 2) := by decide +kernel
theorem dX9_times_9 : decode cX9_times 9 = .ok (.aload_n 0, 1) := by decide +kernel
theorem dX9_times_10 : decode cX9_times 10 = .ok (.getfield 15, 3) := by decide +kernel
theorem dX9_times_13 : decode cX9_times 13 = .ok (.if_icmp .ge 45, 3) := by decide +kernel
theorem dX9_times_16 : decode cX9_times 16 = .ok (.lload 4, 2) := by decide +kernel
theorem dX9_times_18 : decode cX9_times 18 = .ok (.aload_n 0, 1) := by decide +kernel
theorem dX9_times_19 : decode cX9_times 19 = .ok (.getfield 9, 3) := by decide +kernel
theorem dX9_times_22 : decode cX9_times 22 = .ok (.iload 6, 2) := by decide +kernel
theorem dX9_times_24 : decode cX9_times 24 = .ok (.iaload, 1) := by decide +kernel
theorem dX9_times_25 : decode cX9_times 25 = .ok (.i2l, 1) := by decide +kernel
theorem dX9_times_26 : decode cX9_times 26 = .ok (.lload_n 1, 1) := by decide +kernel
theorem dX9_times_27 : decode cX9_times 27 = .ok (.lmul, 1) := by decide +kernel
theorem dX9_times_28 : decode cX9_times 28 = .ok (.ladd, 1) := by decide +kernel
theorem dX9_times_29 : decode cX9_times 29 = .ok (.lstore 4, 2) := by decide +kernel
theorem dX9_times_31 : decode cX9_times 31 = .ok (.aload_n 0, 1) := by decide +kernel
theorem dX9_times_32 : decode cX9_times 32 = .ok (.getfield 9, 3) := by decide +kernel
theorem dX9_times_35 : decode cX9_times 35 = .ok (.iload 6, 2) := by decide +kernel
theorem dX9_times_37 : decode cX9_times 37 = .ok (.lload 4, 2) := by decide +kernel
theorem dX9_times_39 : decode cX9_times 39 = .ok (.ldc2_w 19, 3) := by decide +kernel
theorem dX9_times_42 : decode cX9_times 42 = .ok (.land, 1) := by decide +kernel
theorem dX9_times_43 : decode cX9_times 43 = .ok (.l2i, 1) := by decide +kernel
theorem dX9_times_44 : decode cX9_times 44 = .ok (.iastore, 1) := by decide +kernel
theorem dX9_times_45 : decode cX9_times 45 = .ok (.lload 4, 2) := by decide +kernel
theorem dX9_times_47 : decode cX9_times 47 = .ok (.bipush 30, 2) := by decide +kernel
theorem dX9_times_49 : decode cX9_times 49 = .ok (.lshr, 1) := by decide +kernel
theorem dX9_times_50 : decode cX9_times 50 = .ok (.lstore 4, 2) := by decide +kernel
theorem dX9_times_52 : decode cX9_times 52 = .ok (.iinc 6 1, 3) := by decide +kernel
theorem dX9_times_55 : decode cX9_times 55 = .ok (.goto (-48), 3) := by decide +kernel
theorem dX9_times_58 : decode cX9_times 58 = .ok (.lload 4, 2) := by decide +kernel
theorem dX9_times_60 : decode cX9_times 60 = .ok (.lconst 0, 1) := by decide +kernel
theorem dX9_times_61 : decode cX9_times 61 = .ok (.lcmp, 1) := by decide +kernel
theorem dX9_times_62 : decode cX9_times 62 = .ok (.ifCond .eq 39, 3) := by decide +kernel
theorem dX9_times_65 : decode cX9_times 65 = .ok (.aload_n 0, 1) := by decide +kernel
theorem dX9_times_66 : decode cX9_times 66 = .ok (.getfield 9, 3) := by decide +kernel
theorem dX9_times_69 : decode cX9_times 69 = .ok (.aload_n 0, 1) := by decide +kernel
theorem dX9_times_70 : decode cX9_times 70 = .ok (.getfield 15, 3) := by decide +kernel
theorem dX9_times_73 : decode cX9_times 73 = .ok (.lload 4, 2) := by decide +kernel
theorem dX9_times_75 : decode cX9_times 75 = .ok (.ldc2_w 19, 3) := by decide +kernel
theorem dX9_times_78 : decode cX9_times 78 = .ok (.land, 1) := by decide +kernel
theorem dX9_times_79 : decode cX9_times 79 = .ok (.l2i, 1) := by decide +kernel
theorem dX9_times_80 : decode cX9_times 80 = .ok (.iastore, 1) := by decide +kernel
theorem dX9_times_81 : decode cX9_times 81 = .ok (.aload_n 0, 1) := by decide +kernel
theorem dX9_times_82 : decode cX9_times 82 = .ok (.dup, 1) := by decide +kernel
theorem dX9_times_83 : decode cX9_times 83 = .ok (.getfield 15, 3) := by decide +kernel
theorem dX9_times_86 : decode cX9_times 86 = .ok (.iconst 1, 1) := by decide +kernel
theorem dX9_times_87 : decode cX9_times 87 = .ok (.iadd, 1) := by decide +kernel
theorem dX9_times_88 : decode cX9_times 88 = .ok (.putfield 15, 3) := by decide +kernel
theorem dX9_times_91 : decode cX9_times 91 = .ok (.lload 4, 2) := by decide +kernel
theorem dX9_times_93 : decode cX9_times 93 = .ok (.bipush 30, 2) := by decide +kernel
theorem dX9_times_95 : decode cX9_times 95 = .ok (.lshr, 1) := by decide +kernel
theorem dX9_times_96 : decode cX9_times 96 = .ok (.lstore 4, 2) := by decide +kernel
theorem dX9_times_98 : decode cX9_times 98 = .ok (.goto (-40), 3) := by decide +kernel
theorem dX9_times_101 : decode cX9_times 101 = .ok (.return_, 1) := by decide +kernel
theorem dX9_divide_0 : decode cX9_divide 0 = .ok (.lconst 0, 1) := by decide +kernel
theorem dX9_divide_1 : decode cX9_divide 1 = .ok (.lstore_n 2, 1) := by decide +kernel
theorem dX9_divide_2 : decode cX9_divide 2 = .ok (.aload_n 0, 1) := by decide +kernel
theorem dX9_divide_3 : decode cX9_divide 3 = .ok (.getfield 15, 3) := by decide +kernel
theorem dX9_divide_6 : decode cX9_divide 6 = .ok (.iconst 1, 1) := by decide +kernel
theorem dX9_divide_7 : decode cX9_divide 7 = .ok (.isub, 1) := by decide +kernel
theorem dX9_divide_8 : decode cX9_divide 8 = .ok (.istore 4, 2) := by decide +kernel
theorem dX9_divide_10 : decode cX9_divide 10 = .ok (.iload 4, 2) := by decide +kernel
theorem dX9_divide_12 : decode cX9_divide 12 = .ok (.ifCond .lt 40, 3) := by decide +kernel
theorem dX9_divide_15 : decode cX9_divide 15 = .ok (.lload_n 2, 1) := by decide +kernel
theorem dX9_divide_16 : decode cX9_divide 16 = .ok (.bipush 30, 2) := by decide +kernel
theorem dX9_divide_18 : decode cX9_divide 18 = .ok (.lshl, 1) := by decide +kernel
theorem dX9_divide_19 : decode cX9_divide 19 = .ok (.aload_n 0, 1) := by decide +kernel
theorem dX9_divide_20 : decode cX9_divide 20 = .ok (.getfield 9, 3) := by decide +kernel
theorem dX9_divide_23 : decode cX9_divide 23 = .ok (.iload 4, 2) := by decide +kernel
theorem dX9_divide_25 : decode cX9_divide 25 = .ok (.iaload, 1) := by decide +kernel
theorem dX9_divide_26 : decode cX9_divide 26 = .ok (.i2l, 1) := by decide +kernel
theorem dX9_divide_27 : decode cX9_divide 27 = .ok (.lor, 1) := by decide +kernel
theorem dX9_divide_28 : decode cX9_divide 28 = .ok (.lstore_n 2, 1) := by decide +kernel
theorem dX9_divide_29 : decode cX9_divide 29 = .ok (.aload_n 0, 1) := by decide +kernel
theorem dX9_divide_30 : decode cX9_divide 30 = .ok (.getfield 9, 3) := by decide +kernel
theorem dX9_divide_33 : decode cX9_divide 33 = .ok (.iload 4, 2) := by decide +kernel
theorem dX9_divide_35 : decode cX9_divide 35 = .ok (.lload_n 2, 1) := by decide +kernel
theorem dX9_divide_36 : decode cX9_divide 36 = .ok (.iload_n 1, 1) := by decide +kernel
theorem dX9_divide_37 : decode cX9_divide 37 = .ok (.i2l, 1) := by decide +kernel
theorem dX9_divide_38 : decode cX9_divide 38 = .ok (.ldiv, 1) := by decide +kernel
theorem dX9_divide_39 : decode cX9_divide 39 = .ok (.l2i, 1) := by decide +kernel
theorem dX9_divide_40 : decode cX9_divide 40 = .ok (.iastore, 1) := by decide +kernel
theorem dX9_divide_41 : decode cX9_divide 41 = .ok (.lload_n 2, 1) := by decide +kernel
theorem dX9_divide_42 : decode cX9_divide 42 = .ok (.iload_n 1, 1) := by decide +kernel
theorem dX9_divide_43 : decode cX9_divide 43 = .ok (.i2l, 1) := by decide +kernel
theorem dX9_divide_44 : decode cX9_divide 44 = .ok (.lrem, 1) := by decide +kernel
theorem dX9_divide_45 : decode cX9_divide 45 = .ok (.lstore_n 2, 1) := by decide +kernel
theorem dX9_divide_46 : decode cX9_divide 46 = .ok (.iinc 4 (-1), 3) := by decide +kernel
theorem dX9_divide_49 : decode cX9_divide 49 = .ok (.goto (-39), 3) := by decide +kernel
theorem dX9_divide_52 : decode cX9_divide 52 = .ok (.aload_n 0, 1) := by decide +kernel
theorem dX9_divide_53 : decode cX9_divide 53 = .ok (.aload_n 0, 1) := by decide +kernel
theorem dX9_divide_54 : decode cX9_divide 54 = .ok (.getfield 15, 3) := by decide +kernel
theorem dX9_divide_57 : decode cX9_divide 57 = .ok (.invokevirtual 33, 3) := by decide +kernel
theorem dX9_divide_60 : decode cX9_divide 60 = .ok (.lload_n 2, 1) := by decide +kernel
theorem dX9_divide_61 : decode cX9_divide 61 = .ok (.l2i, 1) := by decide +kernel
theorem dX9_divide_62 : decode cX9_divide 62 = .ok (.ireturn, 1) := by decide +kernel
theorem dX9_shift_0 : decode cX9_shift 0 = .ok (.aload_n 0, 1) := by decide +kernel
theorem dX9_shift_1 : decode cX9_shift 1 = .ok (.getfield 15, 3) := by decide +kernel
theorem dX9_shift_4 : decode cX9_shift 4 = .ok (.ifCond .ne 4, 3) := by decide +kernel
theorem dX9_shift_7 : decode cX9_shift 7 = .ok (.return_, 1) := by decide +kernel
theorem dX9_shift_8 : decode cX9_shift 8 = .ok (.iload_n 1, 1) := by decide +kernel
theorem dX9_shift_9 : decode cX9_shift 9 = .ok (.bipush 30, 2) := by decide +kernel
theorem dX9_shift_11 : decode cX9_shift 11 = .ok (.idiv, 1) := by decide +kernel
theorem dX9_shift_12 : decode cX9_shift 12 = .ok (.istore_n 2, 1) := by decide +kernel
theorem dX9_shift_13 : decode cX9_shift 13 = .ok (.iload_n 1, 1) := by decide +kernel
theorem dX9_shift_14 : decode cX9_shift 14 = .ok (.bipush 30, 2) := by decide +kernel
theorem dX9_shift_16 : decode cX9_shift 16 = .ok (.irem, 1) := by decide +kernel
theorem dX9_shift_17 : decode cX9_shift 17 = .ok (.istore_n 3, 1) := by decide +kernel
theorem dX9_shift_18 : decode cX9_shift 18 = .ok (.aload_n 0, 1) := by decide +kernel
theorem dX9_shift_19 : decode cX9_shift 19 = .ok (.getfield 9, 3) := by decide +kernel
theorem dX9_shift_22 : decode cX9_shift 22 = .ok (.aload_n 0, 1) := by decide +kernel
theorem dX9_shift_23 : decode cX9_shift 23 = .ok (.getfield 15, 3) := by decide +kernel
theorem dX9_shift_26 : decode cX9_shift 26 = .ok (.iconst 0, 1) := by decide +kernel
theorem dX9_shift_27 : decode cX9_shift 27 = .ok (.iastore, 1) := by decide +kernel
theorem dX9_shift_28 : decode cX9_shift 28 = .ok (.aload_n 0, 1) := by decide +kernel
theorem dX9_shift_29 : decode cX9_shift 29 = .ok (.getfield 15, 3) := by decide +kernel
theorem dX9_shift_32 : decode cX9_shift 32 = .ok (.istore 4, 2) := by decide +kernel
theorem dX9_shift_34 : decode cX9_shift 34 = .ok (.iload 4, 2) := by decide +kernel
theorem dX9_shift_36 : decode cX9_shift 36 = .ok (.ifCond .lt 66, 3) := by decide +kernel
theorem dX9_shift_39 : decode cX9_shift 39 = .ok (.iload 4, 2) := by decide +kernel
theorem dX9_shift_41 : decode cX9_shift 41 = .ok (.ifCond .le 16, 3) := by decide +kernel
theorem dX9_shift_44 : decode cX9_shift 44 = .ok (.aload_n 0, 1) := by decide +kernel
theorem dX9_shift_45 : decode cX9_shift 45 = .ok (.getfield 9, 3) := by decide +kernel
theorem dX9_shift_48 : decode cX9_shift 48 = .ok (.iload 4, 2) := by decide +kernel
theorem dX9_shift_50 : decode cX9_shift 50 = .ok (.iconst 1, 1) := by decide +kernel
theorem dX9_shift_51 : decode cX9_shift 51 = .ok (.isub, 1) := by decide +kernel
theorem dX9_shift_52 : decode cX9_shift 52 = .ok (.iaload, 1) := by decide +kernel
theorem dX9_shift_53 : decode cX9_shift 53 = .ok (.i2l, 1) := by decide +kernel
theorem dX9_shift_54 : decode cX9_shift 54 = .ok (.goto 4, 3) := by decide +kernel
theorem dX9_shift_57 : decode cX9_shift 57 = .ok (.lconst 0, 1) := by decide +kernel
theorem dX9_shift_58 : decode cX9_shift 58 = .ok (.lstore 5, 2) := by decide +kernel
theorem dX9_shift_60 : decode cX9_shift 60 = .ok (.aload_n 0, 1) := by decide +kernel
theorem dX9_shift_61 : decode cX9_shift 61 = .ok (.getfield 9, 3) := by decide +kernel
theorem dX9_shift_64 : decode cX9_shift 64 = .ok (.iload 4, 2) := by decide +kernel
theorem dX9_shift_66 : decode cX9_shift 66 = .ok (.iaload, 1) := by decide +kernel
theorem dX9_shift_67 : decode cX9_shift 67 = .ok (.i2l, 1) := by decide +kernel
theorem dX9_shift_68 : decode cX9_shift 68 = .ok (.iload_n 3, 1) := by decide +kernel
theorem dX9_shift_69 : decode cX9_shift 69 = .ok (.lshl, 1) := by decide +kernel
theorem dX9_shift_70 : decode cX9_shift 70 = .ok (.lload 5, 2) := by decide +kernel
theorem dX9_shift_72 : decode cX9_shift 72 = .ok (.iload_n 3, 1) := by decide +kernel
theorem dX9_shift_73 : decode cX9_shift 73 = .ok (.lshl, 1) := by decide +kernel
theorem dX9_shift_74 : decode cX9_shift 74 = .ok (.bipush 30, 2) := by decide +kernel
theorem dX9_shift_76 : decode cX9_shift 76 = .ok (.lushr, 1) := by decide +kernel
theorem dX9_shift_77 : decode cX9_shift 77 = .ok (.lor, 1) := by decide +kernel
theorem dX9_shift_78 : decode cX9_shift 78 = .ok (.lstore 7, 2) := by decide +kernel
theorem dX9_shift_80 : decode cX9_shift 80 = .ok (.aload_n 0, 1) := by decide +kernel
theorem dX9_shift_81 : decode cX9_shift 81 = .ok (.getfield 9, 3) := by decide +kernel
theorem dX9_shift_84 : decode cX9_shift 84 = .ok (.iload 4, 2) := by decide +kernel
theorem dX9_shift_86 : decode cX9_shift 86 = .ok (.iload_n 2, 1) := by decide +kernel
theorem dX9_shift_87 : decode cX9_shift 87 = .ok (.iadd, 1) := by decide +kernel
theorem dX9_shift_88 : decode cX9_shift 88 = .ok (.lload 7, 2) := by decide +kernel
theorem dX9_shift_90 : decode cX9_shift 90 = .ok (.ldc2_w 19, 3) := by decide +kernel
theorem dX9_shift_93 : decode cX9_shift 93 = .ok (.land, 1) := by decide +kernel
theorem dX9_shift_94 : decode cX9_shift 94 = .ok (.l2i, 1) := by decide +kernel
theorem dX9_shift_95 : decode cX9_shift 95 = .ok (.iastore, 1) := by decide +kernel
theorem dX9_shift_96 : decode cX9_shift 96 = .ok (.iinc 4 (-1), 3) := by decide +kernel
theorem dX9_shift_99 : decode cX9_shift 99 = .ok (.goto (-65), 3) := by decide +kernel
theorem dX9_shift_102 : decode cX9_shift 102 = .ok (.iconst 0, 1) := by decide +kernel
theorem dX9_shift_103 : decode cX9_shift 103 = .ok (.istore 4, 2) := by decide +kernel
theorem dX9_shift_105 : decode cX9_shift 105 = .ok (.iload 4, 2) := by decide +kernel
theorem dX9_shift_107 : decode cX9_shift 107 = .ok (.iload_n 2, 1) := by decide +kernel
theorem dX9_shift_108 : decode cX9_shift 108 = .ok (.if_icmp .ge 17, 3) := by decide +kernel
theorem dX9_shift_111 : decode cX9_shift 111 = .ok (.aload_n 0, 1) := by decide +kernel
theorem dX9_shift_112 : decode cX9_shift 112 = .ok (.getfield 9, 3) := by decide +kernel
theorem dX9_shift_115 : decode cX9_shift 115 = .ok (.iload 4, 2) := by decide +kernel
theorem dX9_shift_117 : decode cX9_shift 117 = .ok (.iconst 0, 1) := by decide +kernel
theorem dX9_shift_118 : decode cX9_shift 118 = .ok (.iastore, 1) := by decide +kernel
theorem dX9_shift_119 : decode cX9_shift 119 = .ok (.iinc 4 1, 3) := by decide +kernel
theorem dX9_shift_122 : decode cX9_shift 122 = .ok (.goto (-17), 3) := by decide +kernel
theorem dX9_shift_125 : decode cX9_shift 125 = .ok (.aload_n 0, 1) := by decide +kernel
theorem dX9_shift_126 : decode cX9_shift 126 = .ok (.aload_n 0, 1) := by decide +kernel
theorem dX9_shift_127 : decode cX9_shift 127 = .ok (.getfield 15, 3) := by decide +kernel
theorem dX9_shift_130 : decode cX9_shift 130 = .ok (.iload_n 2, 1) := by decide +kernel
theorem dX9_shift_131 : decode cX9_shift 131 = .ok (.iadd, 1) := by decide +kernel
theorem dX9_shift_132 : decode cX9_shift 132 = .ok (.iconst 1, 1) := by decide +kernel
theorem dX9_shift_133 : decode cX9_shift 133 = .ok (.iadd, 1) := by decide +kernel
theorem dX9_shift_134 : decode cX9_shift 134 = .ok (.invokevirtual 33, 3) := by decide +kernel
theorem dX9_shift_137 : decode cX9_shift 137 = .ok (.return_, 1) := by decide +kernel
theorem dX9_bit_0 : decode cX9_bit 0 = .ok (.iload_n 1, 1) := by decide +kernel
theorem dX9_bit_1 : decode cX9_bit 1 = .ok (.bipush 30, 2) := by decide +kernel
theorem dX9_bit_3 : decode cX9_bit 3 = .ok (.idiv, 1) := by decide +kernel
theorem dX9_bit_4 : decode cX9_bit 4 = .ok (.aload_n 0, 1) := by decide +kernel
theorem dX9_bit_5 : decode cX9_bit 5 = .ok (.getfield 15, 3) := by decide +kernel
theorem dX9_bit_8 : decode cX9_bit 8 = .ok (.if_icmp .ge 22, 3) := by decide +kernel
theorem dX9_bit_11 : decode cX9_bit 11 = .ok (.aload_n 0, 1) := by decide +kernel
theorem dX9_bit_12 : decode cX9_bit 12 = .ok (.getfield 9, 3) := by decide +kernel
theorem dX9_bit_15 : decode cX9_bit 15 = .ok (.iload_n 1, 1) := by decide +kernel
theorem dX9_bit_16 : decode cX9_bit 16 = .ok (.bipush 30, 2) := by decide +kernel
theorem dX9_bit_18 : decode cX9_bit 18 = .ok (.idiv, 1) := by decide +kernel
theorem dX9_bit_19 : decode cX9_bit 19 = .ok (.iaload, 1) := by decide +kernel
theorem dX9_bit_20 : decode cX9_bit 20 = .ok (.iload_n 1, 1) := by decide +kernel
theorem dX9_bit_21 : decode cX9_bit 21 = .ok (.bipush 30, 2) := by decide +kernel
theorem dX9_bit_23 : decode cX9_bit 23 = .ok (.irem, 1) := by decide +kernel
theorem dX9_bit_24 : decode cX9_bit 24 = .ok (.ishr, 1) := by decide +kernel
theorem dX9_bit_25 : decode cX9_bit 25 = .ok (.iconst 1, 1) := by decide +kernel
theorem dX9_bit_26 : decode cX9_bit 26 = .ok (.iand, 1) := by decide +kernel
theorem dX9_bit_27 : decode cX9_bit 27 = .ok (.goto 4, 3) := by decide +kernel
theorem dX9_bit_30 : decode cX9_bit 30 = .ok (.iconst 0, 1) := by decide +kernel
theorem dX9_bit_31 : decode cX9_bit 31 = .ok (.ireturn, 1) := by decide +kernel
theorem dX10_init_0 : decode cX10_init 0 = .ok (.aload_n 0, 1) := by decide +kernel
theorem dX10_init_1 : decode cX10_init 1 = .ok (.invokespecial 1, 3) := by decide +kernel
theorem dX10_init_4 : decode cX10_init 4 = .ok (.aload_n 0, 1) := by decide +kernel
theorem dX10_init_5 : decode cX10_init 5 = .ok (.new 7, 3) := by decide +kernel
theorem dX10_init_8 : decode cX10_init 8 = .ok (.dup, 1) := by decide +kernel
theorem dX10_init_9 : decode cX10_init 9 = .ok (.invokespecial 9, 3) := by decide +kernel
theorem dX10_init_12 : decode cX10_init 12 = .ok (.putfield 10, 3) := by decide +kernel
theorem dX10_init_15 : decode cX10_init 15 = .ok (.return_, 1) := by decide +kernel
theorem dX10_clear_0 : decode cX10_clear 0 = .ok (.aload_n 0, 1) := by decide +kernel
theorem dX10_clear_1 : decode cX10_clear 1 = .ok (.getfield 10, 3) := by decide +kernel
theorem dX10_clear_4 : decode cX10_clear 4 = .ok (.iconst 0, 1) := by decide +kernel
theorem dX10_clear_5 : decode cX10_clear 5 = .ok (.putfield 16, 3) := by decide +kernel
theorem dX10_clear_8 : decode cX10_clear 8 = .ok (.aload_n 0, 1) := by decide +kernel
theorem dX10_clear_9 : decode cX10_clear 9 = .ok (.iconst 0, 1) := by decide +kernel
theorem dX10_clear_10 : decode cX10_clear 10 = .ok (.putfield 20, 3) := by decide +kernel
theorem dX10_clear_13 : decode cX10_clear 13 = .ok (.aload_n 0, 1) := by decide +kernel
theorem dX10_clear_14 : decode cX10_clear 14 = .ok (.iconst 0, 1) := by decide +kernel
theorem dX10_clear_15 : decode cX10_clear 15 = .ok (.putfield 23, 3) := by decide +kernel
theorem dX10_clear_18 : decode cX10_clear 18 = .ok (.return_, 1) := by decide +kernel
