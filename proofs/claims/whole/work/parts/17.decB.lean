theorem dX0_init_0 : decode cX0_init 0 = .ok (.aload_n 0, 1) := by decide +kernel
theorem dX0_init_1 : decode cX0_init 1 = .ok (.invokespecial 3, 3) := by decide +kernel
theorem dX0_init_4 : decode cX0_init 4 = .ok (.aload_n 0, 1) := by decide +kernel
theorem dX0_init_5 : decode cX0_init 5 = .ok (.new 1, 3) := by decide +kernel
theorem dX0_init_8 : decode cX0_init 8 = .ok (.dup, 1) := by decide +kernel
theorem dX0_init_9 : decode cX0_init 9 = .ok (.invokespecial 9, 3) := by decide +kernel
theorem dX0_init_12 : decode cX0_init 12 = .ok (.putfield 10, 3) := by decide +kernel
theorem dX0_init_15 : decode cX0_init 15 = .ok (.aload_n 0, 1) := by decide +kernel
theorem dX0_init_16 : decode cX0_init 16 = .ok (.new 16, 3) := by decide +kernel
theorem dX0_init_19 : decode cX0_init 19 = .ok (.dup, 1) := by decide +kernel
theorem dX0_init_20 : decode cX0_init 20 = .ok (.invokespecial 18, 3) := by decide +kernel
theorem dX0_init_23 : decode cX0_init 23 = .ok (.putfield 19, 3) := by decide +kernel
theorem dX0_init_26 : decode cX0_init 26 = .ok (.aload_n 0, 1) := by decide +kernel
theorem dX0_init_27 : decode cX0_init 27 = .ok (.getfield 19, 3) := by decide +kernel
theorem dX0_init_30 : decode cX0_init 30 = .ok (.invokevirtual 23, 3) := by decide +kernel
theorem dX0_init_33 : decode cX0_init 33 = .ok (.aload_n 0, 1) := by decide +kernel
theorem dX0_init_34 : decode cX0_init 34 = .ok (.new 26, 3) := by decide +kernel
theorem dX0_init_37 : decode cX0_init 37 = .ok (.dup, 1) := by decide +kernel
theorem dX0_init_38 : decode cX0_init 38 = .ok (.invokespecial 28, 3) := by decide +kernel
theorem dX0_init_41 : decode cX0_init 41 = .ok (.putfield 29, 3) := by decide +kernel
theorem dX0_init_44 : decode cX0_init 44 = .ok (.aload_n 0, 1) := by decide +kernel
theorem dX0_init_45 : decode cX0_init 45 = .ok (.new 26, 3) := by decide +kernel
theorem dX0_init_48 : decode cX0_init 48 = .ok (.dup, 1) := by decide +kernel
theorem dX0_init_49 : decode cX0_init 49 = .ok (.invokespecial 28, 3) := by decide +kernel
theorem dX0_init_52 : decode cX0_init 52 = .ok (.putfield 33, 3) := by decide +kernel
theorem dX0_init_55 : decode cX0_init 55 = .ok (.aload_n 0, 1) := by decide +kernel
theorem dX0_init_56 : decode cX0_init 56 = .ok (.new 36, 3) := by decide +kernel
theorem dX0_init_59 : decode cX0_init 59 = .ok (.dup, 1) := by decide +kernel
theorem dX0_init_60 : decode cX0_init 60 = .ok (.invokespecial 38, 3) := by decide +kernel
theorem dX0_init_63 : decode cX0_init 63 = .ok (.putfield 39, 3) := by decide +kernel
theorem dX0_init_66 : decode cX0_init 66 = .ok (.return_, 1) := by decide +kernel
theorem dX0_same_0 : decode cX0_same 0 = .ok (.aload_n 1, 1) := by decide +kernel
theorem dX0_same_1 : decode cX0_same 1 = .ok (.getfield 43, 3) := by decide +kernel
theorem dX0_same_4 : decode cX0_same 4 = .ok (.ifCond .eq 10, 3) := by decide +kernel
theorem dX0_same_7 : decode cX0_same 7 = .ok (.iload_n 2, 1) := by decide +kernel
theorem dX0_same_8 : decode cX0_same 8 = .ok (.invokestatic 47, 3) := by decide +kernel
theorem dX0_same_11 : decode cX0_same 11 = .ok (.goto 20, 3) := by decide +kernel
theorem dX0_same_14 : decode cX0_same 14 = .ok (.iload_n 2, 1) := by decide +kernel
theorem dX0_same_15 : decode cX0_same 15 = .ok (.aload_n 1, 1) := by decide +kernel
theorem dX0_same_16 : decode cX0_same 16 = .ok (.getfield 53, 3) := by decide +kernel
theorem dX0_same_19 : decode cX0_same 19 = .ok (.aload_n 1, 1) := by decide +kernel
theorem dX0_same_20 : decode cX0_same 20 = .ok (.getfield 56, 3) := by decide +kernel
theorem dX0_same_23 : decode cX0_same 23 = .ok (.aload_n 1, 1) := by decide +kernel
theorem dX0_same_24 : decode cX0_same 24 = .ok (.getfield 60, 3) := by decide +kernel
theorem dX0_same_27 : decode cX0_same 27 = .ok (.iconst 0, 1) := by decide +kernel
theorem dX0_same_28 : decode cX0_same 28 = .ok (.invokestatic 64, 3) := by decide +kernel
theorem dX0_same_31 : decode cX0_same 31 = .ok (.lreturn, 1) := by decide +kernel
theorem dX0_settled_0 : decode cX0_settled 0 = .ok (.aload_n 1, 1) := by decide +kernel
theorem dX0_settled_1 : decode cX0_settled 1 = .ok (.getfield 68, 3) := by decide +kernel
theorem dX0_settled_4 : decode cX0_settled 4 = .ok (.ifCond .eq 8, 3) := by decide +kernel
theorem dX0_settled_7 : decode cX0_settled 7 = .ok (.iload_n 2, 1) := by decide +kernel
theorem dX0_settled_8 : decode cX0_settled 8 = .ok (.invokestatic 47, 3) := by decide +kernel
theorem dX0_settled_11 : decode cX0_settled 11 = .ok (.lreturn, 1) := by decide +kernel
theorem dX0_settled_12 : decode cX0_settled 12 = .ok (.aload_n 1, 1) := by decide +kernel
theorem dX0_settled_13 : decode cX0_settled 13 = .ok (.aload_n 0, 1) := by decide +kernel
theorem dX0_settled_14 : decode cX0_settled 14 = .ok (.getfield 29, 3) := by decide +kernel
theorem dX0_settled_17 : decode cX0_settled 17 = .ok (.invokevirtual 69, 3) := by decide +kernel
theorem dX0_settled_20 : decode cX0_settled 20 = .ok (.iload_n 2, 1) := by decide +kernel
theorem dX0_settled_21 : decode cX0_settled 21 = .ok (.aload_n 1, 1) := by decide +kernel
theorem dX0_settled_22 : decode cX0_settled 22 = .ok (.invokevirtual 73, 3) := by decide +kernel
theorem dX0_settled_25 : decode cX0_settled 25 = .ok (.aload_n 0, 1) := by decide +kernel
theorem dX0_settled_26 : decode cX0_settled 26 = .ok (.getfield 29, 3) := by decide +kernel
theorem dX0_settled_29 : decode cX0_settled 29 = .ok (.sipush (-240), 3) := by decide +kernel
theorem dX0_settled_32 : decode cX0_settled 32 = .ok (.invokestatic 77, 3) := by decide +kernel
theorem dX0_settled_35 : decode cX0_settled 35 = .ok (.lreturn, 1) := by decide +kernel
theorem dX0_sumOf_0 : decode cX0_sumOf 0 = .ok (.aload_n 0, 1) := by decide +kernel
theorem dX0_sumOf_1 : decode cX0_sumOf 1 = .ok (.getfield 10, 3) := by decide +kernel
theorem dX0_sumOf_4 : decode cX0_sumOf 4 = .ok (.invokevirtual 81, 3) := by decide +kernel
theorem dX0_sumOf_7 : decode cX0_sumOf 7 = .ok (.aload_n 0, 1) := by decide +kernel
theorem dX0_sumOf_8 : decode cX0_sumOf 8 = .ok (.getfield 10, 3) := by decide +kernel
theorem dX0_sumOf_11 : decode cX0_sumOf 11 = .ok (.aload_n 1, 1) := by decide +kernel
theorem dX0_sumOf_12 : decode cX0_sumOf 12 = .ok (.aload_n 0, 1) := by decide +kernel
theorem dX0_sumOf_13 : decode cX0_sumOf 13 = .ok (.getfield 19, 3) := by decide +kernel
theorem dX0_sumOf_16 : decode cX0_sumOf 16 = .ok (.iconst 0, 1) := by decide +kernel
theorem dX0_sumOf_17 : decode cX0_sumOf 17 = .ok (.invokevirtual 84, 3) := by decide +kernel
theorem dX0_sumOf_20 : decode cX0_sumOf 20 = .ok (.aload_n 0, 1) := by decide +kernel
theorem dX0_sumOf_21 : decode cX0_sumOf 21 = .ok (.getfield 10, 3) := by decide +kernel
theorem dX0_sumOf_24 : decode cX0_sumOf 24 = .ok (.aload_n 2, 1) := by decide +kernel
theorem dX0_sumOf_25 : decode cX0_sumOf 25 = .ok (.aload_n 0, 1) := by decide +kernel
theorem dX0_sumOf_26 : decode cX0_sumOf 26 = .ok (.getfield 19, 3) := by decide +kernel
theorem dX0_sumOf_29 : decode cX0_sumOf 29 = .ok (.iload_n 3, 1) := by decide +kernel
theorem dX0_sumOf_30 : decode cX0_sumOf 30 = .ok (.invokevirtual 84, 3) := by decide +kernel
theorem dX0_sumOf_33 : decode cX0_sumOf 33 = .ok (.aload_n 0, 1) := by decide +kernel
theorem dX0_sumOf_34 : decode cX0_sumOf 34 = .ok (.aload_n 0, 1) := by decide +kernel
theorem dX0_sumOf_35 : decode cX0_sumOf 35 = .ok (.getfield 10, 3) := by decide +kernel
theorem dX0_sumOf_38 : decode cX0_sumOf 38 = .ok (.iload 4, 2) := by decide +kernel
theorem dX0_sumOf_40 : decode cX0_sumOf 40 = .ok (.invokevirtual 88, 3) := by decide +kernel
theorem dX0_sumOf_43 : decode cX0_sumOf 43 = .ok (.lreturn, 1) := by decide +kernel
theorem dX0_fusedOf_0 : decode cX0_fusedOf 0 = .ok (.aload_n 0, 1) := by decide +kernel
theorem dX0_fusedOf_1 : decode cX0_fusedOf 1 = .ok (.getfield 10, 3) := by decide +kernel
theorem dX0_fusedOf_4 : decode cX0_fusedOf 4 = .ok (.invokevirtual 81, 3) := by decide +kernel
theorem dX0_fusedOf_7 : decode cX0_fusedOf 7 = .ok (.aload_n 0, 1) := by decide +kernel
theorem dX0_fusedOf_8 : decode cX0_fusedOf 8 = .ok (.getfield 10, 3) := by decide +kernel
theorem dX0_fusedOf_11 : decode cX0_fusedOf 11 = .ok (.aload_n 1, 1) := by decide +kernel
theorem dX0_fusedOf_12 : decode cX0_fusedOf 12 = .ok (.aload_n 2, 1) := by decide +kernel
theorem dX0_fusedOf_13 : decode cX0_fusedOf 13 = .ok (.iconst 0, 1) := by decide +kernel
theorem dX0_fusedOf_14 : decode cX0_fusedOf 14 = .ok (.invokevirtual 84, 3) := by decide +kernel
theorem dX0_fusedOf_17 : decode cX0_fusedOf 17 = .ok (.aload_n 0, 1) := by decide +kernel
theorem dX0_fusedOf_18 : decode cX0_fusedOf 18 = .ok (.getfield 10, 3) := by decide +kernel
theorem dX0_fusedOf_21 : decode cX0_fusedOf 21 = .ok (.aload_n 3, 1) := by decide +kernel
theorem dX0_fusedOf_22 : decode cX0_fusedOf 22 = .ok (.aload_n 0, 1) := by decide +kernel
theorem dX0_fusedOf_23 : decode cX0_fusedOf 23 = .ok (.getfield 19, 3) := by decide +kernel
theorem dX0_fusedOf_26 : decode cX0_fusedOf 26 = .ok (.iconst 0, 1) := by decide +kernel
theorem dX0_fusedOf_27 : decode cX0_fusedOf 27 = .ok (.invokevirtual 84, 3) := by decide +kernel
theorem dX0_fusedOf_30 : decode cX0_fusedOf 30 = .ok (.aload_n 0, 1) := by decide +kernel
theorem dX0_fusedOf_31 : decode cX0_fusedOf 31 = .ok (.aload_n 0, 1) := by decide +kernel
theorem dX0_fusedOf_32 : decode cX0_fusedOf 32 = .ok (.getfield 10, 3) := by decide +kernel
theorem dX0_fusedOf_35 : decode cX0_fusedOf 35 = .ok (.iload 4, 2) := by decide +kernel
theorem dX0_fusedOf_37 : decode cX0_fusedOf 37 = .ok (.invokevirtual 88, 3) := by decide +kernel
theorem dX0_fusedOf_40 : decode cX0_fusedOf 40 = .ok (.lreturn, 1) := by decide +kernel
theorem dX0_productOf_0 : decode cX0_productOf 0 = .ok (.aload_n 1, 1) := by decide +kernel
theorem dX0_productOf_1 : decode cX0_productOf 1 = .ok (.getfield 43, 3) := by decide +kernel
theorem dX0_productOf_4 : decode cX0_productOf 4 = .ok (.ifCond .ne 10, 3) := by decide +kernel
theorem dX0_productOf_7 : decode cX0_productOf 7 = .ok (.aload_n 2, 1) := by decide +kernel
theorem dX0_productOf_8 : decode cX0_productOf 8 = .ok (.getfield 43, 3) := by decide +kernel
theorem dX0_productOf_11 : decode cX0_productOf 11 = .ok (.ifCond .eq 8, 3) := by decide +kernel
theorem dX0_productOf_14 : decode cX0_productOf 14 = .ok (.iload_n 3, 1) := by decide +kernel
theorem dX0_productOf_15 : decode cX0_productOf 15 = .ok (.invokestatic 47, 3) := by decide +kernel
theorem dX0_productOf_18 : decode cX0_productOf 18 = .ok (.lreturn, 1) := by decide +kernel
theorem dX0_productOf_19 : decode cX0_productOf 19 = .ok (.aload_n 1, 1) := by decide +kernel
theorem dX0_productOf_20 : decode cX0_productOf 20 = .ok (.getfield 60, 3) := by decide +kernel
theorem dX0_productOf_23 : decode cX0_productOf 23 = .ok (.aload_n 2, 1) := by decide +kernel
theorem dX0_productOf_24 : decode cX0_productOf 24 = .ok (.getfield 60, 3) := by decide +kernel
theorem dX0_productOf_27 : decode cX0_productOf 27 = .ok (.iadd, 1) := by decide +kernel
theorem dX0_productOf_28 : decode cX0_productOf 28 = .ok (.istore 4, 2) := by decide +kernel
theorem dX0_productOf_30 : decode cX0_productOf 30 = .ok (.iload_n 3, 1) := by decide +kernel
theorem dX0_productOf_31 : decode cX0_productOf 31 = .ok (.aload_n 1, 1) := by decide +kernel
theorem dX0_productOf_32 : decode cX0_productOf 32 = .ok (.getfield 53, 3) := by decide +kernel
theorem dX0_productOf_35 : decode cX0_productOf 35 = .ok (.aload_n 2, 1) := by decide +kernel
theorem dX0_productOf_36 : decode cX0_productOf 36 = .ok (.getfield 53, 3) := by decide +kernel
theorem dX0_productOf_39 : decode cX0_productOf 39 = .ok (.ixor, 1) := by decide +kernel
theorem dX0_productOf_40 : decode cX0_productOf 40 = .ok (.aload_n 1, 1) := by decide +kernel
theorem dX0_productOf_41 : decode cX0_productOf 41 = .ok (.getfield 56, 3) := by decide +kernel
theorem dX0_productOf_44 : decode cX0_productOf 44 = .ok (.aload_n 2, 1) := by decide +kernel
theorem dX0_productOf_45 : decode cX0_productOf 45 = .ok (.getfield 56, 3) := by decide +kernel
theorem dX0_productOf_48 : decode cX0_productOf 48 = .ok (.lmul, 1) := by decide +kernel
theorem dX0_productOf_49 : decode cX0_productOf 49 = .ok (.iload 4, 2) := by decide +kernel
theorem dX0_productOf_51 : decode cX0_productOf 51 = .ok (.iconst 0, 1) := by decide +kernel
theorem dX0_productOf_52 : decode cX0_productOf 52 = .ok (.invokestatic 64, 3) := by decide +kernel
theorem dX0_productOf_55 : decode cX0_productOf 55 = .ok (.lreturn, 1) := by decide +kernel
theorem dX0_quotientOf_0 : decode cX0_quotientOf 0 = .ok (.aload_n 1, 1) := by decide +kernel
theorem dX0_quotientOf_1 : decode cX0_quotientOf 1 = .ok (.getfield 43, 3) := by decide +kernel
theorem dX0_quotientOf_4 : decode cX0_quotientOf 4 = .ok (.ifCond .ne 19, 3) := by decide +kernel
theorem dX0_quotientOf_7 : decode cX0_quotientOf 7 = .ok (.aload_n 2, 1) := by decide +kernel
theorem dX0_quotientOf_8 : decode cX0_quotientOf 8 = .ok (.getfield 43, 3) := by decide +kernel
theorem dX0_quotientOf_11 : decode cX0_quotientOf 11 = .ok (.ifCond .ne 12, 3) := by decide +kernel
theorem dX0_quotientOf_14 : decode cX0_quotientOf 14 = .ok (.aload_n 2, 1) := by decide +kernel
theorem dX0_quotientOf_15 : decode cX0_quotientOf 15 = .ok (.getfield 56, 3) := by decide +kernel
theorem dX0_quotientOf_18 : decode cX0_quotientOf 18 = .ok (.lconst 0, 1) := by decide +kernel
theorem dX0_quotientOf_19 : decode cX0_quotientOf 19 = .ok (.lcmp, 1) := by decide +kernel
theorem dX0_quotientOf_20 : decode cX0_quotientOf 20 = .ok (.ifCond .ne 8, 3) := by decide +kernel
theorem dX0_quotientOf_23 : decode cX0_quotientOf 23 = .ok (.iload_n 3, 1) := by decide +kernel
theorem dX0_quotientOf_24 : decode cX0_quotientOf 24 = .ok (.invokestatic 47, 3) := by decide +kernel
theorem dX0_quotientOf_27 : decode cX0_quotientOf 27 = .ok (.lreturn, 1) := by decide +kernel
theorem dX0_quotientOf_28 : decode cX0_quotientOf 28 = .ok (.aload_n 0, 1) := by decide +kernel
theorem dX0_quotientOf_29 : decode cX0_quotientOf 29 = .ok (.getfield 29, 3) := by decide +kernel
theorem dX0_quotientOf_32 : decode cX0_quotientOf 32 = .ok (.aload_n 1, 1) := by decide +kernel
theorem dX0_quotientOf_33 : decode cX0_quotientOf 33 = .ok (.getfield 56, 3) := by decide +kernel
theorem dX0_quotientOf_36 : decode cX0_quotientOf 36 = .ok (.invokevirtual 92, 3) := by decide +kernel
theorem dX0_quotientOf_39 : decode cX0_quotientOf 39 = .ok (.aload_n 0, 1) := by decide +kernel
theorem dX0_quotientOf_40 : decode cX0_quotientOf 40 = .ok (.getfield 33, 3) := by decide +kernel
theorem dX0_quotientOf_43 : decode cX0_quotientOf 43 = .ok (.aload_n 2, 1) := by decide +kernel
theorem dX0_quotientOf_44 : decode cX0_quotientOf 44 = .ok (.getfield 56, 3) := by decide +kernel
theorem dX0_quotientOf_47 : decode cX0_quotientOf 47 = .ok (.invokevirtual 92, 3) := by decide +kernel
theorem dX0_quotientOf_50 : decode cX0_quotientOf 50 = .ok (.aload_n 0, 1) := by decide +kernel
theorem dX0_quotientOf_51 : decode cX0_quotientOf 51 = .ok (.aload_n 1, 1) := by decide +kernel
theorem dX0_quotientOf_52 : decode cX0_quotientOf 52 = .ok (.getfield 60, 3) := by decide +kernel
theorem dX0_quotientOf_55 : decode cX0_quotientOf 55 = .ok (.aload_n 2, 1) := by decide +kernel
theorem dX0_quotientOf_56 : decode cX0_quotientOf 56 = .ok (.getfield 60, 3) := by decide +kernel
theorem dX0_quotientOf_59 : decode cX0_quotientOf 59 = .ok (.isub, 1) := by decide +kernel
theorem dX0_quotientOf_60 : decode cX0_quotientOf 60 = .ok (.aload_n 1, 1) := by decide +kernel
theorem dX0_quotientOf_61 : decode cX0_quotientOf 61 = .ok (.getfield 53, 3) := by decide +kernel
theorem dX0_quotientOf_64 : decode cX0_quotientOf 64 = .ok (.aload_n 2, 1) := by decide +kernel
theorem dX0_quotientOf_65 : decode cX0_quotientOf 65 = .ok (.getfield 53, 3) := by decide +kernel
theorem dX0_quotientOf_68 : decode cX0_quotientOf 68 = .ok (.ixor, 1) := by decide +kernel
theorem dX0_quotientOf_69 : decode cX0_quotientOf 69 = .ok (.iload_n 3, 1) := by decide +kernel
theorem dX0_quotientOf_70 : decode cX0_quotientOf 70 = .ok (.invokevirtual 96, 3) := by decide +kernel
theorem dX0_quotientOf_73 : decode cX0_quotientOf 73 = .ok (.lreturn, 1) := by decide +kernel
theorem dX0_ratioOf_0 : decode cX0_ratioOf 0 = .ok (.lload_n 3, 1) := by decide +kernel
theorem dX0_ratioOf_1 : decode cX0_ratioOf 1 = .ok (.lconst 0, 1) := by decide +kernel
theorem dX0_ratioOf_2 : decode cX0_ratioOf 2 = .ok (.lcmp, 1) := by decide +kernel
theorem dX0_ratioOf_3 : decode cX0_ratioOf 3 = .ok (.ifCond .ne 9, 3) := by decide +kernel
theorem dX0_ratioOf_6 : decode cX0_ratioOf 6 = .ok (.iload 5, 2) := by decide +kernel
theorem dX0_ratioOf_8 : decode cX0_ratioOf 8 = .ok (.invokestatic 47, 3) := by decide +kernel
theorem dX0_ratioOf_11 : decode cX0_ratioOf 11 = .ok (.lreturn, 1) := by decide +kernel
theorem dX0_ratioOf_12 : decode cX0_ratioOf 12 = .ok (.aload_n 0, 1) := by decide +kernel
theorem dX0_ratioOf_13 : decode cX0_ratioOf 13 = .ok (.getfield 29, 3) := by decide +kernel
theorem dX0_ratioOf_16 : decode cX0_ratioOf 16 = .ok (.lload_n 1, 1) := by decide +kernel
theorem dX0_ratioOf_17 : decode cX0_ratioOf 17 = .ok (.lconst 0, 1) := by decide +kernel
theorem dX0_ratioOf_18 : decode cX0_ratioOf 18 = .ok (.lcmp, 1) := by decide +kernel
theorem dX0_ratioOf_19 : decode cX0_ratioOf 19 = .ok (.ifCond .ge 8, 3) := by decide +kernel
theorem dX0_ratioOf_22 : decode cX0_ratioOf 22 = .ok (.lload_n 1, 1) := by decide +kernel
theorem dX0_ratioOf_23 : decode cX0_ratioOf 23 = .ok (.lneg, 1) := by decide +kernel
theorem dX0_ratioOf_24 : decode cX0_ratioOf 24 = .ok (.goto 4, 3) := by decide +kernel
theorem dX0_ratioOf_27 : decode cX0_ratioOf 27 = .ok (.lload_n 1, 1) := by decide +kernel
theorem dX0_ratioOf_28 : decode cX0_ratioOf 28 = .ok (.invokevirtual 92, 3) := by decide +kernel
theorem dX0_ratioOf_31 : decode cX0_ratioOf 31 = .ok (.aload_n 0, 1) := by decide +kernel
theorem dX0_ratioOf_32 : decode cX0_ratioOf 32 = .ok (.getfield 33, 3) := by decide +kernel
theorem dX0_ratioOf_35 : decode cX0_ratioOf 35 = .ok (.lload_n 3, 1) := by decide +kernel
theorem dX0_ratioOf_36 : decode cX0_ratioOf 36 = .ok (.lconst 0, 1) := by decide +kernel
theorem dX0_ratioOf_37 : decode cX0_ratioOf 37 = .ok (.lcmp, 1) := by decide +kernel
theorem dX0_ratioOf_38 : decode cX0_ratioOf 38 = .ok (.ifCond .ge 8, 3) := by decide +kernel
theorem dX0_ratioOf_41 : decode cX0_ratioOf 41 = .ok (.lload_n 3, 1) := by decide +kernel
theorem dX0_ratioOf_42 : decode cX0_ratioOf 42 = .ok (.lneg, 1) := by decide +kernel
theorem dX0_ratioOf_43 : decode cX0_ratioOf 43 = .ok (.goto 4, 3) := by decide +kernel
theorem dX0_ratioOf_46 : decode cX0_ratioOf 46 = .ok (.lload_n 3, 1) := by decide +kernel
theorem dX0_ratioOf_47 : decode cX0_ratioOf 47 = .ok (.invokevirtual 92, 3) := by decide +kernel
theorem dX0_ratioOf_50 : decode cX0_ratioOf 50 = .ok (.aload_n 0, 1) := by decide +kernel
theorem dX0_ratioOf_51 : decode cX0_ratioOf 51 = .ok (.iconst 0, 1) := by decide +kernel
theorem dX0_ratioOf_52 : decode cX0_ratioOf 52 = .ok (.lload_n 1, 1) := by decide +kernel
theorem dX0_ratioOf_53 : decode cX0_ratioOf 53 = .ok (.lconst 0, 1) := by decide +kernel
theorem dX0_ratioOf_54 : decode cX0_ratioOf 54 = .ok (.lcmp, 1) := by decide +kernel
theorem dX0_ratioOf_55 : decode cX0_ratioOf 55 = .ok (.ifCond .ge 7, 3) := by decide +kernel
theorem dX0_ratioOf_58 : decode cX0_ratioOf 58 = .ok (.iconst 1, 1) := by decide +kernel
theorem dX0_ratioOf_59 : decode cX0_ratioOf 59 = .ok (.goto 4, 3) := by decide +kernel
theorem dX0_ratioOf_62 : decode cX0_ratioOf 62 = .ok (.iconst 0, 1) := by decide +kernel
theorem dX0_ratioOf_63 : decode cX0_ratioOf 63 = .ok (.lload_n 3, 1) := by decide +kernel
theorem dX0_ratioOf_64 : decode cX0_ratioOf 64 = .ok (.lconst 0, 1) := by decide +kernel
theorem dX0_ratioOf_65 : decode cX0_ratioOf 65 = .ok (.lcmp, 1) := by decide +kernel
theorem dX0_ratioOf_66 : decode cX0_ratioOf 66 = .ok (.ifCond .ge 7, 3) := by decide +kernel
theorem dX0_ratioOf_69 : decode cX0_ratioOf 69 = .ok (.iconst 1, 1) := by decide +kernel
theorem dX0_ratioOf_70 : decode cX0_ratioOf 70 = .ok (.goto 4, 3) := by decide +kernel
theorem dX0_ratioOf_73 : decode cX0_ratioOf 73 = .ok (.iconst 0, 1) := by decide +kernel
theorem dX0_ratioOf_74 : decode cX0_ratioOf 74 = .ok (.ixor, 1) := by decide +kernel
theorem dX0_ratioOf_75 : decode cX0_ratioOf 75 = .ok (.iload 5, 2) := by decide +kernel
theorem dX0_ratioOf_77 : decode cX0_ratioOf 77 = .ok (.invokevirtual 96, 3) := by decide +kernel
theorem dX0_ratioOf_80 : decode cX0_ratioOf 80 = .ok (.lreturn, 1) := by decide +kernel
theorem dX0_rootOf_0 : decode cX0_rootOf 0 = .ok (.aload_n 1, 1) := by decide +kernel
theorem dX0_rootOf_1 : decode cX0_rootOf 1 = .ok (.getfield 43, 3) := by decide +kernel
theorem dX0_rootOf_4 : decode cX0_rootOf 4 = .ok (.ifCond .ne 16, 3) := by decide +kernel
theorem dX0_rootOf_7 : decode cX0_rootOf 7 = .ok (.aload_n 1, 1) := by decide +kernel
theorem dX0_rootOf_8 : decode cX0_rootOf 8 = .ok (.getfield 53, 3) := by decide +kernel
theorem dX0_rootOf_11 : decode cX0_rootOf 11 = .ok (.ifCond .eq 14, 3) := by decide +kernel
theorem dX0_rootOf_14 : decode cX0_rootOf 14 = .ok (.iload_n 2, 1) := by decide +kernel
theorem dX0_rootOf_15 : decode cX0_rootOf 15 = .ok (.iconst 1, 1) := by decide +kernel
theorem dX0_rootOf_16 : decode cX0_rootOf 16 = .ok (.iand, 1) := by decide +kernel
theorem dX0_rootOf_17 : decode cX0_rootOf 17 = .ok (.ifCond .ne 8, 3) := by decide +kernel
theorem dX0_rootOf_20 : decode cX0_rootOf 20 = .ok (.iload_n 3, 1) := by decide +kernel
theorem dX0_rootOf_21 : decode cX0_rootOf 21 = .ok (.invokestatic 47, 3) := by decide +kernel
theorem dX0_rootOf_24 : decode cX0_rootOf 24 = .ok (.lreturn, 1) := by decide +kernel
theorem dX0_rootOf_25 : decode cX0_rootOf 25 = .ok (.aload_n 1, 1) := by decide +kernel
theorem dX0_rootOf_26 : decode cX0_rootOf 26 = .ok (.getfield 56, 3) := by decide +kernel
theorem dX0_rootOf_29 : decode cX0_rootOf 29 = .ok (.lconst 0, 1) := by decide +kernel
theorem dX0_rootOf_30 : decode cX0_rootOf 30 = .ok (.lcmp, 1) := by decide +kernel
theorem dX0_rootOf_31 : decode cX0_rootOf 31 = .ok (.ifCond .ne 5, 3) := by decide +kernel
theorem dX0_rootOf_34 : decode cX0_rootOf 34 = .ok (.lconst 0, 1) := by decide +kernel
theorem dX0_rootOf_35 : decode cX0_rootOf 35 = .ok (.lreturn, 1) := by decide +kernel
theorem dX0_rootOf_36 : decode cX0_rootOf 36 = .ok (.bipush 30, 2) := by decide +kernel
theorem dX0_rootOf_38 : decode cX0_rootOf 38 = .ok (.aload_n 1, 1) := by decide +kernel
theorem dX0_rootOf_39 : decode cX0_rootOf 39 = .ok (.invokevirtual 100, 3) := by decide +kernel
theorem dX0_rootOf_42 : decode cX0_rootOf 42 = .ok (.iload_n 2, 1) := by decide +kernel
theorem dX0_rootOf_43 : decode cX0_rootOf 43 = .ok (.iconst 1, 1) := by decide +kernel
theorem dX0_rootOf_44 : decode cX0_rootOf 44 = .ok (.invokestatic 104, 3) := by decide +kernel
theorem dX0_rootOf_47 : decode cX0_rootOf 47 = .ok (.invokestatic 110, 3) := by decide +kernel
theorem dX0_rootOf_50 : decode cX0_rootOf 50 = .ok (.isub, 1) := by decide +kernel
theorem dX0_rootOf_51 : decode cX0_rootOf 51 = .ok (.istore 4, 2) := by decide +kernel
theorem dX0_rootOf_53 : decode cX0_rootOf 53 = .ok (.aload_n 0, 1) := by decide +kernel
theorem dX0_rootOf_54 : decode cX0_rootOf 54 = .ok (.getfield 39, 3) := by decide +kernel
theorem dX0_rootOf_57 : decode cX0_rootOf 57 = .ok (.getfield 113, 3) := by decide +kernel
theorem dX0_rootOf_60 : decode cX0_rootOf 60 = .ok (.lconst 1, 1) := by decide +kernel
theorem dX0_rootOf_61 : decode cX0_rootOf 61 = .ok (.invokevirtual 92, 3) := by decide +kernel
theorem dX0_rootOf_64 : decode cX0_rootOf 64 = .ok (.aload_n 0, 1) := by decide +kernel
theorem dX0_rootOf_65 : decode cX0_rootOf 65 = .ok (.getfield 39, 3) := by decide +kernel
theorem dX0_rootOf_68 : decode cX0_rootOf 68 = .ok (.getfield 116, 3) := by decide +kernel
theorem dX0_rootOf_71 : decode cX0_rootOf 71 = .ok (.aload_n 1, 1) := by decide +kernel
theorem dX0_rootOf_72 : decode cX0_rootOf 72 = .ok (.getfield 56, 3) := by decide +kernel
theorem dX0_rootOf_75 : decode cX0_rootOf 75 = .ok (.invokevirtual 92, 3) := by decide +kernel
theorem dX0_rootOf_78 : decode cX0_rootOf 78 = .ok (.aload_n 0, 1) := by decide +kernel
theorem dX0_rootOf_79 : decode cX0_rootOf 79 = .ok (.getfield 39, 3) := by decide +kernel
theorem dX0_rootOf_82 : decode cX0_rootOf 82 = .ok (.getfield 116, 3) := by decide +kernel
theorem dX0_rootOf_85 : decode cX0_rootOf 85 = .ok (.aload_n 1, 1) := by decide +kernel
theorem dX0_rootOf_86 : decode cX0_rootOf 86 = .ok (.getfield 60, 3) := by decide +kernel
theorem dX0_rootOf_89 : decode cX0_rootOf 89 = .ok (.iload_n 2, 1) := by decide +kernel
theorem dX0_rootOf_90 : decode cX0_rootOf 90 = .ok (.iload 4, 2) := by decide +kernel
theorem dX0_rootOf_92 : decode cX0_rootOf 92 = .ok (.imul, 1) := by decide +kernel
theorem dX0_rootOf_93 : decode cX0_rootOf 93 = .ok (.iadd, 1) := by decide +kernel
theorem dX0_rootOf_94 : decode cX0_rootOf 94 = .ok (.invokevirtual 119, 3) := by decide +kernel
theorem dX0_rootOf_97 : decode cX0_rootOf 97 = .ok (.aload_n 0, 1) := by decide +kernel
theorem dX0_rootOf_98 : decode cX0_rootOf 98 = .ok (.getfield 39, 3) := by decide +kernel
theorem dX0_rootOf_101 : decode cX0_rootOf 101 = .ok (.iload_n 2, 1) := by decide +kernel
theorem dX0_rootOf_102 : decode cX0_rootOf 102 = .ok (.invokevirtual 123, 3) := by decide +kernel
theorem dX0_rootOf_105 : decode cX0_rootOf 105 = .ok (.lstore 5, 2) := by decide +kernel
theorem dX0_rootOf_107 : decode cX0_rootOf 107 = .ok (.iload_n 3, 1) := by decide +kernel
theorem dX0_rootOf_108 : decode cX0_rootOf 108 = .ok (.aload_n 1, 1) := by decide +kernel
theorem dX0_rootOf_109 : decode cX0_rootOf 109 = .ok (.getfield 53, 3) := by decide +kernel
theorem dX0_rootOf_112 : decode cX0_rootOf 112 = .ok (.lload 5, 2) := by decide +kernel
theorem dX0_rootOf_114 : decode cX0_rootOf 114 = .ok (.iload 4, 2) := by decide +kernel
theorem dX0_rootOf_116 : decode cX0_rootOf 116 = .ok (.ineg, 1) := by decide +kernel
theorem dX0_rootOf_117 : decode cX0_rootOf 117 = .ok (.aload_n 0, 1) := by decide +kernel
theorem dX0_rootOf_118 : decode cX0_rootOf 118 = .ok (.getfield 39, 3) := by decide +kernel
theorem dX0_rootOf_121 : decode cX0_rootOf 121 = .ok (.getfield 126, 3) := by decide +kernel
theorem dX0_rootOf_124 : decode cX0_rootOf 124 = .ok (.invokestatic 64, 3) := by decide +kernel
theorem dX0_rootOf_127 : decode cX0_rootOf 127 = .ok (.lreturn, 1) := by decide +kernel
theorem dX0_inverseRootOf_0 : decode cX0_inverseRootOf 0 = .ok (.aload_n 1, 1) := by decide +kernel
theorem dX0_inverseRootOf_1 : decode cX0_inverseRootOf 1 = .ok (.getfield 43, 3) := by decide +kernel
theorem dX0_inverseRootOf_4 : decode cX0_inverseRootOf 4 = .ok (.ifCond .ne 19, 3) := by decide +kernel
theorem dX0_inverseRootOf_7 : decode cX0_inverseRootOf 7 = .ok (.aload_n 1, 1) := by decide +kernel
theorem dX0_inverseRootOf_8 : decode cX0_inverseRootOf 8 = .ok (.getfield 53, 3) := by decide +kernel
theorem dX0_inverseRootOf_11 : decode cX0_inverseRootOf 11 = .ok (.ifCond .ne 12, 3) := by decide +kernel
theorem dX0_inverseRootOf_14 : decode cX0_inverseRootOf 14 = .ok (.aload_n 1, 1) := by decide +kernel
theorem dX0_inverseRootOf_15 : decode cX0_inverseRootOf 15 = .ok (.getfield 56, 3) := by decide +kernel
theorem dX0_inverseRootOf_18 : decode cX0_inverseRootOf 18 = .ok (.lconst 0, 1) := by decide +kernel
theorem dX0_inverseRootOf_19 : decode cX0_inverseRootOf 19 = .ok (.lcmp, 1) := by decide +kernel
theorem dX0_inverseRootOf_20 : decode cX0_inverseRootOf 20 = .ok (.ifCond .ne 8, 3) := by decide +kernel
theorem dX0_inverseRootOf_23 : decode cX0_inverseRootOf 23 = .ok (.iload_n 2, 1) := by decide +kernel
theorem dX0_inverseRootOf_24 : decode cX0_inverseRootOf 24 = .ok (.invokestatic 47, 3) := by decide +kernel
theorem dX0_inverseRootOf_27 : decode cX0_inverseRootOf 27 = .ok (.lreturn, 1) := by decide +kernel
theorem dX0_inverseRootOf_28 : decode cX0_inverseRootOf 28 = .ok (.aload_n 1, 1) := by decide +kernel
theorem dX0_inverseRootOf_29 : decode cX0_inverseRootOf 29 = .ok (.getfield 60, 3) := by decide +kernel
theorem dX0_inverseRootOf_32 : decode cX0_inverseRootOf 32 = .ok (.iconst 1, 1) := by decide +kernel
theorem dX0_inverseRootOf_33 : decode cX0_inverseRootOf 33 = .ok (.iand, 1) := by decide +kernel
theorem dX0_inverseRootOf_34 : decode cX0_inverseRootOf 34 = .ok (.istore_n 3, 1) := by decide +kernel
theorem dX0_inverseRootOf_35 : decode cX0_inverseRootOf 35 = .ok (.aload_n 1, 1) := by decide +kernel
theorem dX0_inverseRootOf_36 : decode cX0_inverseRootOf 36 = .ok (.getfield 56, 3) := by decide +kernel
theorem dX0_inverseRootOf_39 : decode cX0_inverseRootOf 39 = .ok (.iload_n 3, 1) := by decide +kernel
theorem dX0_inverseRootOf_40 : decode cX0_inverseRootOf 40 = .ok (.lshl, 1) := by decide +kernel
theorem dX0_inverseRootOf_41 : decode cX0_inverseRootOf 41 = .ok (.lstore 4, 2) := by decide +kernel
theorem dX0_inverseRootOf_43 : decode cX0_inverseRootOf 43 = .ok (.aload_n 1, 1) := by decide +kernel
theorem dX0_inverseRootOf_44 : decode cX0_inverseRootOf 44 = .ok (.getfield 60, 3) := by decide +kernel
theorem dX0_inverseRootOf_47 : decode cX0_inverseRootOf 47 = .ok (.iload_n 3, 1) := by decide +kernel
theorem dX0_inverseRootOf_48 : decode cX0_inverseRootOf 48 = .ok (.isub, 1) := by decide +kernel
theorem dX0_inverseRootOf_49 : decode cX0_inverseRootOf 49 = .ok (.iconst 2, 1) := by decide +kernel
theorem dX0_inverseRootOf_50 : decode cX0_inverseRootOf 50 = .ok (.idiv, 1) := by decide +kernel
theorem dX0_inverseRootOf_51 : decode cX0_inverseRootOf 51 = .ok (.istore 6, 2) := by decide +kernel
theorem dX0_inverseRootOf_53 : decode cX0_inverseRootOf 53 = .ok (.aload_n 0, 1) := by decide +kernel
theorem dX0_inverseRootOf_54 : decode cX0_inverseRootOf 54 = .ok (.getfield 39, 3) := by decide +kernel
theorem dX0_inverseRootOf_57 : decode cX0_inverseRootOf 57 = .ok (.getfield 113, 3) := by decide +kernel
theorem dX0_inverseRootOf_60 : decode cX0_inverseRootOf 60 = .ok (.lload 4, 2) := by decide +kernel
theorem dX0_inverseRootOf_62 : decode cX0_inverseRootOf 62 = .ok (.invokevirtual 92, 3) := by decide +kernel
theorem dX0_inverseRootOf_65 : decode cX0_inverseRootOf 65 = .ok (.bipush 31, 2) := by decide +kernel
theorem dX0_inverseRootOf_67 : decode cX0_inverseRootOf 67 = .ok (.aload_n 0, 1) := by decide +kernel
theorem dX0_inverseRootOf_68 : decode cX0_inverseRootOf 68 = .ok (.getfield 39, 3) := by decide +kernel
theorem dX0_inverseRootOf_71 : decode cX0_inverseRootOf 71 = .ok (.getfield 113, 3) := by decide +kernel
theorem dX0_inverseRootOf_74 : decode cX0_inverseRootOf 74 = .ok (.invokevirtual 129, 3) := by decide +kernel
theorem dX0_inverseRootOf_77 : decode cX0_inverseRootOf 77 = .ok (.iconst 2, 1) := by decide +kernel
theorem dX0_inverseRootOf_78 : decode cX0_inverseRootOf 78 = .ok (.idiv, 1) := by decide +kernel
theorem dX0_inverseRootOf_79 : decode cX0_inverseRootOf 79 = .ok (.iadd, 1) := by decide +kernel
theorem dX0_inverseRootOf_80 : decode cX0_inverseRootOf 80 = .ok (.istore 7, 2) := by decide +kernel
theorem dX0_inverseRootOf_82 : decode cX0_inverseRootOf 82 = .ok (.aload_n 0, 1) := by decide +kernel
theorem dX0_inverseRootOf_83 : decode cX0_inverseRootOf 83 = .ok (.getfield 39, 3) := by decide +kernel
theorem dX0_inverseRootOf_86 : decode cX0_inverseRootOf 86 = .ok (.getfield 116, 3) := by decide +kernel
theorem dX0_inverseRootOf_89 : decode cX0_inverseRootOf 89 = .ok (.lconst 1, 1) := by decide +kernel
theorem dX0_inverseRootOf_90 : decode cX0_inverseRootOf 90 = .ok (.invokevirtual 92, 3) := by decide +kernel
theorem dX0_inverseRootOf_93 : decode cX0_inverseRootOf 93 = .ok (.aload_n 0, 1) := by decide +kernel
theorem dX0_inverseRootOf_94 : decode cX0_inverseRootOf 94 = .ok (.getfield 39, 3) := by decide +kernel
theorem dX0_inverseRootOf_97 : decode cX0_inverseRootOf 97 = .ok (.getfield 116, 3) := by decide +kernel
theorem dX0_inverseRootOf_100 : decode cX0_inverseRootOf 100 = .ok (.iconst 2, 1) := by decide +kernel
theorem dX0_inverseRootOf_101 : decode cX0_inverseRootOf 101 = .ok (.iload 7, 2) := by decide +kernel
theorem dX0_inverseRootOf_103 : decode cX0_inverseRootOf 103 = .ok (.imul, 1) := by decide +kernel
theorem dX0_inverseRootOf_104 : decode cX0_inverseRootOf 104 = .ok (.invokevirtual 119, 3) := by decide +kernel
theorem dX0_inverseRootOf_107 : decode cX0_inverseRootOf 107 = .ok (.aload_n 0, 1) := by decide +kernel
theorem dX0_inverseRootOf_108 : decode cX0_inverseRootOf 108 = .ok (.getfield 39, 3) := by decide +kernel
theorem dX0_inverseRootOf_111 : decode cX0_inverseRootOf 111 = .ok (.iconst 2, 1) := by decide +kernel
theorem dX0_inverseRootOf_112 : decode cX0_inverseRootOf 112 = .ok (.invokevirtual 123, 3) := by decide +kernel
theorem dX0_inverseRootOf_115 : decode cX0_inverseRootOf 115 = .ok (.lstore 8, 2) := by decide +kernel
theorem dX0_inverseRootOf_117 : decode cX0_inverseRootOf 117 = .ok (.iload_n 2, 1) := by decide +kernel
theorem dX0_inverseRootOf_118 : decode cX0_inverseRootOf 118 = .ok (.iconst 0, 1) := by decide +kernel
theorem dX0_inverseRootOf_119 : decode cX0_inverseRootOf 119 = .ok (.lload 8, 2) := by decide +kernel
theorem dX0_inverseRootOf_121 : decode cX0_inverseRootOf 121 = .ok (.iload 7, 2) := by decide +kernel
theorem dX0_inverseRootOf_123 : decode cX0_inverseRootOf 123 = .ok (.ineg, 1) := by decide +kernel
theorem dX0_inverseRootOf_124 : decode cX0_inverseRootOf 124 = .ok (.iload 6, 2) := by decide +kernel
theorem dX0_inverseRootOf_126 : decode cX0_inverseRootOf 126 = .ok (.isub, 1) := by decide +kernel
theorem dX0_inverseRootOf_127 : decode cX0_inverseRootOf 127 = .ok (.aload_n 0, 1) := by decide +kernel
theorem dX0_inverseRootOf_128 : decode cX0_inverseRootOf 128 = .ok (.getfield 39, 3) := by decide +kernel
theorem dX0_inverseRootOf_131 : decode cX0_inverseRootOf 131 = .ok (.getfield 126, 3) := by decide +kernel
theorem dX0_inverseRootOf_134 : decode cX0_inverseRootOf 134 = .ok (.invokestatic 64, 3) := by decide +kernel
theorem dX0_inverseRootOf_137 : decode cX0_inverseRootOf 137 = .ok (.lreturn, 1) := by decide +kernel
theorem dX0_distanceOf_0 : decode cX0_distanceOf 0 = .ok (.aload_n 0, 1) := by decide +kernel
theorem dX0_distanceOf_1 : decode cX0_distanceOf 1 = .ok (.getfield 10, 3) := by decide +kernel
theorem dX0_distanceOf_4 : decode cX0_distanceOf 4 = .ok (.invokevirtual 81, 3) := by decide +kernel
theorem dX0_distanceOf_7 : decode cX0_distanceOf 7 = .ok (.aload_n 0, 1) := by decide +kernel
theorem dX0_distanceOf_8 : decode cX0_distanceOf 8 = .ok (.getfield 10, 3) := by decide +kernel
theorem dX0_distanceOf_11 : decode cX0_distanceOf 11 = .ok (.aload_n 1, 1) := by decide +kernel
theorem dX0_distanceOf_12 : decode cX0_distanceOf 12 = .ok (.aload_n 1, 1) := by decide +kernel
theorem dX0_distanceOf_13 : decode cX0_distanceOf 13 = .ok (.iconst 0, 1) := by decide +kernel
theorem dX0_distanceOf_14 : decode cX0_distanceOf 14 = .ok (.invokevirtual 84, 3) := by decide +kernel
theorem dX0_distanceOf_17 : decode cX0_distanceOf 17 = .ok (.aload_n 0, 1) := by decide +kernel
theorem dX0_distanceOf_18 : decode cX0_distanceOf 18 = .ok (.getfield 10, 3) := by decide +kernel
theorem dX0_distanceOf_21 : decode cX0_distanceOf 21 = .ok (.aload_n 2, 1) := by decide +kernel
theorem dX0_distanceOf_22 : decode cX0_distanceOf 22 = .ok (.aload_n 2, 1) := by decide +kernel
theorem dX0_distanceOf_23 : decode cX0_distanceOf 23 = .ok (.iconst 0, 1) := by decide +kernel
theorem dX0_distanceOf_24 : decode cX0_distanceOf 24 = .ok (.invokevirtual 84, 3) := by decide +kernel
theorem dX0_distanceOf_27 : decode cX0_distanceOf 27 = .ok (.aload_n 0, 1) := by decide +kernel
theorem dX0_distanceOf_28 : decode cX0_distanceOf 28 = .ok (.getfield 10, 3) := by decide +kernel
theorem dX0_distanceOf_31 : decode cX0_distanceOf 31 = .ok (.getfield 68, 3) := by decide +kernel
theorem dX0_distanceOf_34 : decode cX0_distanceOf 34 = .ok (.ifCond .eq 8, 3) := by decide +kernel
theorem dX0_distanceOf_37 : decode cX0_distanceOf 37 = .ok (.iload_n 3, 1) := by decide +kernel
theorem dX0_distanceOf_38 : decode cX0_distanceOf 38 = .ok (.invokestatic 47, 3) := by decide +kernel
theorem dX0_distanceOf_41 : decode cX0_distanceOf 41 = .ok (.lreturn, 1) := by decide +kernel
theorem dX0_distanceOf_42 : decode cX0_distanceOf 42 = .ok (.aload_n 0, 1) := by decide +kernel
theorem dX0_distanceOf_43 : decode cX0_distanceOf 43 = .ok (.getfield 10, 3) := by decide +kernel
theorem dX0_distanceOf_46 : decode cX0_distanceOf 46 = .ok (.aload_n 0, 1) := by decide +kernel
theorem dX0_distanceOf_47 : decode cX0_distanceOf 47 = .ok (.getfield 39, 3) := by decide +kernel
theorem dX0_distanceOf_50 : decode cX0_distanceOf 50 = .ok (.getfield 116, 3) := by decide +kernel
theorem dX0_distanceOf_53 : decode cX0_distanceOf 53 = .ok (.invokevirtual 69, 3) := by decide +kernel
theorem dX0_distanceOf_56 : decode cX0_distanceOf 56 = .ok (.aload_n 0, 1) := by decide +kernel
theorem dX0_distanceOf_57 : decode cX0_distanceOf 57 = .ok (.getfield 39, 3) := by decide +kernel
theorem dX0_distanceOf_60 : decode cX0_distanceOf 60 = .ok (.getfield 116, 3) := by decide +kernel
theorem dX0_distanceOf_63 : decode cX0_distanceOf 63 = .ok (.invokevirtual 132, 3) := by decide +kernel
theorem dX0_distanceOf_66 : decode cX0_distanceOf 66 = .ok (.ifCond .eq 5, 3) := by decide +kernel
theorem dX0_distanceOf_69 : decode cX0_distanceOf 69 = .ok (.lconst 0, 1) := by decide +kernel
theorem dX0_distanceOf_70 : decode cX0_distanceOf 70 = .ok (.lreturn, 1) := by decide +kernel
theorem dX0_distanceOf_71 : decode cX0_distanceOf 71 = .ok (.aload_n 0, 1) := by decide +kernel
theorem dX0_distanceOf_72 : decode cX0_distanceOf 72 = .ok (.getfield 39, 3) := by decide +kernel
theorem dX0_distanceOf_75 : decode cX0_distanceOf 75 = .ok (.getfield 116, 3) := by decide +kernel
theorem dX0_distanceOf_78 : decode cX0_distanceOf 78 = .ok (.invokevirtual 129, 3) := by decide +kernel
theorem dX0_distanceOf_81 : decode cX0_distanceOf 81 = .ok (.bipush 61, 2) := by decide +kernel
theorem dX0_distanceOf_83 : decode cX0_distanceOf 83 = .ok (.isub, 1) := by decide +kernel
theorem dX0_distanceOf_84 : decode cX0_distanceOf 84 = .ok (.iconst 2, 1) := by decide +kernel
theorem dX0_distanceOf_85 : decode cX0_distanceOf 85 = .ok (.invokestatic 110, 3) := by decide +kernel
theorem dX0_distanceOf_88 : decode cX0_distanceOf 88 = .ok (.istore 4, 2) := by decide +kernel
theorem dX0_distanceOf_90 : decode cX0_distanceOf 90 = .ok (.aload_n 0, 1) := by decide +kernel
theorem dX0_distanceOf_91 : decode cX0_distanceOf 91 = .ok (.getfield 39, 3) := by decide +kernel
theorem dX0_distanceOf_94 : decode cX0_distanceOf 94 = .ok (.getfield 113, 3) := by decide +kernel
theorem dX0_distanceOf_97 : decode cX0_distanceOf 97 = .ok (.lconst 1, 1) := by decide +kernel
theorem dX0_distanceOf_98 : decode cX0_distanceOf 98 = .ok (.invokevirtual 92, 3) := by decide +kernel
theorem dX0_distanceOf_101 : decode cX0_distanceOf 101 = .ok (.aload_n 0, 1) := by decide +kernel
theorem dX0_distanceOf_102 : decode cX0_distanceOf 102 = .ok (.getfield 39, 3) := by decide +kernel
theorem dX0_distanceOf_105 : decode cX0_distanceOf 105 = .ok (.getfield 113, 3) := by decide +kernel
theorem dX0_distanceOf_108 : decode cX0_distanceOf 108 = .ok (.iconst 0, 1) := by decide +kernel
theorem dX0_distanceOf_109 : decode cX0_distanceOf 109 = .ok (.iconst 2, 1) := by decide +kernel
theorem dX0_distanceOf_110 : decode cX0_distanceOf 110 = .ok (.iload 4, 2) := by decide +kernel
theorem dX0_distanceOf_112 : decode cX0_distanceOf 112 = .ok (.imul, 1) := by decide +kernel
theorem dX0_distanceOf_113 : decode cX0_distanceOf 113 = .ok (.invokestatic 104, 3) := by decide +kernel
theorem dX0_distanceOf_116 : decode cX0_distanceOf 116 = .ok (.invokevirtual 119, 3) := by decide +kernel
theorem dX0_distanceOf_119 : decode cX0_distanceOf 119 = .ok (.aload_n 0, 1) := by decide +kernel
theorem dX0_distanceOf_120 : decode cX0_distanceOf 120 = .ok (.getfield 39, 3) := by decide +kernel
theorem dX0_distanceOf_123 : decode cX0_distanceOf 123 = .ok (.getfield 116, 3) := by decide +kernel
theorem dX0_distanceOf_126 : decode cX0_distanceOf 126 = .ok (.iconst 0, 1) := by decide +kernel
theorem dX0_distanceOf_127 : decode cX0_distanceOf 127 = .ok (.bipush (-2), 2) := by decide +kernel
theorem dX0_distanceOf_129 : decode cX0_distanceOf 129 = .ok (.iload 4, 2) := by decide +kernel
theorem dX0_distanceOf_131 : decode cX0_distanceOf 131 = .ok (.imul, 1) := by decide +kernel
theorem dX0_distanceOf_132 : decode cX0_distanceOf 132 = .ok (.invokestatic 104, 3) := by decide +kernel
theorem dX0_distanceOf_135 : decode cX0_distanceOf 135 = .ok (.invokevirtual 119, 3) := by decide +kernel
theorem dX0_distanceOf_138 : decode cX0_distanceOf 138 = .ok (.aload_n 0, 1) := by decide +kernel
theorem dX0_distanceOf_139 : decode cX0_distanceOf 139 = .ok (.getfield 39, 3) := by decide +kernel
theorem dX0_distanceOf_142 : decode cX0_distanceOf 142 = .ok (.iconst 2, 1) := by decide +kernel
theorem dX0_distanceOf_143 : decode cX0_distanceOf 143 = .ok (.invokevirtual 123, 3) := by decide +kernel
theorem dX0_distanceOf_146 : decode cX0_distanceOf 146 = .ok (.lstore 5, 2) := by decide +kernel
theorem dX0_distanceOf_148 : decode cX0_distanceOf 148 = .ok (.iload_n 3, 1) := by decide +kernel
theorem dX0_distanceOf_149 : decode cX0_distanceOf 149 = .ok (.iconst 0, 1) := by decide +kernel
theorem dX0_distanceOf_150 : decode cX0_distanceOf 150 = .ok (.lload 5, 2) := by decide +kernel
theorem dX0_distanceOf_152 : decode cX0_distanceOf 152 = .ok (.iload 4, 2) := by decide +kernel
theorem dX0_distanceOf_154 : decode cX0_distanceOf 154 = .ok (.bipush 120, 2) := by decide +kernel
theorem dX0_distanceOf_156 : decode cX0_distanceOf 156 = .ok (.isub, 1) := by decide +kernel
theorem dX0_distanceOf_157 : decode cX0_distanceOf 157 = .ok (.aload_n 0, 1) := by decide +kernel
theorem dX0_distanceOf_158 : decode cX0_distanceOf 158 = .ok (.getfield 39, 3) := by decide +kernel
theorem dX0_distanceOf_161 : decode cX0_distanceOf 161 = .ok (.getfield 126, 3) := by decide +kernel
theorem dX0_distanceOf_164 : decode cX0_distanceOf 164 = .ok (.invokestatic 64, 3) := by decide +kernel
theorem dX0_distanceOf_167 : decode cX0_distanceOf 167 = .ok (.lreturn, 1) := by decide +kernel
theorem dX0_powerOf_0 : decode cX0_powerOf 0 = .ok (.aload_n 1, 1) := by decide +kernel
theorem dX0_powerOf_1 : decode cX0_powerOf 1 = .ok (.getfield 43, 3) := by decide +kernel
theorem dX0_powerOf_4 : decode cX0_powerOf 4 = .ok (.ifCond .ne 16, 3) := by decide +kernel
theorem dX0_powerOf_7 : decode cX0_powerOf 7 = .ok (.aload_n 1, 1) := by decide +kernel
theorem dX0_powerOf_8 : decode cX0_powerOf 8 = .ok (.getfield 56, 3) := by decide +kernel
theorem dX0_powerOf_11 : decode cX0_powerOf 11 = .ok (.lconst 0, 1) := by decide +kernel
theorem dX0_powerOf_12 : decode cX0_powerOf 12 = .ok (.lcmp, 1) := by decide +kernel
theorem dX0_powerOf_13 : decode cX0_powerOf 13 = .ok (.ifCond .ne 12, 3) := by decide +kernel
theorem dX0_powerOf_16 : decode cX0_powerOf 16 = .ok (.iload_n 2, 1) := by decide +kernel
theorem dX0_powerOf_17 : decode cX0_powerOf 17 = .ok (.ifCond .ge 8, 3) := by decide +kernel
theorem dX0_powerOf_20 : decode cX0_powerOf 20 = .ok (.iload_n 3, 1) := by decide +kernel
theorem dX0_powerOf_21 : decode cX0_powerOf 21 = .ok (.invokestatic 47, 3) := by decide +kernel
theorem dX0_powerOf_24 : decode cX0_powerOf 24 = .ok (.lreturn, 1) := by decide +kernel
theorem dX0_powerOf_25 : decode cX0_powerOf 25 = .ok (.aload_n 1, 1) := by decide +kernel
theorem dX0_powerOf_26 : decode cX0_powerOf 26 = .ok (.getfield 53, 3) := by decide +kernel
theorem dX0_powerOf_29 : decode cX0_powerOf 29 = .ok (.ifCond .eq 14, 3) := by decide +kernel
theorem dX0_powerOf_32 : decode cX0_powerOf 32 = .ok (.iload_n 2, 1) := by decide +kernel
theorem dX0_powerOf_33 : decode cX0_powerOf 33 = .ok (.iconst 1, 1) := by decide +kernel
theorem dX0_powerOf_34 : decode cX0_powerOf 34 = .ok (.iand, 1) := by decide +kernel
theorem dX0_powerOf_35 : decode cX0_powerOf 35 = .ok (.iconst 1, 1) := by decide +kernel
theorem dX0_powerOf_36 : decode cX0_powerOf 36 = .ok (.if_icmp .ne 7, 3) := by decide +kernel
theorem dX0_powerOf_39 : decode cX0_powerOf 39 = .ok (.iconst 1, 1) := by decide +kernel
theorem dX0_powerOf_40 : decode cX0_powerOf 40 = .ok (.goto 4, 3) := by decide +kernel
theorem dX0_powerOf_43 : decode cX0_powerOf 43 = .ok (.iconst 0, 1) := by decide +kernel
theorem dX0_powerOf_44 : decode cX0_powerOf 44 = .ok (.istore 4, 2) := by decide +kernel
theorem dX0_powerOf_46 : decode cX0_powerOf 46 = .ok (.aload_n 0, 1) := by decide +kernel
theorem dX0_powerOf_47 : decode cX0_powerOf 47 = .ok (.getfield 33, 3) := by decide +kernel
theorem dX0_powerOf_50 : decode cX0_powerOf 50 = .ok (.lconst 1, 1) := by decide +kernel
theorem dX0_powerOf_51 : decode cX0_powerOf 51 = .ok (.invokevirtual 92, 3) := by decide +kernel
theorem dX0_powerOf_54 : decode cX0_powerOf 54 = .ok (.aload_n 0, 1) := by decide +kernel
theorem dX0_powerOf_55 : decode cX0_powerOf 55 = .ok (.getfield 33, 3) := by decide +kernel
theorem dX0_powerOf_58 : decode cX0_powerOf 58 = .ok (.aload_n 1, 1) := by decide +kernel
theorem dX0_powerOf_59 : decode cX0_powerOf 59 = .ok (.getfield 56, 3) := by decide +kernel
theorem dX0_powerOf_62 : decode cX0_powerOf 62 = .ok (.iload_n 2, 1) := by decide +kernel
theorem dX0_powerOf_63 : decode cX0_powerOf 63 = .ok (.invokestatic 135, 3) := by decide +kernel
theorem dX0_powerOf_66 : decode cX0_powerOf 66 = .ok (.invokevirtual 139, 3) := by decide +kernel
theorem dX0_powerOf_69 : decode cX0_powerOf 69 = .ok (.iload_n 2, 1) := by decide +kernel
theorem dX0_powerOf_70 : decode cX0_powerOf 70 = .ok (.ifCond .lt 20, 3) := by decide +kernel
theorem dX0_powerOf_73 : decode cX0_powerOf 73 = .ok (.iload_n 3, 1) := by decide +kernel
theorem dX0_powerOf_74 : decode cX0_powerOf 74 = .ok (.iload 4, 2) := by decide +kernel
theorem dX0_powerOf_76 : decode cX0_powerOf 76 = .ok (.aload_n 0, 1) := by decide +kernel
theorem dX0_powerOf_77 : decode cX0_powerOf 77 = .ok (.getfield 33, 3) := by decide +kernel
theorem dX0_powerOf_80 : decode cX0_powerOf 80 = .ok (.iload_n 2, 1) := by decide +kernel
theorem dX0_powerOf_81 : decode cX0_powerOf 81 = .ok (.aload_n 1, 1) := by decide +kernel
theorem dX0_powerOf_82 : decode cX0_powerOf 82 = .ok (.getfield 60, 3) := by decide +kernel
theorem dX0_powerOf_85 : decode cX0_powerOf 85 = .ok (.imul, 1) := by decide +kernel
theorem dX0_powerOf_86 : decode cX0_powerOf 86 = .ok (.invokestatic 77, 3) := by decide +kernel
theorem dX0_powerOf_89 : decode cX0_powerOf 89 = .ok (.lreturn, 1) := by decide +kernel
theorem dX0_powerOf_90 : decode cX0_powerOf 90 = .ok (.aload_n 0, 1) := by decide +kernel
theorem dX0_powerOf_91 : decode cX0_powerOf 91 = .ok (.getfield 29, 3) := by decide +kernel
theorem dX0_powerOf_94 : decode cX0_powerOf 94 = .ok (.lconst 1, 1) := by decide +kernel
theorem dX0_powerOf_95 : decode cX0_powerOf 95 = .ok (.invokevirtual 92, 3) := by decide +kernel
theorem dX0_powerOf_98 : decode cX0_powerOf 98 = .ok (.aload_n 0, 1) := by decide +kernel
theorem dX0_powerOf_99 : decode cX0_powerOf 99 = .ok (.iload_n 2, 1) := by decide +kernel
theorem dX0_powerOf_100 : decode cX0_powerOf 100 = .ok (.aload_n 1, 1) := by decide +kernel
theorem dX0_powerOf_101 : decode cX0_powerOf 101 = .ok (.getfield 60, 3) := by decide +kernel
theorem dX0_powerOf_104 : decode cX0_powerOf 104 = .ok (.imul, 1) := by decide +kernel
theorem dX0_powerOf_105 : decode cX0_powerOf 105 = .ok (.iload 4, 2) := by decide +kernel
theorem dX0_powerOf_107 : decode cX0_powerOf 107 = .ok (.iload_n 3, 1) := by decide +kernel
theorem dX0_powerOf_108 : decode cX0_powerOf 108 = .ok (.invokevirtual 96, 3) := by decide +kernel
theorem dX0_powerOf_111 : decode cX0_powerOf 111 = .ok (.lreturn, 1) := by decide +kernel
theorem dX0_decimalOf_0 : decode cX0_decimalOf 0 = .ok (.bipush (-100), 2) := by decide +kernel
theorem dX0_decimalOf_2 : decode cX0_decimalOf 2 = .ok (.bipush 40, 2) := by decide +kernel
theorem dX0_decimalOf_4 : decode cX0_decimalOf 4 = .ok (.iload_n 2, 1) := by decide +kernel
theorem dX0_decimalOf_5 : decode cX0_decimalOf 5 = .ok (.invokestatic 143, 3) := by decide +kernel
theorem dX0_decimalOf_8 : decode cX0_decimalOf 8 = .ok (.invokestatic 104, 3) := by decide +kernel
theorem dX0_decimalOf_11 : decode cX0_decimalOf 11 = .ok (.istore 5, 2) := by decide +kernel
theorem dX0_decimalOf_13 : decode cX0_decimalOf 13 = .ok (.aload_n 0, 1) := by decide +kernel
theorem dX0_decimalOf_14 : decode cX0_decimalOf 14 = .ok (.getfield 29, 3) := by decide +kernel
theorem dX0_decimalOf_17 : decode cX0_decimalOf 17 = .ok (.aload_n 1, 1) := by decide +kernel
theorem dX0_decimalOf_18 : decode cX0_decimalOf 18 = .ok (.invokevirtual 146, 3) := by decide +kernel
theorem dX0_decimalOf_21 : decode cX0_decimalOf 21 = .ok (.aload_n 0, 1) := by decide +kernel
theorem dX0_decimalOf_22 : decode cX0_decimalOf 22 = .ok (.getfield 29, 3) := by decide +kernel
theorem dX0_decimalOf_25 : decode cX0_decimalOf 25 = .ok (.ldc2_w 149, 3) := by decide +kernel
theorem dX0_decimalOf_28 : decode cX0_decimalOf 28 = .ok (.iconst 0, 1) := by decide +kernel
theorem dX0_decimalOf_29 : decode cX0_decimalOf 29 = .ok (.iload 5, 2) := by decide +kernel
theorem dX0_decimalOf_31 : decode cX0_decimalOf 31 = .ok (.invokestatic 104, 3) := by decide +kernel
theorem dX0_decimalOf_34 : decode cX0_decimalOf 34 = .ok (.invokevirtual 139, 3) := by decide +kernel
theorem dX0_decimalOf_37 : decode cX0_decimalOf 37 = .ok (.aload_n 0, 1) := by decide +kernel
theorem dX0_decimalOf_38 : decode cX0_decimalOf 38 = .ok (.getfield 33, 3) := by decide +kernel
theorem dX0_decimalOf_41 : decode cX0_decimalOf 41 = .ok (.lconst 1, 1) := by decide +kernel
theorem dX0_decimalOf_42 : decode cX0_decimalOf 42 = .ok (.invokevirtual 92, 3) := by decide +kernel
theorem dX0_decimalOf_45 : decode cX0_decimalOf 45 = .ok (.aload_n 0, 1) := by decide +kernel
theorem dX0_decimalOf_46 : decode cX0_decimalOf 46 = .ok (.getfield 33, 3) := by decide +kernel
theorem dX0_decimalOf_49 : decode cX0_decimalOf 49 = .ok (.ldc2_w 149, 3) := by decide +kernel
theorem dX0_decimalOf_52 : decode cX0_decimalOf 52 = .ok (.iconst 0, 1) := by decide +kernel
theorem dX0_decimalOf_53 : decode cX0_decimalOf 53 = .ok (.iload 5, 2) := by decide +kernel
theorem dX0_decimalOf_55 : decode cX0_decimalOf 55 = .ok (.ineg, 1) := by decide +kernel
theorem dX0_decimalOf_56 : decode cX0_decimalOf 56 = .ok (.invokestatic 104, 3) := by decide +kernel
theorem dX0_decimalOf_59 : decode cX0_decimalOf 59 = .ok (.invokevirtual 139, 3) := by decide +kernel
theorem dX0_decimalOf_62 : decode cX0_decimalOf 62 = .ok (.iload 5, 2) := by decide +kernel
theorem dX0_decimalOf_64 : decode cX0_decimalOf 64 = .ok (.ifCond .lt 17, 3) := by decide +kernel
theorem dX0_decimalOf_67 : decode cX0_decimalOf 67 = .ok (.iload 4, 2) := by decide +kernel
theorem dX0_decimalOf_69 : decode cX0_decimalOf 69 = .ok (.iload_n 3, 1) := by decide +kernel
theorem dX0_decimalOf_70 : decode cX0_decimalOf 70 = .ok (.aload_n 0, 1) := by decide +kernel
theorem dX0_decimalOf_71 : decode cX0_decimalOf 71 = .ok (.getfield 29, 3) := by decide +kernel
theorem dX0_decimalOf_74 : decode cX0_decimalOf 74 = .ok (.iconst 0, 1) := by decide +kernel
theorem dX0_decimalOf_75 : decode cX0_decimalOf 75 = .ok (.invokestatic 77, 3) := by decide +kernel
theorem dX0_decimalOf_78 : decode cX0_decimalOf 78 = .ok (.goto 11, 3) := by decide +kernel
theorem dX0_decimalOf_81 : decode cX0_decimalOf 81 = .ok (.aload_n 0, 1) := by decide +kernel
theorem dX0_decimalOf_82 : decode cX0_decimalOf 82 = .ok (.iconst 0, 1) := by decide +kernel
theorem dX0_decimalOf_83 : decode cX0_decimalOf 83 = .ok (.iload_n 3, 1) := by decide +kernel
theorem dX0_decimalOf_84 : decode cX0_decimalOf 84 = .ok (.iload 4, 2) := by decide +kernel
theorem dX0_decimalOf_86 : decode cX0_decimalOf 86 = .ok (.invokevirtual 96, 3) := by decide +kernel
theorem dX0_decimalOf_89 : decode cX0_decimalOf 89 = .ok (.lreturn, 1) := by decide +kernel
theorem dX0_divided_0 : decode cX0_divided 0 = .ok (.aload_n 0, 1) := by decide +kernel
theorem dX0_divided_1 : decode cX0_divided 1 = .ok (.getfield 29, 3) := by decide +kernel
theorem dX0_divided_4 : decode cX0_divided 4 = .ok (.invokevirtual 132, 3) := by decide +kernel
theorem dX0_divided_7 : decode cX0_divided 7 = .ok (.ifCond .eq 5, 3) := by decide +kernel
theorem dX0_divided_10 : decode cX0_divided 10 = .ok (.lconst 0, 1) := by decide +kernel
theorem dX0_divided_11 : decode cX0_divided 11 = .ok (.lreturn, 1) := by decide +kernel
theorem dX0_divided_12 : decode cX0_divided 12 = .ok (.bipush 31, 2) := by decide +kernel
theorem dX0_divided_14 : decode cX0_divided 14 = .ok (.aload_n 0, 1) := by decide +kernel
theorem dX0_divided_15 : decode cX0_divided 15 = .ok (.getfield 29, 3) := by decide +kernel
theorem dX0_divided_18 : decode cX0_divided 18 = .ok (.invokevirtual 129, 3) := by decide +kernel
theorem dX0_divided_21 : decode cX0_divided 21 = .ok (.isub, 1) := by decide +kernel
theorem dX0_divided_22 : decode cX0_divided 22 = .ok (.aload_n 0, 1) := by decide +kernel
theorem dX0_divided_23 : decode cX0_divided 23 = .ok (.getfield 33, 3) := by decide +kernel
theorem dX0_divided_26 : decode cX0_divided 26 = .ok (.invokevirtual 129, 3) := by decide +kernel
theorem dX0_divided_29 : decode cX0_divided 29 = .ok (.iadd, 1) := by decide +kernel
theorem dX0_divided_30 : decode cX0_divided 30 = .ok (.istore 4, 2) := by decide +kernel
theorem dX0_divided_32 : decode cX0_divided 32 = .ok (.aload_n 0, 1) := by decide +kernel
theorem dX0_divided_33 : decode cX0_divided 33 = .ok (.getfield 39, 3) := by decide +kernel
theorem dX0_divided_36 : decode cX0_divided 36 = .ok (.getfield 113, 3) := by decide +kernel
theorem dX0_divided_39 : decode cX0_divided 39 = .ok (.aload_n 0, 1) := by decide +kernel
theorem dX0_divided_40 : decode cX0_divided 40 = .ok (.getfield 33, 3) := by decide +kernel
theorem dX0_divided_43 : decode cX0_divided 43 = .ok (.invokevirtual 146, 3) := by decide +kernel
theorem dX0_divided_46 : decode cX0_divided 46 = .ok (.aload_n 0, 1) := by decide +kernel
theorem dX0_divided_47 : decode cX0_divided 47 = .ok (.getfield 39, 3) := by decide +kernel
theorem dX0_divided_50 : decode cX0_divided 50 = .ok (.getfield 113, 3) := by decide +kernel
theorem dX0_divided_53 : decode cX0_divided 53 = .ok (.iconst 0, 1) := by decide +kernel
theorem dX0_divided_54 : decode cX0_divided 54 = .ok (.iload 4, 2) := by decide +kernel
theorem dX0_divided_56 : decode cX0_divided 56 = .ok (.ineg, 1) := by decide +kernel
theorem dX0_divided_57 : decode cX0_divided 57 = .ok (.invokestatic 104, 3) := by decide +kernel
theorem dX0_divided_60 : decode cX0_divided 60 = .ok (.invokevirtual 119, 3) := by decide +kernel
theorem dX0_divided_63 : decode cX0_divided 63 = .ok (.aload_n 0, 1) := by decide +kernel
theorem dX0_divided_64 : decode cX0_divided 64 = .ok (.getfield 39, 3) := by decide +kernel
theorem dX0_divided_67 : decode cX0_divided 67 = .ok (.getfield 116, 3) := by decide +kernel
theorem dX0_divided_70 : decode cX0_divided 70 = .ok (.aload_n 0, 1) := by decide +kernel
theorem dX0_divided_71 : decode cX0_divided 71 = .ok (.getfield 29, 3) := by decide +kernel
theorem dX0_divided_74 : decode cX0_divided 74 = .ok (.invokevirtual 146, 3) := by decide +kernel
theorem dX0_divided_77 : decode cX0_divided 77 = .ok (.aload_n 0, 1) := by decide +kernel
theorem dX0_divided_78 : decode cX0_divided 78 = .ok (.getfield 39, 3) := by decide +kernel
theorem dX0_divided_81 : decode cX0_divided 81 = .ok (.getfield 116, 3) := by decide +kernel
theorem dX0_divided_84 : decode cX0_divided 84 = .ok (.iconst 0, 1) := by decide +kernel
theorem dX0_divided_85 : decode cX0_divided 85 = .ok (.iload 4, 2) := by decide +kernel
theorem dX0_divided_87 : decode cX0_divided 87 = .ok (.invokestatic 104, 3) := by decide +kernel
theorem dX0_divided_90 : decode cX0_divided 90 = .ok (.invokevirtual 119, 3) := by decide +kernel
theorem dX0_divided_93 : decode cX0_divided 93 = .ok (.aload_n 0, 1) := by decide +kernel
theorem dX0_divided_94 : decode cX0_divided 94 = .ok (.getfield 39, 3) := by decide +kernel
theorem dX0_divided_97 : decode cX0_divided 97 = .ok (.iconst 1, 1) := by decide +kernel
theorem dX0_divided_98 : decode cX0_divided 98 = .ok (.invokevirtual 123, 3) := by decide +kernel
theorem dX0_divided_101 : decode cX0_divided 101 = .ok (.lstore 5, 2) := by decide +kernel
theorem dX0_divided_103 : decode cX0_divided 103 = .ok (.iload_n 3, 1) := by decide +kernel
theorem dX0_divided_104 : decode cX0_divided 104 = .ok (.iload_n 2, 1) := by decide +kernel
theorem dX0_divided_105 : decode cX0_divided 105 = .ok (.lload 5, 2) := by decide +kernel
theorem dX0_divided_107 : decode cX0_divided 107 = .ok (.iload_n 1, 1) := by decide +kernel
theorem dX0_divided_108 : decode cX0_divided 108 = .ok (.iload 4, 2) := by decide +kernel
theorem dX0_divided_110 : decode cX0_divided 110 = .ok (.isub, 1) := by decide +kernel
theorem dX0_divided_111 : decode cX0_divided 111 = .ok (.aload_n 0, 1) := by decide +kernel
theorem dX0_divided_112 : decode cX0_divided 112 = .ok (.getfield 39, 3) := by decide +kernel
theorem dX0_divided_115 : decode cX0_divided 115 = .ok (.getfield 126, 3) := by decide +kernel
theorem dX0_divided_118 : decode cX0_divided 118 = .ok (.invokestatic 64, 3) := by decide +kernel
theorem dX0_divided_121 : decode cX0_divided 121 = .ok (.lreturn, 1) := by decide +kernel
