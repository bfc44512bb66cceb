theorem dX11_far_47 : decode cX11_far 47 = .ok (.iconst 1, 1) := by decide +kernel
theorem dX11_far_48 : decode cX11_far 48 = .ok (.invokevirtual 236, 3) := by decide +kernel
theorem dX11_far_51 : decode cX11_far 51 = .ok (.aload_n 0, 1) := by decide +kernel
theorem dX11_far_52 : decode cX11_far 52 = .ok (.aload_n 0, 1) := by decide +kernel
theorem dX11_far_53 : decode cX11_far 53 = .ok (.getfield 134, 3) := by decide +kernel
theorem dX11_far_56 : decode cX11_far 56 = .ok (.iload_n 2, 1) := by decide +kernel
theorem dX11_far_57 : decode cX11_far 57 = .ok (.iload_n 2, 1) := by decide +kernel
theorem dX11_far_58 : decode cX11_far 58 = .ok (.iconst 1, 1) := by decide +kernel
theorem dX11_far_59 : decode cX11_far 59 = .ok (.invokevirtual 236, 3) := by decide +kernel
theorem dX11_far_62 : decode cX11_far 62 = .ok (.aload_n 0, 1) := by decide +kernel
theorem dX11_far_63 : decode cX11_far 63 = .ok (.aload_n 0, 1) := by decide +kernel
theorem dX11_far_64 : decode cX11_far 64 = .ok (.getfield 134, 3) := by decide +kernel
theorem dX11_far_67 : decode cX11_far 67 = .ok (.invokevirtual 228, 3) := by decide +kernel
theorem dX11_far_70 : decode cX11_far 70 = .ok (.aload_n 0, 1) := by decide +kernel
theorem dX11_far_71 : decode cX11_far 71 = .ok (.iconst 2, 1) := by decide +kernel
theorem dX11_far_72 : decode cX11_far 72 = .ok (.putfield 51, 3) := by decide +kernel
theorem dX11_far_75 : decode cX11_far 75 = .ok (.aload_n 0, 1) := by decide +kernel
theorem dX11_far_76 : decode cX11_far 76 = .ok (.iload_n 3, 1) := by decide +kernel
theorem dX11_far_77 : decode cX11_far 77 = .ok (.invokevirtual 185, 3) := by decide +kernel
theorem dX11_far_80 : decode cX11_far 80 = .ok (.return_, 1) := by decide +kernel
theorem dX11_power_0 : decode cX11_power 0 = .ok (.aload_n 0, 1) := by decide +kernel
theorem dX11_power_1 : decode cX11_power 1 = .ok (.iload_n 1, 1) := by decide +kernel
theorem dX11_power_2 : decode cX11_power 2 = .ok (.invokestatic 165, 3) := by decide +kernel
theorem dX11_power_5 : decode cX11_power 5 = .ok (.ifCond .eq 14, 3) := by decide +kernel
theorem dX11_power_8 : decode cX11_power 8 = .ok (.iload_n 3, 1) := by decide +kernel
theorem dX11_power_9 : decode cX11_power 9 = .ok (.invokestatic 165, 3) := by decide +kernel
theorem dX11_power_12 : decode cX11_power 12 = .ok (.ifCond .eq 7, 3) := by decide +kernel
theorem dX11_power_15 : decode cX11_power 15 = .ok (.iconst 1, 1) := by decide +kernel
theorem dX11_power_16 : decode cX11_power 16 = .ok (.goto 4, 3) := by decide +kernel
theorem dX11_power_19 : decode cX11_power 19 = .ok (.iconst 0, 1) := by decide +kernel
theorem dX11_power_20 : decode cX11_power 20 = .ok (.iload_n 2, 1) := by decide +kernel
theorem dX11_power_21 : decode cX11_power 21 = .ok (.bipush (-16), 2) := by decide +kernel
theorem dX11_power_23 : decode cX11_power 23 = .ok (.if_icmp .lt 13, 3) := by decide +kernel
theorem dX11_power_26 : decode cX11_power 26 = .ok (.iload_n 2, 1) := by decide +kernel
theorem dX11_power_27 : decode cX11_power 27 = .ok (.bipush 16, 2) := by decide +kernel
theorem dX11_power_29 : decode cX11_power 29 = .ok (.if_icmp .gt 7, 3) := by decide +kernel
theorem dX11_power_32 : decode cX11_power 32 = .ok (.iconst 1, 1) := by decide +kernel
theorem dX11_power_33 : decode cX11_power 33 = .ok (.goto 4, 3) := by decide +kernel
theorem dX11_power_36 : decode cX11_power 36 = .ok (.iconst 0, 1) := by decide +kernel
theorem dX11_power_37 : decode cX11_power 37 = .ok (.invokevirtual 172, 3) := by decide +kernel
theorem dX11_power_40 : decode cX11_power 40 = .ok (.ifCond .ne 4, 3) := by decide +kernel
theorem dX11_power_43 : decode cX11_power 43 = .ok (.return_, 1) := by decide +kernel
theorem dX11_power_44 : decode cX11_power 44 = .ok (.aload_n 0, 1) := by decide +kernel
theorem dX11_power_45 : decode cX11_power 45 = .ok (.iload_n 1, 1) := by decide +kernel
theorem dX11_power_46 : decode cX11_power 46 = .ok (.invokevirtual 112, 3) := by decide +kernel
theorem dX11_power_49 : decode cX11_power 49 = .ok (.aload_n 0, 1) := by decide +kernel
theorem dX11_power_50 : decode cX11_power 50 = .ok (.iload_n 1, 1) := by decide +kernel
theorem dX11_power_51 : decode cX11_power 51 = .ok (.invokevirtual 176, 3) := by decide +kernel
theorem dX11_power_54 : decode cX11_power 54 = .ok (.ifCond .ne 18, 3) := by decide +kernel
theorem dX11_power_57 : decode cX11_power 57 = .ok (.aload_n 0, 1) := by decide +kernel
theorem dX11_power_58 : decode cX11_power 58 = .ok (.getfield 20, 3) := by decide +kernel
theorem dX11_power_61 : decode cX11_power 61 = .ok (.iload_n 1, 1) := by decide +kernel
theorem dX11_power_62 : decode cX11_power 62 = .ok (.laload, 1) := by decide +kernel
theorem dX11_power_63 : decode cX11_power 63 = .ok (.lconst 0, 1) := by decide +kernel
theorem dX11_power_64 : decode cX11_power 64 = .ok (.lcmp, 1) := by decide +kernel
theorem dX11_power_65 : decode cX11_power 65 = .ok (.ifCond .ne 11, 3) := by decide +kernel
theorem dX11_power_68 : decode cX11_power 68 = .ok (.iload_n 2, 1) := by decide +kernel
theorem dX11_power_69 : decode cX11_power 69 = .ok (.ifCond .ge 7, 3) := by decide +kernel
theorem dX11_power_72 : decode cX11_power 72 = .ok (.iconst 1, 1) := by decide +kernel
theorem dX11_power_73 : decode cX11_power 73 = .ok (.goto 4, 3) := by decide +kernel
theorem dX11_power_76 : decode cX11_power 76 = .ok (.iconst 0, 1) := by decide +kernel
theorem dX11_power_77 : decode cX11_power 77 = .ok (.istore 4, 2) := by decide +kernel
theorem dX11_power_79 : decode cX11_power 79 = .ok (.iload 4, 2) := by decide +kernel
theorem dX11_power_81 : decode cX11_power 81 = .ok (.ifCond .eq 9, 3) := by decide +kernel
theorem dX11_power_84 : decode cX11_power 84 = .ok (.aload_n 0, 1) := by decide +kernel
theorem dX11_power_85 : decode cX11_power 85 = .ok (.iload_n 3, 1) := by decide +kernel
theorem dX11_power_86 : decode cX11_power 86 = .ok (.invokevirtual 182, 3) := by decide +kernel
theorem dX11_power_89 : decode cX11_power 89 = .ok (.return_, 1) := by decide +kernel
theorem dX11_power_90 : decode cX11_power 90 = .ok (.aload_n 0, 1) := by decide +kernel
theorem dX11_power_91 : decode cX11_power 91 = .ok (.iload_n 2, 1) := by decide +kernel
theorem dX11_power_92 : decode cX11_power 92 = .ok (.ifCond .ne 7, 3) := by decide +kernel
theorem dX11_power_95 : decode cX11_power 95 = .ok (.iconst 1, 1) := by decide +kernel
theorem dX11_power_96 : decode cX11_power 96 = .ok (.goto 25, 3) := by decide +kernel
theorem dX11_power_99 : decode cX11_power 99 = .ok (.iload_n 2, 1) := by decide +kernel
theorem dX11_power_100 : decode cX11_power 100 = .ok (.iconst 2, 1) := by decide +kernel
theorem dX11_power_101 : decode cX11_power 101 = .ok (.irem, 1) := by decide +kernel
theorem dX11_power_102 : decode cX11_power 102 = .ok (.ifCond .ne 15, 3) := by decide +kernel
theorem dX11_power_105 : decode cX11_power 105 = .ok (.aload_n 0, 1) := by decide +kernel
theorem dX11_power_106 : decode cX11_power 106 = .ok (.getfield 17, 3) := by decide +kernel
theorem dX11_power_109 : decode cX11_power 109 = .ok (.aload_n 0, 1) := by decide +kernel
theorem dX11_power_110 : decode cX11_power 110 = .ok (.getfield 17, 3) := by decide +kernel
theorem dX11_power_113 : decode cX11_power 113 = .ok (.imul, 1) := by decide +kernel
theorem dX11_power_114 : decode cX11_power 114 = .ok (.goto 7, 3) := by decide +kernel
theorem dX11_power_117 : decode cX11_power 117 = .ok (.aload_n 0, 1) := by decide +kernel
theorem dX11_power_118 : decode cX11_power 118 = .ok (.getfield 17, 3) := by decide +kernel
theorem dX11_power_121 : decode cX11_power 121 = .ok (.invokevirtual 119, 3) := by decide +kernel
theorem dX11_power_124 : decode cX11_power 124 = .ok (.iload_n 2, 1) := by decide +kernel
theorem dX11_power_125 : decode cX11_power 125 = .ok (.ifCond .ge 10, 3) := by decide +kernel
theorem dX11_power_128 : decode cX11_power 128 = .ok (.aload_n 0, 1) := by decide +kernel
theorem dX11_power_129 : decode cX11_power 129 = .ok (.getfield 45, 3) := by decide +kernel
theorem dX11_power_132 : decode cX11_power 132 = .ok (.goto 7, 3) := by decide +kernel
theorem dX11_power_135 : decode cX11_power 135 = .ok (.aload_n 0, 1) := by decide +kernel
theorem dX11_power_136 : decode cX11_power 136 = .ok (.getfield 35, 3) := by decide +kernel
theorem dX11_power_139 : decode cX11_power 139 = .ok (.astore 5, 2) := by decide +kernel
theorem dX11_power_141 : decode cX11_power 141 = .ok (.iconst 0, 1) := by decide +kernel
theorem dX11_power_142 : decode cX11_power 142 = .ok (.istore 6, 2) := by decide +kernel
theorem dX11_power_144 : decode cX11_power 144 = .ok (.iload 6, 2) := by decide +kernel
theorem dX11_power_146 : decode cX11_power 146 = .ok (.iload_n 2, 1) := by decide +kernel
theorem dX11_power_147 : decode cX11_power 147 = .ok (.invokestatic 240, 3) := by decide +kernel
theorem dX11_power_150 : decode cX11_power 150 = .ok (.if_icmp .ge 26, 3) := by decide +kernel
theorem dX11_power_153 : decode cX11_power 153 = .ok (.aload_n 0, 1) := by decide +kernel
theorem dX11_power_154 : decode cX11_power 154 = .ok (.getfield 17, 3) := by decide +kernel
theorem dX11_power_157 : decode cX11_power 157 = .ok (.ifCond .eq 19, 3) := by decide +kernel
theorem dX11_power_160 : decode cX11_power 160 = .ok (.aload 5, 2) := by decide +kernel
theorem dX11_power_162 : decode cX11_power 162 = .ok (.aload_n 0, 1) := by decide +kernel
theorem dX11_power_163 : decode cX11_power 163 = .ok (.getfield 7, 3) := by decide +kernel
theorem dX11_power_166 : decode cX11_power 166 = .ok (.iconst 0, 1) := by decide +kernel
theorem dX11_power_167 : decode cX11_power 167 = .ok (.invokevirtual 64, 3) := by decide +kernel
theorem dX11_power_170 : decode cX11_power 170 = .ok (.iinc 6 1, 3) := by decide +kernel
theorem dX11_power_173 : decode cX11_power 173 = .ok (.goto (-29), 3) := by decide +kernel
theorem dX11_power_176 : decode cX11_power 176 = .ok (.aload_n 0, 1) := by decide +kernel
theorem dX11_power_177 : decode cX11_power 177 = .ok (.aload_n 0, 1) := by decide +kernel
theorem dX11_power_178 : decode cX11_power 178 = .ok (.getfield 13, 3) := by decide +kernel
theorem dX11_power_181 : decode cX11_power 181 = .ok (.iload_n 2, 1) := by decide +kernel
theorem dX11_power_182 : decode cX11_power 182 = .ok (.imul, 1) := by decide +kernel
theorem dX11_power_183 : decode cX11_power 183 = .ok (.putfield 48, 3) := by decide +kernel
theorem dX11_power_186 : decode cX11_power 186 = .ok (.aload_n 0, 1) := by decide +kernel
theorem dX11_power_187 : decode cX11_power 187 = .ok (.iload_n 3, 1) := by decide +kernel
theorem dX11_power_188 : decode cX11_power 188 = .ok (.invokevirtual 185, 3) := by decide +kernel
theorem dX11_power_191 : decode cX11_power 191 = .ok (.return_, 1) := by decide +kernel
theorem dX11_turn_0 : decode cX11_turn 0 = .ok (.aload_n 0, 1) := by decide +kernel
theorem dX11_turn_1 : decode cX11_turn 1 = .ok (.iload_n 1, 1) := by decide +kernel
theorem dX11_turn_2 : decode cX11_turn 2 = .ok (.invokestatic 165, 3) := by decide +kernel
theorem dX11_turn_5 : decode cX11_turn 5 = .ok (.iload_n 2, 1) := by decide +kernel
theorem dX11_turn_6 : decode cX11_turn 6 = .ok (.ifCond .lt 13, 3) := by decide +kernel
theorem dX11_turn_9 : decode cX11_turn 9 = .ok (.iload_n 2, 1) := by decide +kernel
theorem dX11_turn_10 : decode cX11_turn 10 = .ok (.bipush 7, 2) := by decide +kernel
theorem dX11_turn_12 : decode cX11_turn 12 = .ok (.if_icmp .gt 7, 3) := by decide +kernel
theorem dX11_turn_15 : decode cX11_turn 15 = .ok (.iconst 1, 1) := by decide +kernel
theorem dX11_turn_16 : decode cX11_turn 16 = .ok (.goto 4, 3) := by decide +kernel
theorem dX11_turn_19 : decode cX11_turn 19 = .ok (.iconst 0, 1) := by decide +kernel
theorem dX11_turn_20 : decode cX11_turn 20 = .ok (.invokevirtual 172, 3) := by decide +kernel
theorem dX11_turn_23 : decode cX11_turn 23 = .ok (.ifCond .ne 4, 3) := by decide +kernel
theorem dX11_turn_26 : decode cX11_turn 26 = .ok (.return_, 1) := by decide +kernel
theorem dX11_turn_27 : decode cX11_turn 27 = .ok (.lconst 1, 1) := by decide +kernel
theorem dX11_turn_28 : decode cX11_turn 28 = .ok (.aload_n 0, 1) := by decide +kernel
theorem dX11_turn_29 : decode cX11_turn 29 = .ok (.getfield 24, 3) := by decide +kernel
theorem dX11_turn_32 : decode cX11_turn 32 = .ok (.iload_n 1, 1) := by decide +kernel
theorem dX11_turn_33 : decode cX11_turn 33 = .ok (.iaload, 1) := by decide +kernel
theorem dX11_turn_34 : decode cX11_turn 34 = .ok (.lshl, 1) := by decide +kernel
theorem dX11_turn_35 : decode cX11_turn 35 = .ok (.lstore_n 3, 1) := by decide +kernel
theorem dX11_turn_36 : decode cX11_turn 36 = .ok (.iload_n 2, 1) := by decide +kernel
theorem dX11_turn_37 : decode cX11_turn 37 = .ok (.iconst 5, 1) := by decide +kernel
theorem dX11_turn_38 : decode cX11_turn 38 = .ok (.if_icmp .le 32, 3) := by decide +kernel
theorem dX11_turn_41 : decode cX11_turn 41 = .ok (.aload_n 0, 1) := by decide +kernel
theorem dX11_turn_42 : decode cX11_turn 42 = .ok (.getfield 20, 3) := by decide +kernel
theorem dX11_turn_45 : decode cX11_turn 45 = .ok (.iload_n 1, 1) := by decide +kernel
theorem dX11_turn_46 : decode cX11_turn 46 = .ok (.aload_n 0, 1) := by decide +kernel
theorem dX11_turn_47 : decode cX11_turn 47 = .ok (.getfield 20, 3) := by decide +kernel
theorem dX11_turn_50 : decode cX11_turn 50 = .ok (.iload_n 1, 1) := by decide +kernel
theorem dX11_turn_51 : decode cX11_turn 51 = .ok (.laload, 1) := by decide +kernel
theorem dX11_turn_52 : decode cX11_turn 52 = .ok (.iload_n 2, 1) := by decide +kernel
theorem dX11_turn_53 : decode cX11_turn 53 = .ok (.bipush 6, 2) := by decide +kernel
theorem dX11_turn_55 : decode cX11_turn 55 = .ok (.if_icmp .ne 7, 3) := by decide +kernel
theorem dX11_turn_58 : decode cX11_turn 58 = .ok (.lconst 1, 1) := by decide +kernel
theorem dX11_turn_59 : decode cX11_turn 59 = .ok (.goto 6, 3) := by decide +kernel
theorem dX11_turn_62 : decode cX11_turn 62 = .ok (.lload_n 3, 1) := by decide +kernel
theorem dX11_turn_63 : decode cX11_turn 63 = .ok (.lconst 1, 1) := by decide +kernel
theorem dX11_turn_64 : decode cX11_turn 64 = .ok (.lsub, 1) := by decide +kernel
theorem dX11_turn_65 : decode cX11_turn 65 = .ok (.ladd, 1) := by decide +kernel
theorem dX11_turn_66 : decode cX11_turn 66 = .ok (.lload_n 3, 1) := by decide +kernel
theorem dX11_turn_67 : decode cX11_turn 67 = .ok (.lrem, 1) := by decide +kernel
theorem dX11_turn_68 : decode cX11_turn 68 = .ok (.lastore, 1) := by decide +kernel
theorem dX11_turn_69 : decode cX11_turn 69 = .ok (.return_, 1) := by decide +kernel
theorem dX11_turn_70 : decode cX11_turn 70 = .ok (.aload_n 0, 1) := by decide +kernel
theorem dX11_turn_71 : decode cX11_turn 71 = .ok (.iload_n 1, 1) := by decide +kernel
theorem dX11_turn_72 : decode cX11_turn 72 = .ok (.invokevirtual 176, 3) := by decide +kernel
theorem dX11_turn_75 : decode cX11_turn 75 = .ok (.ifCond .eq 4, 3) := by decide +kernel
theorem dX11_turn_78 : decode cX11_turn 78 = .ok (.return_, 1) := by decide +kernel
theorem dX11_turn_79 : decode cX11_turn 79 = .ok (.iload_n 2, 1) := by decide +kernel
theorem dX11_turn_80 : decode cX11_turn 80 = .ok (.ifCond .ne 20, 3) := by decide +kernel
theorem dX11_turn_83 : decode cX11_turn 83 = .ok (.aload_n 0, 1) := by decide +kernel
theorem dX11_turn_84 : decode cX11_turn 84 = .ok (.getfield 20, 3) := by decide +kernel
theorem dX11_turn_87 : decode cX11_turn 87 = .ok (.iload_n 1, 1) := by decide +kernel
theorem dX11_turn_88 : decode cX11_turn 88 = .ok (.lload_n 3, 1) := by decide +kernel
theorem dX11_turn_89 : decode cX11_turn 89 = .ok (.aload_n 0, 1) := by decide +kernel
theorem dX11_turn_90 : decode cX11_turn 90 = .ok (.getfield 20, 3) := by decide +kernel
theorem dX11_turn_93 : decode cX11_turn 93 = .ok (.iload_n 1, 1) := by decide +kernel
theorem dX11_turn_94 : decode cX11_turn 94 = .ok (.laload, 1) := by decide +kernel
theorem dX11_turn_95 : decode cX11_turn 95 = .ok (.lsub, 1) := by decide +kernel
theorem dX11_turn_96 : decode cX11_turn 96 = .ok (.lload_n 3, 1) := by decide +kernel
theorem dX11_turn_97 : decode cX11_turn 97 = .ok (.lrem, 1) := by decide +kernel
theorem dX11_turn_98 : decode cX11_turn 98 = .ok (.lastore, 1) := by decide +kernel
theorem dX11_turn_99 : decode cX11_turn 99 = .ok (.return_, 1) := by decide +kernel
theorem dX11_turn_100 : decode cX11_turn 100 = .ok (.aload_n 0, 1) := by decide +kernel
theorem dX11_turn_101 : decode cX11_turn 101 = .ok (.iload_n 1, 1) := by decide +kernel
theorem dX11_turn_102 : decode cX11_turn 102 = .ok (.invokevirtual 112, 3) := by decide +kernel
theorem dX11_turn_105 : decode cX11_turn 105 = .ok (.iload_n 2, 1) := by decide +kernel
theorem dX11_turn_106 : decode cX11_turn 106 = .ok (.iconst 1, 1) := by decide +kernel
theorem dX11_turn_107 : decode cX11_turn 107 = .ok (.if_icmp .ne 34, 3) := by decide +kernel
theorem dX11_turn_110 : decode cX11_turn 110 = .ok (.aload_n 0, 1) := by decide +kernel
theorem dX11_turn_111 : decode cX11_turn 111 = .ok (.getfield 20, 3) := by decide +kernel
theorem dX11_turn_114 : decode cX11_turn 114 = .ok (.iload_n 1, 1) := by decide +kernel
theorem dX11_turn_115 : decode cX11_turn 115 = .ok (.aload_n 0, 1) := by decide +kernel
theorem dX11_turn_116 : decode cX11_turn 116 = .ok (.getfield 17, 3) := by decide +kernel
theorem dX11_turn_119 : decode cX11_turn 119 = .ok (.ifCond .ge 14, 3) := by decide +kernel
theorem dX11_turn_122 : decode cX11_turn 122 = .ok (.lload_n 3, 1) := by decide +kernel
theorem dX11_turn_123 : decode cX11_turn 123 = .ok (.aload_n 0, 1) := by decide +kernel
theorem dX11_turn_124 : decode cX11_turn 124 = .ok (.getfield 20, 3) := by decide +kernel
theorem dX11_turn_127 : decode cX11_turn 127 = .ok (.iload_n 1, 1) := by decide +kernel
theorem dX11_turn_128 : decode cX11_turn 128 = .ok (.laload, 1) := by decide +kernel
theorem dX11_turn_129 : decode cX11_turn 129 = .ok (.lsub, 1) := by decide +kernel
theorem dX11_turn_130 : decode cX11_turn 130 = .ok (.goto 9, 3) := by decide +kernel
theorem dX11_turn_133 : decode cX11_turn 133 = .ok (.aload_n 0, 1) := by decide +kernel
theorem dX11_turn_134 : decode cX11_turn 134 = .ok (.getfield 20, 3) := by decide +kernel
theorem dX11_turn_137 : decode cX11_turn 137 = .ok (.iload_n 1, 1) := by decide +kernel
theorem dX11_turn_138 : decode cX11_turn 138 = .ok (.laload, 1) := by decide +kernel
theorem dX11_turn_139 : decode cX11_turn 139 = .ok (.lastore, 1) := by decide +kernel
theorem dX11_turn_140 : decode cX11_turn 140 = .ok (.return_, 1) := by decide +kernel
theorem dX11_turn_141 : decode cX11_turn 141 = .ok (.aload_n 0, 1) := by decide +kernel
theorem dX11_turn_142 : decode cX11_turn 142 = .ok (.getfield 17, 3) := by decide +kernel
theorem dX11_turn_145 : decode cX11_turn 145 = .ok (.istore 5, 2) := by decide +kernel
theorem dX11_turn_147 : decode cX11_turn 147 = .ok (.iload_n 2, 1) := by decide +kernel
theorem dX11_turn_148 : decode cX11_turn 148 = .ok (.iconst 2, 1) := by decide +kernel
theorem dX11_turn_149 : decode cX11_turn 149 = .ok (.if_icmp .ne 15, 3) := by decide +kernel
theorem dX11_turn_152 : decode cX11_turn 152 = .ok (.aload_n 0, 1) := by decide +kernel
theorem dX11_turn_153 : decode cX11_turn 153 = .ok (.iload 5, 2) := by decide +kernel
theorem dX11_turn_155 : decode cX11_turn 155 = .ok (.invokevirtual 119, 3) := by decide +kernel
theorem dX11_turn_158 : decode cX11_turn 158 = .ok (.aload_n 0, 1) := by decide +kernel
theorem dX11_turn_159 : decode cX11_turn 159 = .ok (.iload_n 1, 1) := by decide +kernel
theorem dX11_turn_160 : decode cX11_turn 160 = .ok (.invokevirtual 185, 3) := by decide +kernel
theorem dX11_turn_163 : decode cX11_turn 163 = .ok (.return_, 1) := by decide +kernel
theorem dX11_turn_164 : decode cX11_turn 164 = .ok (.aload_n 0, 1) := by decide +kernel
theorem dX11_turn_165 : decode cX11_turn 165 = .ok (.iload_n 2, 1) := by decide +kernel
theorem dX11_turn_166 : decode cX11_turn 166 = .ok (.invokevirtual 195, 3) := by decide +kernel
theorem dX11_turn_169 : decode cX11_turn 169 = .ok (.istore 5, 2) := by decide +kernel
theorem dX11_turn_171 : decode cX11_turn 171 = .ok (.aload_n 0, 1) := by decide +kernel
theorem dX11_turn_172 : decode cX11_turn 172 = .ok (.iload 5, 2) := by decide +kernel
theorem dX11_turn_174 : decode cX11_turn 174 = .ok (.invokevirtual 119, 3) := by decide +kernel
theorem dX11_turn_177 : decode cX11_turn 177 = .ok (.aload_n 0, 1) := by decide +kernel
theorem dX11_turn_178 : decode cX11_turn 178 = .ok (.getfield 35, 3) := by decide +kernel
theorem dX11_turn_181 : decode cX11_turn 181 = .ok (.aload_n 0, 1) := by decide +kernel
theorem dX11_turn_182 : decode cX11_turn 182 = .ok (.getfield 100, 3) := by decide +kernel
theorem dX11_turn_185 : decode cX11_turn 185 = .ok (.invokevirtual 57, 3) := by decide +kernel
theorem dX11_turn_188 : decode cX11_turn 188 = .ok (.aload_n 0, 1) := by decide +kernel
theorem dX11_turn_189 : decode cX11_turn 189 = .ok (.iload_n 1, 1) := by decide +kernel
theorem dX11_turn_190 : decode cX11_turn 190 = .ok (.invokevirtual 185, 3) := by decide +kernel
theorem dX11_turn_193 : decode cX11_turn 193 = .ok (.return_, 1) := by decide +kernel
theorem dX11_isQuire_0 : decode cX11_isQuire 0 = .ok (.iload_n 0, 1) := by decide +kernel
theorem dX11_isQuire_1 : decode cX11_isQuire 1 = .ok (.ifCond .lt 12, 3) := by decide +kernel
theorem dX11_isQuire_4 : decode cX11_isQuire 4 = .ok (.iload_n 0, 1) := by decide +kernel
theorem dX11_isQuire_5 : decode cX11_isQuire 5 = .ok (.iconst 4, 1) := by decide +kernel
theorem dX11_isQuire_6 : decode cX11_isQuire 6 = .ok (.if_icmp .ge 7, 3) := by decide +kernel
theorem dX11_isQuire_9 : decode cX11_isQuire 9 = .ok (.iconst 1, 1) := by decide +kernel
theorem dX11_isQuire_10 : decode cX11_isQuire 10 = .ok (.goto 4, 3) := by decide +kernel
theorem dX11_isQuire_13 : decode cX11_isQuire 13 = .ok (.iconst 0, 1) := by decide +kernel
theorem dX11_isQuire_14 : decode cX11_isQuire 14 = .ok (.ireturn, 1) := by decide +kernel
theorem dX11_clear_0 : decode cX11_clear 0 = .ok (.aload_n 0, 1) := by decide +kernel
theorem dX11_clear_1 : decode cX11_clear 1 = .ok (.iload_n 1, 1) := by decide +kernel
theorem dX11_clear_2 : decode cX11_clear 2 = .ok (.invokestatic 243, 3) := by decide +kernel
theorem dX11_clear_5 : decode cX11_clear 5 = .ok (.iconst 1, 1) := by decide +kernel
theorem dX11_clear_6 : decode cX11_clear 6 = .ok (.invokevirtual 172, 3) := by decide +kernel
theorem dX11_clear_9 : decode cX11_clear 9 = .ok (.ifCond .eq 12, 3) := by decide +kernel
theorem dX11_clear_12 : decode cX11_clear 12 = .ok (.aload_n 0, 1) := by decide +kernel
theorem dX11_clear_13 : decode cX11_clear 13 = .ok (.getfield 129, 3) := by decide +kernel
theorem dX11_clear_16 : decode cX11_clear 16 = .ok (.iload_n 1, 1) := by decide +kernel
theorem dX11_clear_17 : decode cX11_clear 17 = .ok (.aaload, 1) := by decide +kernel
theorem dX11_clear_18 : decode cX11_clear 18 = .ok (.invokevirtual 217, 3) := by decide +kernel
theorem dX11_clear_21 : decode cX11_clear 21 = .ok (.return_, 1) := by decide +kernel
theorem dX11_gatherInto_0 : decode cX11_gatherInto 0 = .ok (.aload_n 1, 1) := by decide +kernel
theorem dX11_gatherInto_1 : decode cX11_gatherInto 1 = .ok (.dup, 1) := by decide +kernel
theorem dX11_gatherInto_2 : decode cX11_gatherInto 2 = .ok (.getfield 246, 3) := by decide +kernel
theorem dX11_gatherInto_5 : decode cX11_gatherInto 5 = .ok (.aload_n 0, 1) := by decide +kernel
theorem dX11_gatherInto_6 : decode cX11_gatherInto 6 = .ok (.iload_n 2, 1) := by decide +kernel
theorem dX11_gatherInto_7 : decode cX11_gatherInto 7 = .ok (.invokevirtual 176, 3) := by decide +kernel
theorem dX11_gatherInto_10 : decode cX11_gatherInto 10 = .ok (.ifCond .ne 11, 3) := by decide +kernel
theorem dX11_gatherInto_13 : decode cX11_gatherInto 13 = .ok (.aload_n 0, 1) := by decide +kernel
theorem dX11_gatherInto_14 : decode cX11_gatherInto 14 = .ok (.iload_n 3, 1) := by decide +kernel
theorem dX11_gatherInto_15 : decode cX11_gatherInto 15 = .ok (.invokevirtual 176, 3) := by decide +kernel
theorem dX11_gatherInto_18 : decode cX11_gatherInto 18 = .ok (.ifCond .eq 7, 3) := by decide +kernel
theorem dX11_gatherInto_21 : decode cX11_gatherInto 21 = .ok (.iconst 1, 1) := by decide +kernel
theorem dX11_gatherInto_22 : decode cX11_gatherInto 22 = .ok (.goto 4, 3) := by decide +kernel
theorem dX11_gatherInto_25 : decode cX11_gatherInto 25 = .ok (.iconst 0, 1) := by decide +kernel
theorem dX11_gatherInto_26 : decode cX11_gatherInto 26 = .ok (.ior, 1) := by decide +kernel
theorem dX11_gatherInto_27 : decode cX11_gatherInto 27 = .ok (.putfield 246, 3) := by decide +kernel
theorem dX11_gatherInto_30 : decode cX11_gatherInto 30 = .ok (.aload_n 1, 1) := by decide +kernel
theorem dX11_gatherInto_31 : decode cX11_gatherInto 31 = .ok (.getfield 246, 3) := by decide +kernel
theorem dX11_gatherInto_34 : decode cX11_gatherInto 34 = .ok (.ifCond .ne 12, 3) := by decide +kernel
theorem dX11_gatherInto_37 : decode cX11_gatherInto 37 = .ok (.aload_n 0, 1) := by decide +kernel
theorem dX11_gatherInto_38 : decode cX11_gatherInto 38 = .ok (.aload_n 1, 1) := by decide +kernel
theorem dX11_gatherInto_39 : decode cX11_gatherInto 39 = .ok (.iload_n 2, 1) := by decide +kernel
theorem dX11_gatherInto_40 : decode cX11_gatherInto 40 = .ok (.iload_n 3, 1) := by decide +kernel
theorem dX11_gatherInto_41 : decode cX11_gatherInto 41 = .ok (.iload 4, 2) := by decide +kernel
theorem dX11_gatherInto_43 : decode cX11_gatherInto 43 = .ok (.invokevirtual 236, 3) := by decide +kernel
theorem dX11_gatherInto_46 : decode cX11_gatherInto 46 = .ok (.return_, 1) := by decide +kernel
theorem dX11_gather__0 : decode cX11_gather_ 0 = .ok (.aload_n 0, 1) := by decide +kernel
theorem dX11_gather__1 : decode cX11_gather_ 1 = .ok (.iload_n 1, 1) := by decide +kernel
theorem dX11_gather__2 : decode cX11_gather_ 2 = .ok (.invokestatic 243, 3) := by decide +kernel
theorem dX11_gather__5 : decode cX11_gather_ 5 = .ok (.ifCond .eq 21, 3) := by decide +kernel
theorem dX11_gather__8 : decode cX11_gather_ 8 = .ok (.iload_n 2, 1) := by decide +kernel
theorem dX11_gather__9 : decode cX11_gather_ 9 = .ok (.invokestatic 165, 3) := by decide +kernel
theorem dX11_gather__12 : decode cX11_gather_ 12 = .ok (.ifCond .eq 14, 3) := by decide +kernel
theorem dX11_gather__15 : decode cX11_gather_ 15 = .ok (.iload_n 3, 1) := by decide +kernel
theorem dX11_gather__16 : decode cX11_gather_ 16 = .ok (.invokestatic 165, 3) := by decide +kernel
theorem dX11_gather__19 : decode cX11_gather_ 19 = .ok (.ifCond .eq 7, 3) := by decide +kernel
theorem dX11_gather__22 : decode cX11_gather_ 22 = .ok (.iconst 1, 1) := by decide +kernel
theorem dX11_gather__23 : decode cX11_gather_ 23 = .ok (.goto 4, 3) := by decide +kernel
theorem dX11_gather__26 : decode cX11_gather_ 26 = .ok (.iconst 0, 1) := by decide +kernel
theorem dX11_gather__27 : decode cX11_gather_ 27 = .ok (.iconst 1, 1) := by decide +kernel
theorem dX11_gather__28 : decode cX11_gather_ 28 = .ok (.invokevirtual 172, 3) := by decide +kernel
theorem dX11_gather__31 : decode cX11_gather_ 31 = .ok (.ifCond .eq 25, 3) := by decide +kernel
theorem dX11_gather__34 : decode cX11_gather_ 34 = .ok (.aload_n 0, 1) := by decide +kernel
theorem dX11_gather__35 : decode cX11_gather_ 35 = .ok (.aload_n 0, 1) := by decide +kernel
theorem dX11_gather__36 : decode cX11_gather_ 36 = .ok (.getfield 129, 3) := by decide +kernel
theorem dX11_gather__39 : decode cX11_gather_ 39 = .ok (.iload_n 1, 1) := by decide +kernel
theorem dX11_gather__40 : decode cX11_gather_ 40 = .ok (.aaload, 1) := by decide +kernel
theorem dX11_gather__41 : decode cX11_gather_ 41 = .ok (.iload_n 2, 1) := by decide +kernel
theorem dX11_gather__42 : decode cX11_gather_ 42 = .ok (.iload_n 3, 1) := by decide +kernel
theorem dX11_gather__43 : decode cX11_gather_ 43 = .ok (.iload 4, 2) := by decide +kernel
theorem dX11_gather__45 : decode cX11_gather_ 45 = .ok (.ifCond .eq 7, 3) := by decide +kernel
theorem dX11_gather__48 : decode cX11_gather_ 48 = .ok (.iconst (-1), 1) := by decide +kernel
theorem dX11_gather__49 : decode cX11_gather_ 49 = .ok (.goto 4, 3) := by decide +kernel
theorem dX11_gather__52 : decode cX11_gather_ 52 = .ok (.iconst 1, 1) := by decide +kernel
theorem dX11_gather__53 : decode cX11_gather_ 53 = .ok (.invokevirtual 250, 3) := by decide +kernel
theorem dX11_gather__56 : decode cX11_gather_ 56 = .ok (.return_, 1) := by decide +kernel
theorem dX11_dot_0 : decode cX11_dot 0 = .ok (.aload_n 0, 1) := by decide +kernel
theorem dX11_dot_1 : decode cX11_dot 1 = .ok (.iload_n 1, 1) := by decide +kernel
theorem dX11_dot_2 : decode cX11_dot 2 = .ok (.invokestatic 243, 3) := by decide +kernel
theorem dX11_dot_5 : decode cX11_dot 5 = .ok (.ifCond .eq 21, 3) := by decide +kernel
theorem dX11_dot_8 : decode cX11_dot 8 = .ok (.iload_n 2, 1) := by decide +kernel
theorem dX11_dot_9 : decode cX11_dot 9 = .ok (.invokestatic 165, 3) := by decide +kernel
theorem dX11_dot_12 : decode cX11_dot 12 = .ok (.ifCond .eq 14, 3) := by decide +kernel
theorem dX11_dot_15 : decode cX11_dot 15 = .ok (.iload_n 3, 1) := by decide +kernel
theorem dX11_dot_16 : decode cX11_dot 16 = .ok (.invokestatic 165, 3) := by decide +kernel
theorem dX11_dot_19 : decode cX11_dot 19 = .ok (.ifCond .eq 7, 3) := by decide +kernel
theorem dX11_dot_22 : decode cX11_dot 22 = .ok (.iconst 1, 1) := by decide +kernel
theorem dX11_dot_23 : decode cX11_dot 23 = .ok (.goto 4, 3) := by decide +kernel
theorem dX11_dot_26 : decode cX11_dot 26 = .ok (.iconst 0, 1) := by decide +kernel
theorem dX11_dot_27 : decode cX11_dot 27 = .ok (.iload 4, 2) := by decide +kernel
theorem dX11_dot_29 : decode cX11_dot 29 = .ok (.ifCond .lt 14, 3) := by decide +kernel
theorem dX11_dot_32 : decode cX11_dot 32 = .ok (.iload 4, 2) := by decide +kernel
theorem dX11_dot_34 : decode cX11_dot 34 = .ok (.bipush 32, 2) := by decide +kernel
theorem dX11_dot_36 : decode cX11_dot 36 = .ok (.if_icmp .gt 7, 3) := by decide +kernel
theorem dX11_dot_39 : decode cX11_dot 39 = .ok (.iconst 1, 1) := by decide +kernel
theorem dX11_dot_40 : decode cX11_dot 40 = .ok (.goto 4, 3) := by decide +kernel
theorem dX11_dot_43 : decode cX11_dot 43 = .ok (.iconst 0, 1) := by decide +kernel
theorem dX11_dot_44 : decode cX11_dot 44 = .ok (.invokevirtual 172, 3) := by decide +kernel
theorem dX11_dot_47 : decode cX11_dot 47 = .ok (.ifCond .ne 4, 3) := by decide +kernel
theorem dX11_dot_50 : decode cX11_dot 50 = .ok (.return_, 1) := by decide +kernel
theorem dX11_dot_51 : decode cX11_dot 51 = .ok (.iload 4, 2) := by decide +kernel
theorem dX11_dot_53 : decode cX11_dot 53 = .ok (.ifCond .le 27, 3) := by decide +kernel
theorem dX11_dot_56 : decode cX11_dot 56 = .ok (.iload_n 2, 1) := by decide +kernel
theorem dX11_dot_57 : decode cX11_dot 57 = .ok (.iload 4, 2) := by decide +kernel
theorem dX11_dot_59 : decode cX11_dot 59 = .ok (.iadd, 1) := by decide +kernel
theorem dX11_dot_60 : decode cX11_dot 60 = .ok (.bipush 32, 2) := by decide +kernel
theorem dX11_dot_62 : decode cX11_dot 62 = .ok (.if_icmp .gt 12, 3) := by decide +kernel
theorem dX11_dot_65 : decode cX11_dot 65 = .ok (.iload_n 3, 1) := by decide +kernel
theorem dX11_dot_66 : decode cX11_dot 66 = .ok (.iload 4, 2) := by decide +kernel
theorem dX11_dot_68 : decode cX11_dot 68 = .ok (.iadd, 1) := by decide +kernel
theorem dX11_dot_69 : decode cX11_dot 69 = .ok (.bipush 32, 2) := by decide +kernel
theorem dX11_dot_71 : decode cX11_dot 71 = .ok (.if_icmp .le 9, 3) := by decide +kernel
theorem dX11_dot_74 : decode cX11_dot 74 = .ok (.aload_n 0, 1) := by decide +kernel
theorem dX11_dot_75 : decode cX11_dot 75 = .ok (.iconst 1, 1) := by decide +kernel
theorem dX11_dot_76 : decode cX11_dot 76 = .ok (.putfield 162, 3) := by decide +kernel
theorem dX11_dot_79 : decode cX11_dot 79 = .ok (.return_, 1) := by decide +kernel
theorem dX11_dot_80 : decode cX11_dot 80 = .ok (.iconst 0, 1) := by decide +kernel
theorem dX11_dot_81 : decode cX11_dot 81 = .ok (.istore 5, 2) := by decide +kernel
theorem dX11_dot_83 : decode cX11_dot 83 = .ok (.iload 5, 2) := by decide +kernel
theorem dX11_dot_85 : decode cX11_dot 85 = .ok (.iload 4, 2) := by decide +kernel
theorem dX11_dot_87 : decode cX11_dot 87 = .ok (.if_icmp .ge 28, 3) := by decide +kernel
theorem dX11_dot_90 : decode cX11_dot 90 = .ok (.aload_n 0, 1) := by decide +kernel
theorem dX11_dot_91 : decode cX11_dot 91 = .ok (.aload_n 0, 1) := by decide +kernel
theorem dX11_dot_92 : decode cX11_dot 92 = .ok (.getfield 129, 3) := by decide +kernel
theorem dX11_dot_95 : decode cX11_dot 95 = .ok (.iload_n 1, 1) := by decide +kernel
theorem dX11_dot_96 : decode cX11_dot 96 = .ok (.aaload, 1) := by decide +kernel
theorem dX11_dot_97 : decode cX11_dot 97 = .ok (.iload_n 2, 1) := by decide +kernel
theorem dX11_dot_98 : decode cX11_dot 98 = .ok (.iload 5, 2) := by decide +kernel
theorem dX11_dot_100 : decode cX11_dot 100 = .ok (.iadd, 1) := by decide +kernel
theorem dX11_dot_101 : decode cX11_dot 101 = .ok (.iload_n 3, 1) := by decide +kernel
theorem dX11_dot_102 : decode cX11_dot 102 = .ok (.iload 5, 2) := by decide +kernel
theorem dX11_dot_104 : decode cX11_dot 104 = .ok (.iadd, 1) := by decide +kernel
theorem dX11_dot_105 : decode cX11_dot 105 = .ok (.iconst 1, 1) := by decide +kernel
theorem dX11_dot_106 : decode cX11_dot 106 = .ok (.invokevirtual 250, 3) := by decide +kernel
theorem dX11_dot_109 : decode cX11_dot 109 = .ok (.iinc 5 1, 3) := by decide +kernel
theorem dX11_dot_112 : decode cX11_dot 112 = .ok (.goto (-29), 3) := by decide +kernel
theorem dX11_dot_115 : decode cX11_dot 115 = .ok (.return_, 1) := by decide +kernel
theorem dX11_settle_0 : decode cX11_settle 0 = .ok (.aload_n 0, 1) := by decide +kernel
theorem dX11_settle_1 : decode cX11_settle 1 = .ok (.iload_n 1, 1) := by decide +kernel
theorem dX11_settle_2 : decode cX11_settle 2 = .ok (.invokestatic 243, 3) := by decide +kernel
theorem dX11_settle_5 : decode cX11_settle 5 = .ok (.ifCond .eq 14, 3) := by decide +kernel
theorem dX11_settle_8 : decode cX11_settle 8 = .ok (.iload_n 2, 1) := by decide +kernel
theorem dX11_settle_9 : decode cX11_settle 9 = .ok (.invokestatic 165, 3) := by decide +kernel
theorem dX11_settle_12 : decode cX11_settle 12 = .ok (.ifCond .eq 7, 3) := by decide +kernel
theorem dX11_settle_15 : decode cX11_settle 15 = .ok (.iconst 1, 1) := by decide +kernel
theorem dX11_settle_16 : decode cX11_settle 16 = .ok (.goto 4, 3) := by decide +kernel
theorem dX11_settle_19 : decode cX11_settle 19 = .ok (.iconst 0, 1) := by decide +kernel
theorem dX11_settle_20 : decode cX11_settle 20 = .ok (.iconst 1, 1) := by decide +kernel
theorem dX11_settle_21 : decode cX11_settle 21 = .ok (.invokevirtual 172, 3) := by decide +kernel
theorem dX11_settle_24 : decode cX11_settle 24 = .ok (.ifCond .ne 4, 3) := by decide +kernel
theorem dX11_settle_27 : decode cX11_settle 27 = .ok (.return_, 1) := by decide +kernel
theorem dX11_settle_28 : decode cX11_settle 28 = .ok (.aload_n 0, 1) := by decide +kernel
theorem dX11_settle_29 : decode cX11_settle 29 = .ok (.getfield 129, 3) := by decide +kernel
theorem dX11_settle_32 : decode cX11_settle 32 = .ok (.iload_n 1, 1) := by decide +kernel
theorem dX11_settle_33 : decode cX11_settle 33 = .ok (.aaload, 1) := by decide +kernel
theorem dX11_settle_34 : decode cX11_settle 34 = .ok (.getfield 246, 3) := by decide +kernel
theorem dX11_settle_37 : decode cX11_settle 37 = .ok (.ifCond .eq 9, 3) := by decide +kernel
theorem dX11_settle_40 : decode cX11_settle 40 = .ok (.aload_n 0, 1) := by decide +kernel
theorem dX11_settle_41 : decode cX11_settle 41 = .ok (.iload_n 2, 1) := by decide +kernel
theorem dX11_settle_42 : decode cX11_settle 42 = .ok (.invokevirtual 182, 3) := by decide +kernel
theorem dX11_settle_45 : decode cX11_settle 45 = .ok (.return_, 1) := by decide +kernel
theorem dX11_settle_46 : decode cX11_settle 46 = .ok (.aload_n 0, 1) := by decide +kernel
theorem dX11_settle_47 : decode cX11_settle 47 = .ok (.aload_n 0, 1) := by decide +kernel
theorem dX11_settle_48 : decode cX11_settle 48 = .ok (.getfield 129, 3) := by decide +kernel
theorem dX11_settle_51 : decode cX11_settle 51 = .ok (.iload_n 1, 1) := by decide +kernel
theorem dX11_settle_52 : decode cX11_settle 52 = .ok (.aaload, 1) := by decide +kernel
theorem dX11_settle_53 : decode cX11_settle 53 = .ok (.invokevirtual 228, 3) := by decide +kernel
theorem dX11_settle_56 : decode cX11_settle 56 = .ok (.aload_n 0, 1) := by decide +kernel
theorem dX11_settle_57 : decode cX11_settle 57 = .ok (.iload_n 2, 1) := by decide +kernel
theorem dX11_settle_58 : decode cX11_settle 58 = .ok (.invokevirtual 185, 3) := by decide +kernel
theorem dX11_settle_61 : decode cX11_settle 61 = .ok (.return_, 1) := by decide +kernel
theorem dX11_image_0 : decode cX11_image 0 = .ok (.aload_n 0, 1) := by decide +kernel
theorem dX11_image_1 : decode cX11_image 1 = .ok (.iload_n 1, 1) := by decide +kernel
theorem dX11_image_2 : decode cX11_image 2 = .ok (.invokestatic 243, 3) := by decide +kernel
theorem dX11_image_5 : decode cX11_image 5 = .ok (.iload_n 2, 1) := by decide +kernel
theorem dX11_image_6 : decode cX11_image 6 = .ok (.ifCond .lt 13, 3) := by decide +kernel
theorem dX11_image_9 : decode cX11_image 9 = .ok (.iload_n 2, 1) := by decide +kernel
theorem dX11_image_10 : decode cX11_image 10 = .ok (.bipush 16, 2) := by decide +kernel
theorem dX11_image_12 : decode cX11_image 12 = .ok (.if_icmp .ge 7, 3) := by decide +kernel
theorem dX11_image_15 : decode cX11_image 15 = .ok (.iconst 1, 1) := by decide +kernel
theorem dX11_image_16 : decode cX11_image 16 = .ok (.goto 4, 3) := by decide +kernel
theorem dX11_image_19 : decode cX11_image 19 = .ok (.iconst 0, 1) := by decide +kernel
theorem dX11_image_20 : decode cX11_image 20 = .ok (.invokevirtual 172, 3) := by decide +kernel
theorem dX11_image_23 : decode cX11_image 23 = .ok (.ifCond .ne 5, 3) := by decide +kernel
theorem dX11_image_26 : decode cX11_image 26 = .ok (.iconst 0, 1) := by decide +kernel
theorem dX11_image_27 : decode cX11_image 27 = .ok (.ireturn, 1) := by decide +kernel
theorem dX11_image_28 : decode cX11_image 28 = .ok (.aload_n 0, 1) := by decide +kernel
theorem dX11_image_29 : decode cX11_image 29 = .ok (.getfield 129, 3) := by decide +kernel
theorem dX11_image_32 : decode cX11_image 32 = .ok (.iload_n 1, 1) := by decide +kernel
theorem dX11_image_33 : decode cX11_image 33 = .ok (.aaload, 1) := by decide +kernel
theorem dX11_image_34 : decode cX11_image 34 = .ok (.astore_n 3, 1) := by decide +kernel
theorem dX11_image_35 : decode cX11_image 35 = .ok (.aload_n 3, 1) := by decide +kernel
theorem dX11_image_36 : decode cX11_image 36 = .ok (.getfield 246, 3) := by decide +kernel
theorem dX11_image_39 : decode cX11_image 39 = .ok (.ifCond .eq 16, 3) := by decide +kernel
theorem dX11_image_42 : decode cX11_image 42 = .ok (.iload_n 2, 1) := by decide +kernel
theorem dX11_image_43 : decode cX11_image 43 = .ok (.bipush 15, 2) := by decide +kernel
theorem dX11_image_45 : decode cX11_image 45 = .ok (.if_icmp .ne 8, 3) := by decide +kernel
theorem dX11_image_48 : decode cX11_image 48 = .ok (.ldc 253, 2) := by decide +kernel
theorem dX11_image_50 : decode cX11_image 50 = .ok (.goto 4, 3) := by decide +kernel
theorem dX11_image_53 : decode cX11_image 53 = .ok (.iconst 0, 1) := by decide +kernel
theorem dX11_image_54 : decode cX11_image 54 = .ok (.ireturn, 1) := by decide +kernel
theorem dX11_image_55 : decode cX11_image 55 = .ok (.iconst 0, 1) := by decide +kernel
theorem dX11_image_56 : decode cX11_image 56 = .ok (.istore 4, 2) := by decide +kernel
theorem dX11_image_58 : decode cX11_image 58 = .ok (.iconst 0, 1) := by decide +kernel
theorem dX11_image_59 : decode cX11_image 59 = .ok (.istore 5, 2) := by decide +kernel
theorem dX11_image_61 : decode cX11_image 61 = .ok (.iconst 0, 1) := by decide +kernel
theorem dX11_image_62 : decode cX11_image 62 = .ok (.istore 6, 2) := by decide +kernel
theorem dX11_image_64 : decode cX11_image 64 = .ok (.iload 6, 2) := by decide +kernel
theorem dX11_image_66 : decode cX11_image 66 = .ok (.bipush 32, 2) := by decide +kernel
theorem dX11_image_68 : decode cX11_image 68 = .ok (.iload_n 2, 1) := by decide +kernel
theorem dX11_image_69 : decode cX11_image 69 = .ok (.imul, 1) := by decide +kernel
theorem dX11_image_70 : decode cX11_image 70 = .ok (.bipush 32, 2) := by decide +kernel
theorem dX11_image_72 : decode cX11_image 72 = .ok (.iadd, 1) := by decide +kernel
theorem dX11_image_73 : decode cX11_image 73 = .ok (.if_icmp .ge 85, 3) := by decide +kernel
theorem dX11_image_76 : decode cX11_image 76 = .ok (.aload_n 3, 1) := by decide +kernel
theorem dX11_image_77 : decode cX11_image 77 = .ok (.getfield 97, 3) := by decide +kernel
theorem dX11_image_80 : decode cX11_image 80 = .ok (.iload 6, 2) := by decide +kernel
theorem dX11_image_82 : decode cX11_image 82 = .ok (.invokevirtual 199, 3) := by decide +kernel
theorem dX11_image_85 : decode cX11_image 85 = .ok (.istore 7, 2) := by decide +kernel
theorem dX11_image_87 : decode cX11_image 87 = .ok (.iload 4, 2) := by decide +kernel
theorem dX11_image_89 : decode cX11_image 89 = .ok (.ifCond .eq 10, 3) := by decide +kernel
theorem dX11_image_92 : decode cX11_image 92 = .ok (.iconst 1, 1) := by decide +kernel
theorem dX11_image_93 : decode cX11_image 93 = .ok (.iload 7, 2) := by decide +kernel
theorem dX11_image_95 : decode cX11_image 95 = .ok (.isub, 1) := by decide +kernel
theorem dX11_image_96 : decode cX11_image 96 = .ok (.goto 5, 3) := by decide +kernel
theorem dX11_image_99 : decode cX11_image 99 = .ok (.iload 7, 2) := by decide +kernel
theorem dX11_image_101 : decode cX11_image 101 = .ok (.istore 8, 2) := by decide +kernel
theorem dX11_image_103 : decode cX11_image 103 = .ok (.iload 4, 2) := by decide +kernel
theorem dX11_image_105 : decode cX11_image 105 = .ok (.ifCond .ne 16, 3) := by decide +kernel
theorem dX11_image_108 : decode cX11_image 108 = .ok (.aload_n 3, 1) := by decide +kernel
theorem dX11_image_109 : decode cX11_image 109 = .ok (.getfield 94, 3) := by decide +kernel
theorem dX11_image_112 : decode cX11_image 112 = .ok (.ifCond .ge 13, 3) := by decide +kernel
theorem dX11_image_115 : decode cX11_image 115 = .ok (.iload 7, 2) := by decide +kernel
theorem dX11_image_117 : decode cX11_image 117 = .ok (.iconst 1, 1) := by decide +kernel
theorem dX11_image_118 : decode cX11_image 118 = .ok (.if_icmp .ne 7, 3) := by decide +kernel
theorem dX11_image_121 : decode cX11_image 121 = .ok (.iconst 1, 1) := by decide +kernel
theorem dX11_image_122 : decode cX11_image 122 = .ok (.goto 4, 3) := by decide +kernel
theorem dX11_image_125 : decode cX11_image 125 = .ok (.iconst 0, 1) := by decide +kernel
theorem dX11_image_126 : decode cX11_image 126 = .ok (.istore 4, 2) := by decide +kernel
theorem dX11_image_128 : decode cX11_image 128 = .ok (.iload 6, 2) := by decide +kernel
theorem dX11_image_130 : decode cX11_image 130 = .ok (.bipush 32, 2) := by decide +kernel
theorem dX11_image_132 : decode cX11_image 132 = .ok (.iload_n 2, 1) := by decide +kernel
theorem dX11_image_133 : decode cX11_image 133 = .ok (.imul, 1) := by decide +kernel
theorem dX11_image_134 : decode cX11_image 134 = .ok (.if_icmp .lt 18, 3) := by decide +kernel
theorem dX11_image_137 : decode cX11_image 137 = .ok (.iload 5, 2) := by decide +kernel
theorem dX11_image_139 : decode cX11_image 139 = .ok (.iload 8, 2) := by decide +kernel
theorem dX11_image_141 : decode cX11_image 141 = .ok (.iload 6, 2) := by decide +kernel
theorem dX11_image_143 : decode cX11_image 143 = .ok (.bipush 32, 2) := by decide +kernel
theorem dX11_image_145 : decode cX11_image 145 = .ok (.iload_n 2, 1) := by decide +kernel
theorem dX11_image_146 : decode cX11_image 146 = .ok (.imul, 1) := by decide +kernel
theorem dX11_image_147 : decode cX11_image 147 = .ok (.isub, 1) := by decide +kernel
theorem dX11_image_148 : decode cX11_image 148 = .ok (.ishl, 1) := by decide +kernel
theorem dX11_image_149 : decode cX11_image 149 = .ok (.ior, 1) := by decide +kernel
theorem dX11_image_150 : decode cX11_image 150 = .ok (.istore 5, 2) := by decide +kernel
theorem dX11_image_152 : decode cX11_image 152 = .ok (.iinc 6 1, 3) := by decide +kernel
theorem dX11_image_155 : decode cX11_image 155 = .ok (.goto (-91), 3) := by decide +kernel
theorem dX11_image_158 : decode cX11_image 158 = .ok (.iload 5, 2) := by decide +kernel
theorem dX11_image_160 : decode cX11_image 160 = .ok (.ireturn, 1) := by decide +kernel
theorem dX11_feed_0 : decode cX11_feed 0 = .ok (.aload_n 0, 1) := by decide +kernel
theorem dX11_feed_1 : decode cX11_feed 1 = .ok (.iload_n 3, 1) := by decide +kernel
theorem dX11_feed_2 : decode cX11_feed 2 = .ok (.iconst 1, 1) := by decide +kernel
theorem dX11_feed_3 : decode cX11_feed 3 = .ok (.if_icmp .lt 20, 3) := by decide +kernel
theorem dX11_feed_6 : decode cX11_feed 6 = .ok (.iload_n 3, 1) := by decide +kernel
theorem dX11_feed_7 : decode cX11_feed 7 = .ok (.bipush 8, 2) := by decide +kernel
theorem dX11_feed_9 : decode cX11_feed 9 = .ok (.if_icmp .gt 14, 3) := by decide +kernel
theorem dX11_feed_12 : decode cX11_feed 12 = .ok (.aload_n 0, 1) := by decide +kernel
theorem dX11_feed_13 : decode cX11_feed 13 = .ok (.getfield 254, 3) := by decide +kernel
theorem dX11_feed_16 : decode cX11_feed 16 = .ok (.iload_n 3, 1) := by decide +kernel
theorem dX11_feed_17 : decode cX11_feed 17 = .ok (.iadd, 1) := by decide +kernel
theorem dX11_feed_18 : decode cX11_feed 18 = .ok (.bipush 80, 2) := by decide +kernel
theorem dX11_feed_20 : decode cX11_feed 20 = .ok (.if_icmp .le 7, 3) := by decide +kernel
theorem dX11_feed_23 : decode cX11_feed 23 = .ok (.iconst 1, 1) := by decide +kernel
theorem dX11_feed_24 : decode cX11_feed 24 = .ok (.goto 4, 3) := by decide +kernel
theorem dX11_feed_27 : decode cX11_feed 27 = .ok (.iconst 0, 1) := by decide +kernel
theorem dX11_feed_28 : decode cX11_feed 28 = .ok (.putfield 162, 3) := by decide +kernel
theorem dX11_feed_31 : decode cX11_feed 31 = .ok (.iconst 0, 1) := by decide +kernel
theorem dX11_feed_32 : decode cX11_feed 32 = .ok (.istore 4, 2) := by decide +kernel
theorem dX11_feed_34 : decode cX11_feed 34 = .ok (.iload 4, 2) := by decide +kernel
theorem dX11_feed_36 : decode cX11_feed 36 = .ok (.iload_n 3, 1) := by decide +kernel
theorem dX11_feed_37 : decode cX11_feed 37 = .ok (.if_icmp .ge 47, 3) := by decide +kernel
theorem dX11_feed_40 : decode cX11_feed 40 = .ok (.aload_n 0, 1) := by decide +kernel
theorem dX11_feed_41 : decode cX11_feed 41 = .ok (.getfield 162, 3) := by decide +kernel
theorem dX11_feed_44 : decode cX11_feed 44 = .ok (.ifCond .ne 40, 3) := by decide +kernel
theorem dX11_feed_47 : decode cX11_feed 47 = .ok (.aload_n 0, 1) := by decide +kernel
theorem dX11_feed_48 : decode cX11_feed 48 = .ok (.getfield 138, 3) := by decide +kernel
theorem dX11_feed_51 : decode cX11_feed 51 = .ok (.aload_n 0, 1) := by decide +kernel
theorem dX11_feed_52 : decode cX11_feed 52 = .ok (.getfield 254, 3) := by decide +kernel
theorem dX11_feed_55 : decode cX11_feed 55 = .ok (.lload_n 1, 1) := by decide +kernel
theorem dX11_feed_56 : decode cX11_feed 56 = .ok (.bipush 8, 2) := by decide +kernel
theorem dX11_feed_58 : decode cX11_feed 58 = .ok (.iload 4, 2) := by decide +kernel
theorem dX11_feed_60 : decode cX11_feed 60 = .ok (.imul, 1) := by decide +kernel
theorem dX11_feed_61 : decode cX11_feed 61 = .ok (.lshr, 1) := by decide +kernel
theorem dX11_feed_62 : decode cX11_feed 62 = .ok (.ldc2_w 257, 3) := by decide +kernel
theorem dX11_feed_65 : decode cX11_feed 65 = .ok (.land, 1) := by decide +kernel
theorem dX11_feed_66 : decode cX11_feed 66 = .ok (.l2i, 1) := by decide +kernel
theorem dX11_feed_67 : decode cX11_feed 67 = .ok (.iastore, 1) := by decide +kernel
theorem dX11_feed_68 : decode cX11_feed 68 = .ok (.aload_n 0, 1) := by decide +kernel
theorem dX11_feed_69 : decode cX11_feed 69 = .ok (.dup, 1) := by decide +kernel
theorem dX11_feed_70 : decode cX11_feed 70 = .ok (.getfield 254, 3) := by decide +kernel
theorem dX11_feed_73 : decode cX11_feed 73 = .ok (.iconst 1, 1) := by decide +kernel
theorem dX11_feed_74 : decode cX11_feed 74 = .ok (.iadd, 1) := by decide +kernel
theorem dX11_feed_75 : decode cX11_feed 75 = .ok (.putfield 254, 3) := by decide +kernel
theorem dX11_feed_78 : decode cX11_feed 78 = .ok (.iinc 4 1, 3) := by decide +kernel
theorem dX11_feed_81 : decode cX11_feed 81 = .ok (.goto (-47), 3) := by decide +kernel
theorem dX11_feed_84 : decode cX11_feed 84 = .ok (.aload_n 0, 1) := by decide +kernel
theorem dX11_feed_85 : decode cX11_feed 85 = .ok (.getfield 162, 3) := by decide +kernel
theorem dX11_feed_88 : decode cX11_feed 88 = .ok (.ifCond .ne 10, 3) := by decide +kernel
theorem dX11_feed_91 : decode cX11_feed 91 = .ok (.aload_n 0, 1) := by decide +kernel
theorem dX11_feed_92 : decode cX11_feed 92 = .ok (.getfield 254, 3) := by decide +kernel
theorem dX11_feed_95 : decode cX11_feed 95 = .ok (.goto 4, 3) := by decide +kernel
theorem dX11_feed_98 : decode cX11_feed 98 = .ok (.iconst 0, 1) := by decide +kernel
theorem dX11_feed_99 : decode cX11_feed 99 = .ok (.ireturn, 1) := by decide +kernel
theorem dX11_here_0 : decode cX11_here 0 = .ok (.aload_n 0, 1) := by decide +kernel
theorem dX11_here_1 : decode cX11_here 1 = .ok (.getfield 259, 3) := by decide +kernel
theorem dX11_here_4 : decode cX11_here 4 = .ok (.aload_n 0, 1) := by decide +kernel
theorem dX11_here_5 : decode cX11_here 5 = .ok (.getfield 262, 3) := by decide +kernel
theorem dX11_here_8 : decode cX11_here 8 = .ok (.if_icmp .ge 15, 3) := by decide +kernel
theorem dX11_here_11 : decode cX11_here 11 = .ok (.aload_n 0, 1) := by decide +kernel
theorem dX11_here_12 : decode cX11_here 12 = .ok (.getfield 138, 3) := by decide +kernel
theorem dX11_here_15 : decode cX11_here 15 = .ok (.aload_n 0, 1) := by decide +kernel
theorem dX11_here_16 : decode cX11_here 16 = .ok (.getfield 259, 3) := by decide +kernel
theorem dX11_here_19 : decode cX11_here 19 = .ok (.iaload, 1) := by decide +kernel
theorem dX11_here_20 : decode cX11_here 20 = .ok (.goto 4, 3) := by decide +kernel
theorem dX11_here_23 : decode cX11_here 23 = .ok (.iconst (-1), 1) := by decide +kernel
theorem dX11_here_24 : decode cX11_here 24 = .ok (.ireturn, 1) := by decide +kernel
theorem dX11_isDigit_0 : decode cX11_isDigit 0 = .ok (.aload_n 0, 1) := by decide +kernel
theorem dX11_isDigit_1 : decode cX11_isDigit 1 = .ok (.invokevirtual 264, 3) := by decide +kernel
theorem dX11_isDigit_4 : decode cX11_isDigit 4 = .ok (.bipush 48, 2) := by decide +kernel
theorem dX11_isDigit_6 : decode cX11_isDigit 6 = .ok (.if_icmp .lt 16, 3) := by decide +kernel
theorem dX11_isDigit_9 : decode cX11_isDigit 9 = .ok (.aload_n 0, 1) := by decide +kernel
theorem dX11_isDigit_10 : decode cX11_isDigit 10 = .ok (.invokevirtual 264, 3) := by decide +kernel
theorem dX11_isDigit_13 : decode cX11_isDigit 13 = .ok (.bipush 57, 2) := by decide +kernel
theorem dX11_isDigit_15 : decode cX11_isDigit 15 = .ok (.if_icmp .gt 7, 3) := by decide +kernel
theorem dX11_isDigit_18 : decode cX11_isDigit 18 = .ok (.iconst 1, 1) := by decide +kernel
theorem dX11_isDigit_19 : decode cX11_isDigit 19 = .ok (.goto 4, 3) := by decide +kernel
theorem dX11_isDigit_22 : decode cX11_isDigit 22 = .ok (.iconst 0, 1) := by decide +kernel
theorem dX11_isDigit_23 : decode cX11_isDigit 23 = .ok (.ireturn, 1) := by decide +kernel
theorem dX11_isNumber_0 : decode cX11_isNumber 0 = .ok (.aload_n 0, 1) := by decide +kernel
theorem dX11_isNumber_1 : decode cX11_isNumber 1 = .ok (.invokevirtual 267, 3) := by decide +kernel
theorem dX11_isNumber_4 : decode cX11_isNumber 4 = .ok (.ifCond .eq 12, 3) := by decide +kernel
theorem dX11_isNumber_7 : decode cX11_isNumber 7 = .ok (.aload_n 0, 1) := by decide +kernel
theorem dX11_isNumber_8 : decode cX11_isNumber 8 = .ok (.getfield 271, 3) := by decide +kernel
theorem dX11_isNumber_11 : decode cX11_isNumber 11 = .ok (.bipush 60, 2) := by decide +kernel
theorem dX11_isNumber_13 : decode cX11_isNumber 13 = .ok (.if_icmp .ne 5, 3) := by decide +kernel
theorem dX11_isNumber_16 : decode cX11_isNumber 16 = .ok (.iconst 0, 1) := by decide +kernel
theorem dX11_isNumber_17 : decode cX11_isNumber 17 = .ok (.ireturn, 1) := by decide +kernel
theorem dX11_isNumber_18 : decode cX11_isNumber 18 = .ok (.aload_n 0, 1) := by decide +kernel
theorem dX11_isNumber_19 : decode cX11_isNumber 19 = .ok (.invokevirtual 267, 3) := by decide +kernel
theorem dX11_isNumber_22 : decode cX11_isNumber 22 = .ok (.ifCond .eq 54, 3) := by decide +kernel
theorem dX11_isNumber_25 : decode cX11_isNumber 25 = .ok (.aload_n 0, 1) := by decide +kernel
theorem dX11_isNumber_26 : decode cX11_isNumber 26 = .ok (.getfield 271, 3) := by decide +kernel
theorem dX11_isNumber_29 : decode cX11_isNumber 29 = .ok (.bipush 60, 2) := by decide +kernel
theorem dX11_isNumber_31 : decode cX11_isNumber 31 = .ok (.if_icmp .ne 5, 3) := by decide +kernel
theorem dX11_isNumber_34 : decode cX11_isNumber 34 = .ok (.iconst 0, 1) := by decide +kernel
theorem dX11_isNumber_35 : decode cX11_isNumber 35 = .ok (.ireturn, 1) := by decide +kernel
theorem dX11_isNumber_36 : decode cX11_isNumber 36 = .ok (.aload_n 0, 1) := by decide +kernel
theorem dX11_isNumber_37 : decode cX11_isNumber 37 = .ok (.getfield 35, 3) := by decide +kernel
theorem dX11_isNumber_40 : decode cX11_isNumber 40 = .ok (.ldc2_w 274, 3) := by decide +kernel
theorem dX11_isNumber_43 : decode cX11_isNumber 43 = .ok (.aload_n 0, 1) := by decide +kernel
theorem dX11_isNumber_44 : decode cX11_isNumber 44 = .ok (.invokevirtual 264, 3) := by decide +kernel
theorem dX11_isNumber_47 : decode cX11_isNumber 47 = .ok (.bipush 48, 2) := by decide +kernel
theorem dX11_isNumber_49 : decode cX11_isNumber 49 = .ok (.isub, 1) := by decide +kernel
theorem dX11_isNumber_50 : decode cX11_isNumber 50 = .ok (.invokevirtual 64, 3) := by decide +kernel
theorem dX11_isNumber_53 : decode cX11_isNumber 53 = .ok (.aload_n 0, 1) := by decide +kernel
theorem dX11_isNumber_54 : decode cX11_isNumber 54 = .ok (.dup, 1) := by decide +kernel
theorem dX11_isNumber_55 : decode cX11_isNumber 55 = .ok (.getfield 271, 3) := by decide +kernel
theorem dX11_isNumber_58 : decode cX11_isNumber 58 = .ok (.iconst 1, 1) := by decide +kernel
theorem dX11_isNumber_59 : decode cX11_isNumber 59 = .ok (.iadd, 1) := by decide +kernel
theorem dX11_isNumber_60 : decode cX11_isNumber 60 = .ok (.putfield 271, 3) := by decide +kernel
theorem dX11_isNumber_63 : decode cX11_isNumber 63 = .ok (.aload_n 0, 1) := by decide +kernel
theorem dX11_isNumber_64 : decode cX11_isNumber 64 = .ok (.dup, 1) := by decide +kernel
theorem dX11_isNumber_65 : decode cX11_isNumber 65 = .ok (.getfield 259, 3) := by decide +kernel
theorem dX11_isNumber_68 : decode cX11_isNumber 68 = .ok (.iconst 1, 1) := by decide +kernel
theorem dX11_isNumber_69 : decode cX11_isNumber 69 = .ok (.iadd, 1) := by decide +kernel
theorem dX11_isNumber_70 : decode cX11_isNumber 70 = .ok (.putfield 259, 3) := by decide +kernel
theorem dX11_isNumber_73 : decode cX11_isNumber 73 = .ok (.goto (-55), 3) := by decide +kernel
theorem dX11_isNumber_76 : decode cX11_isNumber 76 = .ok (.iconst 1, 1) := by decide +kernel
theorem dX11_isNumber_77 : decode cX11_isNumber 77 = .ok (.ireturn, 1) := by decide +kernel
theorem dX11_isPowerTold_0 : decode cX11_isPowerTold 0 = .ok (.aload_n 0, 1) := by decide +kernel
theorem dX11_isPowerTold_1 : decode cX11_isPowerTold 1 = .ok (.invokevirtual 264, 3) := by decide +kernel
theorem dX11_isPowerTold_4 : decode cX11_isPowerTold 4 = .ok (.bipush 45, 2) := by decide +kernel
theorem dX11_isPowerTold_6 : decode cX11_isPowerTold 6 = .ok (.if_icmp .ne 7, 3) := by decide +kernel
theorem dX11_isPowerTold_9 : decode cX11_isPowerTold 9 = .ok (.iconst 1, 1) := by decide +kernel
theorem dX11_isPowerTold_10 : decode cX11_isPowerTold 10 = .ok (.goto 4, 3) := by decide +kernel
theorem dX11_isPowerTold_13 : decode cX11_isPowerTold 13 = .ok (.iconst 0, 1) := by decide +kernel
theorem dX11_isPowerTold_14 : decode cX11_isPowerTold 14 = .ok (.istore_n 1, 1) := by decide +kernel
theorem dX11_isPowerTold_15 : decode cX11_isPowerTold 15 = .ok (.iload_n 1, 1) := by decide +kernel
theorem dX11_isPowerTold_16 : decode cX11_isPowerTold 16 = .ok (.ifCond .ne 12, 3) := by decide +kernel
theorem dX11_isPowerTold_19 : decode cX11_isPowerTold 19 = .ok (.aload_n 0, 1) := by decide +kernel
theorem dX11_isPowerTold_20 : decode cX11_isPowerTold 20 = .ok (.invokevirtual 264, 3) := by decide +kernel
theorem dX11_isPowerTold_23 : decode cX11_isPowerTold 23 = .ok (.bipush 43, 2) := by decide +kernel
theorem dX11_isPowerTold_25 : decode cX11_isPowerTold 25 = .ok (.if_icmp .ne 13, 3) := by decide +kernel
theorem dX11_isPowerTold_28 : decode cX11_isPowerTold 28 = .ok (.aload_n 0, 1) := by decide +kernel
theorem dX11_isPowerTold_29 : decode cX11_isPowerTold 29 = .ok (.dup, 1) := by decide +kernel
theorem dX11_isPowerTold_30 : decode cX11_isPowerTold 30 = .ok (.getfield 259, 3) := by decide +kernel
theorem dX11_isPowerTold_33 : decode cX11_isPowerTold 33 = .ok (.iconst 1, 1) := by decide +kernel
theorem dX11_isPowerTold_34 : decode cX11_isPowerTold 34 = .ok (.iadd, 1) := by decide +kernel
theorem dX11_isPowerTold_35 : decode cX11_isPowerTold 35 = .ok (.putfield 259, 3) := by decide +kernel
theorem dX11_isPowerTold_38 : decode cX11_isPowerTold 38 = .ok (.aload_n 0, 1) := by decide +kernel
theorem dX11_isPowerTold_39 : decode cX11_isPowerTold 39 = .ok (.invokevirtual 267, 3) := by decide +kernel
theorem dX11_isPowerTold_42 : decode cX11_isPowerTold 42 = .ok (.ifCond .ne 5, 3) := by decide +kernel
theorem dX11_isPowerTold_45 : decode cX11_isPowerTold 45 = .ok (.iconst 0, 1) := by decide +kernel
theorem dX11_isPowerTold_46 : decode cX11_isPowerTold 46 = .ok (.ireturn, 1) := by decide +kernel
theorem dX11_isPowerTold_47 : decode cX11_isPowerTold 47 = .ok (.iconst 0, 1) := by decide +kernel
theorem dX11_isPowerTold_48 : decode cX11_isPowerTold 48 = .ok (.istore_n 2, 1) := by decide +kernel
theorem dX11_isPowerTold_49 : decode cX11_isPowerTold 49 = .ok (.iconst 0, 1) := by decide +kernel
theorem dX11_isPowerTold_50 : decode cX11_isPowerTold 50 = .ok (.istore_n 3, 1) := by decide +kernel
theorem dX11_isPowerTold_51 : decode cX11_isPowerTold 51 = .ok (.iload_n 3, 1) := by decide +kernel
theorem dX11_isPowerTold_52 : decode cX11_isPowerTold 52 = .ok (.iconst 3, 1) := by decide +kernel
theorem dX11_isPowerTold_53 : decode cX11_isPowerTold 53 = .ok (.if_icmp .ge 39, 3) := by decide +kernel
theorem dX11_isPowerTold_56 : decode cX11_isPowerTold 56 = .ok (.aload_n 0, 1) := by decide +kernel
theorem dX11_isPowerTold_57 : decode cX11_isPowerTold 57 = .ok (.invokevirtual 267, 3) := by decide +kernel
theorem dX11_isPowerTold_60 : decode cX11_isPowerTold 60 = .ok (.ifCond .eq 32, 3) := by decide +kernel
theorem dX11_isPowerTold_63 : decode cX11_isPowerTold 63 = .ok (.bipush 10, 2) := by decide +kernel
theorem dX11_isPowerTold_65 : decode cX11_isPowerTold 65 = .ok (.iload_n 2, 1) := by decide +kernel
theorem dX11_isPowerTold_66 : decode cX11_isPowerTold 66 = .ok (.imul, 1) := by decide +kernel
theorem dX11_isPowerTold_67 : decode cX11_isPowerTold 67 = .ok (.aload_n 0, 1) := by decide +kernel
theorem dX11_isPowerTold_68 : decode cX11_isPowerTold 68 = .ok (.invokevirtual 264, 3) := by decide +kernel
theorem dX11_isPowerTold_71 : decode cX11_isPowerTold 71 = .ok (.iadd, 1) := by decide +kernel
theorem dX11_isPowerTold_72 : decode cX11_isPowerTold 72 = .ok (.bipush 48, 2) := by decide +kernel
theorem dX11_isPowerTold_74 : decode cX11_isPowerTold 74 = .ok (.isub, 1) := by decide +kernel
theorem dX11_isPowerTold_75 : decode cX11_isPowerTold 75 = .ok (.istore_n 2, 1) := by decide +kernel
theorem dX11_isPowerTold_76 : decode cX11_isPowerTold 76 = .ok (.aload_n 0, 1) := by decide +kernel
theorem dX11_isPowerTold_77 : decode cX11_isPowerTold 77 = .ok (.dup, 1) := by decide +kernel
theorem dX11_isPowerTold_78 : decode cX11_isPowerTold 78 = .ok (.getfield 259, 3) := by decide +kernel
theorem dX11_isPowerTold_81 : decode cX11_isPowerTold 81 = .ok (.iconst 1, 1) := by decide +kernel
theorem dX11_isPowerTold_82 : decode cX11_isPowerTold 82 = .ok (.iadd, 1) := by decide +kernel
theorem dX11_isPowerTold_83 : decode cX11_isPowerTold 83 = .ok (.putfield 259, 3) := by decide +kernel
theorem dX11_isPowerTold_86 : decode cX11_isPowerTold 86 = .ok (.iinc 3 1, 3) := by decide +kernel
theorem dX11_isPowerTold_89 : decode cX11_isPowerTold 89 = .ok (.goto (-38), 3) := by decide +kernel
theorem dX11_isPowerTold_92 : decode cX11_isPowerTold 92 = .ok (.aload_n 0, 1) := by decide +kernel
theorem dX11_isPowerTold_93 : decode cX11_isPowerTold 93 = .ok (.dup, 1) := by decide +kernel
theorem dX11_isPowerTold_94 : decode cX11_isPowerTold 94 = .ok (.getfield 276, 3) := by decide +kernel
theorem dX11_isPowerTold_97 : decode cX11_isPowerTold 97 = .ok (.iload_n 1, 1) := by decide +kernel
theorem dX11_isPowerTold_98 : decode cX11_isPowerTold 98 = .ok (.ifCond .eq 8, 3) := by decide +kernel
theorem dX11_isPowerTold_101 : decode cX11_isPowerTold 101 = .ok (.iload_n 2, 1) := by decide +kernel
theorem dX11_isPowerTold_102 : decode cX11_isPowerTold 102 = .ok (.ineg, 1) := by decide +kernel
theorem dX11_isPowerTold_103 : decode cX11_isPowerTold 103 = .ok (.goto 4, 3) := by decide +kernel
theorem dX11_isPowerTold_106 : decode cX11_isPowerTold 106 = .ok (.iload_n 2, 1) := by decide +kernel
theorem dX11_isPowerTold_107 : decode cX11_isPowerTold 107 = .ok (.iadd, 1) := by decide +kernel
theorem dX11_isPowerTold_108 : decode cX11_isPowerTold 108 = .ok (.putfield 276, 3) := by decide +kernel
theorem dX11_isPowerTold_111 : decode cX11_isPowerTold 111 = .ok (.iconst 1, 1) := by decide +kernel
theorem dX11_isPowerTold_112 : decode cX11_isPowerTold 112 = .ok (.ireturn, 1) := by decide +kernel
theorem dX11_isNarTold_0 : decode cX11_isNarTold 0 = .ok (.iconst 3, 1) := by decide +kernel
theorem dX11_isNarTold_1 : decode cX11_isNarTold 1 = .ok (.newarray .int, 2) := by decide +kernel
theorem dX11_isNarTold_3 : decode cX11_isNarTold 3 = .ok (.dup, 1) := by decide +kernel
theorem dX11_isNarTold_4 : decode cX11_isNarTold 4 = .ok (.iconst 0, 1) := by decide +kernel
theorem dX11_isNarTold_5 : decode cX11_isNarTold 5 = .ok (.bipush 78, 2) := by decide +kernel
theorem dX11_isNarTold_7 : decode cX11_isNarTold 7 = .ok (.iastore, 1) := by decide +kernel
theorem dX11_isNarTold_8 : decode cX11_isNarTold 8 = .ok (.dup, 1) := by decide +kernel
theorem dX11_isNarTold_9 : decode cX11_isNarTold 9 = .ok (.iconst 1, 1) := by decide +kernel
theorem dX11_isNarTold_10 : decode cX11_isNarTold 10 = .ok (.bipush 97, 2) := by decide +kernel
theorem dX11_isNarTold_12 : decode cX11_isNarTold 12 = .ok (.iastore, 1) := by decide +kernel
theorem dX11_isNarTold_13 : decode cX11_isNarTold 13 = .ok (.dup, 1) := by decide +kernel
theorem dX11_isNarTold_14 : decode cX11_isNarTold 14 = .ok (.iconst 2, 1) := by decide +kernel
theorem dX11_isNarTold_15 : decode cX11_isNarTold 15 = .ok (.bipush 82, 2) := by decide +kernel
theorem dX11_isNarTold_17 : decode cX11_isNarTold 17 = .ok (.iastore, 1) := by decide +kernel
theorem dX11_isNarTold_18 : decode cX11_isNarTold 18 = .ok (.astore_n 1, 1) := by decide +kernel
theorem dX11_isNarTold_19 : decode cX11_isNarTold 19 = .ok (.iconst 0, 1) := by decide +kernel
theorem dX11_isNarTold_20 : decode cX11_isNarTold 20 = .ok (.istore_n 2, 1) := by decide +kernel
theorem dX11_isNarTold_21 : decode cX11_isNarTold 21 = .ok (.iload_n 2, 1) := by decide +kernel
theorem dX11_isNarTold_22 : decode cX11_isNarTold 22 = .ok (.iconst 3, 1) := by decide +kernel
theorem dX11_isNarTold_23 : decode cX11_isNarTold 23 = .ok (.if_icmp .ge 31, 3) := by decide +kernel
theorem dX11_isNarTold_26 : decode cX11_isNarTold 26 = .ok (.aload_n 0, 1) := by decide +kernel
theorem dX11_isNarTold_27 : decode cX11_isNarTold 27 = .ok (.invokevirtual 264, 3) := by decide +kernel
theorem dX11_isNarTold_30 : decode cX11_isNarTold 30 = .ok (.aload_n 1, 1) := by decide +kernel
theorem dX11_isNarTold_31 : decode cX11_isNarTold 31 = .ok (.iload_n 2, 1) := by decide +kernel
theorem dX11_isNarTold_32 : decode cX11_isNarTold 32 = .ok (.iaload, 1) := by decide +kernel
theorem dX11_isNarTold_33 : decode cX11_isNarTold 33 = .ok (.if_icmp .eq 5, 3) := by decide +kernel
theorem dX11_isNarTold_36 : decode cX11_isNarTold 36 = .ok (.iconst 0, 1) := by decide +kernel
theorem dX11_isNarTold_37 : decode cX11_isNarTold 37 = .ok (.ireturn, 1) := by decide +kernel
theorem dX11_isNarTold_38 : decode cX11_isNarTold 38 = .ok (.aload_n 0, 1) := by decide +kernel
theorem dX11_isNarTold_39 : decode cX11_isNarTold 39 = .ok (.dup, 1) := by decide +kernel
theorem dX11_isNarTold_40 : decode cX11_isNarTold 40 = .ok (.getfield 259, 3) := by decide +kernel
theorem dX11_isNarTold_43 : decode cX11_isNarTold 43 = .ok (.iconst 1, 1) := by decide +kernel
theorem dX11_isNarTold_44 : decode cX11_isNarTold 44 = .ok (.iadd, 1) := by decide +kernel
theorem dX11_isNarTold_45 : decode cX11_isNarTold 45 = .ok (.putfield 259, 3) := by decide +kernel
theorem dX11_isNarTold_48 : decode cX11_isNarTold 48 = .ok (.iinc 2 1, 3) := by decide +kernel
theorem dX11_isNarTold_51 : decode cX11_isNarTold 51 = .ok (.goto (-30), 3) := by decide +kernel
theorem dX11_isNarTold_54 : decode cX11_isNarTold 54 = .ok (.aload_n 0, 1) := by decide +kernel
theorem dX11_isNarTold_55 : decode cX11_isNarTold 55 = .ok (.getfield 259, 3) := by decide +kernel
theorem dX11_isNarTold_58 : decode cX11_isNarTold 58 = .ok (.aload_n 0, 1) := by decide +kernel
theorem dX11_isNarTold_59 : decode cX11_isNarTold 59 = .ok (.getfield 262, 3) := by decide +kernel
theorem dX11_isNarTold_62 : decode cX11_isNarTold 62 = .ok (.if_icmp .ne 7, 3) := by decide +kernel
theorem dX11_isNarTold_65 : decode cX11_isNarTold 65 = .ok (.iconst 1, 1) := by decide +kernel
theorem dX11_isNarTold_66 : decode cX11_isNarTold 66 = .ok (.goto 4, 3) := by decide +kernel
theorem dX11_isNarTold_69 : decode cX11_isNarTold 69 = .ok (.iconst 0, 1) := by decide +kernel
theorem dX11_isNarTold_70 : decode cX11_isNarTold 70 = .ok (.ireturn, 1) := by decide +kernel
theorem dX11_isDecimal_0 : decode cX11_isDecimal 0 = .ok (.aload_n 0, 1) := by decide +kernel
theorem dX11_isDecimal_1 : decode cX11_isDecimal 1 = .ok (.iconst 1, 1) := by decide +kernel
theorem dX11_isDecimal_2 : decode cX11_isDecimal 2 = .ok (.invokevirtual 119, 3) := by decide +kernel
theorem dX11_isDecimal_5 : decode cX11_isDecimal 5 = .ok (.aload_n 0, 1) := by decide +kernel
theorem dX11_isDecimal_6 : decode cX11_isDecimal 6 = .ok (.getfield 35, 3) := by decide +kernel
theorem dX11_isDecimal_9 : decode cX11_isDecimal 9 = .ok (.iconst 0, 1) := by decide +kernel
theorem dX11_isDecimal_10 : decode cX11_isDecimal 10 = .ok (.putfield 206, 3) := by decide +kernel
theorem dX11_isDecimal_13 : decode cX11_isDecimal 13 = .ok (.aload_n 0, 1) := by decide +kernel
theorem dX11_isDecimal_14 : decode cX11_isDecimal 14 = .ok (.iconst 0, 1) := by decide +kernel
theorem dX11_isDecimal_15 : decode cX11_isDecimal 15 = .ok (.putfield 271, 3) := by decide +kernel
theorem dX11_isDecimal_18 : decode cX11_isDecimal 18 = .ok (.aload_n 0, 1) := by decide +kernel
theorem dX11_isDecimal_19 : decode cX11_isDecimal 19 = .ok (.iconst 0, 1) := by decide +kernel
theorem dX11_isDecimal_20 : decode cX11_isDecimal 20 = .ok (.putfield 276, 3) := by decide +kernel
theorem dX11_isDecimal_23 : decode cX11_isDecimal 23 = .ok (.aload_n 0, 1) := by decide +kernel
theorem dX11_isDecimal_24 : decode cX11_isDecimal 24 = .ok (.invokevirtual 264, 3) := by decide +kernel
theorem dX11_isDecimal_27 : decode cX11_isDecimal 27 = .ok (.bipush 45, 2) := by decide +kernel
theorem dX11_isDecimal_29 : decode cX11_isDecimal 29 = .ok (.if_icmp .ne 18, 3) := by decide +kernel
theorem dX11_isDecimal_32 : decode cX11_isDecimal 32 = .ok (.aload_n 0, 1) := by decide +kernel
theorem dX11_isDecimal_33 : decode cX11_isDecimal 33 = .ok (.iconst (-1), 1) := by decide +kernel
theorem dX11_isDecimal_34 : decode cX11_isDecimal 34 = .ok (.putfield 32, 3) := by decide +kernel
theorem dX11_isDecimal_37 : decode cX11_isDecimal 37 = .ok (.aload_n 0, 1) := by decide +kernel
theorem dX11_isDecimal_38 : decode cX11_isDecimal 38 = .ok (.dup, 1) := by decide +kernel
theorem dX11_isDecimal_39 : decode cX11_isDecimal 39 = .ok (.getfield 259, 3) := by decide +kernel
theorem dX11_isDecimal_42 : decode cX11_isDecimal 42 = .ok (.iconst 1, 1) := by decide +kernel
theorem dX11_isDecimal_43 : decode cX11_isDecimal 43 = .ok (.iadd, 1) := by decide +kernel
theorem dX11_isDecimal_44 : decode cX11_isDecimal 44 = .ok (.putfield 259, 3) := by decide +kernel
theorem dX11_isDecimal_47 : decode cX11_isDecimal 47 = .ok (.aload_n 0, 1) := by decide +kernel
theorem dX11_isDecimal_48 : decode cX11_isDecimal 48 = .ok (.invokevirtual 279, 3) := by decide +kernel
theorem dX11_isDecimal_51 : decode cX11_isDecimal 51 = .ok (.ifCond .ne 5, 3) := by decide +kernel
theorem dX11_isDecimal_54 : decode cX11_isDecimal 54 = .ok (.iconst 0, 1) := by decide +kernel
theorem dX11_isDecimal_55 : decode cX11_isDecimal 55 = .ok (.ireturn, 1) := by decide +kernel
theorem dX11_isDecimal_56 : decode cX11_isDecimal 56 = .ok (.aload_n 0, 1) := by decide +kernel
theorem dX11_isDecimal_57 : decode cX11_isDecimal 57 = .ok (.invokevirtual 264, 3) := by decide +kernel
theorem dX11_isDecimal_60 : decode cX11_isDecimal 60 = .ok (.bipush 46, 2) := by decide +kernel
theorem dX11_isDecimal_62 : decode cX11_isDecimal 62 = .ok (.if_icmp .ne 37, 3) := by decide +kernel
theorem dX11_isDecimal_65 : decode cX11_isDecimal 65 = .ok (.aload_n 0, 1) := by decide +kernel
theorem dX11_isDecimal_66 : decode cX11_isDecimal 66 = .ok (.dup, 1) := by decide +kernel
theorem dX11_isDecimal_67 : decode cX11_isDecimal 67 = .ok (.getfield 259, 3) := by decide +kernel
theorem dX11_isDecimal_70 : decode cX11_isDecimal 70 = .ok (.iconst 1, 1) := by decide +kernel
theorem dX11_isDecimal_71 : decode cX11_isDecimal 71 = .ok (.iadd, 1) := by decide +kernel
theorem dX11_isDecimal_72 : decode cX11_isDecimal 72 = .ok (.putfield 259, 3) := by decide +kernel
theorem dX11_isDecimal_75 : decode cX11_isDecimal 75 = .ok (.aload_n 0, 1) := by decide +kernel
theorem dX11_isDecimal_76 : decode cX11_isDecimal 76 = .ok (.getfield 271, 3) := by decide +kernel
theorem dX11_isDecimal_79 : decode cX11_isDecimal 79 = .ok (.istore_n 1, 1) := by decide +kernel
theorem dX11_isDecimal_80 : decode cX11_isDecimal 80 = .ok (.aload_n 0, 1) := by decide +kernel
theorem dX11_isDecimal_81 : decode cX11_isDecimal 81 = .ok (.invokevirtual 279, 3) := by decide +kernel
theorem dX11_isDecimal_84 : decode cX11_isDecimal 84 = .ok (.ifCond .ne 5, 3) := by decide +kernel
theorem dX11_isDecimal_87 : decode cX11_isDecimal 87 = .ok (.iconst 0, 1) := by decide +kernel
theorem dX11_isDecimal_88 : decode cX11_isDecimal 88 = .ok (.ireturn, 1) := by decide +kernel
theorem dX11_isDecimal_89 : decode cX11_isDecimal 89 = .ok (.aload_n 0, 1) := by decide +kernel
theorem dX11_isDecimal_90 : decode cX11_isDecimal 90 = .ok (.iload_n 1, 1) := by decide +kernel
theorem dX11_isDecimal_91 : decode cX11_isDecimal 91 = .ok (.aload_n 0, 1) := by decide +kernel
theorem dX11_isDecimal_92 : decode cX11_isDecimal 92 = .ok (.getfield 271, 3) := by decide +kernel
theorem dX11_isDecimal_95 : decode cX11_isDecimal 95 = .ok (.isub, 1) := by decide +kernel
theorem dX11_isDecimal_96 : decode cX11_isDecimal 96 = .ok (.putfield 276, 3) := by decide +kernel
theorem dX11_isDecimal_99 : decode cX11_isDecimal 99 = .ok (.aload_n 0, 1) := by decide +kernel
theorem dX11_isDecimal_100 : decode cX11_isDecimal 100 = .ok (.invokevirtual 264, 3) := by decide +kernel
theorem dX11_isDecimal_103 : decode cX11_isDecimal 103 = .ok (.bipush 101, 2) := by decide +kernel
theorem dX11_isDecimal_105 : decode cX11_isDecimal 105 = .ok (.if_icmp .ne 22, 3) := by decide +kernel
theorem dX11_isDecimal_108 : decode cX11_isDecimal 108 = .ok (.aload_n 0, 1) := by decide +kernel
theorem dX11_isDecimal_109 : decode cX11_isDecimal 109 = .ok (.dup, 1) := by decide +kernel
theorem dX11_isDecimal_110 : decode cX11_isDecimal 110 = .ok (.getfield 259, 3) := by decide +kernel
theorem dX11_isDecimal_113 : decode cX11_isDecimal 113 = .ok (.iconst 1, 1) := by decide +kernel
theorem dX11_isDecimal_114 : decode cX11_isDecimal 114 = .ok (.iadd, 1) := by decide +kernel
theorem dX11_isDecimal_115 : decode cX11_isDecimal 115 = .ok (.putfield 259, 3) := by decide +kernel
theorem dX11_isDecimal_118 : decode cX11_isDecimal 118 = .ok (.aload_n 0, 1) := by decide +kernel
theorem dX11_isDecimal_119 : decode cX11_isDecimal 119 = .ok (.invokevirtual 282, 3) := by decide +kernel
theorem dX11_isDecimal_122 : decode cX11_isDecimal 122 = .ok (.ifCond .ne 5, 3) := by decide +kernel
theorem dX11_isDecimal_125 : decode cX11_isDecimal 125 = .ok (.iconst 0, 1) := by decide +kernel
theorem dX11_isDecimal_126 : decode cX11_isDecimal 126 = .ok (.ireturn, 1) := by decide +kernel
theorem dX11_isDecimal_127 : decode cX11_isDecimal 127 = .ok (.aload_n 0, 1) := by decide +kernel
theorem dX11_isDecimal_128 : decode cX11_isDecimal 128 = .ok (.getfield 259, 3) := by decide +kernel
theorem dX11_isDecimal_131 : decode cX11_isDecimal 131 = .ok (.aload_n 0, 1) := by decide +kernel
theorem dX11_isDecimal_132 : decode cX11_isDecimal 132 = .ok (.getfield 262, 3) := by decide +kernel
theorem dX11_isDecimal_135 : decode cX11_isDecimal 135 = .ok (.if_icmp .ne 7, 3) := by decide +kernel
theorem dX11_isDecimal_138 : decode cX11_isDecimal 138 = .ok (.iconst 1, 1) := by decide +kernel
theorem dX11_isDecimal_139 : decode cX11_isDecimal 139 = .ok (.goto 4, 3) := by decide +kernel
theorem dX11_isDecimal_142 : decode cX11_isDecimal 142 = .ok (.iconst 0, 1) := by decide +kernel
theorem dX11_isDecimal_143 : decode cX11_isDecimal 143 = .ok (.ireturn, 1) := by decide +kernel
theorem dX11_read_0 : decode cX11_read 0 = .ok (.aload_n 0, 1) := by decide +kernel
theorem dX11_read_1 : decode cX11_read 1 = .ok (.iload_n 1, 1) := by decide +kernel
theorem dX11_read_2 : decode cX11_read 2 = .ok (.invokestatic 165, 3) := by decide +kernel
theorem dX11_read_5 : decode cX11_read 5 = .ok (.iconst 1, 1) := by decide +kernel
theorem dX11_read_6 : decode cX11_read 6 = .ok (.invokevirtual 172, 3) := by decide +kernel
theorem dX11_read_9 : decode cX11_read 9 = .ok (.ifCond .ne 5, 3) := by decide +kernel
theorem dX11_read_12 : decode cX11_read 12 = .ok (.iconst 0, 1) := by decide +kernel
theorem dX11_read_13 : decode cX11_read 13 = .ok (.ireturn, 1) := by decide +kernel
theorem dX11_read_14 : decode cX11_read 14 = .ok (.aload_n 0, 1) := by decide +kernel
theorem dX11_read_15 : decode cX11_read 15 = .ok (.iconst 0, 1) := by decide +kernel
theorem dX11_read_16 : decode cX11_read 16 = .ok (.putfield 259, 3) := by decide +kernel
theorem dX11_read_19 : decode cX11_read 19 = .ok (.aload_n 0, 1) := by decide +kernel
theorem dX11_read_20 : decode cX11_read 20 = .ok (.aload_n 0, 1) := by decide +kernel
theorem dX11_read_21 : decode cX11_read 21 = .ok (.getfield 254, 3) := by decide +kernel
theorem dX11_read_24 : decode cX11_read 24 = .ok (.putfield 262, 3) := by decide +kernel
theorem dX11_read_27 : decode cX11_read 27 = .ok (.aload_n 0, 1) := by decide +kernel
theorem dX11_read_28 : decode cX11_read 28 = .ok (.iconst 0, 1) := by decide +kernel
theorem dX11_read_29 : decode cX11_read 29 = .ok (.putfield 254, 3) := by decide +kernel
theorem dX11_read_32 : decode cX11_read 32 = .ok (.aload_n 0, 1) := by decide +kernel
theorem dX11_read_33 : decode cX11_read 33 = .ok (.invokevirtual 264, 3) := by decide +kernel
theorem dX11_read_36 : decode cX11_read 36 = .ok (.bipush 78, 2) := by decide +kernel
theorem dX11_read_38 : decode cX11_read 38 = .ok (.if_icmp .ne 24, 3) := by decide +kernel
theorem dX11_read_41 : decode cX11_read 41 = .ok (.aload_n 0, 1) := by decide +kernel
theorem dX11_read_42 : decode cX11_read 42 = .ok (.invokevirtual 285, 3) := by decide +kernel
theorem dX11_read_45 : decode cX11_read 45 = .ok (.ifCond .ne 10, 3) := by decide +kernel
theorem dX11_read_48 : decode cX11_read 48 = .ok (.iconst (-1), 1) := by decide +kernel
theorem dX11_read_49 : decode cX11_read 49 = .ok (.aload_n 0, 1) := by decide +kernel
theorem dX11_read_50 : decode cX11_read 50 = .ok (.getfield 259, 3) := by decide +kernel
theorem dX11_read_53 : decode cX11_read 53 = .ok (.isub, 1) := by decide +kernel
theorem dX11_read_54 : decode cX11_read 54 = .ok (.ireturn, 1) := by decide +kernel
theorem dX11_read_55 : decode cX11_read 55 = .ok (.aload_n 0, 1) := by decide +kernel
theorem dX11_read_56 : decode cX11_read 56 = .ok (.iload_n 1, 1) := by decide +kernel
theorem dX11_read_57 : decode cX11_read 57 = .ok (.invokevirtual 182, 3) := by decide +kernel
theorem dX11_read_60 : decode cX11_read 60 = .ok (.iconst 0, 1) := by decide +kernel
theorem dX11_read_61 : decode cX11_read 61 = .ok (.ireturn, 1) := by decide +kernel
theorem dX11_read_62 : decode cX11_read 62 = .ok (.aload_n 0, 1) := by decide +kernel
theorem dX11_read_63 : decode cX11_read 63 = .ok (.invokevirtual 288, 3) := by decide +kernel
theorem dX11_read_66 : decode cX11_read 66 = .ok (.ifCond .ne 10, 3) := by decide +kernel
theorem dX11_read_69 : decode cX11_read 69 = .ok (.iconst (-1), 1) := by decide +kernel
theorem dX11_read_70 : decode cX11_read 70 = .ok (.aload_n 0, 1) := by decide +kernel
theorem dX11_read_71 : decode cX11_read 71 = .ok (.getfield 259, 3) := by decide +kernel
theorem dX11_read_74 : decode cX11_read 74 = .ok (.isub, 1) := by decide +kernel
theorem dX11_read_75 : decode cX11_read 75 = .ok (.ireturn, 1) := by decide +kernel
theorem dX11_read_76 : decode cX11_read 76 = .ok (.aload_n 0, 1) := by decide +kernel
theorem dX11_read_77 : decode cX11_read 77 = .ok (.aload_n 0, 1) := by decide +kernel
theorem dX11_read_78 : decode cX11_read 78 = .ok (.getfield 35, 3) := by decide +kernel
theorem dX11_read_81 : decode cX11_read 81 = .ok (.getfield 206, 3) := by decide +kernel
theorem dX11_read_84 : decode cX11_read 84 = .ok (.ifCond .ne 7, 3) := by decide +kernel
theorem dX11_read_87 : decode cX11_read 87 = .ok (.iconst 0, 1) := by decide +kernel
theorem dX11_read_88 : decode cX11_read 88 = .ok (.goto 7, 3) := by decide +kernel
theorem dX11_read_91 : decode cX11_read 91 = .ok (.aload_n 0, 1) := by decide +kernel
theorem dX11_read_92 : decode cX11_read 92 = .ok (.getfield 32, 3) := by decide +kernel
theorem dX11_read_95 : decode cX11_read 95 = .ok (.putfield 32, 3) := by decide +kernel
theorem dX11_read_98 : decode cX11_read 98 = .ok (.aload_n 0, 1) := by decide +kernel
theorem dX11_read_99 : decode cX11_read 99 = .ok (.getfield 276, 3) := by decide +kernel
theorem dX11_read_102 : decode cX11_read 102 = .ok (.ifCond .ge 10, 3) := by decide +kernel
theorem dX11_read_105 : decode cX11_read 105 = .ok (.aload_n 0, 1) := by decide +kernel
theorem dX11_read_106 : decode cX11_read 106 = .ok (.getfield 45, 3) := by decide +kernel
theorem dX11_read_109 : decode cX11_read 109 = .ok (.goto 7, 3) := by decide +kernel
theorem dX11_read_112 : decode cX11_read 112 = .ok (.aload_n 0, 1) := by decide +kernel
theorem dX11_read_113 : decode cX11_read 113 = .ok (.getfield 35, 3) := by decide +kernel
theorem dX11_read_116 : decode cX11_read 116 = .ok (.astore_n 2, 1) := by decide +kernel
theorem dX11_read_117 : decode cX11_read 117 = .ok (.iconst 0, 1) := by decide +kernel
theorem dX11_read_118 : decode cX11_read 118 = .ok (.istore_n 3, 1) := by decide +kernel
theorem dX11_read_119 : decode cX11_read 119 = .ok (.iload_n 3, 1) := by decide +kernel
theorem dX11_read_120 : decode cX11_read 120 = .ok (.aload_n 0, 1) := by decide +kernel
theorem dX11_read_121 : decode cX11_read 121 = .ok (.getfield 276, 3) := by decide +kernel
theorem dX11_read_124 : decode cX11_read 124 = .ok (.invokestatic 240, 3) := by decide +kernel
theorem dX11_read_127 : decode cX11_read 127 = .ok (.if_icmp .ge 17, 3) := by decide +kernel
theorem dX11_read_130 : decode cX11_read 130 = .ok (.aload_n 2, 1) := by decide +kernel
theorem dX11_read_131 : decode cX11_read 131 = .ok (.ldc2_w 274, 3) := by decide +kernel
theorem dX11_read_134 : decode cX11_read 134 = .ok (.iconst 0, 1) := by decide +kernel
theorem dX11_read_135 : decode cX11_read 135 = .ok (.invokevirtual 64, 3) := by decide +kernel
theorem dX11_read_138 : decode cX11_read 138 = .ok (.iinc 3 1, 3) := by decide +kernel
theorem dX11_read_141 : decode cX11_read 141 = .ok (.goto (-22), 3) := by decide +kernel
theorem dX11_read_144 : decode cX11_read 144 = .ok (.aload_n 0, 1) := by decide +kernel
theorem dX11_read_145 : decode cX11_read 145 = .ok (.iload_n 1, 1) := by decide +kernel
theorem dX11_read_146 : decode cX11_read 146 = .ok (.invokevirtual 185, 3) := by decide +kernel
theorem dX11_read_149 : decode cX11_read 149 = .ok (.iconst 0, 1) := by decide +kernel
theorem dX11_read_150 : decode cX11_read 150 = .ok (.ireturn, 1) := by decide +kernel
theorem dX11_put_0 : decode cX11_put 0 = .ok (.aload_n 0, 1) := by decide +kernel
theorem dX11_put_1 : decode cX11_put 1 = .ok (.getfield 141, 3) := by decide +kernel
theorem dX11_put_4 : decode cX11_put 4 = .ok (.aload_n 0, 1) := by decide +kernel
theorem dX11_put_5 : decode cX11_put 5 = .ok (.getfield 291, 3) := by decide +kernel
theorem dX11_put_8 : decode cX11_put 8 = .ok (.iload_n 1, 1) := by decide +kernel
theorem dX11_put_9 : decode cX11_put 9 = .ok (.iastore, 1) := by decide +kernel
theorem dX11_put_10 : decode cX11_put 10 = .ok (.aload_n 0, 1) := by decide +kernel
theorem dX11_put_11 : decode cX11_put 11 = .ok (.dup, 1) := by decide +kernel
theorem dX11_put_12 : decode cX11_put 12 = .ok (.getfield 291, 3) := by decide +kernel
theorem dX11_put_15 : decode cX11_put 15 = .ok (.iconst 1, 1) := by decide +kernel
theorem dX11_put_16 : decode cX11_put 16 = .ok (.iadd, 1) := by decide +kernel
theorem dX11_put_17 : decode cX11_put 17 = .ok (.putfield 291, 3) := by decide +kernel
theorem dX11_put_20 : decode cX11_put 20 = .ok (.return_, 1) := by decide +kernel
theorem dX11_putWhole_0 : decode cX11_putWhole 0 = .ok (.iconst 0, 1) := by decide +kernel
theorem dX11_putWhole_1 : decode cX11_putWhole 1 = .ok (.istore_n 1, 1) := by decide +kernel
theorem dX11_putWhole_2 : decode cX11_putWhole 2 = .ok (.aload_n 0, 1) := by decide +kernel
theorem dX11_putWhole_3 : decode cX11_putWhole 3 = .ok (.getfield 106, 3) := by decide +kernel
theorem dX11_putWhole_6 : decode cX11_putWhole 6 = .ok (.aload_n 0, 1) := by decide +kernel
theorem dX11_putWhole_7 : decode cX11_putWhole 7 = .ok (.getfield 100, 3) := by decide +kernel
theorem dX11_putWhole_10 : decode cX11_putWhole 10 = .ok (.invokevirtual 57, 3) := by decide +kernel
theorem dX11_putWhole_13 : decode cX11_putWhole 13 = .ok (.aload_n 0, 1) := by decide +kernel
theorem dX11_putWhole_14 : decode cX11_putWhole 14 = .ok (.getfield 106, 3) := by decide +kernel
theorem dX11_putWhole_17 : decode cX11_putWhole 17 = .ok (.getfield 206, 3) := by decide +kernel
theorem dX11_putWhole_20 : decode cX11_putWhole 20 = .ok (.ifCond .le 24, 3) := by decide +kernel
theorem dX11_putWhole_23 : decode cX11_putWhole 23 = .ok (.aload_n 0, 1) := by decide +kernel
theorem dX11_putWhole_24 : decode cX11_putWhole 24 = .ok (.getfield 144, 3) := by decide +kernel
theorem dX11_putWhole_27 : decode cX11_putWhole 27 = .ok (.iload_n 1, 1) := by decide +kernel
theorem dX11_putWhole_28 : decode cX11_putWhole 28 = .ok (.aload_n 0, 1) := by decide +kernel
theorem dX11_putWhole_29 : decode cX11_putWhole 29 = .ok (.getfield 106, 3) := by decide +kernel
theorem dX11_putWhole_32 : decode cX11_putWhole 32 = .ok (.bipush 10, 2) := by decide +kernel
theorem dX11_putWhole_34 : decode cX11_putWhole 34 = .ok (.invokevirtual 294, 3) := by decide +kernel
theorem dX11_putWhole_37 : decode cX11_putWhole 37 = .ok (.iastore, 1) := by decide +kernel
theorem dX11_putWhole_38 : decode cX11_putWhole 38 = .ok (.iinc 1 1, 3) := by decide +kernel
theorem dX11_putWhole_41 : decode cX11_putWhole 41 = .ok (.goto (-28), 3) := by decide +kernel
theorem dX11_putWhole_44 : decode cX11_putWhole 44 = .ok (.iload_n 1, 1) := by decide +kernel
theorem dX11_putWhole_45 : decode cX11_putWhole 45 = .ok (.ifCond .ne 9, 3) := by decide +kernel
theorem dX11_putWhole_48 : decode cX11_putWhole 48 = .ok (.aload_n 0, 1) := by decide +kernel
theorem dX11_putWhole_49 : decode cX11_putWhole 49 = .ok (.bipush 48, 2) := by decide +kernel
theorem dX11_putWhole_51 : decode cX11_putWhole 51 = .ok (.invokevirtual 297, 3) := by decide +kernel
theorem dX11_putWhole_54 : decode cX11_putWhole 54 = .ok (.iload_n 1, 1) := by decide +kernel
theorem dX11_putWhole_55 : decode cX11_putWhole 55 = .ok (.iconst 1, 1) := by decide +kernel
theorem dX11_putWhole_56 : decode cX11_putWhole 56 = .ok (.isub, 1) := by decide +kernel
theorem dX11_putWhole_57 : decode cX11_putWhole 57 = .ok (.istore_n 2, 1) := by decide +kernel
theorem dX11_putWhole_58 : decode cX11_putWhole 58 = .ok (.iload_n 2, 1) := by decide +kernel
theorem dX11_putWhole_59 : decode cX11_putWhole 59 = .ok (.ifCond .lt 22, 3) := by decide +kernel
theorem dX11_putWhole_62 : decode cX11_putWhole 62 = .ok (.aload_n 0, 1) := by decide +kernel
theorem dX11_putWhole_63 : decode cX11_putWhole 63 = .ok (.bipush 48, 2) := by decide +kernel
theorem dX11_putWhole_65 : decode cX11_putWhole 65 = .ok (.aload_n 0, 1) := by decide +kernel
theorem dX11_putWhole_66 : decode cX11_putWhole 66 = .ok (.getfield 144, 3) := by decide +kernel
theorem dX11_putWhole_69 : decode cX11_putWhole 69 = .ok (.iload_n 2, 1) := by decide +kernel
theorem dX11_putWhole_70 : decode cX11_putWhole 70 = .ok (.iaload, 1) := by decide +kernel
theorem dX11_putWhole_71 : decode cX11_putWhole 71 = .ok (.iadd, 1) := by decide +kernel
theorem dX11_putWhole_72 : decode cX11_putWhole 72 = .ok (.invokevirtual 297, 3) := by decide +kernel
theorem dX11_putWhole_75 : decode cX11_putWhole 75 = .ok (.iinc 2 (-1), 3) := by decide +kernel
theorem dX11_putWhole_78 : decode cX11_putWhole 78 = .ok (.goto (-20), 3) := by decide +kernel
theorem dX11_putWhole_81 : decode cX11_putWhole 81 = .ok (.return_, 1) := by decide +kernel
theorem dX11_putExact_0 : decode cX11_putExact 0 = .ok (.aload_n 0, 1) := by decide +kernel
theorem dX11_putExact_1 : decode cX11_putExact 1 = .ok (.getfield 17, 3) := by decide +kernel
theorem dX11_putExact_4 : decode cX11_putExact 4 = .ok (.ifCond .ge 9, 3) := by decide +kernel
theorem dX11_putExact_7 : decode cX11_putExact 7 = .ok (.aload_n 0, 1) := by decide +kernel
theorem dX11_putExact_8 : decode cX11_putExact 8 = .ok (.bipush 45, 2) := by decide +kernel
theorem dX11_putExact_10 : decode cX11_putExact 10 = .ok (.invokevirtual 297, 3) := by decide +kernel
theorem dX11_putExact_13 : decode cX11_putExact 13 = .ok (.aload_n 0, 1) := by decide +kernel
theorem dX11_putExact_14 : decode cX11_putExact 14 = .ok (.getfield 17, 3) := by decide +kernel
theorem dX11_putExact_17 : decode cX11_putExact 17 = .ok (.ifCond .eq 10, 3) := by decide +kernel
theorem dX11_putExact_20 : decode cX11_putExact 20 = .ok (.aload_n 0, 1) := by decide +kernel
theorem dX11_putExact_21 : decode cX11_putExact 21 = .ok (.getfield 13, 3) := by decide +kernel
theorem dX11_putExact_24 : decode cX11_putExact 24 = .ok (.ifCond .lt 7, 3) := by decide +kernel
theorem dX11_putExact_27 : decode cX11_putExact 27 = .ok (.iconst 0, 1) := by decide +kernel
theorem dX11_putExact_28 : decode cX11_putExact 28 = .ok (.goto 8, 3) := by decide +kernel
theorem dX11_putExact_31 : decode cX11_putExact 31 = .ok (.aload_n 0, 1) := by decide +kernel
theorem dX11_putExact_32 : decode cX11_putExact 32 = .ok (.getfield 13, 3) := by decide +kernel
theorem dX11_putExact_35 : decode cX11_putExact 35 = .ok (.ineg, 1) := by decide +kernel
theorem dX11_putExact_36 : decode cX11_putExact 36 = .ok (.istore_n 1, 1) := by decide +kernel
theorem dX11_putExact_37 : decode cX11_putExact 37 = .ok (.aload_n 0, 1) := by decide +kernel
theorem dX11_putExact_38 : decode cX11_putExact 38 = .ok (.getfield 100, 3) := by decide +kernel
theorem dX11_putExact_41 : decode cX11_putExact 41 = .ok (.iload_n 1, 1) := by decide +kernel
theorem dX11_putExact_42 : decode cX11_putExact 42 = .ok (.bipush 40, 2) := by decide +kernel
theorem dX11_putExact_44 : decode cX11_putExact 44 = .ok (.if_icmp .le 7, 3) := by decide +kernel
theorem dX11_putExact_47 : decode cX11_putExact 47 = .ok (.lconst 0, 1) := by decide +kernel
theorem dX11_putExact_48 : decode cX11_putExact 48 = .ok (.goto 9, 3) := by decide +kernel
theorem dX11_putExact_51 : decode cX11_putExact 51 = .ok (.aload_n 0, 1) := by decide +kernel
theorem dX11_putExact_52 : decode cX11_putExact 52 = .ok (.getfield 7, 3) := by decide +kernel
theorem dX11_putExact_55 : decode cX11_putExact 55 = .ok (.iload_n 1, 1) := by decide +kernel
theorem dX11_putExact_56 : decode cX11_putExact 56 = .ok (.lshr, 1) := by decide +kernel
theorem dX11_putExact_57 : decode cX11_putExact 57 = .ok (.invokevirtual 39, 3) := by decide +kernel
theorem dX11_putExact_60 : decode cX11_putExact 60 = .ok (.aload_n 0, 1) := by decide +kernel
theorem dX11_putExact_61 : decode cX11_putExact 61 = .ok (.getfield 17, 3) := by decide +kernel
theorem dX11_putExact_64 : decode cX11_putExact 64 = .ok (.ifCond .eq 21, 3) := by decide +kernel
theorem dX11_putExact_67 : decode cX11_putExact 67 = .ok (.aload_n 0, 1) := by decide +kernel
theorem dX11_putExact_68 : decode cX11_putExact 68 = .ok (.getfield 13, 3) := by decide +kernel
theorem dX11_putExact_71 : decode cX11_putExact 71 = .ok (.ifCond .le 14, 3) := by decide +kernel
theorem dX11_putExact_74 : decode cX11_putExact 74 = .ok (.aload_n 0, 1) := by decide +kernel
theorem dX11_putExact_75 : decode cX11_putExact 75 = .ok (.getfield 100, 3) := by decide +kernel
theorem dX11_putExact_78 : decode cX11_putExact 78 = .ok (.aload_n 0, 1) := by decide +kernel
theorem dX11_putExact_79 : decode cX11_putExact 79 = .ok (.getfield 13, 3) := by decide +kernel
theorem dX11_putExact_82 : decode cX11_putExact 82 = .ok (.invokevirtual 71, 3) := by decide +kernel
theorem dX11_putExact_85 : decode cX11_putExact 85 = .ok (.aload_n 0, 1) := by decide +kernel
theorem dX11_putExact_86 : decode cX11_putExact 86 = .ok (.invokevirtual 300, 3) := by decide +kernel
theorem dX11_putExact_89 : decode cX11_putExact 89 = .ok (.aload_n 0, 1) := by decide +kernel
theorem dX11_putExact_90 : decode cX11_putExact 90 = .ok (.getfield 100, 3) := by decide +kernel
theorem dX11_putExact_93 : decode cX11_putExact 93 = .ok (.iload_n 1, 1) := by decide +kernel
theorem dX11_putExact_94 : decode cX11_putExact 94 = .ok (.bipush 40, 2) := by decide +kernel
theorem dX11_putExact_96 : decode cX11_putExact 96 = .ok (.if_icmp .le 10, 3) := by decide +kernel
theorem dX11_putExact_99 : decode cX11_putExact 99 = .ok (.aload_n 0, 1) := by decide +kernel
theorem dX11_putExact_100 : decode cX11_putExact 100 = .ok (.getfield 7, 3) := by decide +kernel
theorem dX11_putExact_103 : decode cX11_putExact 103 = .ok (.goto 16, 3) := by decide +kernel
theorem dX11_putExact_106 : decode cX11_putExact 106 = .ok (.aload_n 0, 1) := by decide +kernel
theorem dX11_putExact_107 : decode cX11_putExact 107 = .ok (.getfield 7, 3) := by decide +kernel
theorem dX11_putExact_110 : decode cX11_putExact 110 = .ok (.aload_n 0, 1) := by decide +kernel
theorem dX11_putExact_111 : decode cX11_putExact 111 = .ok (.getfield 7, 3) := by decide +kernel
theorem dX11_putExact_114 : decode cX11_putExact 114 = .ok (.iload_n 1, 1) := by decide +kernel
theorem dX11_putExact_115 : decode cX11_putExact 115 = .ok (.lshr, 1) := by decide +kernel
theorem dX11_putExact_116 : decode cX11_putExact 116 = .ok (.iload_n 1, 1) := by decide +kernel
theorem dX11_putExact_117 : decode cX11_putExact 117 = .ok (.lshl, 1) := by decide +kernel
theorem dX11_putExact_118 : decode cX11_putExact 118 = .ok (.lsub, 1) := by decide +kernel
theorem dX11_putExact_119 : decode cX11_putExact 119 = .ok (.invokevirtual 39, 3) := by decide +kernel
theorem dX11_putExact_122 : decode cX11_putExact 122 = .ok (.aload_n 0, 1) := by decide +kernel
theorem dX11_putExact_123 : decode cX11_putExact 123 = .ok (.getfield 100, 3) := by decide +kernel
theorem dX11_putExact_126 : decode cX11_putExact 126 = .ok (.getfield 206, 3) := by decide +kernel
theorem dX11_putExact_129 : decode cX11_putExact 129 = .ok (.ifCond .ne 4, 3) := by decide +kernel
theorem dX11_putExact_132 : decode cX11_putExact 132 = .ok (.return_, 1) := by decide +kernel
theorem dX11_putExact_133 : decode cX11_putExact 133 = .ok (.aload_n 0, 1) := by decide +kernel
theorem dX11_putExact_134 : decode cX11_putExact 134 = .ok (.bipush 46, 2) := by decide +kernel
theorem dX11_putExact_136 : decode cX11_putExact 136 = .ok (.invokevirtual 297, 3) := by decide +kernel
theorem dX11_putExact_139 : decode cX11_putExact 139 = .ok (.aload_n 0, 1) := by decide +kernel
theorem dX11_putExact_140 : decode cX11_putExact 140 = .ok (.getfield 100, 3) := by decide +kernel
theorem dX11_putExact_143 : decode cX11_putExact 143 = .ok (.getfield 206, 3) := by decide +kernel
theorem dX11_putExact_146 : decode cX11_putExact 146 = .ok (.ifCond .le 82, 3) := by decide +kernel
theorem dX11_putExact_149 : decode cX11_putExact 149 = .ok (.aload_n 0, 1) := by decide +kernel
theorem dX11_putExact_150 : decode cX11_putExact 150 = .ok (.getfield 100, 3) := by decide +kernel
theorem dX11_putExact_153 : decode cX11_putExact 153 = .ok (.ldc2_w 274, 3) := by decide +kernel
theorem dX11_putExact_156 : decode cX11_putExact 156 = .ok (.iconst 0, 1) := by decide +kernel
theorem dX11_putExact_157 : decode cX11_putExact 157 = .ok (.invokevirtual 64, 3) := by decide +kernel
theorem dX11_putExact_160 : decode cX11_putExact 160 = .ok (.iconst 0, 1) := by decide +kernel
theorem dX11_putExact_161 : decode cX11_putExact 161 = .ok (.istore_n 2, 1) := by decide +kernel
theorem dX11_putExact_162 : decode cX11_putExact 162 = .ok (.iconst 3, 1) := by decide +kernel
theorem dX11_putExact_163 : decode cX11_putExact 163 = .ok (.istore_n 3, 1) := by decide +kernel
theorem dX11_putExact_164 : decode cX11_putExact 164 = .ok (.iload_n 3, 1) := by decide +kernel
theorem dX11_putExact_165 : decode cX11_putExact 165 = .ok (.ifCond .lt 24, 3) := by decide +kernel
theorem dX11_putExact_168 : decode cX11_putExact 168 = .ok (.iconst 2, 1) := by decide +kernel
theorem dX11_putExact_169 : decode cX11_putExact 169 = .ok (.iload_n 2, 1) := by decide +kernel
theorem dX11_putExact_170 : decode cX11_putExact 170 = .ok (.imul, 1) := by decide +kernel
theorem dX11_putExact_171 : decode cX11_putExact 171 = .ok (.aload_n 0, 1) := by decide +kernel
theorem dX11_putExact_172 : decode cX11_putExact 172 = .ok (.getfield 100, 3) := by decide +kernel
theorem dX11_putExact_175 : decode cX11_putExact 175 = .ok (.iload_n 1, 1) := by decide +kernel
theorem dX11_putExact_176 : decode cX11_putExact 176 = .ok (.iload_n 3, 1) := by decide +kernel
theorem dX11_putExact_177 : decode cX11_putExact 177 = .ok (.iadd, 1) := by decide +kernel
theorem dX11_putExact_178 : decode cX11_putExact 178 = .ok (.invokevirtual 199, 3) := by decide +kernel
theorem dX11_putExact_181 : decode cX11_putExact 181 = .ok (.iadd, 1) := by decide +kernel
theorem dX11_putExact_182 : decode cX11_putExact 182 = .ok (.istore_n 2, 1) := by decide +kernel
theorem dX11_putExact_183 : decode cX11_putExact 183 = .ok (.iinc 3 (-1), 3) := by decide +kernel
theorem dX11_putExact_186 : decode cX11_putExact 186 = .ok (.goto (-22), 3) := by decide +kernel
theorem dX11_putExact_189 : decode cX11_putExact 189 = .ok (.aload_n 0, 1) := by decide +kernel
theorem dX11_putExact_190 : decode cX11_putExact 190 = .ok (.bipush 48, 2) := by decide +kernel
theorem dX11_putExact_192 : decode cX11_putExact 192 = .ok (.iload_n 2, 1) := by decide +kernel
theorem dX11_putExact_193 : decode cX11_putExact 193 = .ok (.iadd, 1) := by decide +kernel
theorem dX11_putExact_194 : decode cX11_putExact 194 = .ok (.invokevirtual 297, 3) := by decide +kernel
theorem dX11_putExact_197 : decode cX11_putExact 197 = .ok (.aload_n 0, 1) := by decide +kernel
theorem dX11_putExact_198 : decode cX11_putExact 198 = .ok (.getfield 54, 3) := by decide +kernel
theorem dX11_putExact_201 : decode cX11_putExact 201 = .ok (.iload_n 2, 1) := by decide +kernel
theorem dX11_putExact_202 : decode cX11_putExact 202 = .ok (.i2l, 1) := by decide +kernel
theorem dX11_putExact_203 : decode cX11_putExact 203 = .ok (.invokevirtual 39, 3) := by decide +kernel
theorem dX11_putExact_206 : decode cX11_putExact 206 = .ok (.aload_n 0, 1) := by decide +kernel
theorem dX11_putExact_207 : decode cX11_putExact 207 = .ok (.getfield 54, 3) := by decide +kernel
theorem dX11_putExact_210 : decode cX11_putExact 210 = .ok (.iload_n 1, 1) := by decide +kernel
theorem dX11_putExact_211 : decode cX11_putExact 211 = .ok (.invokevirtual 71, 3) := by decide +kernel
theorem dX11_putExact_214 : decode cX11_putExact 214 = .ok (.aload_n 0, 1) := by decide +kernel
theorem dX11_putExact_215 : decode cX11_putExact 215 = .ok (.getfield 100, 3) := by decide +kernel
theorem dX11_putExact_218 : decode cX11_putExact 218 = .ok (.aload_n 0, 1) := by decide +kernel
theorem dX11_putExact_219 : decode cX11_putExact 219 = .ok (.getfield 54, 3) := by decide +kernel
theorem dX11_putExact_222 : decode cX11_putExact 222 = .ok (.invokevirtual 109, 3) := by decide +kernel
theorem dX11_putExact_225 : decode cX11_putExact 225 = .ok (.goto (-86), 3) := by decide +kernel
theorem dX11_putExact_228 : decode cX11_putExact 228 = .ok (.return_, 1) := by decide +kernel
theorem dX11_scale_0 : decode cX11_scale 0 = .ok (.aload_n 0, 1) := by decide +kernel
theorem dX11_scale_1 : decode cX11_scale 1 = .ok (.getfield 147, 3) := by decide +kernel
theorem dX11_scale_4 : decode cX11_scale 4 = .ok (.lload_n 1, 1) := by decide +kernel
theorem dX11_scale_5 : decode cX11_scale 5 = .ok (.invokevirtual 39, 3) := by decide +kernel
theorem dX11_scale_8 : decode cX11_scale 8 = .ok (.aload_n 0, 1) := by decide +kernel
theorem dX11_scale_9 : decode cX11_scale 9 = .ok (.getfield 150, 3) := by decide +kernel
theorem dX11_scale_12 : decode cX11_scale 12 = .ok (.lconst 1, 1) := by decide +kernel
theorem dX11_scale_13 : decode cX11_scale 13 = .ok (.invokevirtual 39, 3) := by decide +kernel
theorem dX11_scale_16 : decode cX11_scale 16 = .ok (.iload_n 3, 1) := by decide +kernel
theorem dX11_scale_17 : decode cX11_scale 17 = .ok (.ifCond .le 14, 3) := by decide +kernel
theorem dX11_scale_20 : decode cX11_scale 20 = .ok (.aload_n 0, 1) := by decide +kernel
theorem dX11_scale_21 : decode cX11_scale 21 = .ok (.getfield 147, 3) := by decide +kernel
theorem dX11_scale_24 : decode cX11_scale 24 = .ok (.iload_n 3, 1) := by decide +kernel
theorem dX11_scale_25 : decode cX11_scale 25 = .ok (.invokevirtual 71, 3) := by decide +kernel
theorem dX11_scale_28 : decode cX11_scale 28 = .ok (.goto 12, 3) := by decide +kernel
theorem dX11_scale_31 : decode cX11_scale 31 = .ok (.aload_n 0, 1) := by decide +kernel
theorem dX11_scale_32 : decode cX11_scale 32 = .ok (.getfield 150, 3) := by decide +kernel
theorem dX11_scale_35 : decode cX11_scale 35 = .ok (.iload_n 3, 1) := by decide +kernel
theorem dX11_scale_36 : decode cX11_scale 36 = .ok (.ineg, 1) := by decide +kernel
theorem dX11_scale_37 : decode cX11_scale 37 = .ok (.invokevirtual 71, 3) := by decide +kernel
theorem dX11_scale_40 : decode cX11_scale 40 = .ok (.aload_n 0, 1) := by decide +kernel
theorem dX11_scale_41 : decode cX11_scale 41 = .ok (.iconst 0, 1) := by decide +kernel
theorem dX11_scale_42 : decode cX11_scale 42 = .ok (.putfield 303, 3) := by decide +kernel
theorem dX11_scale_45 : decode cX11_scale 45 = .ok (.aload_n 0, 1) := by decide +kernel
theorem dX11_scale_46 : decode cX11_scale 46 = .ok (.getfield 147, 3) := by decide +kernel
theorem dX11_scale_49 : decode cX11_scale 49 = .ok (.aload_n 0, 1) := by decide +kernel
theorem dX11_scale_50 : decode cX11_scale 50 = .ok (.getfield 150, 3) := by decide +kernel
theorem dX11_scale_53 : decode cX11_scale 53 = .ok (.invokevirtual 75, 3) := by decide +kernel
theorem dX11_scale_56 : decode cX11_scale 56 = .ok (.ifCond .ge 27, 3) := by decide +kernel
theorem dX11_scale_59 : decode cX11_scale 59 = .ok (.aload_n 0, 1) := by decide +kernel
theorem dX11_scale_60 : decode cX11_scale 60 = .ok (.getfield 147, 3) := by decide +kernel
theorem dX11_scale_63 : decode cX11_scale 63 = .ok (.ldc2_w 274, 3) := by decide +kernel
theorem dX11_scale_66 : decode cX11_scale 66 = .ok (.iconst 0, 1) := by decide +kernel
theorem dX11_scale_67 : decode cX11_scale 67 = .ok (.invokevirtual 64, 3) := by decide +kernel
theorem dX11_scale_70 : decode cX11_scale 70 = .ok (.aload_n 0, 1) := by decide +kernel
theorem dX11_scale_71 : decode cX11_scale 71 = .ok (.dup, 1) := by decide +kernel
theorem dX11_scale_72 : decode cX11_scale 72 = .ok (.getfield 303, 3) := by decide +kernel
theorem dX11_scale_75 : decode cX11_scale 75 = .ok (.iconst 1, 1) := by decide +kernel
theorem dX11_scale_76 : decode cX11_scale 76 = .ok (.isub, 1) := by decide +kernel
theorem dX11_scale_77 : decode cX11_scale 77 = .ok (.putfield 303, 3) := by decide +kernel
theorem dX11_scale_80 : decode cX11_scale 80 = .ok (.goto (-35), 3) := by decide +kernel
theorem dX11_scale_83 : decode cX11_scale 83 = .ok (.aload_n 0, 1) := by decide +kernel
theorem dX11_scale_84 : decode cX11_scale 84 = .ok (.getfield 54, 3) := by decide +kernel
theorem dX11_scale_87 : decode cX11_scale 87 = .ok (.aload_n 0, 1) := by decide +kernel
theorem dX11_scale_88 : decode cX11_scale 88 = .ok (.getfield 150, 3) := by decide +kernel
theorem dX11_scale_91 : decode cX11_scale 91 = .ok (.invokevirtual 57, 3) := by decide +kernel
theorem dX11_scale_94 : decode cX11_scale 94 = .ok (.aload_n 0, 1) := by decide +kernel
theorem dX11_scale_95 : decode cX11_scale 95 = .ok (.getfield 54, 3) := by decide +kernel
theorem dX11_scale_98 : decode cX11_scale 98 = .ok (.ldc2_w 274, 3) := by decide +kernel
theorem dX11_scale_101 : decode cX11_scale 101 = .ok (.iconst 0, 1) := by decide +kernel
theorem dX11_scale_102 : decode cX11_scale 102 = .ok (.invokevirtual 64, 3) := by decide +kernel
theorem dX11_scale_105 : decode cX11_scale 105 = .ok (.aload_n 0, 1) := by decide +kernel
theorem dX11_scale_106 : decode cX11_scale 106 = .ok (.getfield 147, 3) := by decide +kernel
theorem dX11_scale_109 : decode cX11_scale 109 = .ok (.aload_n 0, 1) := by decide +kernel
theorem dX11_scale_110 : decode cX11_scale 110 = .ok (.getfield 54, 3) := by decide +kernel
theorem dX11_scale_113 : decode cX11_scale 113 = .ok (.invokevirtual 75, 3) := by decide +kernel
theorem dX11_scale_116 : decode cX11_scale 116 = .ok (.ifCond .lt 38, 3) := by decide +kernel
theorem dX11_scale_119 : decode cX11_scale 119 = .ok (.aload_n 0, 1) := by decide +kernel
theorem dX11_scale_120 : decode cX11_scale 120 = .ok (.getfield 150, 3) := by decide +kernel
theorem dX11_scale_123 : decode cX11_scale 123 = .ok (.aload_n 0, 1) := by decide +kernel
theorem dX11_scale_124 : decode cX11_scale 124 = .ok (.getfield 54, 3) := by decide +kernel
theorem dX11_scale_127 : decode cX11_scale 127 = .ok (.invokevirtual 57, 3) := by decide +kernel
theorem dX11_scale_130 : decode cX11_scale 130 = .ok (.aload_n 0, 1) := by decide +kernel
theorem dX11_scale_131 : decode cX11_scale 131 = .ok (.getfield 54, 3) := by decide +kernel
theorem dX11_scale_134 : decode cX11_scale 134 = .ok (.ldc2_w 274, 3) := by decide +kernel
theorem dX11_scale_137 : decode cX11_scale 137 = .ok (.iconst 0, 1) := by decide +kernel
theorem dX11_scale_138 : decode cX11_scale 138 = .ok (.invokevirtual 64, 3) := by decide +kernel
theorem dX11_scale_141 : decode cX11_scale 141 = .ok (.aload_n 0, 1) := by decide +kernel
theorem dX11_scale_142 : decode cX11_scale 142 = .ok (.dup, 1) := by decide +kernel
theorem dX11_scale_143 : decode cX11_scale 143 = .ok (.getfield 303, 3) := by decide +kernel
theorem dX11_scale_146 : decode cX11_scale 146 = .ok (.iconst 1, 1) := by decide +kernel
theorem dX11_scale_147 : decode cX11_scale 147 = .ok (.iadd, 1) := by decide +kernel
theorem dX11_scale_148 : decode cX11_scale 148 = .ok (.putfield 303, 3) := by decide +kernel
theorem dX11_scale_151 : decode cX11_scale 151 = .ok (.goto (-46), 3) := by decide +kernel
theorem dX11_scale_154 : decode cX11_scale 154 = .ok (.return_, 1) := by decide +kernel
theorem dX11_isRounded_0 : decode cX11_isRounded 0 = .ok (.aload_n 0, 1) := by decide +kernel
theorem dX11_isRounded_1 : decode cX11_isRounded 1 = .ok (.iconst 1, 1) := by decide +kernel
theorem dX11_isRounded_2 : decode cX11_isRounded 2 = .ok (.invokevirtual 119, 3) := by decide +kernel
theorem dX11_isRounded_5 : decode cX11_isRounded 5 = .ok (.aload_n 0, 1) := by decide +kernel
theorem dX11_isRounded_6 : decode cX11_isRounded 6 = .ok (.getfield 35, 3) := by decide +kernel
theorem dX11_isRounded_9 : decode cX11_isRounded 9 = .ok (.aload_n 1, 1) := by decide +kernel
theorem dX11_isRounded_10 : decode cX11_isRounded 10 = .ok (.invokevirtual 57, 3) := by decide +kernel
theorem dX11_isRounded_13 : decode cX11_isRounded 13 = .ok (.iload_n 2, 1) := by decide +kernel
theorem dX11_isRounded_14 : decode cX11_isRounded 14 = .ok (.ifCond .ge 10, 3) := by decide +kernel
theorem dX11_isRounded_17 : decode cX11_isRounded 17 = .ok (.aload_n 0, 1) := by decide +kernel
theorem dX11_isRounded_18 : decode cX11_isRounded 18 = .ok (.getfield 45, 3) := by decide +kernel
theorem dX11_isRounded_21 : decode cX11_isRounded 21 = .ok (.goto 7, 3) := by decide +kernel
theorem dX11_isRounded_24 : decode cX11_isRounded 24 = .ok (.aload_n 0, 1) := by decide +kernel
theorem dX11_isRounded_25 : decode cX11_isRounded 25 = .ok (.getfield 35, 3) := by decide +kernel
theorem dX11_isRounded_28 : decode cX11_isRounded 28 = .ok (.astore 6, 2) := by decide +kernel
theorem dX11_isRounded_30 : decode cX11_isRounded 30 = .ok (.iconst 0, 1) := by decide +kernel
theorem dX11_isRounded_31 : decode cX11_isRounded 31 = .ok (.istore 7, 2) := by decide +kernel
theorem dX11_isRounded_33 : decode cX11_isRounded 33 = .ok (.iload 7, 2) := by decide +kernel
theorem dX11_isRounded_35 : decode cX11_isRounded 35 = .ok (.iload_n 2, 1) := by decide +kernel
theorem dX11_isRounded_36 : decode cX11_isRounded 36 = .ok (.invokestatic 240, 3) := by decide +kernel
theorem dX11_isRounded_39 : decode cX11_isRounded 39 = .ok (.if_icmp .ge 18, 3) := by decide +kernel
theorem dX11_isRounded_42 : decode cX11_isRounded 42 = .ok (.aload 6, 2) := by decide +kernel
theorem dX11_isRounded_44 : decode cX11_isRounded 44 = .ok (.ldc2_w 274, 3) := by decide +kernel
theorem dX11_isRounded_47 : decode cX11_isRounded 47 = .ok (.iconst 0, 1) := by decide +kernel
theorem dX11_isRounded_48 : decode cX11_isRounded 48 = .ok (.invokevirtual 64, 3) := by decide +kernel
theorem dX11_isRounded_51 : decode cX11_isRounded 51 = .ok (.iinc 7 1, 3) := by decide +kernel
theorem dX11_isRounded_54 : decode cX11_isRounded 54 = .ok (.goto (-21), 3) := by decide +kernel
theorem dX11_isRounded_57 : decode cX11_isRounded 57 = .ok (.aload_n 0, 1) := by decide +kernel
theorem dX11_isRounded_58 : decode cX11_isRounded 58 = .ok (.iload 5, 2) := by decide +kernel
theorem dX11_isRounded_60 : decode cX11_isRounded 60 = .ok (.invokevirtual 82, 3) := by decide +kernel
theorem dX11_isRounded_63 : decode cX11_isRounded 63 = .ok (.lload_n 3, 1) := by decide +kernel
theorem dX11_isRounded_64 : decode cX11_isRounded 64 = .ok (.lcmp, 1) := by decide +kernel
theorem dX11_isRounded_65 : decode cX11_isRounded 65 = .ok (.ifCond .ne 7, 3) := by decide +kernel
theorem dX11_isRounded_68 : decode cX11_isRounded 68 = .ok (.iconst 1, 1) := by decide +kernel
theorem dX11_isRounded_69 : decode cX11_isRounded 69 = .ok (.goto 4, 3) := by decide +kernel
theorem dX11_isRounded_72 : decode cX11_isRounded 72 = .ok (.iconst 0, 1) := by decide +kernel
theorem dX11_isRounded_73 : decode cX11_isRounded 73 = .ok (.ireturn, 1) := by decide +kernel
theorem dX11_putShort_0 : decode cX11_putShort 0 = .ok (.aload_n 0, 1) := by decide +kernel
theorem dX11_putShort_1 : decode cX11_putShort 1 = .ok (.getfield 17, 3) := by decide +kernel
theorem dX11_putShort_4 : decode cX11_putShort 4 = .ok (.ifCond .ge 9, 3) := by decide +kernel
theorem dX11_putShort_7 : decode cX11_putShort 7 = .ok (.aload_n 0, 1) := by decide +kernel
theorem dX11_putShort_8 : decode cX11_putShort 8 = .ok (.bipush 45, 2) := by decide +kernel
theorem dX11_putShort_10 : decode cX11_putShort 10 = .ok (.invokevirtual 297, 3) := by decide +kernel
theorem dX11_putShort_13 : decode cX11_putShort 13 = .ok (.aload_n 0, 1) := by decide +kernel
theorem dX11_putShort_14 : decode cX11_putShort 14 = .ok (.aload_n 0, 1) := by decide +kernel
theorem dX11_putShort_15 : decode cX11_putShort 15 = .ok (.getfield 7, 3) := by decide +kernel
theorem dX11_putShort_18 : decode cX11_putShort 18 = .ok (.aload_n 0, 1) := by decide +kernel
theorem dX11_putShort_19 : decode cX11_putShort 19 = .ok (.getfield 13, 3) := by decide +kernel
theorem dX11_putShort_22 : decode cX11_putShort 22 = .ok (.invokevirtual 306, 3) := by decide +kernel
theorem dX11_putShort_25 : decode cX11_putShort 25 = .ok (.aload_n 0, 1) := by decide +kernel
theorem dX11_putShort_26 : decode cX11_putShort 26 = .ok (.getfield 156, 3) := by decide +kernel
theorem dX11_putShort_29 : decode cX11_putShort 29 = .ok (.iconst 0, 1) := by decide +kernel
theorem dX11_putShort_30 : decode cX11_putShort 30 = .ok (.putfield 206, 3) := by decide +kernel
theorem dX11_putShort_33 : decode cX11_putShort 33 = .ok (.aload_n 0, 1) := by decide +kernel
theorem dX11_putShort_34 : decode cX11_putShort 34 = .ok (.iconst 0, 1) := by decide +kernel
theorem dX11_putShort_35 : decode cX11_putShort 35 = .ok (.putfield 309, 3) := by decide +kernel
theorem dX11_putShort_38 : decode cX11_putShort 38 = .ok (.iconst 0, 1) := by decide +kernel
theorem dX11_putShort_39 : decode cX11_putShort 39 = .ok (.istore 4, 2) := by decide +kernel
theorem dX11_putShort_41 : decode cX11_putShort 41 = .ok (.aload_n 0, 1) := by decide +kernel
theorem dX11_putShort_42 : decode cX11_putShort 42 = .ok (.getfield 147, 3) := by decide +kernel
theorem dX11_putShort_45 : decode cX11_putShort 45 = .ok (.aload_n 0, 1) := by decide +kernel
theorem dX11_putShort_46 : decode cX11_putShort 46 = .ok (.getfield 150, 3) := by decide +kernel
theorem dX11_putShort_49 : decode cX11_putShort 49 = .ok (.invokevirtual 75, 3) := by decide +kernel
theorem dX11_putShort_52 : decode cX11_putShort 52 = .ok (.ifCond .lt 20, 3) := by decide +kernel
theorem dX11_putShort_55 : decode cX11_putShort 55 = .ok (.aload_n 0, 1) := by decide +kernel
theorem dX11_putShort_56 : decode cX11_putShort 56 = .ok (.getfield 147, 3) := by decide +kernel
theorem dX11_putShort_59 : decode cX11_putShort 59 = .ok (.aload_n 0, 1) := by decide +kernel
theorem dX11_putShort_60 : decode cX11_putShort 60 = .ok (.getfield 150, 3) := by decide +kernel
theorem dX11_putShort_63 : decode cX11_putShort 63 = .ok (.invokevirtual 109, 3) := by decide +kernel
theorem dX11_putShort_66 : decode cX11_putShort 66 = .ok (.iinc 4 1, 3) := by decide +kernel
theorem dX11_putShort_69 : decode cX11_putShort 69 = .ok (.goto (-28), 3) := by decide +kernel
theorem dX11_putShort_72 : decode cX11_putShort 72 = .ok (.aload_n 0, 1) := by decide +kernel
theorem dX11_putShort_73 : decode cX11_putShort 73 = .ok (.getfield 153, 3) := by decide +kernel
theorem dX11_putShort_76 : decode cX11_putShort 76 = .ok (.aload_n 0, 1) := by decide +kernel
theorem dX11_putShort_77 : decode cX11_putShort 77 = .ok (.getfield 309, 3) := by decide +kernel
theorem dX11_putShort_80 : decode cX11_putShort 80 = .ok (.iload 4, 2) := by decide +kernel
theorem dX11_putShort_82 : decode cX11_putShort 82 = .ok (.iastore, 1) := by decide +kernel
theorem dX11_putShort_83 : decode cX11_putShort 83 = .ok (.aload_n 0, 1) := by decide +kernel
theorem dX11_putShort_84 : decode cX11_putShort 84 = .ok (.dup, 1) := by decide +kernel
theorem dX11_putShort_85 : decode cX11_putShort 85 = .ok (.getfield 309, 3) := by decide +kernel
theorem dX11_putShort_88 : decode cX11_putShort 88 = .ok (.iconst 1, 1) := by decide +kernel
theorem dX11_putShort_89 : decode cX11_putShort 89 = .ok (.iadd, 1) := by decide +kernel
theorem dX11_putShort_90 : decode cX11_putShort 90 = .ok (.putfield 309, 3) := by decide +kernel
theorem dX11_putShort_93 : decode cX11_putShort 93 = .ok (.aload_n 0, 1) := by decide +kernel
theorem dX11_putShort_94 : decode cX11_putShort 94 = .ok (.getfield 156, 3) := by decide +kernel
theorem dX11_putShort_97 : decode cX11_putShort 97 = .ok (.ldc2_w 274, 3) := by decide +kernel
theorem dX11_putShort_100 : decode cX11_putShort 100 = .ok (.iload 4, 2) := by decide +kernel
theorem dX11_putShort_102 : decode cX11_putShort 102 = .ok (.invokevirtual 64, 3) := by decide +kernel
theorem dX11_putShort_105 : decode cX11_putShort 105 = .ok (.aload_n 0, 1) := by decide +kernel
theorem dX11_putShort_106 : decode cX11_putShort 106 = .ok (.getfield 159, 3) := by decide +kernel
theorem dX11_putShort_109 : decode cX11_putShort 109 = .ok (.aload_n 0, 1) := by decide +kernel
theorem dX11_putShort_110 : decode cX11_putShort 110 = .ok (.getfield 156, 3) := by decide +kernel
theorem dX11_putShort_113 : decode cX11_putShort 113 = .ok (.invokevirtual 57, 3) := by decide +kernel
theorem dX11_putShort_116 : decode cX11_putShort 116 = .ok (.aload_n 0, 1) := by decide +kernel
theorem dX11_putShort_117 : decode cX11_putShort 117 = .ok (.getfield 106, 3) := by decide +kernel
theorem dX11_putShort_120 : decode cX11_putShort 120 = .ok (.lconst 1, 1) := by decide +kernel
theorem dX11_putShort_121 : decode cX11_putShort 121 = .ok (.invokevirtual 39, 3) := by decide +kernel
theorem dX11_putShort_124 : decode cX11_putShort 124 = .ok (.aload_n 0, 1) := by decide +kernel
theorem dX11_putShort_125 : decode cX11_putShort 125 = .ok (.getfield 159, 3) := by decide +kernel
theorem dX11_putShort_128 : decode cX11_putShort 128 = .ok (.aload_n 0, 1) := by decide +kernel
theorem dX11_putShort_129 : decode cX11_putShort 129 = .ok (.getfield 106, 3) := by decide +kernel
theorem dX11_putShort_132 : decode cX11_putShort 132 = .ok (.invokevirtual 103, 3) := by decide +kernel
theorem dX11_putShort_135 : decode cX11_putShort 135 = .ok (.aload_n 0, 1) := by decide +kernel
theorem dX11_putShort_136 : decode cX11_putShort 136 = .ok (.getfield 303, 3) := by decide +kernel
theorem dX11_putShort_139 : decode cX11_putShort 139 = .ok (.aload_n 0, 1) := by decide +kernel
theorem dX11_putShort_140 : decode cX11_putShort 140 = .ok (.getfield 309, 3) := by decide +kernel
theorem dX11_putShort_143 : decode cX11_putShort 143 = .ok (.isub, 1) := by decide +kernel
theorem dX11_putShort_144 : decode cX11_putShort 144 = .ok (.iconst 1, 1) := by decide +kernel
theorem dX11_putShort_145 : decode cX11_putShort 145 = .ok (.iadd, 1) := by decide +kernel
theorem dX11_putShort_146 : decode cX11_putShort 146 = .ok (.istore 5, 2) := by decide +kernel
theorem dX11_putShort_148 : decode cX11_putShort 148 = .ok (.aload_n 0, 1) := by decide +kernel
theorem dX11_putShort_149 : decode cX11_putShort 149 = .ok (.aload_n 0, 1) := by decide +kernel
theorem dX11_putShort_150 : decode cX11_putShort 150 = .ok (.getfield 156, 3) := by decide +kernel
theorem dX11_putShort_153 : decode cX11_putShort 153 = .ok (.iload 5, 2) := by decide +kernel
theorem dX11_putShort_155 : decode cX11_putShort 155 = .ok (.lload_n 1, 1) := by decide +kernel
theorem dX11_putShort_156 : decode cX11_putShort 156 = .ok (.iload_n 3, 1) := by decide +kernel
theorem dX11_putShort_157 : decode cX11_putShort 157 = .ok (.invokevirtual 312, 3) := by decide +kernel
theorem dX11_putShort_160 : decode cX11_putShort 160 = .ok (.istore 6, 2) := by decide +kernel
theorem dX11_putShort_162 : decode cX11_putShort 162 = .ok (.aload_n 0, 1) := by decide +kernel
theorem dX11_putShort_163 : decode cX11_putShort 163 = .ok (.aload_n 0, 1) := by decide +kernel
theorem dX11_putShort_164 : decode cX11_putShort 164 = .ok (.getfield 159, 3) := by decide +kernel
theorem dX11_putShort_167 : decode cX11_putShort 167 = .ok (.iload 5, 2) := by decide +kernel
theorem dX11_putShort_169 : decode cX11_putShort 169 = .ok (.lload_n 1, 1) := by decide +kernel
theorem dX11_putShort_170 : decode cX11_putShort 170 = .ok (.iload_n 3, 1) := by decide +kernel
theorem dX11_putShort_171 : decode cX11_putShort 171 = .ok (.invokevirtual 312, 3) := by decide +kernel
theorem dX11_putShort_174 : decode cX11_putShort 174 = .ok (.istore 7, 2) := by decide +kernel
theorem dX11_putShort_176 : decode cX11_putShort 176 = .ok (.iload 6, 2) := by decide +kernel
theorem dX11_putShort_178 : decode cX11_putShort 178 = .ok (.ifCond .ne 8, 3) := by decide +kernel
theorem dX11_putShort_181 : decode cX11_putShort 181 = .ok (.iload 7, 2) := by decide +kernel
theorem dX11_putShort_183 : decode cX11_putShort 183 = .ok (.ifCond .eq 77, 3) := by decide +kernel
theorem dX11_putShort_186 : decode cX11_putShort 186 = .ok (.aload_n 0, 1) := by decide +kernel
theorem dX11_putShort_187 : decode cX11_putShort 187 = .ok (.getfield 54, 3) := by decide +kernel
theorem dX11_putShort_190 : decode cX11_putShort 190 = .ok (.aload_n 0, 1) := by decide +kernel
theorem dX11_putShort_191 : decode cX11_putShort 191 = .ok (.getfield 147, 3) := by decide +kernel
theorem dX11_putShort_194 : decode cX11_putShort 194 = .ok (.invokevirtual 57, 3) := by decide +kernel
theorem dX11_putShort_197 : decode cX11_putShort 197 = .ok (.aload_n 0, 1) := by decide +kernel
theorem dX11_putShort_198 : decode cX11_putShort 198 = .ok (.getfield 54, 3) := by decide +kernel
theorem dX11_putShort_201 : decode cX11_putShort 201 = .ok (.aload_n 0, 1) := by decide +kernel
theorem dX11_putShort_202 : decode cX11_putShort 202 = .ok (.getfield 147, 3) := by decide +kernel
theorem dX11_putShort_205 : decode cX11_putShort 205 = .ok (.invokevirtual 103, 3) := by decide +kernel
theorem dX11_putShort_208 : decode cX11_putShort 208 = .ok (.iload 7, 2) := by decide +kernel
theorem dX11_putShort_210 : decode cX11_putShort 210 = .ok (.ifCond .eq 26, 3) := by decide +kernel
theorem dX11_putShort_213 : decode cX11_putShort 213 = .ok (.iload 6, 2) := by decide +kernel
theorem dX11_putShort_215 : decode cX11_putShort 215 = .ok (.ifCond .eq 17, 3) := by decide +kernel
theorem dX11_putShort_218 : decode cX11_putShort 218 = .ok (.aload_n 0, 1) := by decide +kernel
theorem dX11_putShort_219 : decode cX11_putShort 219 = .ok (.getfield 54, 3) := by decide +kernel
theorem dX11_putShort_222 : decode cX11_putShort 222 = .ok (.aload_n 0, 1) := by decide +kernel
theorem dX11_putShort_223 : decode cX11_putShort 223 = .ok (.getfield 150, 3) := by decide +kernel
theorem dX11_putShort_226 : decode cX11_putShort 226 = .ok (.invokevirtual 75, 3) := by decide +kernel
theorem dX11_putShort_229 : decode cX11_putShort 229 = .ok (.ifCond .le 7, 3) := by decide +kernel
theorem dX11_putShort_232 : decode cX11_putShort 232 = .ok (.iconst 1, 1) := by decide +kernel
theorem dX11_putShort_233 : decode cX11_putShort 233 = .ok (.goto 4, 3) := by decide +kernel
theorem dX11_putShort_236 : decode cX11_putShort 236 = .ok (.iconst 0, 1) := by decide +kernel
theorem dX11_putShort_237 : decode cX11_putShort 237 = .ok (.istore 8, 2) := by decide +kernel
theorem dX11_putShort_239 : decode cX11_putShort 239 = .ok (.aload_n 0, 1) := by decide +kernel
theorem dX11_putShort_240 : decode cX11_putShort 240 = .ok (.iload 8, 2) := by decide +kernel
theorem dX11_putShort_242 : decode cX11_putShort 242 = .ok (.ifCond .eq 10, 3) := by decide +kernel
theorem dX11_putShort_245 : decode cX11_putShort 245 = .ok (.aload_n 0, 1) := by decide +kernel
theorem dX11_putShort_246 : decode cX11_putShort 246 = .ok (.getfield 159, 3) := by decide +kernel
theorem dX11_putShort_249 : decode cX11_putShort 249 = .ok (.goto 7, 3) := by decide +kernel
theorem dX11_putShort_252 : decode cX11_putShort 252 = .ok (.aload_n 0, 1) := by decide +kernel
theorem dX11_putShort_253 : decode cX11_putShort 253 = .ok (.getfield 156, 3) := by decide +kernel
theorem dX11_putShort_256 : decode cX11_putShort 256 = .ok (.invokevirtual 316, 3) := by decide +kernel
theorem dX11_putShort_259 : decode cX11_putShort 259 = .ok (.return_, 1) := by decide +kernel
theorem dX11_putShort_260 : decode cX11_putShort 260 = .ok (.aload_n 0, 1) := by decide +kernel
theorem dX11_putShort_261 : decode cX11_putShort 261 = .ok (.getfield 147, 3) := by decide +kernel
theorem dX11_putShort_264 : decode cX11_putShort 264 = .ok (.ldc2_w 274, 3) := by decide +kernel
theorem dX11_putShort_267 : decode cX11_putShort 267 = .ok (.iconst 0, 1) := by decide +kernel
theorem dX11_putShort_268 : decode cX11_putShort 268 = .ok (.invokevirtual 64, 3) := by decide +kernel
theorem dX11_putShort_271 : decode cX11_putShort 271 = .ok (.goto (-233), 3) := by decide +kernel
theorem dX11_putFew_0 : decode cX11_putFew 0 = .ok (.aload_n 0, 1) := by decide +kernel
theorem dX11_putFew_1 : decode cX11_putFew 1 = .ok (.getfield 100, 3) := by decide +kernel
theorem dX11_putFew_4 : decode cX11_putFew 4 = .ok (.aload_n 1, 1) := by decide +kernel
theorem dX11_putFew_5 : decode cX11_putFew 5 = .ok (.invokevirtual 57, 3) := by decide +kernel
theorem dX11_putFew_8 : decode cX11_putFew 8 = .ok (.aload_n 0, 1) := by decide +kernel
theorem dX11_putFew_9 : decode cX11_putFew 9 = .ok (.getfield 291, 3) := by decide +kernel
theorem dX11_putFew_12 : decode cX11_putFew 12 = .ok (.istore_n 2, 1) := by decide +kernel
theorem dX11_putFew_13 : decode cX11_putFew 13 = .ok (.aload_n 0, 1) := by decide +kernel
theorem dX11_putFew_14 : decode cX11_putFew 14 = .ok (.invokevirtual 300, 3) := by decide +kernel
theorem dX11_putFew_17 : decode cX11_putFew 17 = .ok (.aload_n 0, 1) := by decide +kernel
theorem dX11_putFew_18 : decode cX11_putFew 18 = .ok (.getfield 291, 3) := by decide +kernel
theorem dX11_putFew_21 : decode cX11_putFew 21 = .ok (.iload_n 2, 1) := by decide +kernel
theorem dX11_putFew_22 : decode cX11_putFew 22 = .ok (.isub, 1) := by decide +kernel
theorem dX11_putFew_23 : decode cX11_putFew 23 = .ok (.istore_n 3, 1) := by decide +kernel
theorem dX11_putFew_24 : decode cX11_putFew 24 = .ok (.aload_n 0, 1) := by decide +kernel
theorem dX11_putFew_25 : decode cX11_putFew 25 = .ok (.getfield 303, 3) := by decide +kernel
theorem dX11_putFew_28 : decode cX11_putFew 28 = .ok (.iload_n 3, 1) := by decide +kernel
theorem dX11_putFew_29 : decode cX11_putFew 29 = .ok (.iadd, 1) := by decide +kernel
theorem dX11_putFew_30 : decode cX11_putFew 30 = .ok (.aload_n 0, 1) := by decide +kernel
theorem dX11_putFew_31 : decode cX11_putFew 31 = .ok (.getfield 309, 3) := by decide +kernel
theorem dX11_putFew_34 : decode cX11_putFew 34 = .ok (.isub, 1) := by decide +kernel
theorem dX11_putFew_35 : decode cX11_putFew 35 = .ok (.istore 4, 2) := by decide +kernel
theorem dX11_putFew_37 : decode cX11_putFew 37 = .ok (.iload_n 3, 1) := by decide +kernel
theorem dX11_putFew_38 : decode cX11_putFew 38 = .ok (.iconst 1, 1) := by decide +kernel
theorem dX11_putFew_39 : decode cX11_putFew 39 = .ok (.if_icmp .le 24, 3) := by decide +kernel
theorem dX11_putFew_42 : decode cX11_putFew 42 = .ok (.aload_n 0, 1) := by decide +kernel
theorem dX11_putFew_43 : decode cX11_putFew 43 = .ok (.getfield 141, 3) := by decide +kernel
theorem dX11_putFew_46 : decode cX11_putFew 46 = .ok (.iload_n 2, 1) := by decide +kernel
theorem dX11_putFew_47 : decode cX11_putFew 47 = .ok (.iload_n 3, 1) := by decide +kernel
theorem dX11_putFew_48 : decode cX11_putFew 48 = .ok (.iadd, 1) := by decide +kernel
theorem dX11_putFew_49 : decode cX11_putFew 49 = .ok (.iconst 1, 1) := by decide +kernel
theorem dX11_putFew_50 : decode cX11_putFew 50 = .ok (.isub, 1) := by decide +kernel
theorem dX11_putFew_51 : decode cX11_putFew 51 = .ok (.iaload, 1) := by decide +kernel
theorem dX11_putFew_52 : decode cX11_putFew 52 = .ok (.bipush 48, 2) := by decide +kernel
theorem dX11_putFew_54 : decode cX11_putFew 54 = .ok (.if_icmp .ne 9, 3) := by decide +kernel
theorem dX11_putFew_57 : decode cX11_putFew 57 = .ok (.iinc 3 (-1), 3) := by decide +kernel
theorem dX11_putFew_60 : decode cX11_putFew 60 = .ok (.goto (-23), 3) := by decide +kernel
theorem dX11_putFew_63 : decode cX11_putFew 63 = .ok (.aload_n 0, 1) := by decide +kernel
theorem dX11_putFew_64 : decode cX11_putFew 64 = .ok (.iload_n 2, 1) := by decide +kernel
theorem dX11_putFew_65 : decode cX11_putFew 65 = .ok (.iload_n 3, 1) := by decide +kernel
theorem dX11_putFew_66 : decode cX11_putFew 66 = .ok (.iadd, 1) := by decide +kernel
theorem dX11_putFew_67 : decode cX11_putFew 67 = .ok (.putfield 291, 3) := by decide +kernel
theorem dX11_putFew_70 : decode cX11_putFew 70 = .ok (.iload_n 3, 1) := by decide +kernel
theorem dX11_putFew_71 : decode cX11_putFew 71 = .ok (.iconst 1, 1) := by decide +kernel
theorem dX11_putFew_72 : decode cX11_putFew 72 = .ok (.if_icmp .le 59, 3) := by decide +kernel
theorem dX11_putFew_75 : decode cX11_putFew 75 = .ok (.aload_n 0, 1) := by decide +kernel
theorem dX11_putFew_76 : decode cX11_putFew 76 = .ok (.getfield 291, 3) := by decide +kernel
theorem dX11_putFew_79 : decode cX11_putFew 79 = .ok (.istore 5, 2) := by decide +kernel
theorem dX11_putFew_81 : decode cX11_putFew 81 = .ok (.iload 5, 2) := by decide +kernel
theorem dX11_putFew_83 : decode cX11_putFew 83 = .ok (.iload_n 2, 1) := by decide +kernel
theorem dX11_putFew_84 : decode cX11_putFew 84 = .ok (.iconst 1, 1) := by decide +kernel
theorem dX11_putFew_85 : decode cX11_putFew 85 = .ok (.iadd, 1) := by decide +kernel
theorem dX11_putFew_86 : decode cX11_putFew 86 = .ok (.if_icmp .le 25, 3) := by decide +kernel
theorem dX11_putFew_89 : decode cX11_putFew 89 = .ok (.aload_n 0, 1) := by decide +kernel
theorem dX11_putFew_90 : decode cX11_putFew 90 = .ok (.getfield 141, 3) := by decide +kernel
theorem dX11_putFew_93 : decode cX11_putFew 93 = .ok (.iload 5, 2) := by decide +kernel
theorem dX11_putFew_95 : decode cX11_putFew 95 = .ok (.aload_n 0, 1) := by decide +kernel
theorem dX11_putFew_96 : decode cX11_putFew 96 = .ok (.getfield 141, 3) := by decide +kernel
theorem dX11_putFew_99 : decode cX11_putFew 99 = .ok (.iload 5, 2) := by decide +kernel
theorem dX11_putFew_101 : decode cX11_putFew 101 = .ok (.iconst 1, 1) := by decide +kernel
theorem dX11_putFew_102 : decode cX11_putFew 102 = .ok (.isub, 1) := by decide +kernel
theorem dX11_putFew_103 : decode cX11_putFew 103 = .ok (.iaload, 1) := by decide +kernel
theorem dX11_putFew_104 : decode cX11_putFew 104 = .ok (.iastore, 1) := by decide +kernel
theorem dX11_putFew_105 : decode cX11_putFew 105 = .ok (.iinc 5 (-1), 3) := by decide +kernel
theorem dX11_putFew_108 : decode cX11_putFew 108 = .ok (.goto (-27), 3) := by decide +kernel
theorem dX11_putFew_111 : decode cX11_putFew 111 = .ok (.aload_n 0, 1) := by decide +kernel
theorem dX11_putFew_112 : decode cX11_putFew 112 = .ok (.getfield 141, 3) := by decide +kernel
theorem dX11_putFew_115 : decode cX11_putFew 115 = .ok (.iload_n 2, 1) := by decide +kernel
theorem dX11_putFew_116 : decode cX11_putFew 116 = .ok (.iconst 1, 1) := by decide +kernel
theorem dX11_putFew_117 : decode cX11_putFew 117 = .ok (.iadd, 1) := by decide +kernel
theorem dX11_putFew_118 : decode cX11_putFew 118 = .ok (.bipush 46, 2) := by decide +kernel
theorem dX11_putFew_120 : decode cX11_putFew 120 = .ok (.iastore, 1) := by decide +kernel
theorem dX11_putFew_121 : decode cX11_putFew 121 = .ok (.aload_n 0, 1) := by decide +kernel
theorem dX11_putFew_122 : decode cX11_putFew 122 = .ok (.dup, 1) := by decide +kernel
theorem dX11_putFew_123 : decode cX11_putFew 123 = .ok (.getfield 291, 3) := by decide +kernel
theorem dX11_putFew_126 : decode cX11_putFew 126 = .ok (.iconst 1, 1) := by decide +kernel
theorem dX11_putFew_127 : decode cX11_putFew 127 = .ok (.iadd, 1) := by decide +kernel
theorem dX11_putFew_128 : decode cX11_putFew 128 = .ok (.putfield 291, 3) := by decide +kernel
theorem dX11_putFew_131 : decode cX11_putFew 131 = .ok (.aload_n 0, 1) := by decide +kernel
theorem dX11_putFew_132 : decode cX11_putFew 132 = .ok (.bipush 101, 2) := by decide +kernel
theorem dX11_putFew_134 : decode cX11_putFew 134 = .ok (.invokevirtual 297, 3) := by decide +kernel
theorem dX11_putFew_137 : decode cX11_putFew 137 = .ok (.iload 4, 2) := by decide +kernel
theorem dX11_putFew_139 : decode cX11_putFew 139 = .ok (.ifCond .ge 9, 3) := by decide +kernel
theorem dX11_putFew_142 : decode cX11_putFew 142 = .ok (.aload_n 0, 1) := by decide +kernel
theorem dX11_putFew_143 : decode cX11_putFew 143 = .ok (.bipush 45, 2) := by decide +kernel
theorem dX11_putFew_145 : decode cX11_putFew 145 = .ok (.invokevirtual 297, 3) := by decide +kernel
theorem dX11_putFew_148 : decode cX11_putFew 148 = .ok (.aload_n 0, 1) := by decide +kernel
theorem dX11_putFew_149 : decode cX11_putFew 149 = .ok (.getfield 100, 3) := by decide +kernel
theorem dX11_putFew_152 : decode cX11_putFew 152 = .ok (.iload 4, 2) := by decide +kernel
theorem dX11_putFew_154 : decode cX11_putFew 154 = .ok (.invokestatic 240, 3) := by decide +kernel
theorem dX11_putFew_157 : decode cX11_putFew 157 = .ok (.i2l, 1) := by decide +kernel
theorem dX11_putFew_158 : decode cX11_putFew 158 = .ok (.invokevirtual 39, 3) := by decide +kernel
theorem dX11_putFew_161 : decode cX11_putFew 161 = .ok (.aload_n 0, 1) := by decide +kernel
theorem dX11_putFew_162 : decode cX11_putFew 162 = .ok (.invokevirtual 300, 3) := by decide +kernel
theorem dX11_putFew_165 : decode cX11_putFew 165 = .ok (.return_, 1) := by decide +kernel
theorem dX11_write_0 : decode cX11_write 0 = .ok (.aload_n 0, 1) := by decide +kernel
theorem dX11_write_1 : decode cX11_write 1 = .ok (.iload_n 1, 1) := by decide +kernel
theorem dX11_write_2 : decode cX11_write 2 = .ok (.invokestatic 165, 3) := by decide +kernel
theorem dX11_write_5 : decode cX11_write 5 = .ok (.iconst 1, 1) := by decide +kernel
theorem dX11_write_6 : decode cX11_write 6 = .ok (.invokevirtual 172, 3) := by decide +kernel
theorem dX11_write_9 : decode cX11_write 9 = .ok (.ifCond .ne 5, 3) := by decide +kernel
theorem dX11_write_12 : decode cX11_write 12 = .ok (.iconst 0, 1) := by decide +kernel
theorem dX11_write_13 : decode cX11_write 13 = .ok (.ireturn, 1) := by decide +kernel
theorem dX11_write_14 : decode cX11_write 14 = .ok (.aload_n 0, 1) := by decide +kernel
theorem dX11_write_15 : decode cX11_write 15 = .ok (.iconst 0, 1) := by decide +kernel
theorem dX11_write_16 : decode cX11_write 16 = .ok (.putfield 291, 3) := by decide +kernel
theorem dX11_write_19 : decode cX11_write 19 = .ok (.aload_n 0, 1) := by decide +kernel
theorem dX11_write_20 : decode cX11_write 20 = .ok (.iload_n 1, 1) := by decide +kernel
theorem dX11_write_21 : decode cX11_write 21 = .ok (.invokevirtual 176, 3) := by decide +kernel
theorem dX11_write_24 : decode cX11_write 24 = .ok (.ifCond .eq 26, 3) := by decide +kernel
theorem dX11_write_27 : decode cX11_write 27 = .ok (.aload_n 0, 1) := by decide +kernel
theorem dX11_write_28 : decode cX11_write 28 = .ok (.bipush 78, 2) := by decide +kernel
theorem dX11_write_30 : decode cX11_write 30 = .ok (.invokevirtual 297, 3) := by decide +kernel
theorem dX11_write_33 : decode cX11_write 33 = .ok (.aload_n 0, 1) := by decide +kernel
theorem dX11_write_34 : decode cX11_write 34 = .ok (.bipush 97, 2) := by decide +kernel
theorem dX11_write_36 : decode cX11_write 36 = .ok (.invokevirtual 297, 3) := by decide +kernel
theorem dX11_write_39 : decode cX11_write 39 = .ok (.aload_n 0, 1) := by decide +kernel
theorem dX11_write_40 : decode cX11_write 40 = .ok (.bipush 82, 2) := by decide +kernel
theorem dX11_write_42 : decode cX11_write 42 = .ok (.invokevirtual 297, 3) := by decide +kernel
theorem dX11_write_45 : decode cX11_write 45 = .ok (.aload_n 0, 1) := by decide +kernel
theorem dX11_write_46 : decode cX11_write 46 = .ok (.getfield 291, 3) := by decide +kernel
theorem dX11_write_49 : decode cX11_write 49 = .ok (.ireturn, 1) := by decide +kernel
theorem dX11_write_50 : decode cX11_write 50 = .ok (.aload_n 0, 1) := by decide +kernel
theorem dX11_write_51 : decode cX11_write 51 = .ok (.iload_n 1, 1) := by decide +kernel
theorem dX11_write_52 : decode cX11_write 52 = .ok (.invokevirtual 112, 3) := by decide +kernel
theorem dX11_write_55 : decode cX11_write 55 = .ok (.aload_n 0, 1) := by decide +kernel
theorem dX11_write_56 : decode cX11_write 56 = .ok (.getfield 17, 3) := by decide +kernel
theorem dX11_write_59 : decode cX11_write 59 = .ok (.ifCond .ne 12, 3) := by decide +kernel
theorem dX11_write_62 : decode cX11_write 62 = .ok (.aload_n 0, 1) := by decide +kernel
theorem dX11_write_63 : decode cX11_write 63 = .ok (.bipush 48, 2) := by decide +kernel
theorem dX11_write_65 : decode cX11_write 65 = .ok (.invokevirtual 297, 3) := by decide +kernel
theorem dX11_write_68 : decode cX11_write 68 = .ok (.goto 70, 3) := by decide +kernel
theorem dX11_write_71 : decode cX11_write 71 = .ok (.iload_n 2, 1) := by decide +kernel
theorem dX11_write_72 : decode cX11_write 72 = .ok (.ifCond .eq 62, 3) := by decide +kernel
theorem dX11_write_75 : decode cX11_write 75 = .ok (.aload_n 0, 1) := by decide +kernel
theorem dX11_write_76 : decode cX11_write 76 = .ok (.getfield 20, 3) := by decide +kernel
theorem dX11_write_79 : decode cX11_write 79 = .ok (.iload_n 1, 1) := by decide +kernel
theorem dX11_write_80 : decode cX11_write 80 = .ok (.laload, 1) := by decide +kernel
theorem dX11_write_81 : decode cX11_write 81 = .ok (.lconst 1, 1) := by decide +kernel
theorem dX11_write_82 : decode cX11_write 82 = .ok (.aload_n 0, 1) := by decide +kernel
theorem dX11_write_83 : decode cX11_write 83 = .ok (.getfield 24, 3) := by decide +kernel
theorem dX11_write_86 : decode cX11_write 86 = .ok (.iload_n 1, 1) := by decide +kernel
theorem dX11_write_87 : decode cX11_write 87 = .ok (.iaload, 1) := by decide +kernel
theorem dX11_write_88 : decode cX11_write 88 = .ok (.iconst 1, 1) := by decide +kernel
theorem dX11_write_89 : decode cX11_write 89 = .ok (.isub, 1) := by decide +kernel
theorem dX11_write_90 : decode cX11_write 90 = .ok (.lshl, 1) := by decide +kernel
theorem dX11_write_91 : decode cX11_write 91 = .ok (.lcmp, 1) := by decide +kernel
theorem dX11_write_92 : decode cX11_write 92 = .ok (.ifCond .ge 12, 3) := by decide +kernel
theorem dX11_write_95 : decode cX11_write 95 = .ok (.aload_n 0, 1) := by decide +kernel
theorem dX11_write_96 : decode cX11_write 96 = .ok (.getfield 20, 3) := by decide +kernel
theorem dX11_write_99 : decode cX11_write 99 = .ok (.iload_n 1, 1) := by decide +kernel
theorem dX11_write_100 : decode cX11_write 100 = .ok (.laload, 1) := by decide +kernel
theorem dX11_write_101 : decode cX11_write 101 = .ok (.goto 18, 3) := by decide +kernel
theorem dX11_write_104 : decode cX11_write 104 = .ok (.lconst 1, 1) := by decide +kernel
theorem dX11_write_105 : decode cX11_write 105 = .ok (.aload_n 0, 1) := by decide +kernel
theorem dX11_write_106 : decode cX11_write 106 = .ok (.getfield 24, 3) := by decide +kernel
theorem dX11_write_109 : decode cX11_write 109 = .ok (.iload_n 1, 1) := by decide +kernel
theorem dX11_write_110 : decode cX11_write 110 = .ok (.iaload, 1) := by decide +kernel
theorem dX11_write_111 : decode cX11_write 111 = .ok (.lshl, 1) := by decide +kernel
theorem dX11_write_112 : decode cX11_write 112 = .ok (.aload_n 0, 1) := by decide +kernel
theorem dX11_write_113 : decode cX11_write 113 = .ok (.getfield 20, 3) := by decide +kernel
theorem dX11_write_116 : decode cX11_write 116 = .ok (.iload_n 1, 1) := by decide +kernel
theorem dX11_write_117 : decode cX11_write 117 = .ok (.laload, 1) := by decide +kernel
theorem dX11_write_118 : decode cX11_write 118 = .ok (.lsub, 1) := by decide +kernel
theorem dX11_write_119 : decode cX11_write 119 = .ok (.lstore_n 3, 1) := by decide +kernel
theorem dX11_write_120 : decode cX11_write 120 = .ok (.aload_n 0, 1) := by decide +kernel
theorem dX11_write_121 : decode cX11_write 121 = .ok (.lload_n 3, 1) := by decide +kernel
theorem dX11_write_122 : decode cX11_write 122 = .ok (.aload_n 0, 1) := by decide +kernel
theorem dX11_write_123 : decode cX11_write 123 = .ok (.getfield 24, 3) := by decide +kernel
theorem dX11_write_126 : decode cX11_write 126 = .ok (.iload_n 1, 1) := by decide +kernel
theorem dX11_write_127 : decode cX11_write 127 = .ok (.iaload, 1) := by decide +kernel
theorem dX11_write_128 : decode cX11_write 128 = .ok (.invokevirtual 319, 3) := by decide +kernel
theorem dX11_write_131 : decode cX11_write 131 = .ok (.goto 7, 3) := by decide +kernel
theorem dX11_write_134 : decode cX11_write 134 = .ok (.aload_n 0, 1) := by decide +kernel
theorem dX11_write_135 : decode cX11_write 135 = .ok (.invokevirtual 322, 3) := by decide +kernel
theorem dX11_write_138 : decode cX11_write 138 = .ok (.aload_n 0, 1) := by decide +kernel
theorem dX11_write_139 : decode cX11_write 139 = .ok (.getfield 291, 3) := by decide +kernel
theorem dX11_write_142 : decode cX11_write 142 = .ok (.ireturn, 1) := by decide +kernel
theorem dX11_letter_0 : decode cX11_letter 0 = .ok (.aload_n 0, 1) := by decide +kernel
theorem dX11_letter_1 : decode cX11_letter 1 = .ok (.iconst 0, 1) := by decide +kernel
theorem dX11_letter_2 : decode cX11_letter 2 = .ok (.putfield 162, 3) := by decide +kernel
theorem dX11_letter_5 : decode cX11_letter 5 = .ok (.iload_n 1, 1) := by decide +kernel
theorem dX11_letter_6 : decode cX11_letter 6 = .ok (.ifCond .lt 20, 3) := by decide +kernel
theorem dX11_letter_9 : decode cX11_letter 9 = .ok (.iload_n 1, 1) := by decide +kernel
theorem dX11_letter_10 : decode cX11_letter 10 = .ok (.aload_n 0, 1) := by decide +kernel
theorem dX11_letter_11 : decode cX11_letter 11 = .ok (.getfield 291, 3) := by decide +kernel
theorem dX11_letter_14 : decode cX11_letter 14 = .ok (.if_icmp .ge 12, 3) := by decide +kernel
theorem dX11_letter_17 : decode cX11_letter 17 = .ok (.aload_n 0, 1) := by decide +kernel
theorem dX11_letter_18 : decode cX11_letter 18 = .ok (.getfield 141, 3) := by decide +kernel
theorem dX11_letter_21 : decode cX11_letter 21 = .ok (.iload_n 1, 1) := by decide +kernel
theorem dX11_letter_22 : decode cX11_letter 22 = .ok (.iaload, 1) := by decide +kernel
theorem dX11_letter_23 : decode cX11_letter 23 = .ok (.goto 4, 3) := by decide +kernel
theorem dX11_letter_26 : decode cX11_letter 26 = .ok (.iconst (-1), 1) := by decide +kernel
theorem dX11_letter_27 : decode cX11_letter 27 = .ok (.ireturn, 1) := by decide +kernel
