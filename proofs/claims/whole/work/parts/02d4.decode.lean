/-! decode rows (written by wip/whole/gen4.py) -/
theorem d107_0 : decode (ix_by 107) 0 = .ok (.aload 4, 2) := by decide +kernel
theorem d107_2 : decode (ix_by 107) 2 = .ok (.iconst 0, 1) := by decide +kernel
theorem d107_3 : decode (ix_by 107) 3 = .ok (.aload_n 0, 1) := by decide +kernel
theorem d107_4 : decode (ix_by 107) 4 = .ok (.iload_n 1, 1) := by decide +kernel
theorem d107_5 : decode (ix_by 107) 5 = .ok (.iload_n 2, 1) := by decide +kernel
theorem d107_6 : decode (ix_by 107) 6 = .ok (.iload_n 3, 1) := by decide +kernel
theorem d107_7 : decode (ix_by 107) 7 = .ok (.invokevirtual 23, 3) := by decide +kernel
theorem d107_10 : decode (ix_by 107) 10 = .ok (.i2l, 1) := by decide +kernel
theorem d107_11 : decode (ix_by 107) 11 = .ok (.lastore, 1) := by decide +kernel
theorem d107_12 : decode (ix_by 107) 12 = .ok (.goto 11, 3) := by decide +kernel
theorem d107_15 : decode (ix_by 107) 15 = .ok (.astore 5, 2) := by decide +kernel
theorem d107_17 : decode (ix_by 107) 17 = .ok (.iconst 1, 1) := by decide +kernel
theorem d107_18 : decode (ix_by 107) 18 = .ok (.ireturn, 1) := by decide +kernel
theorem d107_19 : decode (ix_by 107) 19 = .ok (.astore 5, 2) := by decide +kernel
theorem d107_21 : decode (ix_by 107) 21 = .ok (.iconst 2, 1) := by decide +kernel
theorem d107_22 : decode (ix_by 107) 22 = .ok (.ireturn, 1) := by decide +kernel
theorem d107_23 : decode (ix_by 107) 23 = .ok (.iconst 0, 1) := by decide +kernel
theorem d107_24 : decode (ix_by 107) 24 = .ok (.ireturn, 1) := by decide +kernel
theorem d108_0 : decode (ix_by 108) 0 = .ok (.aload_n 0, 1) := by decide +kernel
theorem d108_1 : decode (ix_by 108) 1 = .ok (.iload_n 1, 1) := by decide +kernel
theorem d108_2 : decode (ix_by 108) 2 = .ok (.iload_n 2, 1) := by decide +kernel
theorem d108_3 : decode (ix_by 108) 3 = .ok (.invokevirtual 76, 3) := by decide +kernel
theorem d108_6 : decode (ix_by 108) 6 = .ok (.ifCond .ne 13, 3) := by decide +kernel
theorem d108_9 : decode (ix_by 108) 9 = .ok (.new 55, 3) := by decide +kernel
theorem d108_12 : decode (ix_by 108) 12 = .ok (.dup, 1) := by decide +kernel
theorem d108_13 : decode (ix_by 108) 13 = .ok (.ldc 57, 2) := by decide +kernel
theorem d108_15 : decode (ix_by 108) 15 = .ok (.invokespecial 59, 3) := by decide +kernel
theorem d108_18 : decode (ix_by 108) 18 = .ok (.athrow, 1) := by decide +kernel
theorem d108_19 : decode (ix_by 108) 19 = .ok (.iload_n 3, 1) := by decide +kernel
theorem d108_20 : decode (ix_by 108) 20 = .ok (.ifCond .lt 20, 3) := by decide +kernel
theorem d108_23 : decode (ix_by 108) 23 = .ok (.iload_n 3, 1) := by decide +kernel
theorem d108_24 : decode (ix_by 108) 24 = .ok (.aload_n 0, 1) := by decide +kernel
theorem d108_25 : decode (ix_by 108) 25 = .ok (.getfield 16, 3) := by decide +kernel
theorem d108_28 : decode (ix_by 108) 28 = .ok (.iload_n 1, 1) := by decide +kernel
theorem d108_29 : decode (ix_by 108) 29 = .ok (.aaload, 1) := by decide +kernel
theorem d108_30 : decode (ix_by 108) 30 = .ok (.getfield 34, 3) := by decide +kernel
theorem d108_33 : decode (ix_by 108) 33 = .ok (.iload_n 2, 1) := by decide +kernel
theorem d108_34 : decode (ix_by 108) 34 = .ok (.invokevirtual 63, 3) := by decide +kernel
theorem d108_37 : decode (ix_by 108) 37 = .ok (.if_icmp .lt 13, 3) := by decide +kernel
theorem d108_40 : decode (ix_by 108) 40 = .ok (.new 84, 3) := by decide +kernel
theorem d108_43 : decode (ix_by 108) 43 = .ok (.dup, 1) := by decide +kernel
theorem d108_44 : decode (ix_by 108) 44 = .ok (.ldc 86, 2) := by decide +kernel
theorem d108_46 : decode (ix_by 108) 46 = .ok (.invokespecial 88, 3) := by decide +kernel
theorem d108_49 : decode (ix_by 108) 49 = .ok (.athrow, 1) := by decide +kernel
theorem d108_50 : decode (ix_by 108) 50 = .ok (.aload_n 0, 1) := by decide +kernel
theorem d108_51 : decode (ix_by 108) 51 = .ok (.getfield 16, 3) := by decide +kernel
theorem d108_54 : decode (ix_by 108) 54 = .ok (.iload_n 1, 1) := by decide +kernel
theorem d108_55 : decode (ix_by 108) 55 = .ok (.aaload, 1) := by decide +kernel
theorem d108_56 : decode (ix_by 108) 56 = .ok (.getfield 34, 3) := by decide +kernel
theorem d108_59 : decode (ix_by 108) 59 = .ok (.iload_n 2, 1) := by decide +kernel
theorem d108_60 : decode (ix_by 108) 60 = .ok (.iload_n 3, 1) := by decide +kernel
theorem d108_61 : decode (ix_by 108) 61 = .ok (.invokevirtual 89, 3) := by decide +kernel
theorem d108_64 : decode (ix_by 108) 64 = .ok (.ireturn, 1) := by decide +kernel
theorem d109_0 : decode (ix_by 109) 0 = .ok (.aload 7, 2) := by decide +kernel
theorem d109_2 : decode (ix_by 109) 2 = .ok (.iconst 0, 1) := by decide +kernel
theorem d109_3 : decode (ix_by 109) 3 = .ok (.aload_n 0, 1) := by decide +kernel
theorem d109_4 : decode (ix_by 109) 4 = .ok (.iload_n 1, 1) := by decide +kernel
theorem d109_5 : decode (ix_by 109) 5 = .ok (.iload_n 2, 1) := by decide +kernel
theorem d109_6 : decode (ix_by 109) 6 = .ok (.iload_n 3, 1) := by decide +kernel
theorem d109_7 : decode (ix_by 109) 7 = .ok (.iload 4, 2) := by decide +kernel
theorem d109_9 : decode (ix_by 109) 9 = .ok (.iload 5, 2) := by decide +kernel
theorem d109_11 : decode (ix_by 109) 11 = .ok (.iload 6, 2) := by decide +kernel
theorem d109_13 : decode (ix_by 109) 13 = .ok (.invokevirtual 29, 3) := by decide +kernel
theorem d109_16 : decode (ix_by 109) 16 = .ok (.i2l, 1) := by decide +kernel
theorem d109_17 : decode (ix_by 109) 17 = .ok (.lastore, 1) := by decide +kernel
theorem d109_18 : decode (ix_by 109) 18 = .ok (.goto 15, 3) := by decide +kernel
theorem d109_21 : decode (ix_by 109) 21 = .ok (.astore 8, 2) := by decide +kernel
theorem d109_23 : decode (ix_by 109) 23 = .ok (.iconst 1, 1) := by decide +kernel
theorem d109_24 : decode (ix_by 109) 24 = .ok (.ireturn, 1) := by decide +kernel
theorem d109_25 : decode (ix_by 109) 25 = .ok (.astore 8, 2) := by decide +kernel
theorem d109_27 : decode (ix_by 109) 27 = .ok (.iconst 2, 1) := by decide +kernel
theorem d109_28 : decode (ix_by 109) 28 = .ok (.ireturn, 1) := by decide +kernel
theorem d109_29 : decode (ix_by 109) 29 = .ok (.astore 8, 2) := by decide +kernel
theorem d109_31 : decode (ix_by 109) 31 = .ok (.iconst 3, 1) := by decide +kernel
theorem d109_32 : decode (ix_by 109) 32 = .ok (.ireturn, 1) := by decide +kernel
theorem d109_33 : decode (ix_by 109) 33 = .ok (.iconst 0, 1) := by decide +kernel
theorem d109_34 : decode (ix_by 109) 34 = .ok (.ireturn, 1) := by decide +kernel
theorem d110_0 : decode (ix_by 110) 0 = .ok (.iload_n 1, 1) := by decide +kernel
theorem d110_1 : decode (ix_by 110) 1 = .ok (.iload_n 2, 1) := by decide +kernel
theorem d110_2 : decode (ix_by 110) 2 = .ok (.invokestatic 30, 3) := by decide +kernel
theorem d110_5 : decode (ix_by 110) 5 = .ok (.ifCond .eq 18, 3) := by decide +kernel
theorem d110_8 : decode (ix_by 110) 8 = .ok (.iload_n 3, 1) := by decide +kernel
theorem d110_9 : decode (ix_by 110) 9 = .ok (.invokestatic 93, 3) := by decide +kernel
theorem d110_12 : decode (ix_by 110) 12 = .ok (.ifCond .eq 11, 3) := by decide +kernel
theorem d110_15 : decode (ix_by 110) 15 = .ok (.iload 6, 2) := by decide +kernel
theorem d110_17 : decode (ix_by 110) 17 = .ok (.invokestatic 93, 3) := by decide +kernel
theorem d110_20 : decode (ix_by 110) 20 = .ok (.ifCond .ne 13, 3) := by decide +kernel
theorem d110_23 : decode (ix_by 110) 23 = .ok (.new 48, 3) := by decide +kernel
theorem d110_26 : decode (ix_by 110) 26 = .ok (.dup, 1) := by decide +kernel
theorem d110_27 : decode (ix_by 110) 27 = .ok (.ldc 96, 2) := by decide +kernel
theorem d110_29 : decode (ix_by 110) 29 = .ok (.invokespecial 52, 3) := by decide +kernel
theorem d110_32 : decode (ix_by 110) 32 = .ok (.athrow, 1) := by decide +kernel
theorem d110_33 : decode (ix_by 110) 33 = .ok (.iload 4, 2) := by decide +kernel
theorem d110_35 : decode (ix_by 110) 35 = .ok (.iconst 1, 1) := by decide +kernel
theorem d110_36 : decode (ix_by 110) 36 = .ok (.if_icmp .lt 20, 3) := by decide +kernel
theorem d110_39 : decode (ix_by 110) 39 = .ok (.iload 4, 2) := by decide +kernel
theorem d110_41 : decode (ix_by 110) 41 = .ok (.iconst 2, 1) := by decide +kernel
theorem d110_42 : decode (ix_by 110) 42 = .ok (.if_icmp .gt 14, 3) := by decide +kernel
theorem d110_45 : decode (ix_by 110) 45 = .ok (.iload 5, 2) := by decide +kernel
theorem d110_47 : decode (ix_by 110) 47 = .ok (.ifCond .lt 9, 3) := by decide +kernel
theorem d110_50 : decode (ix_by 110) 50 = .ok (.iload 5, 2) := by decide +kernel
theorem d110_52 : decode (ix_by 110) 52 = .ok (.iconst 2, 1) := by decide +kernel
theorem d110_53 : decode (ix_by 110) 53 = .ok (.if_icmp .le 13, 3) := by decide +kernel
theorem d110_56 : decode (ix_by 110) 56 = .ok (.new 48, 3) := by decide +kernel
theorem d110_59 : decode (ix_by 110) 59 = .ok (.dup, 1) := by decide +kernel
theorem d110_60 : decode (ix_by 110) 60 = .ok (.ldc 98, 2) := by decide +kernel
theorem d110_62 : decode (ix_by 110) 62 = .ok (.invokespecial 52, 3) := by decide +kernel
theorem d110_65 : decode (ix_by 110) 65 = .ok (.athrow, 1) := by decide +kernel
theorem d110_66 : decode (ix_by 110) 66 = .ok (.aload_n 0, 1) := by decide +kernel
theorem d110_67 : decode (ix_by 110) 67 = .ok (.getfield 16, 3) := by decide +kernel
theorem d110_70 : decode (ix_by 110) 70 = .ok (.iload_n 1, 1) := by decide +kernel
theorem d110_71 : decode (ix_by 110) 71 = .ok (.aaload, 1) := by decide +kernel
theorem d110_72 : decode (ix_by 110) 72 = .ok (.astore 7, 2) := by decide +kernel
theorem d110_74 : decode (ix_by 110) 74 = .ok (.aload 7, 2) := by decide +kernel
theorem d110_76 : decode (ix_by 110) 76 = .ok (.getfield 34, 3) := by decide +kernel
theorem d110_79 : decode (ix_by 110) 79 = .ok (.iload_n 2, 1) := by decide +kernel
theorem d110_80 : decode (ix_by 110) 80 = .ok (.invokevirtual 38, 3) := by decide +kernel
theorem d110_83 : decode (ix_by 110) 83 = .ok (.ifCond .ne 13, 3) := by decide +kernel
theorem d110_86 : decode (ix_by 110) 86 = .ok (.new 55, 3) := by decide +kernel
theorem d110_89 : decode (ix_by 110) 89 = .ok (.dup, 1) := by decide +kernel
theorem d110_90 : decode (ix_by 110) 90 = .ok (.ldc 57, 2) := by decide +kernel
theorem d110_92 : decode (ix_by 110) 92 = .ok (.invokespecial 59, 3) := by decide +kernel
theorem d110_95 : decode (ix_by 110) 95 = .ok (.athrow, 1) := by decide +kernel
theorem d110_96 : decode (ix_by 110) 96 = .ok (.aload 7, 2) := by decide +kernel
theorem d110_98 : decode (ix_by 110) 98 = .ok (.getfield 100, 3) := by decide +kernel
theorem d110_101 : decode (ix_by 110) 101 = .ok (.invokevirtual 104, 3) := by decide +kernel
theorem d110_104 : decode (ix_by 110) 104 = .ok (.iconst 3, 1) := by decide +kernel
theorem d110_105 : decode (ix_by 110) 105 = .ok (.if_icmp .ge 17, 3) := by decide +kernel
theorem d110_108 : decode (ix_by 110) 108 = .ok (.aload 7, 2) := by decide +kernel
theorem d110_110 : decode (ix_by 110) 110 = .ok (.getfield 110, 3) := by decide +kernel
theorem d110_113 : decode (ix_by 110) 113 = .ok (.invokevirtual 104, 3) := by decide +kernel
theorem d110_116 : decode (ix_by 110) 116 = .ok (.sipush 512, 3) := by decide +kernel
theorem d110_119 : decode (ix_by 110) 119 = .ok (.if_icmp .lt 13, 3) := by decide +kernel
theorem d110_122 : decode (ix_by 110) 122 = .ok (.new 67, 3) := by decide +kernel
theorem d110_125 : decode (ix_by 110) 125 = .ok (.dup, 1) := by decide +kernel
theorem d110_126 : decode (ix_by 110) 126 = .ok (.ldc 113, 2) := by decide +kernel
theorem d110_128 : decode (ix_by 110) 128 = .ok (.invokespecial 71, 3) := by decide +kernel
theorem d110_131 : decode (ix_by 110) 131 = .ok (.athrow, 1) := by decide +kernel
theorem d110_132 : decode (ix_by 110) 132 = .ok (.aload 7, 2) := by decide +kernel
theorem d110_134 : decode (ix_by 110) 134 = .ok (.getfield 110, 3) := by decide +kernel
theorem d110_137 : decode (ix_by 110) 137 = .ok (.invokevirtual 104, 3) := by decide +kernel
theorem d110_140 : decode (ix_by 110) 140 = .ok (.iconst 1, 1) := by decide +kernel
theorem d110_141 : decode (ix_by 110) 141 = .ok (.iadd, 1) := by decide +kernel
theorem d110_142 : decode (ix_by 110) 142 = .ok (.istore 8, 2) := by decide +kernel
theorem d110_144 : decode (ix_by 110) 144 = .ok (.new 115, 3) := by decide +kernel
theorem d110_147 : decode (ix_by 110) 147 = .ok (.dup, 1) := by decide +kernel
theorem d110_148 : decode (ix_by 110) 148 = .ok (.iload_n 1, 1) := by decide +kernel
theorem d110_149 : decode (ix_by 110) 149 = .ok (.iload 8, 2) := by decide +kernel
theorem d110_151 : decode (ix_by 110) 151 = .ok (.iload_n 2, 1) := by decide +kernel
theorem d110_152 : decode (ix_by 110) 152 = .ok (.iload_n 3, 1) := by decide +kernel
theorem d110_153 : decode (ix_by 110) 153 = .ok (.iload 4, 2) := by decide +kernel
theorem d110_155 : decode (ix_by 110) 155 = .ok (.iload 5, 2) := by decide +kernel
theorem d110_157 : decode (ix_by 110) 157 = .ok (.iload 6, 2) := by decide +kernel
theorem d110_159 : decode (ix_by 110) 159 = .ok (.invokespecial 117, 3) := by decide +kernel
theorem d110_162 : decode (ix_by 110) 162 = .ok (.astore 9, 2) := by decide +kernel
theorem d110_164 : decode (ix_by 110) 164 = .ok (.aload 7, 2) := by decide +kernel
theorem d110_166 : decode (ix_by 110) 166 = .ok (.new 120, 3) := by decide +kernel
theorem d110_169 : decode (ix_by 110) 169 = .ok (.dup, 1) := by decide +kernel
theorem d110_170 : decode (ix_by 110) 170 = .ok (.aload 9, 2) := by decide +kernel
theorem d110_172 : decode (ix_by 110) 172 = .ok (.aload 7, 2) := by decide +kernel
theorem d110_174 : decode (ix_by 110) 174 = .ok (.getfield 34, 3) := by decide +kernel
theorem d110_177 : decode (ix_by 110) 177 = .ok (.aload_n 0, 1) := by decide +kernel
theorem d110_178 : decode (ix_by 110) 178 = .ok (.getfield 23, 3) := by decide +kernel
theorem d110_181 : decode (ix_by 110) 181 = .ok (.aload_n 0, 1) := by decide +kernel
theorem d110_182 : decode (ix_by 110) 182 = .ok (.getfield 7, 3) := by decide +kernel
theorem d110_185 : decode (ix_by 110) 185 = .ok (.invokespecial 122, 3) := by decide +kernel
theorem d110_188 : decode (ix_by 110) 188 = .ok (.invokevirtual 125, 3) := by decide +kernel
theorem d110_191 : decode (ix_by 110) 191 = .ok (.iload 8, 2) := by decide +kernel
theorem d110_193 : decode (ix_by 110) 193 = .ok (.ireturn, 1) := by decide +kernel
theorem d111_0 : decode (ix_by 111) 0 = .ok (.aload_n 0, 1) := by decide +kernel
theorem d111_1 : decode (ix_by 111) 1 = .ok (.invokespecial 3, 3) := by decide +kernel
theorem d111_4 : decode (ix_by 111) 4 = .ok (.aload_n 0, 1) := by decide +kernel
theorem d111_5 : decode (ix_by 111) 5 = .ok (.iload_n 1, 1) := by decide +kernel
theorem d111_6 : decode (ix_by 111) 6 = .ok (.putfield 9, 3) := by decide +kernel
theorem d111_9 : decode (ix_by 111) 9 = .ok (.aload_n 0, 1) := by decide +kernel
theorem d111_10 : decode (ix_by 111) 10 = .ok (.iload_n 2, 1) := by decide +kernel
theorem d111_11 : decode (ix_by 111) 11 = .ok (.putfield 15, 3) := by decide +kernel
theorem d111_14 : decode (ix_by 111) 14 = .ok (.aload_n 0, 1) := by decide +kernel
theorem d111_15 : decode (ix_by 111) 15 = .ok (.iload_n 3, 1) := by decide +kernel
theorem d111_16 : decode (ix_by 111) 16 = .ok (.putfield 18, 3) := by decide +kernel
theorem d111_19 : decode (ix_by 111) 19 = .ok (.aload_n 0, 1) := by decide +kernel
theorem d111_20 : decode (ix_by 111) 20 = .ok (.iload 4, 2) := by decide +kernel
theorem d111_22 : decode (ix_by 111) 22 = .ok (.putfield 21, 3) := by decide +kernel
theorem d111_25 : decode (ix_by 111) 25 = .ok (.aload_n 0, 1) := by decide +kernel
theorem d111_26 : decode (ix_by 111) 26 = .ok (.iload 5, 2) := by decide +kernel
theorem d111_28 : decode (ix_by 111) 28 = .ok (.putfield 24, 3) := by decide +kernel
theorem d111_31 : decode (ix_by 111) 31 = .ok (.aload_n 0, 1) := by decide +kernel
theorem d111_32 : decode (ix_by 111) 32 = .ok (.iload 6, 2) := by decide +kernel
theorem d111_34 : decode (ix_by 111) 34 = .ok (.putfield 27, 3) := by decide +kernel
theorem d111_37 : decode (ix_by 111) 37 = .ok (.aload_n 0, 1) := by decide +kernel
theorem d111_38 : decode (ix_by 111) 38 = .ok (.iload 7, 2) := by decide +kernel
theorem d111_40 : decode (ix_by 111) 40 = .ok (.putfield 30, 3) := by decide +kernel
theorem d111_43 : decode (ix_by 111) 43 = .ok (.return_, 1) := by decide +kernel
theorem d112_0 : decode (ix_by 112) 0 = .ok (.aload_n 0, 1) := by decide +kernel
theorem d112_1 : decode (ix_by 112) 1 = .ok (.invokespecial 3, 3) := by decide +kernel
theorem d112_4 : decode (ix_by 112) 4 = .ok (.aload_n 0, 1) := by decide +kernel
theorem d112_5 : decode (ix_by 112) 5 = .ok (.iconst (-1), 1) := by decide +kernel
theorem d112_6 : decode (ix_by 112) 6 = .ok (.putfield 11, 3) := by decide +kernel
theorem d112_9 : decode (ix_by 112) 9 = .ok (.aload_n 0, 1) := by decide +kernel
theorem d112_10 : decode (ix_by 112) 10 = .ok (.aload_n 1, 1) := by decide +kernel
theorem d112_11 : decode (ix_by 112) 11 = .ok (.putfield 15, 3) := by decide +kernel
theorem d112_14 : decode (ix_by 112) 14 = .ok (.aload_n 0, 1) := by decide +kernel
theorem d112_15 : decode (ix_by 112) 15 = .ok (.aload_n 2, 1) := by decide +kernel
theorem d112_16 : decode (ix_by 112) 16 = .ok (.putfield 19, 3) := by decide +kernel
theorem d112_19 : decode (ix_by 112) 19 = .ok (.aload_n 0, 1) := by decide +kernel
theorem d112_20 : decode (ix_by 112) 20 = .ok (.aload_n 3, 1) := by decide +kernel
theorem d112_21 : decode (ix_by 112) 21 = .ok (.putfield 23, 3) := by decide +kernel
theorem d112_24 : decode (ix_by 112) 24 = .ok (.aload_n 0, 1) := by decide +kernel
theorem d112_25 : decode (ix_by 112) 25 = .ok (.iload 4, 2) := by decide +kernel
theorem d112_27 : decode (ix_by 112) 27 = .ok (.putfield 27, 3) := by decide +kernel
theorem d112_30 : decode (ix_by 112) 30 = .ok (.aload_n 0, 1) := by decide +kernel
theorem d112_31 : decode (ix_by 112) 31 = .ok (.aload_n 2, 1) := by decide +kernel
theorem d112_32 : decode (ix_by 112) 32 = .ok (.aload_n 1, 1) := by decide +kernel
theorem d112_33 : decode (ix_by 112) 33 = .ok (.getfield 30, 3) := by decide +kernel
theorem d112_36 : decode (ix_by 112) 36 = .ok (.invokevirtual 35, 3) := by decide +kernel
theorem d112_39 : decode (ix_by 112) 39 = .ok (.invokestatic 41, 3) := by decide +kernel
theorem d112_42 : decode (ix_by 112) 42 = .ok (.putfield 44, 3) := by decide +kernel
theorem d112_45 : decode (ix_by 112) 45 = .ok (.return_, 1) := by decide +kernel
theorem d113_0 : decode (ix_by 113) 0 = .ok (.aload_n 0, 1) := by decide +kernel
theorem d113_1 : decode (ix_by 113) 1 = .ok (.getfield 19, 3) := by decide +kernel
theorem d113_4 : decode (ix_by 113) 4 = .ok (.aload_n 1, 1) := by decide +kernel
theorem d113_5 : decode (ix_by 113) 5 = .ok (.invokevirtual 29, 3) := by decide +kernel
theorem d113_8 : decode (ix_by 113) 8 = .ok (.pop, 1) := by decide +kernel
theorem d113_9 : decode (ix_by 113) 9 = .ok (.aload_n 0, 1) := by decide +kernel
theorem d113_10 : decode (ix_by 113) 10 = .ok (.getfield 23, 3) := by decide +kernel
theorem d113_13 : decode (ix_by 113) 13 = .ok (.aload_n 1, 1) := by decide +kernel
theorem d113_14 : decode (ix_by 113) 14 = .ok (.invokevirtual 29, 3) := by decide +kernel
theorem d113_17 : decode (ix_by 113) 17 = .ok (.pop, 1) := by decide +kernel
theorem d113_18 : decode (ix_by 113) 18 = .ok (.return_, 1) := by decide +kernel
theorem d114_0 : decode (ix_by 114) 0 = .ok (.aload_n 0, 1) := by decide +kernel
theorem d114_1 : decode (ix_by 114) 1 = .ok (.invokespecial 1, 3) := by decide +kernel
theorem d114_4 : decode (ix_by 114) 4 = .ok (.aload_n 0, 1) := by decide +kernel
theorem d114_5 : decode (ix_by 114) 5 = .ok (.bipush 12, 2) := by decide +kernel
theorem d114_7 : decode (ix_by 114) 7 = .ok (.newarray .boolean, 2) := by decide +kernel
theorem d114_9 : decode (ix_by 114) 9 = .ok (.putfield 7, 3) := by decide +kernel
theorem d114_12 : decode (ix_by 114) 12 = .ok (.aload_n 0, 1) := by decide +kernel
theorem d114_13 : decode (ix_by 114) 13 = .ok (.bipush 12, 2) := by decide +kernel
theorem d114_15 : decode (ix_by 114) 15 = .ok (.newarray .int, 2) := by decide +kernel
theorem d114_17 : decode (ix_by 114) 17 = .ok (.putfield 13, 3) := by decide +kernel
theorem d114_20 : decode (ix_by 114) 20 = .ok (.aload_n 0, 1) := by decide +kernel
theorem d114_21 : decode (ix_by 114) 21 = .ok (.sipush 768, 3) := by decide +kernel
theorem d114_24 : decode (ix_by 114) 24 = .ok (.newarray .int, 2) := by decide +kernel
theorem d114_26 : decode (ix_by 114) 26 = .ok (.putfield 17, 3) := by decide +kernel
theorem d114_29 : decode (ix_by 114) 29 = .ok (.aload_n 0, 1) := by decide +kernel
theorem d114_30 : decode (ix_by 114) 30 = .ok (.iconst 2, 1) := by decide +kernel
theorem d114_31 : decode (ix_by 114) 31 = .ok (.newarray .int, 2) := by decide +kernel
theorem d114_33 : decode (ix_by 114) 33 = .ok (.putfield 20, 3) := by decide +kernel
theorem d114_36 : decode (ix_by 114) 36 = .ok (.aload_n 0, 1) := by decide +kernel
theorem d114_37 : decode (ix_by 114) 37 = .ok (.sipush 640, 3) := by decide +kernel
theorem d114_40 : decode (ix_by 114) 40 = .ok (.newarray .int, 2) := by decide +kernel
theorem d114_42 : decode (ix_by 114) 42 = .ok (.putfield 23, 3) := by decide +kernel
theorem d114_45 : decode (ix_by 114) 45 = .ok (.aload_n 0, 1) := by decide +kernel
theorem d114_46 : decode (ix_by 114) 46 = .ok (.sipush 640, 3) := by decide +kernel
theorem d114_49 : decode (ix_by 114) 49 = .ok (.newarray .int, 2) := by decide +kernel
theorem d114_51 : decode (ix_by 114) 51 = .ok (.putfield 26, 3) := by decide +kernel
theorem d114_54 : decode (ix_by 114) 54 = .ok (.aload_n 0, 1) := by decide +kernel
theorem d114_55 : decode (ix_by 114) 55 = .ok (.sipush 640, 3) := by decide +kernel
theorem d114_58 : decode (ix_by 114) 58 = .ok (.newarray .int, 2) := by decide +kernel
theorem d114_60 : decode (ix_by 114) 60 = .ok (.putfield 29, 3) := by decide +kernel
theorem d114_63 : decode (ix_by 114) 63 = .ok (.aload_n 0, 1) := by decide +kernel
theorem d114_64 : decode (ix_by 114) 64 = .ok (.sipush 640, 3) := by decide +kernel
theorem d114_67 : decode (ix_by 114) 67 = .ok (.newarray .int, 2) := by decide +kernel
theorem d114_69 : decode (ix_by 114) 69 = .ok (.putfield 32, 3) := by decide +kernel
theorem d114_72 : decode (ix_by 114) 72 = .ok (.aload_n 0, 1) := by decide +kernel
theorem d114_73 : decode (ix_by 114) 73 = .ok (.sipush 640, 3) := by decide +kernel
theorem d114_76 : decode (ix_by 114) 76 = .ok (.newarray .int, 2) := by decide +kernel
theorem d114_78 : decode (ix_by 114) 78 = .ok (.putfield 35, 3) := by decide +kernel
theorem d114_81 : decode (ix_by 114) 81 = .ok (.aload_n 0, 1) := by decide +kernel
theorem d114_82 : decode (ix_by 114) 82 = .ok (.sipush 640, 3) := by decide +kernel
theorem d114_85 : decode (ix_by 114) 85 = .ok (.newarray .int, 2) := by decide +kernel
theorem d114_87 : decode (ix_by 114) 87 = .ok (.putfield 38, 3) := by decide +kernel
theorem d114_90 : decode (ix_by 114) 90 = .ok (.aload_n 0, 1) := by decide +kernel
theorem d114_91 : decode (ix_by 114) 91 = .ok (.sipush 640, 3) := by decide +kernel
theorem d114_94 : decode (ix_by 114) 94 = .ok (.newarray .int, 2) := by decide +kernel
theorem d114_96 : decode (ix_by 114) 96 = .ok (.putfield 41, 3) := by decide +kernel
theorem d114_99 : decode (ix_by 114) 99 = .ok (.aload_n 0, 1) := by decide +kernel
theorem d114_100 : decode (ix_by 114) 100 = .ok (.sipush 640, 3) := by decide +kernel
theorem d114_103 : decode (ix_by 114) 103 = .ok (.newarray .int, 2) := by decide +kernel
theorem d114_105 : decode (ix_by 114) 105 = .ok (.putfield 44, 3) := by decide +kernel
theorem d114_108 : decode (ix_by 114) 108 = .ok (.aload_n 0, 1) := by decide +kernel
theorem d114_109 : decode (ix_by 114) 109 = .ok (.sipush 640, 3) := by decide +kernel
theorem d114_112 : decode (ix_by 114) 112 = .ok (.newarray .int, 2) := by decide +kernel
theorem d114_114 : decode (ix_by 114) 114 = .ok (.putfield 47, 3) := by decide +kernel
theorem d114_117 : decode (ix_by 114) 117 = .ok (.aload_n 0, 1) := by decide +kernel
theorem d114_118 : decode (ix_by 114) 118 = .ok (.sipush 640, 3) := by decide +kernel
theorem d114_121 : decode (ix_by 114) 121 = .ok (.newarray .int, 2) := by decide +kernel
theorem d114_123 : decode (ix_by 114) 123 = .ok (.putfield 50, 3) := by decide +kernel
theorem d114_126 : decode (ix_by 114) 126 = .ok (.aload_n 0, 1) := by decide +kernel
theorem d114_127 : decode (ix_by 114) 127 = .ok (.sipush 640, 3) := by decide +kernel
theorem d114_130 : decode (ix_by 114) 130 = .ok (.newarray .int, 2) := by decide +kernel
theorem d114_132 : decode (ix_by 114) 132 = .ok (.putfield 53, 3) := by decide +kernel
theorem d114_135 : decode (ix_by 114) 135 = .ok (.aload_n 0, 1) := by decide +kernel
theorem d114_136 : decode (ix_by 114) 136 = .ok (.sipush 640, 3) := by decide +kernel
theorem d114_139 : decode (ix_by 114) 139 = .ok (.newarray .int, 2) := by decide +kernel
theorem d114_141 : decode (ix_by 114) 141 = .ok (.putfield 56, 3) := by decide +kernel
theorem d114_144 : decode (ix_by 114) 144 = .ok (.aload_n 0, 1) := by decide +kernel
theorem d114_145 : decode (ix_by 114) 145 = .ok (.sipush 640, 3) := by decide +kernel
theorem d114_148 : decode (ix_by 114) 148 = .ok (.newarray .boolean, 2) := by decide +kernel
theorem d114_150 : decode (ix_by 114) 150 = .ok (.putfield 59, 3) := by decide +kernel
theorem d114_153 : decode (ix_by 114) 153 = .ok (.aload_n 0, 1) := by decide +kernel
theorem d114_154 : decode (ix_by 114) 154 = .ok (.sipush 640, 3) := by decide +kernel
theorem d114_157 : decode (ix_by 114) 157 = .ok (.newarray .boolean, 2) := by decide +kernel
theorem d114_159 : decode (ix_by 114) 159 = .ok (.putfield 62, 3) := by decide +kernel
theorem d114_162 : decode (ix_by 114) 162 = .ok (.aload_n 0, 1) := by decide +kernel
theorem d114_163 : decode (ix_by 114) 163 = .ok (.sipush 640, 3) := by decide +kernel
theorem d114_166 : decode (ix_by 114) 166 = .ok (.newarray .boolean, 2) := by decide +kernel
theorem d114_168 : decode (ix_by 114) 168 = .ok (.putfield 65, 3) := by decide +kernel
theorem d114_171 : decode (ix_by 114) 171 = .ok (.aload_n 0, 1) := by decide +kernel
theorem d114_172 : decode (ix_by 114) 172 = .ok (.sipush 640, 3) := by decide +kernel
theorem d114_175 : decode (ix_by 114) 175 = .ok (.newarray .int, 2) := by decide +kernel
theorem d114_177 : decode (ix_by 114) 177 = .ok (.putfield 68, 3) := by decide +kernel
theorem d114_180 : decode (ix_by 114) 180 = .ok (.aload_n 0, 1) := by decide +kernel
theorem d114_181 : decode (ix_by 114) 181 = .ok (.sipush 640, 3) := by decide +kernel
theorem d114_184 : decode (ix_by 114) 184 = .ok (.newarray .int, 2) := by decide +kernel
theorem d114_186 : decode (ix_by 114) 186 = .ok (.putfield 71, 3) := by decide +kernel
theorem d114_189 : decode (ix_by 114) 189 = .ok (.aload_n 0, 1) := by decide +kernel
theorem d114_190 : decode (ix_by 114) 190 = .ok (.sipush 640, 3) := by decide +kernel
theorem d114_193 : decode (ix_by 114) 193 = .ok (.newarray .int, 2) := by decide +kernel
theorem d114_195 : decode (ix_by 114) 195 = .ok (.putfield 74, 3) := by decide +kernel
theorem d114_198 : decode (ix_by 114) 198 = .ok (.aload_n 0, 1) := by decide +kernel
theorem d114_199 : decode (ix_by 114) 199 = .ok (.bipush 6, 2) := by decide +kernel
theorem d114_201 : decode (ix_by 114) 201 = .ok (.newarray .int, 2) := by decide +kernel
theorem d114_203 : decode (ix_by 114) 203 = .ok (.putfield 77, 3) := by decide +kernel
theorem d114_206 : decode (ix_by 114) 206 = .ok (.aload_n 0, 1) := by decide +kernel
theorem d114_207 : decode (ix_by 114) 207 = .ok (.bipush 6, 2) := by decide +kernel
theorem d114_209 : decode (ix_by 114) 209 = .ok (.newarray .int, 2) := by decide +kernel
theorem d114_211 : decode (ix_by 114) 211 = .ok (.putfield 80, 3) := by decide +kernel
theorem d114_214 : decode (ix_by 114) 214 = .ok (.aload_n 0, 1) := by decide +kernel
theorem d114_215 : decode (ix_by 114) 215 = .ok (.bipush 6, 2) := by decide +kernel
theorem d114_217 : decode (ix_by 114) 217 = .ok (.newarray .int, 2) := by decide +kernel
theorem d114_219 : decode (ix_by 114) 219 = .ok (.putfield 83, 3) := by decide +kernel
theorem d114_222 : decode (ix_by 114) 222 = .ok (.aload_n 0, 1) := by decide +kernel
theorem d114_223 : decode (ix_by 114) 223 = .ok (.bipush 6, 2) := by decide +kernel
theorem d114_225 : decode (ix_by 114) 225 = .ok (.newarray .int, 2) := by decide +kernel
theorem d114_227 : decode (ix_by 114) 227 = .ok (.putfield 86, 3) := by decide +kernel
theorem d114_230 : decode (ix_by 114) 230 = .ok (.aload_n 0, 1) := by decide +kernel
theorem d114_231 : decode (ix_by 114) 231 = .ok (.bipush 6, 2) := by decide +kernel
theorem d114_233 : decode (ix_by 114) 233 = .ok (.newarray .int, 2) := by decide +kernel
theorem d114_235 : decode (ix_by 114) 235 = .ok (.putfield 89, 3) := by decide +kernel
theorem d114_238 : decode (ix_by 114) 238 = .ok (.aload_n 0, 1) := by decide +kernel
theorem d114_239 : decode (ix_by 114) 239 = .ok (.bipush 6, 2) := by decide +kernel
theorem d114_241 : decode (ix_by 114) 241 = .ok (.newarray .int, 2) := by decide +kernel
theorem d114_243 : decode (ix_by 114) 243 = .ok (.putfield 92, 3) := by decide +kernel
theorem d114_246 : decode (ix_by 114) 246 = .ok (.aload_n 0, 1) := by decide +kernel
theorem d114_247 : decode (ix_by 114) 247 = .ok (.bipush 6, 2) := by decide +kernel
theorem d114_249 : decode (ix_by 114) 249 = .ok (.newarray .int, 2) := by decide +kernel
theorem d114_251 : decode (ix_by 114) 251 = .ok (.putfield 95, 3) := by decide +kernel
theorem d114_254 : decode (ix_by 114) 254 = .ok (.aload_n 0, 1) := by decide +kernel
theorem d114_255 : decode (ix_by 114) 255 = .ok (.bipush 6, 2) := by decide +kernel
theorem d114_257 : decode (ix_by 114) 257 = .ok (.newarray .int, 2) := by decide +kernel
theorem d114_259 : decode (ix_by 114) 259 = .ok (.putfield 98, 3) := by decide +kernel
theorem d114_262 : decode (ix_by 114) 262 = .ok (.aload_n 0, 1) := by decide +kernel
theorem d114_263 : decode (ix_by 114) 263 = .ok (.bipush 6, 2) := by decide +kernel
theorem d114_265 : decode (ix_by 114) 265 = .ok (.newarray .int, 2) := by decide +kernel
theorem d114_267 : decode (ix_by 114) 267 = .ok (.putfield 101, 3) := by decide +kernel
theorem d114_270 : decode (ix_by 114) 270 = .ok (.aload_n 0, 1) := by decide +kernel
theorem d114_271 : decode (ix_by 114) 271 = .ok (.bipush 6, 2) := by decide +kernel
theorem d114_273 : decode (ix_by 114) 273 = .ok (.newarray .boolean, 2) := by decide +kernel
theorem d114_275 : decode (ix_by 114) 275 = .ok (.putfield 104, 3) := by decide +kernel
theorem d114_278 : decode (ix_by 114) 278 = .ok (.aload_n 0, 1) := by decide +kernel
theorem d114_279 : decode (ix_by 114) 279 = .ok (.bipush 6, 2) := by decide +kernel
theorem d114_281 : decode (ix_by 114) 281 = .ok (.newarray .boolean, 2) := by decide +kernel
theorem d114_283 : decode (ix_by 114) 283 = .ok (.putfield 107, 3) := by decide +kernel
theorem d114_286 : decode (ix_by 114) 286 = .ok (.aload_n 0, 1) := by decide +kernel
theorem d114_287 : decode (ix_by 114) 287 = .ok (.bipush 6, 2) := by decide +kernel
theorem d114_289 : decode (ix_by 114) 289 = .ok (.newarray .boolean, 2) := by decide +kernel
theorem d114_291 : decode (ix_by 114) 291 = .ok (.putfield 110, 3) := by decide +kernel
theorem d114_294 : decode (ix_by 114) 294 = .ok (.aload_n 0, 1) := by decide +kernel
theorem d114_295 : decode (ix_by 114) 295 = .ok (.bipush 96, 2) := by decide +kernel
theorem d114_297 : decode (ix_by 114) 297 = .ok (.newarray .int, 2) := by decide +kernel
theorem d114_299 : decode (ix_by 114) 299 = .ok (.putfield 113, 3) := by decide +kernel
theorem d114_302 : decode (ix_by 114) 302 = .ok (.aload_n 0, 1) := by decide +kernel
theorem d114_303 : decode (ix_by 114) 303 = .ok (.bipush 96, 2) := by decide +kernel
theorem d114_305 : decode (ix_by 114) 305 = .ok (.newarray .int, 2) := by decide +kernel
theorem d114_307 : decode (ix_by 114) 307 = .ok (.putfield 116, 3) := by decide +kernel
theorem d114_310 : decode (ix_by 114) 310 = .ok (.aload_n 0, 1) := by decide +kernel
theorem d114_311 : decode (ix_by 114) 311 = .ok (.bipush 6, 2) := by decide +kernel
theorem d114_313 : decode (ix_by 114) 313 = .ok (.newarray .int, 2) := by decide +kernel
theorem d114_315 : decode (ix_by 114) 315 = .ok (.putfield 119, 3) := by decide +kernel
theorem d114_318 : decode (ix_by 114) 318 = .ok (.aload_n 0, 1) := by decide +kernel
theorem d114_319 : decode (ix_by 114) 319 = .ok (.bipush 6, 2) := by decide +kernel
theorem d114_321 : decode (ix_by 114) 321 = .ok (.newarray .int, 2) := by decide +kernel
theorem d114_323 : decode (ix_by 114) 323 = .ok (.putfield 122, 3) := by decide +kernel
theorem d114_326 : decode (ix_by 114) 326 = .ok (.aload_n 0, 1) := by decide +kernel
theorem d114_327 : decode (ix_by 114) 327 = .ok (.iconst 2, 1) := by decide +kernel
theorem d114_328 : decode (ix_by 114) 328 = .ok (.newarray .int, 2) := by decide +kernel
theorem d114_330 : decode (ix_by 114) 330 = .ok (.putfield 125, 3) := by decide +kernel
theorem d114_333 : decode (ix_by 114) 333 = .ok (.aload_n 0, 1) := by decide +kernel
theorem d114_334 : decode (ix_by 114) 334 = .ok (.iconst 2, 1) := by decide +kernel
theorem d114_335 : decode (ix_by 114) 335 = .ok (.newarray .int, 2) := by decide +kernel
theorem d114_337 : decode (ix_by 114) 337 = .ok (.putfield 128, 3) := by decide +kernel
theorem d114_340 : decode (ix_by 114) 340 = .ok (.aload_n 0, 1) := by decide +kernel
theorem d114_341 : decode (ix_by 114) 341 = .ok (.sipush 264, 3) := by decide +kernel
theorem d114_344 : decode (ix_by 114) 344 = .ok (.newarray .int, 2) := by decide +kernel
theorem d114_346 : decode (ix_by 114) 346 = .ok (.putfield 131, 3) := by decide +kernel
theorem d114_349 : decode (ix_by 114) 349 = .ok (.aload_n 0, 1) := by decide +kernel
theorem d114_350 : decode (ix_by 114) 350 = .ok (.bipush 11, 2) := by decide +kernel
theorem d114_352 : decode (ix_by 114) 352 = .ok (.newarray .int, 2) := by decide +kernel
theorem d114_354 : decode (ix_by 114) 354 = .ok (.putfield 134, 3) := by decide +kernel
theorem d114_357 : decode (ix_by 114) 357 = .ok (.aload_n 0, 1) := by decide +kernel
theorem d114_358 : decode (ix_by 114) 358 = .ok (.bipush 6, 2) := by decide +kernel
theorem d114_360 : decode (ix_by 114) 360 = .ok (.newarray .int, 2) := by decide +kernel
theorem d114_362 : decode (ix_by 114) 362 = .ok (.putfield 137, 3) := by decide +kernel
theorem d114_365 : decode (ix_by 114) 365 = .ok (.aload_n 0, 1) := by decide +kernel
theorem d114_366 : decode (ix_by 114) 366 = .ok (.iconst 4, 1) := by decide +kernel
theorem d114_367 : decode (ix_by 114) 367 = .ok (.iload_n 1, 1) := by decide +kernel
theorem d114_368 : decode (ix_by 114) 368 = .ok (.bipush 7, 2) := by decide +kernel
theorem d114_370 : decode (ix_by 114) 370 = .ok (.iand, 1) := by decide +kernel
theorem d114_371 : decode (ix_by 114) 371 = .ok (.iadd, 1) := by decide +kernel
theorem d114_372 : decode (ix_by 114) 372 = .ok (.putfield 140, 3) := by decide +kernel
theorem d114_375 : decode (ix_by 114) 375 = .ok (.return_, 1) := by decide +kernel
theorem d115_0 : decode (ix_by 115) 0 = .ok (.aload_n 0, 1) := by decide +kernel
theorem d115_1 : decode (ix_by 115) 1 = .ok (.getfield 144, 3) := by decide +kernel
theorem d115_4 : decode (ix_by 115) 4 = .ok (.ireturn, 1) := by decide +kernel
theorem d116_0 : decode (ix_by 116) 0 = .ok (.aload_n 0, 1) := by decide +kernel
theorem d116_1 : decode (ix_by 116) 1 = .ok (.iconst 0, 1) := by decide +kernel
theorem d116_2 : decode (ix_by 116) 2 = .ok (.putfield 144, 3) := by decide +kernel
theorem d116_5 : decode (ix_by 116) 5 = .ok (.iload_n 1, 1) := by decide +kernel
theorem d116_6 : decode (ix_by 116) 6 = .ok (.iload_n 2, 1) := by decide +kernel
theorem d116_7 : decode (ix_by 116) 7 = .ok (.invokestatic 151, 3) := by decide +kernel
theorem d116_10 : decode (ix_by 116) 10 = .ok (.ifCond .eq 17, 3) := by decide +kernel
theorem d116_13 : decode (ix_by 116) 13 = .ok (.aload_n 0, 1) := by decide +kernel
theorem d116_14 : decode (ix_by 116) 14 = .ok (.getfield 7, 3) := by decide +kernel
theorem d116_17 : decode (ix_by 116) 17 = .ok (.bipush 6, 2) := by decide +kernel
theorem d116_19 : decode (ix_by 116) 19 = .ok (.iload_n 1, 1) := by decide +kernel
theorem d116_20 : decode (ix_by 116) 20 = .ok (.imul, 1) := by decide +kernel
theorem d116_21 : decode (ix_by 116) 21 = .ok (.iload_n 2, 1) := by decide +kernel
theorem d116_22 : decode (ix_by 116) 22 = .ok (.iadd, 1) := by decide +kernel
theorem d116_23 : decode (ix_by 116) 23 = .ok (.baload, 1) := by decide +kernel
theorem d116_24 : decode (ix_by 116) 24 = .ok (.ifCond .eq 5, 3) := by decide +kernel
theorem d116_27 : decode (ix_by 116) 27 = .ok (.iconst 0, 1) := by decide +kernel
theorem d116_28 : decode (ix_by 116) 28 = .ok (.ireturn, 1) := by decide +kernel
theorem d116_29 : decode (ix_by 116) 29 = .ok (.aload_n 0, 1) := by decide +kernel
theorem d116_30 : decode (ix_by 116) 30 = .ok (.getfield 7, 3) := by decide +kernel
theorem d116_33 : decode (ix_by 116) 33 = .ok (.bipush 6, 2) := by decide +kernel
theorem d116_35 : decode (ix_by 116) 35 = .ok (.iload_n 1, 1) := by decide +kernel
theorem d116_36 : decode (ix_by 116) 36 = .ok (.imul, 1) := by decide +kernel
theorem d116_37 : decode (ix_by 116) 37 = .ok (.iload_n 2, 1) := by decide +kernel
theorem d116_38 : decode (ix_by 116) 38 = .ok (.iadd, 1) := by decide +kernel
theorem d116_39 : decode (ix_by 116) 39 = .ok (.iconst 1, 1) := by decide +kernel
theorem d116_40 : decode (ix_by 116) 40 = .ok (.bastore, 1) := by decide +kernel
theorem d116_41 : decode (ix_by 116) 41 = .ok (.aload_n 0, 1) := by decide +kernel
theorem d116_42 : decode (ix_by 116) 42 = .ok (.getfield 13, 3) := by decide +kernel
theorem d116_45 : decode (ix_by 116) 45 = .ok (.bipush 6, 2) := by decide +kernel
theorem d116_47 : decode (ix_by 116) 47 = .ok (.iload_n 1, 1) := by decide +kernel
theorem d116_48 : decode (ix_by 116) 48 = .ok (.imul, 1) := by decide +kernel
theorem d116_49 : decode (ix_by 116) 49 = .ok (.iload_n 2, 1) := by decide +kernel
theorem d116_50 : decode (ix_by 116) 50 = .ok (.iadd, 1) := by decide +kernel
theorem d116_51 : decode (ix_by 116) 51 = .ok (.iconst 0, 1) := by decide +kernel
theorem d116_52 : decode (ix_by 116) 52 = .ok (.iastore, 1) := by decide +kernel
theorem d116_53 : decode (ix_by 116) 53 = .ok (.iconst 1, 1) := by decide +kernel
theorem d116_54 : decode (ix_by 116) 54 = .ok (.ireturn, 1) := by decide +kernel
theorem d117_0 : decode (ix_by 117) 0 = .ok (.iload_n 0, 1) := by decide +kernel
theorem d117_1 : decode (ix_by 117) 1 = .ok (.iconst 0, 1) := by decide +kernel
theorem d117_2 : decode (ix_by 117) 2 = .ok (.iconst 1, 1) := by decide +kernel
theorem d117_3 : decode (ix_by 117) 3 = .ok (.invokestatic 147, 3) := by decide +kernel
theorem d117_6 : decode (ix_by 117) 6 = .ok (.ifCond .eq 16, 3) := by decide +kernel
theorem d117_9 : decode (ix_by 117) 9 = .ok (.iload_n 1, 1) := by decide +kernel
theorem d117_10 : decode (ix_by 117) 10 = .ok (.iconst 0, 1) := by decide +kernel
theorem d117_11 : decode (ix_by 117) 11 = .ok (.iconst 5, 1) := by decide +kernel
theorem d117_12 : decode (ix_by 117) 12 = .ok (.invokestatic 147, 3) := by decide +kernel
theorem d117_15 : decode (ix_by 117) 15 = .ok (.ifCond .eq 7, 3) := by decide +kernel
theorem d117_18 : decode (ix_by 117) 18 = .ok (.iconst 1, 1) := by decide +kernel
theorem d117_19 : decode (ix_by 117) 19 = .ok (.goto 4, 3) := by decide +kernel
theorem d117_22 : decode (ix_by 117) 22 = .ok (.iconst 0, 1) := by decide +kernel
theorem d117_23 : decode (ix_by 117) 23 = .ok (.ireturn, 1) := by decide +kernel
theorem d118_0 : decode (ix_by 118) 0 = .ok (.iload_n 0, 1) := by decide +kernel
theorem d118_1 : decode (ix_by 118) 1 = .ok (.iload_n 1, 1) := by decide +kernel
theorem d118_2 : decode (ix_by 118) 2 = .ok (.if_icmp .lt 12, 3) := by decide +kernel
theorem d118_5 : decode (ix_by 118) 5 = .ok (.iload_n 0, 1) := by decide +kernel
theorem d118_6 : decode (ix_by 118) 6 = .ok (.iload_n 2, 1) := by decide +kernel
theorem d118_7 : decode (ix_by 118) 7 = .ok (.if_icmp .gt 7, 3) := by decide +kernel
theorem d118_10 : decode (ix_by 118) 10 = .ok (.iconst 1, 1) := by decide +kernel
theorem d118_11 : decode (ix_by 118) 11 = .ok (.goto 4, 3) := by decide +kernel
theorem d118_14 : decode (ix_by 118) 14 = .ok (.iconst 0, 1) := by decide +kernel
theorem d118_15 : decode (ix_by 118) 15 = .ok (.ireturn, 1) := by decide +kernel
theorem d119_0 : decode (ix_by 119) 0 = .ok (.aload_n 0, 1) := by decide +kernel
theorem d119_1 : decode (ix_by 119) 1 = .ok (.iconst 0, 1) := by decide +kernel
theorem d119_2 : decode (ix_by 119) 2 = .ok (.putfield 144, 3) := by decide +kernel
theorem d119_5 : decode (ix_by 119) 5 = .ok (.iload_n 1, 1) := by decide +kernel
theorem d119_6 : decode (ix_by 119) 6 = .ok (.iload_n 2, 1) := by decide +kernel
theorem d119_7 : decode (ix_by 119) 7 = .ok (.invokestatic 151, 3) := by decide +kernel
theorem d119_10 : decode (ix_by 119) 10 = .ok (.ifCond .eq 13, 3) := by decide +kernel
theorem d119_13 : decode (ix_by 119) 13 = .ok (.iload_n 3, 1) := by decide +kernel
theorem d119_14 : decode (ix_by 119) 14 = .ok (.iconst 1, 1) := by decide +kernel
theorem d119_15 : decode (ix_by 119) 15 = .ok (.bipush 8, 2) := by decide +kernel
theorem d119_17 : decode (ix_by 119) 17 = .ok (.invokestatic 147, 3) := by decide +kernel
theorem d119_20 : decode (ix_by 119) 20 = .ok (.ifCond .ne 9, 3) := by decide +kernel
theorem d119_23 : decode (ix_by 119) 23 = .ok (.aload_n 0, 1) := by decide +kernel
theorem d119_24 : decode (ix_by 119) 24 = .ok (.iconst 1, 1) := by decide +kernel
theorem d119_25 : decode (ix_by 119) 25 = .ok (.invokevirtual 155, 3) := by decide +kernel
theorem d119_28 : decode (ix_by 119) 28 = .ok (.ireturn, 1) := by decide +kernel
theorem d119_29 : decode (ix_by 119) 29 = .ok (.bipush 6, 2) := by decide +kernel
theorem d119_31 : decode (ix_by 119) 31 = .ok (.iload_n 1, 1) := by decide +kernel
theorem d119_32 : decode (ix_by 119) 32 = .ok (.imul, 1) := by decide +kernel
theorem d119_33 : decode (ix_by 119) 33 = .ok (.iload_n 2, 1) := by decide +kernel
theorem d119_34 : decode (ix_by 119) 34 = .ok (.iadd, 1) := by decide +kernel
theorem d119_35 : decode (ix_by 119) 35 = .ok (.istore 6, 2) := by decide +kernel
theorem d119_37 : decode (ix_by 119) 37 = .ok (.aload_n 0, 1) := by decide +kernel
theorem d119_38 : decode (ix_by 119) 38 = .ok (.getfield 7, 3) := by decide +kernel
theorem d119_41 : decode (ix_by 119) 41 = .ok (.iload 6, 2) := by decide +kernel
theorem d119_43 : decode (ix_by 119) 43 = .ok (.baload, 1) := by decide +kernel
theorem d119_44 : decode (ix_by 119) 44 = .ok (.ifCond .ne 9, 3) := by decide +kernel
theorem d119_47 : decode (ix_by 119) 47 = .ok (.aload_n 0, 1) := by decide +kernel
theorem d119_48 : decode (ix_by 119) 48 = .ok (.iconst 2, 1) := by decide +kernel
theorem d119_49 : decode (ix_by 119) 49 = .ok (.invokevirtual 155, 3) := by decide +kernel
theorem d119_52 : decode (ix_by 119) 52 = .ok (.ireturn, 1) := by decide +kernel
theorem d119_53 : decode (ix_by 119) 53 = .ok (.aload_n 0, 1) := by decide +kernel
theorem d119_54 : decode (ix_by 119) 54 = .ok (.iload_n 1, 1) := by decide +kernel
theorem d119_55 : decode (ix_by 119) 55 = .ok (.iload_n 2, 1) := by decide +kernel
theorem d119_56 : decode (ix_by 119) 56 = .ok (.invokevirtual 159, 3) := by decide +kernel
theorem d119_59 : decode (ix_by 119) 59 = .ok (.ifCond .ne 17, 3) := by decide +kernel
theorem d119_62 : decode (ix_by 119) 62 = .ok (.aload_n 0, 1) := by decide +kernel
theorem d119_63 : decode (ix_by 119) 63 = .ok (.getfield 13, 3) := by decide +kernel
theorem d119_66 : decode (ix_by 119) 66 = .ok (.iload 6, 2) := by decide +kernel
theorem d119_68 : decode (ix_by 119) 68 = .ok (.iaload, 1) := by decide +kernel
theorem d119_69 : decode (ix_by 119) 69 = .ok (.iload_n 3, 1) := by decide +kernel
theorem d119_70 : decode (ix_by 119) 70 = .ok (.iadd, 1) := by decide +kernel
theorem d119_71 : decode (ix_by 119) 71 = .ok (.bipush 64, 2) := by decide +kernel
theorem d119_73 : decode (ix_by 119) 73 = .ok (.if_icmp .le 9, 3) := by decide +kernel
theorem d119_76 : decode (ix_by 119) 76 = .ok (.aload_n 0, 1) := by decide +kernel
theorem d119_77 : decode (ix_by 119) 77 = .ok (.iconst 3, 1) := by decide +kernel
theorem d119_78 : decode (ix_by 119) 78 = .ok (.invokevirtual 155, 3) := by decide +kernel
theorem d119_81 : decode (ix_by 119) 81 = .ok (.ireturn, 1) := by decide +kernel
theorem d119_82 : decode (ix_by 119) 82 = .ok (.iconst 0, 1) := by decide +kernel
theorem d119_83 : decode (ix_by 119) 83 = .ok (.istore 7, 2) := by decide +kernel
theorem d119_85 : decode (ix_by 119) 85 = .ok (.iload 7, 2) := by decide +kernel
theorem d119_87 : decode (ix_by 119) 87 = .ok (.iload_n 3, 1) := by decide +kernel
theorem d119_88 : decode (ix_by 119) 88 = .ok (.if_icmp .ge 43, 3) := by decide +kernel
theorem d119_91 : decode (ix_by 119) 91 = .ok (.aload_n 0, 1) := by decide +kernel
theorem d119_92 : decode (ix_by 119) 92 = .ok (.getfield 17, 3) := by decide +kernel
theorem d119_95 : decode (ix_by 119) 95 = .ok (.bipush 64, 2) := by decide +kernel
theorem d119_97 : decode (ix_by 119) 97 = .ok (.iload 6, 2) := by decide +kernel
theorem d119_99 : decode (ix_by 119) 99 = .ok (.imul, 1) := by decide +kernel
theorem d119_100 : decode (ix_by 119) 100 = .ok (.aload_n 0, 1) := by decide +kernel
theorem d119_101 : decode (ix_by 119) 101 = .ok (.getfield 13, 3) := by decide +kernel
theorem d119_104 : decode (ix_by 119) 104 = .ok (.iload 6, 2) := by decide +kernel
theorem d119_106 : decode (ix_by 119) 106 = .ok (.iaload, 1) := by decide +kernel
theorem d119_107 : decode (ix_by 119) 107 = .ok (.iadd, 1) := by decide +kernel
theorem d119_108 : decode (ix_by 119) 108 = .ok (.iload 7, 2) := by decide +kernel
theorem d119_110 : decode (ix_by 119) 110 = .ok (.iadd, 1) := by decide +kernel
theorem d119_111 : decode (ix_by 119) 111 = .ok (.lload 4, 2) := by decide +kernel
theorem d119_113 : decode (ix_by 119) 113 = .ok (.bipush 8, 2) := by decide +kernel
theorem d119_115 : decode (ix_by 119) 115 = .ok (.iload 7, 2) := by decide +kernel
theorem d119_117 : decode (ix_by 119) 117 = .ok (.imul, 1) := by decide +kernel
theorem d119_118 : decode (ix_by 119) 118 = .ok (.lshr, 1) := by decide +kernel
theorem d119_119 : decode (ix_by 119) 119 = .ok (.ldc2_w 162, 3) := by decide +kernel
theorem d119_122 : decode (ix_by 119) 122 = .ok (.land, 1) := by decide +kernel
theorem d119_123 : decode (ix_by 119) 123 = .ok (.l2i, 1) := by decide +kernel
theorem d119_124 : decode (ix_by 119) 124 = .ok (.iastore, 1) := by decide +kernel
theorem d119_125 : decode (ix_by 119) 125 = .ok (.iinc 7 1, 3) := by decide +kernel
theorem d119_128 : decode (ix_by 119) 128 = .ok (.goto (-43), 3) := by decide +kernel
theorem d119_131 : decode (ix_by 119) 131 = .ok (.aload_n 0, 1) := by decide +kernel
theorem d119_132 : decode (ix_by 119) 132 = .ok (.getfield 13, 3) := by decide +kernel
theorem d119_135 : decode (ix_by 119) 135 = .ok (.iload 6, 2) := by decide +kernel
theorem d119_137 : decode (ix_by 119) 137 = .ok (.aload_n 0, 1) := by decide +kernel
theorem d119_138 : decode (ix_by 119) 138 = .ok (.getfield 13, 3) := by decide +kernel
theorem d119_141 : decode (ix_by 119) 141 = .ok (.iload 6, 2) := by decide +kernel
theorem d119_143 : decode (ix_by 119) 143 = .ok (.iaload, 1) := by decide +kernel
theorem d119_144 : decode (ix_by 119) 144 = .ok (.iload_n 3, 1) := by decide +kernel
theorem d119_145 : decode (ix_by 119) 145 = .ok (.iadd, 1) := by decide +kernel
theorem d119_146 : decode (ix_by 119) 146 = .ok (.iastore, 1) := by decide +kernel
theorem d119_147 : decode (ix_by 119) 147 = .ok (.aload_n 0, 1) := by decide +kernel
theorem d119_148 : decode (ix_by 119) 148 = .ok (.getfield 13, 3) := by decide +kernel
theorem d119_151 : decode (ix_by 119) 151 = .ok (.iload 6, 2) := by decide +kernel
theorem d119_153 : decode (ix_by 119) 153 = .ok (.iaload, 1) := by decide +kernel
theorem d119_154 : decode (ix_by 119) 154 = .ok (.ireturn, 1) := by decide +kernel
theorem d120_0 : decode (ix_by 120) 0 = .ok (.aload_n 0, 1) := by decide +kernel
theorem d120_1 : decode (ix_by 120) 1 = .ok (.iload_n 1, 1) := by decide +kernel
theorem d120_2 : decode (ix_by 120) 2 = .ok (.putfield 144, 3) := by decide +kernel
theorem d120_5 : decode (ix_by 120) 5 = .ok (.iconst 0, 1) := by decide +kernel
theorem d120_6 : decode (ix_by 120) 6 = .ok (.ireturn, 1) := by decide +kernel
theorem d121_0 : decode (ix_by 121) 0 = .ok (.iconst 0, 1) := by decide +kernel
theorem d121_1 : decode (ix_by 121) 1 = .ok (.istore_n 3, 1) := by decide +kernel
theorem d121_2 : decode (ix_by 121) 2 = .ok (.iconst 0, 1) := by decide +kernel
theorem d121_3 : decode (ix_by 121) 3 = .ok (.istore 4, 2) := by decide +kernel
theorem d121_5 : decode (ix_by 121) 5 = .ok (.iload 4, 2) := by decide +kernel
theorem d121_7 : decode (ix_by 121) 7 = .ok (.aload_n 0, 1) := by decide +kernel
theorem d121_8 : decode (ix_by 121) 8 = .ok (.getfield 125, 3) := by decide +kernel
theorem d121_11 : decode (ix_by 121) 11 = .ok (.iload_n 1, 1) := by decide +kernel
theorem d121_12 : decode (ix_by 121) 12 = .ok (.iaload, 1) := by decide +kernel
theorem d121_13 : decode (ix_by 121) 13 = .ok (.if_icmp .ge 39, 3) := by decide +kernel
theorem d121_16 : decode (ix_by 121) 16 = .ok (.iload_n 3, 1) := by decide +kernel
theorem d121_17 : decode (ix_by 121) 17 = .ok (.ifCond .ne 23, 3) := by decide +kernel
theorem d121_20 : decode (ix_by 121) 20 = .ok (.aload_n 0, 1) := by decide +kernel
theorem d121_21 : decode (ix_by 121) 21 = .ok (.getfield 26, 3) := by decide +kernel
theorem d121_24 : decode (ix_by 121) 24 = .ok (.aload_n 0, 1) := by decide +kernel
theorem d121_25 : decode (ix_by 121) 25 = .ok (.getfield 119, 3) := by decide +kernel
theorem d121_28 : decode (ix_by 121) 28 = .ok (.iconst 3, 1) := by decide +kernel
theorem d121_29 : decode (ix_by 121) 29 = .ok (.iload_n 1, 1) := by decide +kernel
theorem d121_30 : decode (ix_by 121) 30 = .ok (.imul, 1) := by decide +kernel
theorem d121_31 : decode (ix_by 121) 31 = .ok (.iload 4, 2) := by decide +kernel
theorem d121_33 : decode (ix_by 121) 33 = .ok (.iadd, 1) := by decide +kernel
theorem d121_34 : decode (ix_by 121) 34 = .ok (.iaload, 1) := by decide +kernel
theorem d121_35 : decode (ix_by 121) 35 = .ok (.iaload, 1) := by decide +kernel
theorem d121_36 : decode (ix_by 121) 36 = .ok (.iload_n 2, 1) := by decide +kernel
theorem d121_37 : decode (ix_by 121) 37 = .ok (.if_icmp .ne 7, 3) := by decide +kernel
theorem d121_40 : decode (ix_by 121) 40 = .ok (.iconst 1, 1) := by decide +kernel
theorem d121_41 : decode (ix_by 121) 41 = .ok (.goto 4, 3) := by decide +kernel
theorem d121_44 : decode (ix_by 121) 44 = .ok (.iconst 0, 1) := by decide +kernel
theorem d121_45 : decode (ix_by 121) 45 = .ok (.istore_n 3, 1) := by decide +kernel
theorem d121_46 : decode (ix_by 121) 46 = .ok (.iinc 4 1, 3) := by decide +kernel
theorem d121_49 : decode (ix_by 121) 49 = .ok (.goto (-44), 3) := by decide +kernel
theorem d121_52 : decode (ix_by 121) 52 = .ok (.iload_n 3, 1) := by decide +kernel
theorem d121_53 : decode (ix_by 121) 53 = .ok (.ireturn, 1) := by decide +kernel
theorem d122_0 : decode (ix_by 122) 0 = .ok (.aload_n 0, 1) := by decide +kernel
theorem d122_1 : decode (ix_by 122) 1 = .ok (.iconst 0, 1) := by decide +kernel
theorem d122_2 : decode (ix_by 122) 2 = .ok (.putfield 144, 3) := by decide +kernel
theorem d122_5 : decode (ix_by 122) 5 = .ok (.iload_n 1, 1) := by decide +kernel
theorem d122_6 : decode (ix_by 122) 6 = .ok (.iload_n 2, 1) := by decide +kernel
theorem d122_7 : decode (ix_by 122) 7 = .ok (.invokestatic 151, 3) := by decide +kernel
theorem d122_10 : decode (ix_by 122) 10 = .ok (.ifCond .eq 17, 3) := by decide +kernel
theorem d122_13 : decode (ix_by 122) 13 = .ok (.aload_n 0, 1) := by decide +kernel
theorem d122_14 : decode (ix_by 122) 14 = .ok (.getfield 7, 3) := by decide +kernel
theorem d122_17 : decode (ix_by 122) 17 = .ok (.bipush 6, 2) := by decide +kernel
theorem d122_19 : decode (ix_by 122) 19 = .ok (.iload_n 1, 1) := by decide +kernel
theorem d122_20 : decode (ix_by 122) 20 = .ok (.imul, 1) := by decide +kernel
theorem d122_21 : decode (ix_by 122) 21 = .ok (.iload_n 2, 1) := by decide +kernel
theorem d122_22 : decode (ix_by 122) 22 = .ok (.iadd, 1) := by decide +kernel
theorem d122_23 : decode (ix_by 122) 23 = .ok (.baload, 1) := by decide +kernel
theorem d122_24 : decode (ix_by 122) 24 = .ok (.ifCond .ne 11, 3) := by decide +kernel
theorem d122_27 : decode (ix_by 122) 27 = .ok (.aload_n 0, 1) := by decide +kernel
theorem d122_28 : decode (ix_by 122) 28 = .ok (.iconst 1, 1) := by decide +kernel
theorem d122_29 : decode (ix_by 122) 29 = .ok (.putfield 144, 3) := by decide +kernel
theorem d122_32 : decode (ix_by 122) 32 = .ok (.goto 32, 3) := by decide +kernel
theorem d122_35 : decode (ix_by 122) 35 = .ok (.aload_n 0, 1) := by decide +kernel
theorem d122_36 : decode (ix_by 122) 36 = .ok (.iload_n 1, 1) := by decide +kernel
theorem d122_37 : decode (ix_by 122) 37 = .ok (.iload_n 2, 1) := by decide +kernel
theorem d122_38 : decode (ix_by 122) 38 = .ok (.invokevirtual 159, 3) := by decide +kernel
theorem d122_41 : decode (ix_by 122) 41 = .ok (.ifCond .eq 11, 3) := by decide +kernel
theorem d122_44 : decode (ix_by 122) 44 = .ok (.aload_n 0, 1) := by decide +kernel
theorem d122_45 : decode (ix_by 122) 45 = .ok (.iconst 2, 1) := by decide +kernel
theorem d122_46 : decode (ix_by 122) 46 = .ok (.putfield 144, 3) := by decide +kernel
theorem d122_49 : decode (ix_by 122) 49 = .ok (.goto 15, 3) := by decide +kernel
theorem d122_52 : decode (ix_by 122) 52 = .ok (.aload_n 0, 1) := by decide +kernel
theorem d122_53 : decode (ix_by 122) 53 = .ok (.getfield 7, 3) := by decide +kernel
theorem d122_56 : decode (ix_by 122) 56 = .ok (.bipush 6, 2) := by decide +kernel
theorem d122_58 : decode (ix_by 122) 58 = .ok (.iload_n 1, 1) := by decide +kernel
theorem d122_59 : decode (ix_by 122) 59 = .ok (.imul, 1) := by decide +kernel
theorem d122_60 : decode (ix_by 122) 60 = .ok (.iload_n 2, 1) := by decide +kernel
theorem d122_61 : decode (ix_by 122) 61 = .ok (.iadd, 1) := by decide +kernel
theorem d122_62 : decode (ix_by 122) 62 = .ok (.iconst 0, 1) := by decide +kernel
theorem d122_63 : decode (ix_by 122) 63 = .ok (.bastore, 1) := by decide +kernel
theorem d122_64 : decode (ix_by 122) 64 = .ok (.aload_n 0, 1) := by decide +kernel
theorem d122_65 : decode (ix_by 122) 65 = .ok (.getfield 144, 3) := by decide +kernel
theorem d122_68 : decode (ix_by 122) 68 = .ok (.ifCond .ne 7, 3) := by decide +kernel
theorem d122_71 : decode (ix_by 122) 71 = .ok (.iconst 1, 1) := by decide +kernel
theorem d122_72 : decode (ix_by 122) 72 = .ok (.goto 4, 3) := by decide +kernel
theorem d122_75 : decode (ix_by 122) 75 = .ok (.iconst 0, 1) := by decide +kernel
theorem d122_76 : decode (ix_by 122) 76 = .ok (.ireturn, 1) := by decide +kernel
theorem d123_0 : decode (ix_by 123) 0 = .ok (.aload_n 0, 1) := by decide +kernel
theorem d123_1 : decode (ix_by 123) 1 = .ok (.iconst 0, 1) := by decide +kernel
theorem d123_2 : decode (ix_by 123) 2 = .ok (.putfield 144, 3) := by decide +kernel
theorem d123_5 : decode (ix_by 123) 5 = .ok (.iload_n 1, 1) := by decide +kernel
theorem d123_6 : decode (ix_by 123) 6 = .ok (.iload_n 2, 1) := by decide +kernel
theorem d123_7 : decode (ix_by 123) 7 = .ok (.invokestatic 151, 3) := by decide +kernel
theorem d123_10 : decode (ix_by 123) 10 = .ok (.ifCond .eq 31, 3) := by decide +kernel
theorem d123_13 : decode (ix_by 123) 13 = .ok (.aload_n 0, 1) := by decide +kernel
theorem d123_14 : decode (ix_by 123) 14 = .ok (.getfield 7, 3) := by decide +kernel
theorem d123_17 : decode (ix_by 123) 17 = .ok (.bipush 6, 2) := by decide +kernel
theorem d123_19 : decode (ix_by 123) 19 = .ok (.iload_n 1, 1) := by decide +kernel
theorem d123_20 : decode (ix_by 123) 20 = .ok (.imul, 1) := by decide +kernel
theorem d123_21 : decode (ix_by 123) 21 = .ok (.iload_n 2, 1) := by decide +kernel
theorem d123_22 : decode (ix_by 123) 22 = .ok (.iadd, 1) := by decide +kernel
theorem d123_23 : decode (ix_by 123) 23 = .ok (.baload, 1) := by decide +kernel
theorem d123_24 : decode (ix_by 123) 24 = .ok (.ifCond .eq 17, 3) := by decide +kernel
theorem d123_27 : decode (ix_by 123) 27 = .ok (.aload_n 0, 1) := by decide +kernel
theorem d123_28 : decode (ix_by 123) 28 = .ok (.getfield 13, 3) := by decide +kernel
theorem d123_31 : decode (ix_by 123) 31 = .ok (.bipush 6, 2) := by decide +kernel
theorem d123_33 : decode (ix_by 123) 33 = .ok (.iload_n 1, 1) := by decide +kernel
theorem d123_34 : decode (ix_by 123) 34 = .ok (.imul, 1) := by decide +kernel
theorem d123_35 : decode (ix_by 123) 35 = .ok (.iload_n 2, 1) := by decide +kernel
theorem d123_36 : decode (ix_by 123) 36 = .ok (.iadd, 1) := by decide +kernel
theorem d123_37 : decode (ix_by 123) 37 = .ok (.iaload, 1) := by decide +kernel
theorem d123_38 : decode (ix_by 123) 38 = .ok (.goto 4, 3) := by decide +kernel
theorem d123_41 : decode (ix_by 123) 41 = .ok (.iconst (-1), 1) := by decide +kernel
theorem d123_42 : decode (ix_by 123) 42 = .ok (.ireturn, 1) := by decide +kernel
theorem d124_0 : decode (ix_by 124) 0 = .ok (.aload_n 0, 1) := by decide +kernel
theorem d124_1 : decode (ix_by 124) 1 = .ok (.iconst 0, 1) := by decide +kernel
theorem d124_2 : decode (ix_by 124) 2 = .ok (.putfield 144, 3) := by decide +kernel
theorem d124_5 : decode (ix_by 124) 5 = .ok (.iload_n 1, 1) := by decide +kernel
theorem d124_6 : decode (ix_by 124) 6 = .ok (.iload_n 2, 1) := by decide +kernel
theorem d124_7 : decode (ix_by 124) 7 = .ok (.invokestatic 151, 3) := by decide +kernel
theorem d124_10 : decode (ix_by 124) 10 = .ok (.ifCond .eq 17, 3) := by decide +kernel
theorem d124_13 : decode (ix_by 124) 13 = .ok (.aload_n 0, 1) := by decide +kernel
theorem d124_14 : decode (ix_by 124) 14 = .ok (.getfield 7, 3) := by decide +kernel
theorem d124_17 : decode (ix_by 124) 17 = .ok (.bipush 6, 2) := by decide +kernel
theorem d124_19 : decode (ix_by 124) 19 = .ok (.iload_n 1, 1) := by decide +kernel
theorem d124_20 : decode (ix_by 124) 20 = .ok (.imul, 1) := by decide +kernel
theorem d124_21 : decode (ix_by 124) 21 = .ok (.iload_n 2, 1) := by decide +kernel
theorem d124_22 : decode (ix_by 124) 22 = .ok (.iadd, 1) := by decide +kernel
theorem d124_23 : decode (ix_by 124) 23 = .ok (.baload, 1) := by decide +kernel
theorem d124_24 : decode (ix_by 124) 24 = .ok (.ifCond .ne 9, 3) := by decide +kernel
theorem d124_27 : decode (ix_by 124) 27 = .ok (.aload_n 0, 1) := by decide +kernel
theorem d124_28 : decode (ix_by 124) 28 = .ok (.iconst 1, 1) := by decide +kernel
theorem d124_29 : decode (ix_by 124) 29 = .ok (.invokevirtual 155, 3) := by decide +kernel
theorem d124_32 : decode (ix_by 124) 32 = .ok (.ireturn, 1) := by decide +kernel
theorem d124_33 : decode (ix_by 124) 33 = .ok (.iload_n 3, 1) := by decide +kernel
theorem d124_34 : decode (ix_by 124) 34 = .ok (.ifCond .lt 18, 3) := by decide +kernel
theorem d124_37 : decode (ix_by 124) 37 = .ok (.iload_n 3, 1) := by decide +kernel
theorem d124_38 : decode (ix_by 124) 38 = .ok (.aload_n 0, 1) := by decide +kernel
theorem d124_39 : decode (ix_by 124) 39 = .ok (.getfield 13, 3) := by decide +kernel
theorem d124_42 : decode (ix_by 124) 42 = .ok (.bipush 6, 2) := by decide +kernel
theorem d124_44 : decode (ix_by 124) 44 = .ok (.iload_n 1, 1) := by decide +kernel
theorem d124_45 : decode (ix_by 124) 45 = .ok (.imul, 1) := by decide +kernel
theorem d124_46 : decode (ix_by 124) 46 = .ok (.iload_n 2, 1) := by decide +kernel
theorem d124_47 : decode (ix_by 124) 47 = .ok (.iadd, 1) := by decide +kernel
theorem d124_48 : decode (ix_by 124) 48 = .ok (.iaload, 1) := by decide +kernel
theorem d124_49 : decode (ix_by 124) 49 = .ok (.if_icmp .lt 9, 3) := by decide +kernel
theorem d124_52 : decode (ix_by 124) 52 = .ok (.aload_n 0, 1) := by decide +kernel
theorem d124_53 : decode (ix_by 124) 53 = .ok (.iconst 2, 1) := by decide +kernel
theorem d124_54 : decode (ix_by 124) 54 = .ok (.invokevirtual 155, 3) := by decide +kernel
theorem d124_57 : decode (ix_by 124) 57 = .ok (.ireturn, 1) := by decide +kernel
theorem d124_58 : decode (ix_by 124) 58 = .ok (.aload_n 0, 1) := by decide +kernel
theorem d124_59 : decode (ix_by 124) 59 = .ok (.getfield 17, 3) := by decide +kernel
theorem d124_62 : decode (ix_by 124) 62 = .ok (.bipush 64, 2) := by decide +kernel
theorem d124_64 : decode (ix_by 124) 64 = .ok (.bipush 6, 2) := by decide +kernel
theorem d124_66 : decode (ix_by 124) 66 = .ok (.iload_n 1, 1) := by decide +kernel
theorem d124_67 : decode (ix_by 124) 67 = .ok (.imul, 1) := by decide +kernel
theorem d124_68 : decode (ix_by 124) 68 = .ok (.iload_n 2, 1) := by decide +kernel
theorem d124_69 : decode (ix_by 124) 69 = .ok (.iadd, 1) := by decide +kernel
theorem d124_70 : decode (ix_by 124) 70 = .ok (.imul, 1) := by decide +kernel
theorem d124_71 : decode (ix_by 124) 71 = .ok (.iload_n 3, 1) := by decide +kernel
theorem d124_72 : decode (ix_by 124) 72 = .ok (.iadd, 1) := by decide +kernel
theorem d124_73 : decode (ix_by 124) 73 = .ok (.iaload, 1) := by decide +kernel
theorem d124_74 : decode (ix_by 124) 74 = .ok (.ireturn, 1) := by decide +kernel
