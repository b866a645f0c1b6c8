/-! decode rows (written by wip/whole/gen4.py) -/
theorem d156_0 : decode (ix_by 156) 0 = .ok (.aload_n 0, 1) := by decide +kernel
theorem d156_1 : decode (ix_by 156) 1 = .ok (.getfield 98, 3) := by decide +kernel
theorem d156_4 : decode (ix_by 156) 4 = .ok (.aload_n 0, 1) := by decide +kernel
theorem d156_5 : decode (ix_by 156) 5 = .ok (.getfield 74, 3) := by decide +kernel
theorem d156_8 : decode (ix_by 156) 8 = .ok (.iload_n 1, 1) := by decide +kernel
theorem d156_9 : decode (ix_by 156) 9 = .ok (.iaload, 1) := by decide +kernel
theorem d156_10 : decode (ix_by 156) 10 = .ok (.iaload, 1) := by decide +kernel
theorem d156_11 : decode (ix_by 156) 11 = .ok (.ifCond .ne 4, 3) := by decide +kernel
theorem d156_14 : decode (ix_by 156) 14 = .ok (.return_, 1) := by decide +kernel
theorem d156_15 : decode (ix_by 156) 15 = .ok (.bipush 6, 2) := by decide +kernel
theorem d156_17 : decode (ix_by 156) 17 = .ok (.iload_n 2, 1) := by decide +kernel
theorem d156_18 : decode (ix_by 156) 18 = .ok (.imul, 1) := by decide +kernel
theorem d156_19 : decode (ix_by 156) 19 = .ok (.aload_n 0, 1) := by decide +kernel
theorem d156_20 : decode (ix_by 156) 20 = .ok (.getfield 101, 3) := by decide +kernel
theorem d156_23 : decode (ix_by 156) 23 = .ok (.aload_n 0, 1) := by decide +kernel
theorem d156_24 : decode (ix_by 156) 24 = .ok (.getfield 74, 3) := by decide +kernel
theorem d156_27 : decode (ix_by 156) 27 = .ok (.iload_n 1, 1) := by decide +kernel
theorem d156_28 : decode (ix_by 156) 28 = .ok (.iaload, 1) := by decide +kernel
theorem d156_29 : decode (ix_by 156) 29 = .ok (.iaload, 1) := by decide +kernel
theorem d156_30 : decode (ix_by 156) 30 = .ok (.iadd, 1) := by decide +kernel
theorem d156_31 : decode (ix_by 156) 31 = .ok (.istore 4, 2) := by decide +kernel
theorem d156_33 : decode (ix_by 156) 33 = .ok (.aload_n 0, 1) := by decide +kernel
theorem d156_34 : decode (ix_by 156) 34 = .ok (.iload_n 2, 1) := by decide +kernel
theorem d156_35 : decode (ix_by 156) 35 = .ok (.aload_n 0, 1) := by decide +kernel
theorem d156_36 : decode (ix_by 156) 36 = .ok (.getfield 101, 3) := by decide +kernel
theorem d156_39 : decode (ix_by 156) 39 = .ok (.aload_n 0, 1) := by decide +kernel
theorem d156_40 : decode (ix_by 156) 40 = .ok (.getfield 74, 3) := by decide +kernel
theorem d156_43 : decode (ix_by 156) 43 = .ok (.iload_n 1, 1) := by decide +kernel
theorem d156_44 : decode (ix_by 156) 44 = .ok (.iaload, 1) := by decide +kernel
theorem d156_45 : decode (ix_by 156) 45 = .ok (.iaload, 1) := by decide +kernel
theorem d156_46 : decode (ix_by 156) 46 = .ok (.invokevirtual 159, 3) := by decide +kernel
theorem d156_49 : decode (ix_by 156) 49 = .ok (.ifCond .ne 32, 3) := by decide +kernel
theorem d156_52 : decode (ix_by 156) 52 = .ok (.aload_n 0, 1) := by decide +kernel
theorem d156_53 : decode (ix_by 156) 53 = .ok (.getfield 98, 3) := by decide +kernel
theorem d156_56 : decode (ix_by 156) 56 = .ok (.aload_n 0, 1) := by decide +kernel
theorem d156_57 : decode (ix_by 156) 57 = .ok (.getfield 74, 3) := by decide +kernel
theorem d156_60 : decode (ix_by 156) 60 = .ok (.iload_n 1, 1) := by decide +kernel
theorem d156_61 : decode (ix_by 156) 61 = .ok (.iaload, 1) := by decide +kernel
theorem d156_62 : decode (ix_by 156) 62 = .ok (.iaload, 1) := by decide +kernel
theorem d156_63 : decode (ix_by 156) 63 = .ok (.iconst 2, 1) := by decide +kernel
theorem d156_64 : decode (ix_by 156) 64 = .ok (.if_icmp .eq 13, 3) := by decide +kernel
theorem d156_67 : decode (ix_by 156) 67 = .ok (.aload_n 0, 1) := by decide +kernel
theorem d156_68 : decode (ix_by 156) 68 = .ok (.getfield 7, 3) := by decide +kernel
theorem d156_71 : decode (ix_by 156) 71 = .ok (.iload 4, 2) := by decide +kernel
theorem d156_73 : decode (ix_by 156) 73 = .ok (.baload, 1) := by decide +kernel
theorem d156_74 : decode (ix_by 156) 74 = .ok (.ifCond .eq 7, 3) := by decide +kernel
theorem d156_77 : decode (ix_by 156) 77 = .ok (.iconst 1, 1) := by decide +kernel
theorem d156_78 : decode (ix_by 156) 78 = .ok (.goto 4, 3) := by decide +kernel
theorem d156_81 : decode (ix_by 156) 81 = .ok (.iconst 0, 1) := by decide +kernel
theorem d156_82 : decode (ix_by 156) 82 = .ok (.istore 5, 2) := by decide +kernel
theorem d156_84 : decode (ix_by 156) 84 = .ok (.aload_n 0, 1) := by decide +kernel
theorem d156_85 : decode (ix_by 156) 85 = .ok (.getfield 71, 3) := by decide +kernel
theorem d156_88 : decode (ix_by 156) 88 = .ok (.iload_n 1, 1) := by decide +kernel
theorem d156_89 : decode (ix_by 156) 89 = .ok (.iload 5, 2) := by decide +kernel
theorem d156_91 : decode (ix_by 156) 91 = .ok (.ifCond .eq 7, 3) := by decide +kernel
theorem d156_94 : decode (ix_by 156) 94 = .ok (.iconst 1, 1) := by decide +kernel
theorem d156_95 : decode (ix_by 156) 95 = .ok (.goto 4, 3) := by decide +kernel
theorem d156_98 : decode (ix_by 156) 98 = .ok (.iconst 2, 1) := by decide +kernel
theorem d156_99 : decode (ix_by 156) 99 = .ok (.iastore, 1) := by decide +kernel
theorem d156_100 : decode (ix_by 156) 100 = .ok (.iload 5, 2) := by decide +kernel
theorem d156_102 : decode (ix_by 156) 102 = .ok (.ifCond .ne 4, 3) := by decide +kernel
theorem d156_105 : decode (ix_by 156) 105 = .ok (.return_, 1) := by decide +kernel
theorem d156_106 : decode (ix_by 156) 106 = .ok (.aload_n 0, 1) := by decide +kernel
theorem d156_107 : decode (ix_by 156) 107 = .ok (.getfield 98, 3) := by decide +kernel
theorem d156_110 : decode (ix_by 156) 110 = .ok (.aload_n 0, 1) := by decide +kernel
theorem d156_111 : decode (ix_by 156) 111 = .ok (.getfield 74, 3) := by decide +kernel
theorem d156_114 : decode (ix_by 156) 114 = .ok (.iload_n 1, 1) := by decide +kernel
theorem d156_115 : decode (ix_by 156) 115 = .ok (.iaload, 1) := by decide +kernel
theorem d156_116 : decode (ix_by 156) 116 = .ok (.iaload, 1) := by decide +kernel
theorem d156_117 : decode (ix_by 156) 117 = .ok (.iconst 1, 1) := by decide +kernel
theorem d156_118 : decode (ix_by 156) 118 = .ok (.if_icmp .ne 12, 3) := by decide +kernel
theorem d156_121 : decode (ix_by 156) 121 = .ok (.aload_n 0, 1) := by decide +kernel
theorem d156_122 : decode (ix_by 156) 122 = .ok (.getfield 7, 3) := by decide +kernel
theorem d156_125 : decode (ix_by 156) 125 = .ok (.iload 4, 2) := by decide +kernel
theorem d156_127 : decode (ix_by 156) 127 = .ok (.iconst 0, 1) := by decide +kernel
theorem d156_128 : decode (ix_by 156) 128 = .ok (.bastore, 1) := by decide +kernel
theorem d156_129 : decode (ix_by 156) 129 = .ok (.return_, 1) := by decide +kernel
theorem d156_130 : decode (ix_by 156) 130 = .ok (.aload_n 0, 1) := by decide +kernel
theorem d156_131 : decode (ix_by 156) 131 = .ok (.getfield 7, 3) := by decide +kernel
theorem d156_134 : decode (ix_by 156) 134 = .ok (.iload 4, 2) := by decide +kernel
theorem d156_136 : decode (ix_by 156) 136 = .ok (.iconst 1, 1) := by decide +kernel
theorem d156_137 : decode (ix_by 156) 137 = .ok (.bastore, 1) := by decide +kernel
theorem d156_138 : decode (ix_by 156) 138 = .ok (.aload_n 0, 1) := by decide +kernel
theorem d156_139 : decode (ix_by 156) 139 = .ok (.getfield 13, 3) := by decide +kernel
theorem d156_142 : decode (ix_by 156) 142 = .ok (.iload 4, 2) := by decide +kernel
theorem d156_144 : decode (ix_by 156) 144 = .ok (.aload_n 0, 1) := by decide +kernel
theorem d156_145 : decode (ix_by 156) 145 = .ok (.getfield 13, 3) := by decide +kernel
theorem d156_148 : decode (ix_by 156) 148 = .ok (.iload_n 3, 1) := by decide +kernel
theorem d156_149 : decode (ix_by 156) 149 = .ok (.iaload, 1) := by decide +kernel
theorem d156_150 : decode (ix_by 156) 150 = .ok (.iastore, 1) := by decide +kernel
theorem d156_151 : decode (ix_by 156) 151 = .ok (.iconst 0, 1) := by decide +kernel
theorem d156_152 : decode (ix_by 156) 152 = .ok (.istore 6, 2) := by decide +kernel
theorem d156_154 : decode (ix_by 156) 154 = .ok (.iload 6, 2) := by decide +kernel
theorem d156_156 : decode (ix_by 156) 156 = .ok (.aload_n 0, 1) := by decide +kernel
theorem d156_157 : decode (ix_by 156) 157 = .ok (.getfield 13, 3) := by decide +kernel
theorem d156_160 : decode (ix_by 156) 160 = .ok (.iload_n 3, 1) := by decide +kernel
theorem d156_161 : decode (ix_by 156) 161 = .ok (.iaload, 1) := by decide +kernel
theorem d156_162 : decode (ix_by 156) 162 = .ok (.if_icmp .ge 34, 3) := by decide +kernel
theorem d156_165 : decode (ix_by 156) 165 = .ok (.aload_n 0, 1) := by decide +kernel
theorem d156_166 : decode (ix_by 156) 166 = .ok (.getfield 17, 3) := by decide +kernel
theorem d156_169 : decode (ix_by 156) 169 = .ok (.bipush 64, 2) := by decide +kernel
theorem d156_171 : decode (ix_by 156) 171 = .ok (.iload 4, 2) := by decide +kernel
theorem d156_173 : decode (ix_by 156) 173 = .ok (.imul, 1) := by decide +kernel
theorem d156_174 : decode (ix_by 156) 174 = .ok (.iload 6, 2) := by decide +kernel
theorem d156_176 : decode (ix_by 156) 176 = .ok (.iadd, 1) := by decide +kernel
theorem d156_177 : decode (ix_by 156) 177 = .ok (.aload_n 0, 1) := by decide +kernel
theorem d156_178 : decode (ix_by 156) 178 = .ok (.getfield 17, 3) := by decide +kernel
theorem d156_181 : decode (ix_by 156) 181 = .ok (.bipush 64, 2) := by decide +kernel
theorem d156_183 : decode (ix_by 156) 183 = .ok (.iload_n 3, 1) := by decide +kernel
theorem d156_184 : decode (ix_by 156) 184 = .ok (.imul, 1) := by decide +kernel
theorem d156_185 : decode (ix_by 156) 185 = .ok (.iload 6, 2) := by decide +kernel
theorem d156_187 : decode (ix_by 156) 187 = .ok (.iadd, 1) := by decide +kernel
theorem d156_188 : decode (ix_by 156) 188 = .ok (.iaload, 1) := by decide +kernel
theorem d156_189 : decode (ix_by 156) 189 = .ok (.iastore, 1) := by decide +kernel
theorem d156_190 : decode (ix_by 156) 190 = .ok (.iinc 6 1, 3) := by decide +kernel
theorem d156_193 : decode (ix_by 156) 193 = .ok (.goto (-39), 3) := by decide +kernel
theorem d156_196 : decode (ix_by 156) 196 = .ok (.return_, 1) := by decide +kernel
theorem d157_0 : decode (ix_by 157) 0 = .ok (.aload_n 0, 1) := by decide +kernel
theorem d157_1 : decode (ix_by 157) 1 = .ok (.iconst 0, 1) := by decide +kernel
theorem d157_2 : decode (ix_by 157) 2 = .ok (.putfield 144, 3) := by decide +kernel
theorem d157_5 : decode (ix_by 157) 5 = .ok (.aload_n 0, 1) := by decide +kernel
theorem d157_6 : decode (ix_by 157) 6 = .ok (.iload_n 1, 1) := by decide +kernel
theorem d157_7 : decode (ix_by 157) 7 = .ok (.invokevirtual 249, 3) := by decide +kernel
theorem d157_10 : decode (ix_by 157) 10 = .ok (.ifCond .ne 5, 3) := by decide +kernel
theorem d157_13 : decode (ix_by 157) 13 = .ok (.iconst 0, 1) := by decide +kernel
theorem d157_14 : decode (ix_by 157) 14 = .ok (.ireturn, 1) := by decide +kernel
theorem d157_15 : decode (ix_by 157) 15 = .ok (.aload_n 0, 1) := by decide +kernel
theorem d157_16 : decode (ix_by 157) 16 = .ok (.iload_n 1, 1) := by decide +kernel
theorem d157_17 : decode (ix_by 157) 17 = .ok (.invokevirtual 253, 3) := by decide +kernel
theorem d157_20 : decode (ix_by 157) 20 = .ok (.iconst 1, 1) := by decide +kernel
theorem d157_21 : decode (ix_by 157) 21 = .ok (.ireturn, 1) := by decide +kernel
theorem d158_0 : decode (ix_by 158) 0 = .ok (.aload_n 0, 1) := by decide +kernel
theorem d158_1 : decode (ix_by 158) 1 = .ok (.iconst 0, 1) := by decide +kernel
theorem d158_2 : decode (ix_by 158) 2 = .ok (.putfield 144, 3) := by decide +kernel
theorem d158_5 : decode (ix_by 158) 5 = .ok (.aload_n 0, 1) := by decide +kernel
theorem d158_6 : decode (ix_by 158) 6 = .ok (.iload_n 1, 1) := by decide +kernel
theorem d158_7 : decode (ix_by 158) 7 = .ok (.invokevirtual 249, 3) := by decide +kernel
theorem d158_10 : decode (ix_by 158) 10 = .ok (.ifCond .eq 12, 3) := by decide +kernel
theorem d158_13 : decode (ix_by 158) 13 = .ok (.aload_n 0, 1) := by decide +kernel
theorem d158_14 : decode (ix_by 158) 14 = .ok (.getfield 171, 3) := by decide +kernel
theorem d158_17 : decode (ix_by 158) 17 = .ok (.bipush 24, 2) := by decide +kernel
theorem d158_19 : decode (ix_by 158) 19 = .ok (.if_icmp .ne 5, 3) := by decide +kernel
theorem d158_22 : decode (ix_by 158) 22 = .ok (.iconst 0, 1) := by decide +kernel
theorem d158_23 : decode (ix_by 158) 23 = .ok (.ireturn, 1) := by decide +kernel
theorem d158_24 : decode (ix_by 158) 24 = .ok (.iconst 0, 1) := by decide +kernel
theorem d158_25 : decode (ix_by 158) 25 = .ok (.istore_n 2, 1) := by decide +kernel
theorem d158_26 : decode (ix_by 158) 26 = .ok (.iload_n 2, 1) := by decide +kernel
theorem d158_27 : decode (ix_by 158) 27 = .ok (.bipush 11, 2) := by decide +kernel
theorem d158_29 : decode (ix_by 158) 29 = .ok (.if_icmp .ge 34, 3) := by decide +kernel
theorem d158_32 : decode (ix_by 158) 32 = .ok (.aload_n 0, 1) := by decide +kernel
theorem d158_33 : decode (ix_by 158) 33 = .ok (.getfield 131, 3) := by decide +kernel
theorem d158_36 : decode (ix_by 158) 36 = .ok (.bipush 11, 2) := by decide +kernel
theorem d158_38 : decode (ix_by 158) 38 = .ok (.aload_n 0, 1) := by decide +kernel
theorem d158_39 : decode (ix_by 158) 39 = .ok (.getfield 171, 3) := by decide +kernel
theorem d158_42 : decode (ix_by 158) 42 = .ok (.imul, 1) := by decide +kernel
theorem d158_43 : decode (ix_by 158) 43 = .ok (.iload_n 2, 1) := by decide +kernel
theorem d158_44 : decode (ix_by 158) 44 = .ok (.iadd, 1) := by decide +kernel
theorem d158_45 : decode (ix_by 158) 45 = .ok (.aload_n 0, 1) := by decide +kernel
theorem d158_46 : decode (ix_by 158) 46 = .ok (.getfield 131, 3) := by decide +kernel
theorem d158_49 : decode (ix_by 158) 49 = .ok (.bipush 11, 2) := by decide +kernel
theorem d158_51 : decode (ix_by 158) 51 = .ok (.iload_n 1, 1) := by decide +kernel
theorem d158_52 : decode (ix_by 158) 52 = .ok (.imul, 1) := by decide +kernel
theorem d158_53 : decode (ix_by 158) 53 = .ok (.iload_n 2, 1) := by decide +kernel
theorem d158_54 : decode (ix_by 158) 54 = .ok (.iadd, 1) := by decide +kernel
theorem d158_55 : decode (ix_by 158) 55 = .ok (.iaload, 1) := by decide +kernel
theorem d158_56 : decode (ix_by 158) 56 = .ok (.iastore, 1) := by decide +kernel
theorem d158_57 : decode (ix_by 158) 57 = .ok (.iinc 2 1, 3) := by decide +kernel
theorem d158_60 : decode (ix_by 158) 60 = .ok (.goto (-34), 3) := by decide +kernel
theorem d158_63 : decode (ix_by 158) 63 = .ok (.aload_n 0, 1) := by decide +kernel
theorem d158_64 : decode (ix_by 158) 64 = .ok (.dup, 1) := by decide +kernel
theorem d158_65 : decode (ix_by 158) 65 = .ok (.getfield 171, 3) := by decide +kernel
theorem d158_68 : decode (ix_by 158) 68 = .ok (.iconst 1, 1) := by decide +kernel
theorem d158_69 : decode (ix_by 158) 69 = .ok (.iadd, 1) := by decide +kernel
theorem d158_70 : decode (ix_by 158) 70 = .ok (.putfield 171, 3) := by decide +kernel
theorem d158_73 : decode (ix_by 158) 73 = .ok (.iconst 1, 1) := by decide +kernel
theorem d158_74 : decode (ix_by 158) 74 = .ok (.ireturn, 1) := by decide +kernel
theorem d159_0 : decode (ix_by 159) 0 = .ok (.aload_n 0, 1) := by decide +kernel
theorem d159_1 : decode (ix_by 159) 1 = .ok (.iconst 0, 1) := by decide +kernel
theorem d159_2 : decode (ix_by 159) 2 = .ok (.putfield 144, 3) := by decide +kernel
theorem d159_5 : decode (ix_by 159) 5 = .ok (.aload_n 0, 1) := by decide +kernel
theorem d159_6 : decode (ix_by 159) 6 = .ok (.iload_n 1, 1) := by decide +kernel
theorem d159_7 : decode (ix_by 159) 7 = .ok (.invokevirtual 249, 3) := by decide +kernel
theorem d159_10 : decode (ix_by 159) 10 = .ok (.ifCond .eq 16, 3) := by decide +kernel
theorem d159_13 : decode (ix_by 159) 13 = .ok (.aload_n 0, 1) := by decide +kernel
theorem d159_14 : decode (ix_by 159) 14 = .ok (.getfield 131, 3) := by decide +kernel
theorem d159_17 : decode (ix_by 159) 17 = .ok (.bipush 11, 2) := by decide +kernel
theorem d159_19 : decode (ix_by 159) 19 = .ok (.iload_n 1, 1) := by decide +kernel
theorem d159_20 : decode (ix_by 159) 20 = .ok (.imul, 1) := by decide +kernel
theorem d159_21 : decode (ix_by 159) 21 = .ok (.iaload, 1) := by decide +kernel
theorem d159_22 : decode (ix_by 159) 22 = .ok (.iconst 2, 1) := by decide +kernel
theorem d159_23 : decode (ix_by 159) 23 = .ok (.if_icmp .eq 5, 3) := by decide +kernel
theorem d159_26 : decode (ix_by 159) 26 = .ok (.iconst 0, 1) := by decide +kernel
theorem d159_27 : decode (ix_by 159) 27 = .ok (.ireturn, 1) := by decide +kernel
theorem d159_28 : decode (ix_by 159) 28 = .ok (.aload_n 0, 1) := by decide +kernel
theorem d159_29 : decode (ix_by 159) 29 = .ok (.getfield 131, 3) := by decide +kernel
theorem d159_32 : decode (ix_by 159) 32 = .ok (.bipush 11, 2) := by decide +kernel
theorem d159_34 : decode (ix_by 159) 34 = .ok (.iload_n 1, 1) := by decide +kernel
theorem d159_35 : decode (ix_by 159) 35 = .ok (.imul, 1) := by decide +kernel
theorem d159_36 : decode (ix_by 159) 36 = .ok (.iconst 4, 1) := by decide +kernel
theorem d159_37 : decode (ix_by 159) 37 = .ok (.iadd, 1) := by decide +kernel
theorem d159_38 : decode (ix_by 159) 38 = .ok (.iaload, 1) := by decide +kernel
theorem d159_39 : decode (ix_by 159) 39 = .ok (.istore_n 3, 1) := by decide +kernel
theorem d159_40 : decode (ix_by 159) 40 = .ok (.iconst 0, 1) := by decide +kernel
theorem d159_41 : decode (ix_by 159) 41 = .ok (.istore 4, 2) := by decide +kernel
theorem d159_43 : decode (ix_by 159) 43 = .ok (.iload 4, 2) := by decide +kernel
theorem d159_45 : decode (ix_by 159) 45 = .ok (.iload_n 3, 1) := by decide +kernel
theorem d159_46 : decode (ix_by 159) 46 = .ok (.if_icmp .ge 52, 3) := by decide +kernel
theorem d159_49 : decode (ix_by 159) 49 = .ok (.aload_n 0, 1) := by decide +kernel
theorem d159_50 : decode (ix_by 159) 50 = .ok (.getfield 131, 3) := by decide +kernel
theorem d159_53 : decode (ix_by 159) 53 = .ok (.bipush 11, 2) := by decide +kernel
theorem d159_55 : decode (ix_by 159) 55 = .ok (.iload_n 1, 1) := by decide +kernel
theorem d159_56 : decode (ix_by 159) 56 = .ok (.imul, 1) := by decide +kernel
theorem d159_57 : decode (ix_by 159) 57 = .ok (.iconst 5, 1) := by decide +kernel
theorem d159_58 : decode (ix_by 159) 58 = .ok (.iadd, 1) := by decide +kernel
theorem d159_59 : decode (ix_by 159) 59 = .ok (.aload_n 0, 1) := by decide +kernel
theorem d159_60 : decode (ix_by 159) 60 = .ok (.getfield 131, 3) := by decide +kernel
theorem d159_63 : decode (ix_by 159) 63 = .ok (.bipush 11, 2) := by decide +kernel
theorem d159_65 : decode (ix_by 159) 65 = .ok (.iload_n 1, 1) := by decide +kernel
theorem d159_66 : decode (ix_by 159) 66 = .ok (.imul, 1) := by decide +kernel
theorem d159_67 : decode (ix_by 159) 67 = .ok (.iconst 5, 1) := by decide +kernel
theorem d159_68 : decode (ix_by 159) 68 = .ok (.iadd, 1) := by decide +kernel
theorem d159_69 : decode (ix_by 159) 69 = .ok (.iaload, 1) := by decide +kernel
theorem d159_70 : decode (ix_by 159) 70 = .ok (.iload_n 2, 1) := by decide +kernel
theorem d159_71 : decode (ix_by 159) 71 = .ok (.bipush 8, 2) := by decide +kernel
theorem d159_73 : decode (ix_by 159) 73 = .ok (.iload 4, 2) := by decide +kernel
theorem d159_75 : decode (ix_by 159) 75 = .ok (.imul, 1) := by decide +kernel
theorem d159_76 : decode (ix_by 159) 76 = .ok (.ishr, 1) := by decide +kernel
theorem d159_77 : decode (ix_by 159) 77 = .ok (.sipush 255, 3) := by decide +kernel
theorem d159_80 : decode (ix_by 159) 80 = .ok (.iand, 1) := by decide +kernel
theorem d159_81 : decode (ix_by 159) 81 = .ok (.bipush 24, 2) := by decide +kernel
theorem d159_83 : decode (ix_by 159) 83 = .ok (.bipush 8, 2) := by decide +kernel
theorem d159_85 : decode (ix_by 159) 85 = .ok (.iload 4, 2) := by decide +kernel
theorem d159_87 : decode (ix_by 159) 87 = .ok (.imul, 1) := by decide +kernel
theorem d159_88 : decode (ix_by 159) 88 = .ok (.isub, 1) := by decide +kernel
theorem d159_89 : decode (ix_by 159) 89 = .ok (.ishl, 1) := by decide +kernel
theorem d159_90 : decode (ix_by 159) 90 = .ok (.ixor, 1) := by decide +kernel
theorem d159_91 : decode (ix_by 159) 91 = .ok (.iastore, 1) := by decide +kernel
theorem d159_92 : decode (ix_by 159) 92 = .ok (.iinc 4 1, 3) := by decide +kernel
theorem d159_95 : decode (ix_by 159) 95 = .ok (.goto (-52), 3) := by decide +kernel
theorem d159_98 : decode (ix_by 159) 98 = .ok (.iconst 1, 1) := by decide +kernel
theorem d159_99 : decode (ix_by 159) 99 = .ok (.ireturn, 1) := by decide +kernel
theorem d160_0 : decode (ix_by 160) 0 = .ok (.aload_n 0, 1) := by decide +kernel
theorem d160_1 : decode (ix_by 160) 1 = .ok (.iconst 0, 1) := by decide +kernel
theorem d160_2 : decode (ix_by 160) 2 = .ok (.putfield 144, 3) := by decide +kernel
theorem d160_5 : decode (ix_by 160) 5 = .ok (.aload_n 0, 1) := by decide +kernel
theorem d160_6 : decode (ix_by 160) 6 = .ok (.getfield 171, 3) := by decide +kernel
theorem d160_9 : decode (ix_by 160) 9 = .ok (.ireturn, 1) := by decide +kernel
theorem d161_0 : decode (ix_by 161) 0 = .ok (.aload_n 0, 1) := by decide +kernel
theorem d161_1 : decode (ix_by 161) 1 = .ok (.iconst 0, 1) := by decide +kernel
theorem d161_2 : decode (ix_by 161) 2 = .ok (.putfield 144, 3) := by decide +kernel
theorem d161_5 : decode (ix_by 161) 5 = .ok (.aload_n 0, 1) := by decide +kernel
theorem d161_6 : decode (ix_by 161) 6 = .ok (.iload_n 1, 1) := by decide +kernel
theorem d161_7 : decode (ix_by 161) 7 = .ok (.invokevirtual 249, 3) := by decide +kernel
theorem d161_10 : decode (ix_by 161) 10 = .ok (.ifCond .eq 12, 3) := by decide +kernel
theorem d161_13 : decode (ix_by 161) 13 = .ok (.iload_n 2, 1) := by decide +kernel
theorem d161_14 : decode (ix_by 161) 14 = .ok (.iconst 0, 1) := by decide +kernel
theorem d161_15 : decode (ix_by 161) 15 = .ok (.iconst 3, 1) := by decide +kernel
theorem d161_16 : decode (ix_by 161) 16 = .ok (.invokestatic 147, 3) := by decide +kernel
theorem d161_19 : decode (ix_by 161) 19 = .ok (.ifCond .ne 5, 3) := by decide +kernel
theorem d161_22 : decode (ix_by 161) 22 = .ok (.iconst (-1), 1) := by decide +kernel
theorem d161_23 : decode (ix_by 161) 23 = .ok (.ireturn, 1) := by decide +kernel
theorem d161_24 : decode (ix_by 161) 24 = .ok (.bipush 11, 2) := by decide +kernel
theorem d161_26 : decode (ix_by 161) 26 = .ok (.iload_n 1, 1) := by decide +kernel
theorem d161_27 : decode (ix_by 161) 27 = .ok (.imul, 1) := by decide +kernel
theorem d161_28 : decode (ix_by 161) 28 = .ok (.istore_n 3, 1) := by decide +kernel
theorem d161_29 : decode (ix_by 161) 29 = .ok (.iload_n 2, 1) := by decide +kernel
theorem d161_30 : decode (ix_by 161) 30 = .ok (.iconst 2, 1) := by decide +kernel
theorem d161_31 : decode (ix_by 161) 31 = .ok (.if_icmp .ge 12, 3) := by decide +kernel
theorem d161_34 : decode (ix_by 161) 34 = .ok (.aload_n 0, 1) := by decide +kernel
theorem d161_35 : decode (ix_by 161) 35 = .ok (.getfield 131, 3) := by decide +kernel
theorem d161_38 : decode (ix_by 161) 38 = .ok (.iload_n 3, 1) := by decide +kernel
theorem d161_39 : decode (ix_by 161) 39 = .ok (.iload_n 2, 1) := by decide +kernel
theorem d161_40 : decode (ix_by 161) 40 = .ok (.iadd, 1) := by decide +kernel
theorem d161_41 : decode (ix_by 161) 41 = .ok (.iaload, 1) := by decide +kernel
theorem d161_42 : decode (ix_by 161) 42 = .ok (.ireturn, 1) := by decide +kernel
theorem d161_43 : decode (ix_by 161) 43 = .ok (.iload_n 2, 1) := by decide +kernel
theorem d161_44 : decode (ix_by 161) 44 = .ok (.iconst 2, 1) := by decide +kernel
theorem d161_45 : decode (ix_by 161) 45 = .ok (.if_icmp .ne 16, 3) := by decide +kernel
theorem d161_48 : decode (ix_by 161) 48 = .ok (.aload_n 0, 1) := by decide +kernel
theorem d161_49 : decode (ix_by 161) 49 = .ok (.getfield 131, 3) := by decide +kernel
theorem d161_52 : decode (ix_by 161) 52 = .ok (.iload_n 3, 1) := by decide +kernel
theorem d161_53 : decode (ix_by 161) 53 = .ok (.iconst 2, 1) := by decide +kernel
theorem d161_54 : decode (ix_by 161) 54 = .ok (.iadd, 1) := by decide +kernel
theorem d161_55 : decode (ix_by 161) 55 = .ok (.iaload, 1) := by decide +kernel
theorem d161_56 : decode (ix_by 161) 56 = .ok (.sipush 320, 3) := by decide +kernel
theorem d161_59 : decode (ix_by 161) 59 = .ok (.irem, 1) := by decide +kernel
theorem d161_60 : decode (ix_by 161) 60 = .ok (.ireturn, 1) := by decide +kernel
theorem d161_61 : decode (ix_by 161) 61 = .ok (.aload_n 0, 1) := by decide +kernel
theorem d161_62 : decode (ix_by 161) 62 = .ok (.getfield 131, 3) := by decide +kernel
theorem d161_65 : decode (ix_by 161) 65 = .ok (.iload_n 3, 1) := by decide +kernel
theorem d161_66 : decode (ix_by 161) 66 = .ok (.iaload, 1) := by decide +kernel
theorem d161_67 : decode (ix_by 161) 67 = .ok (.bipush 6, 2) := by decide +kernel
theorem d161_69 : decode (ix_by 161) 69 = .ok (.if_icmp .ne 26, 3) := by decide +kernel
theorem d161_72 : decode (ix_by 161) 72 = .ok (.aload_n 0, 1) := by decide +kernel
theorem d161_73 : decode (ix_by 161) 73 = .ok (.getfield 131, 3) := by decide +kernel
theorem d161_76 : decode (ix_by 161) 76 = .ok (.iload_n 3, 1) := by decide +kernel
theorem d161_77 : decode (ix_by 161) 77 = .ok (.iconst 4, 1) := by decide +kernel
theorem d161_78 : decode (ix_by 161) 78 = .ok (.iadd, 1) := by decide +kernel
theorem d161_79 : decode (ix_by 161) 79 = .ok (.iaload, 1) := by decide +kernel
theorem d161_80 : decode (ix_by 161) 80 = .ok (.bipush 8, 2) := by decide +kernel
theorem d161_82 : decode (ix_by 161) 82 = .ok (.aload_n 0, 1) := by decide +kernel
theorem d161_83 : decode (ix_by 161) 83 = .ok (.getfield 131, 3) := by decide +kernel
theorem d161_86 : decode (ix_by 161) 86 = .ok (.iload_n 3, 1) := by decide +kernel
theorem d161_87 : decode (ix_by 161) 87 = .ok (.iconst 3, 1) := by decide +kernel
theorem d161_88 : decode (ix_by 161) 88 = .ok (.iadd, 1) := by decide +kernel
theorem d161_89 : decode (ix_by 161) 89 = .ok (.iaload, 1) := by decide +kernel
theorem d161_90 : decode (ix_by 161) 90 = .ok (.imul, 1) := by decide +kernel
theorem d161_91 : decode (ix_by 161) 91 = .ok (.iadd, 1) := by decide +kernel
theorem d161_92 : decode (ix_by 161) 92 = .ok (.goto 11, 3) := by decide +kernel
theorem d161_95 : decode (ix_by 161) 95 = .ok (.aload_n 0, 1) := by decide +kernel
theorem d161_96 : decode (ix_by 161) 96 = .ok (.getfield 131, 3) := by decide +kernel
theorem d161_99 : decode (ix_by 161) 99 = .ok (.iload_n 3, 1) := by decide +kernel
theorem d161_100 : decode (ix_by 161) 100 = .ok (.iconst 3, 1) := by decide +kernel
theorem d161_101 : decode (ix_by 161) 101 = .ok (.iadd, 1) := by decide +kernel
theorem d161_102 : decode (ix_by 161) 102 = .ok (.iaload, 1) := by decide +kernel
theorem d161_103 : decode (ix_by 161) 103 = .ok (.ireturn, 1) := by decide +kernel
theorem d162_0 : decode (ix_by 162) 0 = .ok (.aload_n 0, 1) := by decide +kernel
theorem d162_1 : decode (ix_by 162) 1 = .ok (.iconst 0, 1) := by decide +kernel
theorem d162_2 : decode (ix_by 162) 2 = .ok (.putfield 144, 3) := by decide +kernel
theorem d162_5 : decode (ix_by 162) 5 = .ok (.aload_n 0, 1) := by decide +kernel
theorem d162_6 : decode (ix_by 162) 6 = .ok (.iload_n 1, 1) := by decide +kernel
theorem d162_7 : decode (ix_by 162) 7 = .ok (.iload_n 2, 1) := by decide +kernel
theorem d162_8 : decode (ix_by 162) 8 = .ok (.invokevirtual 174, 3) := by decide +kernel
theorem d162_11 : decode (ix_by 162) 11 = .ok (.istore_n 3, 1) := by decide +kernel
theorem d162_12 : decode (ix_by 162) 12 = .ok (.iload_n 3, 1) := by decide +kernel
theorem d162_13 : decode (ix_by 162) 13 = .ok (.ifCond .ge 7, 3) := by decide +kernel
theorem d162_16 : decode (ix_by 162) 16 = .ok (.iconst 0, 1) := by decide +kernel
theorem d162_17 : decode (ix_by 162) 17 = .ok (.goto 9, 3) := by decide +kernel
theorem d162_20 : decode (ix_by 162) 20 = .ok (.aload_n 0, 1) := by decide +kernel
theorem d162_21 : decode (ix_by 162) 21 = .ok (.getfield 38, 3) := by decide +kernel
theorem d162_24 : decode (ix_by 162) 24 = .ok (.iload_n 3, 1) := by decide +kernel
theorem d162_25 : decode (ix_by 162) 25 = .ok (.iaload, 1) := by decide +kernel
theorem d162_26 : decode (ix_by 162) 26 = .ok (.ireturn, 1) := by decide +kernel
theorem d163_0 : decode (ix_by 163) 0 = .ok (.aload_n 0, 1) := by decide +kernel
theorem d163_1 : decode (ix_by 163) 1 = .ok (.iconst 0, 1) := by decide +kernel
theorem d163_2 : decode (ix_by 163) 2 = .ok (.putfield 144, 3) := by decide +kernel
theorem d163_5 : decode (ix_by 163) 5 = .ok (.aload_n 0, 1) := by decide +kernel
theorem d163_6 : decode (ix_by 163) 6 = .ok (.iload_n 1, 1) := by decide +kernel
theorem d163_7 : decode (ix_by 163) 7 = .ok (.iload_n 2, 1) := by decide +kernel
theorem d163_8 : decode (ix_by 163) 8 = .ok (.invokevirtual 174, 3) := by decide +kernel
theorem d163_11 : decode (ix_by 163) 11 = .ok (.istore_n 3, 1) := by decide +kernel
theorem d163_12 : decode (ix_by 163) 12 = .ok (.iload_n 3, 1) := by decide +kernel
theorem d163_13 : decode (ix_by 163) 13 = .ok (.ifCond .ge 7, 3) := by decide +kernel
theorem d163_16 : decode (ix_by 163) 16 = .ok (.iconst 0, 1) := by decide +kernel
theorem d163_17 : decode (ix_by 163) 17 = .ok (.goto 9, 3) := by decide +kernel
theorem d163_20 : decode (ix_by 163) 20 = .ok (.aload_n 0, 1) := by decide +kernel
theorem d163_21 : decode (ix_by 163) 21 = .ok (.getfield 68, 3) := by decide +kernel
theorem d163_24 : decode (ix_by 163) 24 = .ok (.iload_n 3, 1) := by decide +kernel
theorem d163_25 : decode (ix_by 163) 25 = .ok (.iaload, 1) := by decide +kernel
theorem d163_26 : decode (ix_by 163) 26 = .ok (.ireturn, 1) := by decide +kernel
theorem d164_0 : decode (ix_by 164) 0 = .ok (.aload_n 0, 1) := by decide +kernel
theorem d164_1 : decode (ix_by 164) 1 = .ok (.iconst 0, 1) := by decide +kernel
theorem d164_2 : decode (ix_by 164) 2 = .ok (.putfield 144, 3) := by decide +kernel
theorem d164_5 : decode (ix_by 164) 5 = .ok (.aload_n 0, 1) := by decide +kernel
theorem d164_6 : decode (ix_by 164) 6 = .ok (.iload_n 1, 1) := by decide +kernel
theorem d164_7 : decode (ix_by 164) 7 = .ok (.iload_n 2, 1) := by decide +kernel
theorem d164_8 : decode (ix_by 164) 8 = .ok (.invokevirtual 174, 3) := by decide +kernel
theorem d164_11 : decode (ix_by 164) 11 = .ok (.istore_n 3, 1) := by decide +kernel
theorem d164_12 : decode (ix_by 164) 12 = .ok (.iload_n 3, 1) := by decide +kernel
theorem d164_13 : decode (ix_by 164) 13 = .ok (.ifCond .ge 7, 3) := by decide +kernel
theorem d164_16 : decode (ix_by 164) 16 = .ok (.iconst 0, 1) := by decide +kernel
theorem d164_17 : decode (ix_by 164) 17 = .ok (.goto 9, 3) := by decide +kernel
theorem d164_20 : decode (ix_by 164) 20 = .ok (.aload_n 0, 1) := by decide +kernel
theorem d164_21 : decode (ix_by 164) 21 = .ok (.getfield 71, 3) := by decide +kernel
theorem d164_24 : decode (ix_by 164) 24 = .ok (.iload_n 3, 1) := by decide +kernel
theorem d164_25 : decode (ix_by 164) 25 = .ok (.iaload, 1) := by decide +kernel
theorem d164_26 : decode (ix_by 164) 26 = .ok (.ireturn, 1) := by decide +kernel
