/-! decode rows (written by wip/whole/gen4.py) -/
theorem d125_0 : decode (ix_by 125) 0 = .ok (.aload_n 0, 1) := by decide +kernel
theorem d125_1 : decode (ix_by 125) 1 = .ok (.iconst 0, 1) := by decide +kernel
theorem d125_2 : decode (ix_by 125) 2 = .ok (.putfield 144, 3) := by decide +kernel
theorem d125_5 : decode (ix_by 125) 5 = .ok (.iload_n 1, 1) := by decide +kernel
theorem d125_6 : decode (ix_by 125) 6 = .ok (.iload_n 2, 1) := by decide +kernel
theorem d125_7 : decode (ix_by 125) 7 = .ok (.invokestatic 151, 3) := by decide +kernel
theorem d125_10 : decode (ix_by 125) 10 = .ok (.ifCond .eq 42, 3) := by decide +kernel
theorem d125_13 : decode (ix_by 125) 13 = .ok (.iload_n 3, 1) := by decide +kernel
theorem d125_14 : decode (ix_by 125) 14 = .ok (.iconst 0, 1) := by decide +kernel
theorem d125_15 : decode (ix_by 125) 15 = .ok (.iconst 5, 1) := by decide +kernel
theorem d125_16 : decode (ix_by 125) 16 = .ok (.invokestatic 147, 3) := by decide +kernel
theorem d125_19 : decode (ix_by 125) 19 = .ok (.ifCond .eq 33, 3) := by decide +kernel
theorem d125_22 : decode (ix_by 125) 22 = .ok (.iload 6, 2) := by decide +kernel
theorem d125_24 : decode (ix_by 125) 24 = .ok (.iconst 0, 1) := by decide +kernel
theorem d125_25 : decode (ix_by 125) 25 = .ok (.iconst 5, 1) := by decide +kernel
theorem d125_26 : decode (ix_by 125) 26 = .ok (.invokestatic 147, 3) := by decide +kernel
theorem d125_29 : decode (ix_by 125) 29 = .ok (.ifCond .eq 23, 3) := by decide +kernel
theorem d125_32 : decode (ix_by 125) 32 = .ok (.iload 4, 2) := by decide +kernel
theorem d125_34 : decode (ix_by 125) 34 = .ok (.iconst 1, 1) := by decide +kernel
theorem d125_35 : decode (ix_by 125) 35 = .ok (.iconst 2, 1) := by decide +kernel
theorem d125_36 : decode (ix_by 125) 36 = .ok (.invokestatic 147, 3) := by decide +kernel
theorem d125_39 : decode (ix_by 125) 39 = .ok (.ifCond .eq 13, 3) := by decide +kernel
theorem d125_42 : decode (ix_by 125) 42 = .ok (.iload 5, 2) := by decide +kernel
theorem d125_44 : decode (ix_by 125) 44 = .ok (.iconst 0, 1) := by decide +kernel
theorem d125_45 : decode (ix_by 125) 45 = .ok (.iconst 2, 1) := by decide +kernel
theorem d125_46 : decode (ix_by 125) 46 = .ok (.invokestatic 147, 3) := by decide +kernel
theorem d125_49 : decode (ix_by 125) 49 = .ok (.ifCond .ne 9, 3) := by decide +kernel
theorem d125_52 : decode (ix_by 125) 52 = .ok (.aload_n 0, 1) := by decide +kernel
theorem d125_53 : decode (ix_by 125) 53 = .ok (.iconst 1, 1) := by decide +kernel
theorem d125_54 : decode (ix_by 125) 54 = .ok (.invokevirtual 155, 3) := by decide +kernel
theorem d125_57 : decode (ix_by 125) 57 = .ok (.ireturn, 1) := by decide +kernel
theorem d125_58 : decode (ix_by 125) 58 = .ok (.aload_n 0, 1) := by decide +kernel
theorem d125_59 : decode (ix_by 125) 59 = .ok (.getfield 7, 3) := by decide +kernel
theorem d125_62 : decode (ix_by 125) 62 = .ok (.bipush 6, 2) := by decide +kernel
theorem d125_64 : decode (ix_by 125) 64 = .ok (.iload_n 1, 1) := by decide +kernel
theorem d125_65 : decode (ix_by 125) 65 = .ok (.imul, 1) := by decide +kernel
theorem d125_66 : decode (ix_by 125) 66 = .ok (.iload_n 2, 1) := by decide +kernel
theorem d125_67 : decode (ix_by 125) 67 = .ok (.iadd, 1) := by decide +kernel
theorem d125_68 : decode (ix_by 125) 68 = .ok (.baload, 1) := by decide +kernel
theorem d125_69 : decode (ix_by 125) 69 = .ok (.ifCond .ne 9, 3) := by decide +kernel
theorem d125_72 : decode (ix_by 125) 72 = .ok (.aload_n 0, 1) := by decide +kernel
theorem d125_73 : decode (ix_by 125) 73 = .ok (.iconst 2, 1) := by decide +kernel
theorem d125_74 : decode (ix_by 125) 74 = .ok (.invokevirtual 155, 3) := by decide +kernel
theorem d125_77 : decode (ix_by 125) 77 = .ok (.ireturn, 1) := by decide +kernel
theorem d125_78 : decode (ix_by 125) 78 = .ok (.aload_n 0, 1) := by decide +kernel
theorem d125_79 : decode (ix_by 125) 79 = .ok (.getfield 125, 3) := by decide +kernel
theorem d125_82 : decode (ix_by 125) 82 = .ok (.iload_n 1, 1) := by decide +kernel
theorem d125_83 : decode (ix_by 125) 83 = .ok (.iaload, 1) := by decide +kernel
theorem d125_84 : decode (ix_by 125) 84 = .ok (.iconst 3, 1) := by decide +kernel
theorem d125_85 : decode (ix_by 125) 85 = .ok (.if_icmp .ne 9, 3) := by decide +kernel
theorem d125_88 : decode (ix_by 125) 88 = .ok (.aload_n 0, 1) := by decide +kernel
theorem d125_89 : decode (ix_by 125) 89 = .ok (.iconst 3, 1) := by decide +kernel
theorem d125_90 : decode (ix_by 125) 90 = .ok (.invokevirtual 155, 3) := by decide +kernel
theorem d125_93 : decode (ix_by 125) 93 = .ok (.ireturn, 1) := by decide +kernel
theorem d125_94 : decode (ix_by 125) 94 = .ok (.aload_n 0, 1) := by decide +kernel
theorem d125_95 : decode (ix_by 125) 95 = .ok (.getfield 20, 3) := by decide +kernel
theorem d125_98 : decode (ix_by 125) 98 = .ok (.iload_n 1, 1) := by decide +kernel
theorem d125_99 : decode (ix_by 125) 99 = .ok (.dup2, 1) := by decide +kernel
theorem d125_100 : decode (ix_by 125) 100 = .ok (.iaload, 1) := by decide +kernel
theorem d125_101 : decode (ix_by 125) 101 = .ok (.iconst 1, 1) := by decide +kernel
theorem d125_102 : decode (ix_by 125) 102 = .ok (.iadd, 1) := by decide +kernel
theorem d125_103 : decode (ix_by 125) 103 = .ok (.iastore, 1) := by decide +kernel
theorem d125_104 : decode (ix_by 125) 104 = .ok (.sipush 320, 3) := by decide +kernel
theorem d125_107 : decode (ix_by 125) 107 = .ok (.iload_n 1, 1) := by decide +kernel
theorem d125_108 : decode (ix_by 125) 108 = .ok (.imul, 1) := by decide +kernel
theorem d125_109 : decode (ix_by 125) 109 = .ok (.aload_n 0, 1) := by decide +kernel
theorem d125_110 : decode (ix_by 125) 110 = .ok (.getfield 20, 3) := by decide +kernel
theorem d125_113 : decode (ix_by 125) 113 = .ok (.iload_n 1, 1) := by decide +kernel
theorem d125_114 : decode (ix_by 125) 114 = .ok (.iaload, 1) := by decide +kernel
theorem d125_115 : decode (ix_by 125) 115 = .ok (.iadd, 1) := by decide +kernel
theorem d125_116 : decode (ix_by 125) 116 = .ok (.istore 7, 2) := by decide +kernel
theorem d125_118 : decode (ix_by 125) 118 = .ok (.aload_n 0, 1) := by decide +kernel
theorem d125_119 : decode (ix_by 125) 119 = .ok (.getfield 23, 3) := by decide +kernel
theorem d125_122 : decode (ix_by 125) 122 = .ok (.iload 7, 2) := by decide +kernel
theorem d125_124 : decode (ix_by 125) 124 = .ok (.iload 4, 2) := by decide +kernel
theorem d125_126 : decode (ix_by 125) 126 = .ok (.iastore, 1) := by decide +kernel
theorem d125_127 : decode (ix_by 125) 127 = .ok (.aload_n 0, 1) := by decide +kernel
theorem d125_128 : decode (ix_by 125) 128 = .ok (.getfield 26, 3) := by decide +kernel
theorem d125_131 : decode (ix_by 125) 131 = .ok (.iload 7, 2) := by decide +kernel
theorem d125_133 : decode (ix_by 125) 133 = .ok (.iload_n 2, 1) := by decide +kernel
theorem d125_134 : decode (ix_by 125) 134 = .ok (.iastore, 1) := by decide +kernel
theorem d125_135 : decode (ix_by 125) 135 = .ok (.aload_n 0, 1) := by decide +kernel
theorem d125_136 : decode (ix_by 125) 136 = .ok (.getfield 29, 3) := by decide +kernel
theorem d125_139 : decode (ix_by 125) 139 = .ok (.iload 7, 2) := by decide +kernel
theorem d125_141 : decode (ix_by 125) 141 = .ok (.iload_n 3, 1) := by decide +kernel
theorem d125_142 : decode (ix_by 125) 142 = .ok (.iastore, 1) := by decide +kernel
theorem d125_143 : decode (ix_by 125) 143 = .ok (.aload_n 0, 1) := by decide +kernel
theorem d125_144 : decode (ix_by 125) 144 = .ok (.getfield 32, 3) := by decide +kernel
theorem d125_147 : decode (ix_by 125) 147 = .ok (.iload 7, 2) := by decide +kernel
theorem d125_149 : decode (ix_by 125) 149 = .ok (.iload 5, 2) := by decide +kernel
theorem d125_151 : decode (ix_by 125) 151 = .ok (.iastore, 1) := by decide +kernel
theorem d125_152 : decode (ix_by 125) 152 = .ok (.aload_n 0, 1) := by decide +kernel
theorem d125_153 : decode (ix_by 125) 153 = .ok (.getfield 35, 3) := by decide +kernel
theorem d125_156 : decode (ix_by 125) 156 = .ok (.iload 7, 2) := by decide +kernel
theorem d125_158 : decode (ix_by 125) 158 = .ok (.iload 6, 2) := by decide +kernel
theorem d125_160 : decode (ix_by 125) 160 = .ok (.iastore, 1) := by decide +kernel
theorem d125_161 : decode (ix_by 125) 161 = .ok (.aload_n 0, 1) := by decide +kernel
theorem d125_162 : decode (ix_by 125) 162 = .ok (.getfield 38, 3) := by decide +kernel
theorem d125_165 : decode (ix_by 125) 165 = .ok (.iload 7, 2) := by decide +kernel
theorem d125_167 : decode (ix_by 125) 167 = .ok (.iconst 5, 1) := by decide +kernel
theorem d125_168 : decode (ix_by 125) 168 = .ok (.iastore, 1) := by decide +kernel
theorem d125_169 : decode (ix_by 125) 169 = .ok (.aload_n 0, 1) := by decide +kernel
theorem d125_170 : decode (ix_by 125) 170 = .ok (.getfield 119, 3) := by decide +kernel
theorem d125_173 : decode (ix_by 125) 173 = .ok (.iconst 3, 1) := by decide +kernel
theorem d125_174 : decode (ix_by 125) 174 = .ok (.iload_n 1, 1) := by decide +kernel
theorem d125_175 : decode (ix_by 125) 175 = .ok (.imul, 1) := by decide +kernel
theorem d125_176 : decode (ix_by 125) 176 = .ok (.aload_n 0, 1) := by decide +kernel
theorem d125_177 : decode (ix_by 125) 177 = .ok (.getfield 125, 3) := by decide +kernel
theorem d125_180 : decode (ix_by 125) 180 = .ok (.iload_n 1, 1) := by decide +kernel
theorem d125_181 : decode (ix_by 125) 181 = .ok (.iaload, 1) := by decide +kernel
theorem d125_182 : decode (ix_by 125) 182 = .ok (.iadd, 1) := by decide +kernel
theorem d125_183 : decode (ix_by 125) 183 = .ok (.iload 7, 2) := by decide +kernel
theorem d125_185 : decode (ix_by 125) 185 = .ok (.iastore, 1) := by decide +kernel
theorem d125_186 : decode (ix_by 125) 186 = .ok (.aload_n 0, 1) := by decide +kernel
theorem d125_187 : decode (ix_by 125) 187 = .ok (.getfield 125, 3) := by decide +kernel
theorem d125_190 : decode (ix_by 125) 190 = .ok (.iload_n 1, 1) := by decide +kernel
theorem d125_191 : decode (ix_by 125) 191 = .ok (.dup2, 1) := by decide +kernel
theorem d125_192 : decode (ix_by 125) 192 = .ok (.iaload, 1) := by decide +kernel
theorem d125_193 : decode (ix_by 125) 193 = .ok (.iconst 1, 1) := by decide +kernel
theorem d125_194 : decode (ix_by 125) 194 = .ok (.iadd, 1) := by decide +kernel
theorem d125_195 : decode (ix_by 125) 195 = .ok (.iastore, 1) := by decide +kernel
theorem d125_196 : decode (ix_by 125) 196 = .ok (.aload_n 0, 1) := by decide +kernel
theorem d125_197 : decode (ix_by 125) 197 = .ok (.getfield 20, 3) := by decide +kernel
theorem d125_200 : decode (ix_by 125) 200 = .ok (.iload_n 1, 1) := by decide +kernel
theorem d125_201 : decode (ix_by 125) 201 = .ok (.iaload, 1) := by decide +kernel
theorem d125_202 : decode (ix_by 125) 202 = .ok (.ireturn, 1) := by decide +kernel
theorem d126_0 : decode (ix_by 126) 0 = .ok (.aload_n 0, 1) := by decide +kernel
theorem d126_1 : decode (ix_by 126) 1 = .ok (.iconst 0, 1) := by decide +kernel
theorem d126_2 : decode (ix_by 126) 2 = .ok (.putfield 144, 3) := by decide +kernel
theorem d126_5 : decode (ix_by 126) 5 = .ok (.aload_n 0, 1) := by decide +kernel
theorem d126_6 : decode (ix_by 126) 6 = .ok (.iload_n 1, 1) := by decide +kernel
theorem d126_7 : decode (ix_by 126) 7 = .ok (.iload_n 2, 1) := by decide +kernel
theorem d126_8 : decode (ix_by 126) 8 = .ok (.invokevirtual 174, 3) := by decide +kernel
theorem d126_11 : decode (ix_by 126) 11 = .ok (.istore_n 3, 1) := by decide +kernel
theorem d126_12 : decode (ix_by 126) 12 = .ok (.iload_n 3, 1) := by decide +kernel
theorem d126_13 : decode (ix_by 126) 13 = .ok (.ifCond .lt 22, 3) := by decide +kernel
theorem d126_16 : decode (ix_by 126) 16 = .ok (.aload_n 0, 1) := by decide +kernel
theorem d126_17 : decode (ix_by 126) 17 = .ok (.getfield 38, 3) := by decide +kernel
theorem d126_20 : decode (ix_by 126) 20 = .ok (.iload_n 3, 1) := by decide +kernel
theorem d126_21 : decode (ix_by 126) 21 = .ok (.iaload, 1) := by decide +kernel
theorem d126_22 : decode (ix_by 126) 22 = .ok (.iconst 5, 1) := by decide +kernel
theorem d126_23 : decode (ix_by 126) 23 = .ok (.if_icmp .ne 12, 3) := by decide +kernel
theorem d126_26 : decode (ix_by 126) 26 = .ok (.aload_n 0, 1) := by decide +kernel
theorem d126_27 : decode (ix_by 126) 27 = .ok (.getfield 62, 3) := by decide +kernel
theorem d126_30 : decode (ix_by 126) 30 = .ok (.iload_n 3, 1) := by decide +kernel
theorem d126_31 : decode (ix_by 126) 31 = .ok (.baload, 1) := by decide +kernel
theorem d126_32 : decode (ix_by 126) 32 = .ok (.ifCond .eq 5, 3) := by decide +kernel
theorem d126_35 : decode (ix_by 126) 35 = .ok (.iconst 0, 1) := by decide +kernel
theorem d126_36 : decode (ix_by 126) 36 = .ok (.ireturn, 1) := by decide +kernel
theorem d126_37 : decode (ix_by 126) 37 = .ok (.aload_n 0, 1) := by decide +kernel
theorem d126_38 : decode (ix_by 126) 38 = .ok (.getfield 62, 3) := by decide +kernel
theorem d126_41 : decode (ix_by 126) 41 = .ok (.iload_n 3, 1) := by decide +kernel
theorem d126_42 : decode (ix_by 126) 42 = .ok (.iconst 1, 1) := by decide +kernel
theorem d126_43 : decode (ix_by 126) 43 = .ok (.bastore, 1) := by decide +kernel
theorem d126_44 : decode (ix_by 126) 44 = .ok (.aload_n 0, 1) := by decide +kernel
theorem d126_45 : decode (ix_by 126) 45 = .ok (.getfield 44, 3) := by decide +kernel
theorem d126_48 : decode (ix_by 126) 48 = .ok (.iload_n 3, 1) := by decide +kernel
theorem d126_49 : decode (ix_by 126) 49 = .ok (.iconst 0, 1) := by decide +kernel
theorem d126_50 : decode (ix_by 126) 50 = .ok (.iastore, 1) := by decide +kernel
theorem d126_51 : decode (ix_by 126) 51 = .ok (.aload_n 0, 1) := by decide +kernel
theorem d126_52 : decode (ix_by 126) 52 = .ok (.getfield 59, 3) := by decide +kernel
theorem d126_55 : decode (ix_by 126) 55 = .ok (.iload_n 3, 1) := by decide +kernel
theorem d126_56 : decode (ix_by 126) 56 = .ok (.iconst 0, 1) := by decide +kernel
theorem d126_57 : decode (ix_by 126) 57 = .ok (.bastore, 1) := by decide +kernel
theorem d126_58 : decode (ix_by 126) 58 = .ok (.aload_n 0, 1) := by decide +kernel
theorem d126_59 : decode (ix_by 126) 59 = .ok (.getfield 56, 3) := by decide +kernel
theorem d126_62 : decode (ix_by 126) 62 = .ok (.iload_n 3, 1) := by decide +kernel
theorem d126_63 : decode (ix_by 126) 63 = .ok (.iconst 0, 1) := by decide +kernel
theorem d126_64 : decode (ix_by 126) 64 = .ok (.iastore, 1) := by decide +kernel
theorem d126_65 : decode (ix_by 126) 65 = .ok (.iconst 1, 1) := by decide +kernel
theorem d126_66 : decode (ix_by 126) 66 = .ok (.ireturn, 1) := by decide +kernel
theorem d127_0 : decode (ix_by 127) 0 = .ok (.iload_n 1, 1) := by decide +kernel
theorem d127_1 : decode (ix_by 127) 1 = .ok (.iconst 0, 1) := by decide +kernel
theorem d127_2 : decode (ix_by 127) 2 = .ok (.iconst 1, 1) := by decide +kernel
theorem d127_3 : decode (ix_by 127) 3 = .ok (.invokestatic 147, 3) := by decide +kernel
theorem d127_6 : decode (ix_by 127) 6 = .ok (.ifCond .eq 28, 3) := by decide +kernel
theorem d127_9 : decode (ix_by 127) 9 = .ok (.iload_n 2, 1) := by decide +kernel
theorem d127_10 : decode (ix_by 127) 10 = .ok (.iconst 1, 1) := by decide +kernel
theorem d127_11 : decode (ix_by 127) 11 = .ok (.if_icmp .lt 23, 3) := by decide +kernel
theorem d127_14 : decode (ix_by 127) 14 = .ok (.iload_n 2, 1) := by decide +kernel
theorem d127_15 : decode (ix_by 127) 15 = .ok (.aload_n 0, 1) := by decide +kernel
theorem d127_16 : decode (ix_by 127) 16 = .ok (.getfield 20, 3) := by decide +kernel
theorem d127_19 : decode (ix_by 127) 19 = .ok (.iload_n 1, 1) := by decide +kernel
theorem d127_20 : decode (ix_by 127) 20 = .ok (.iaload, 1) := by decide +kernel
theorem d127_21 : decode (ix_by 127) 21 = .ok (.if_icmp .gt 13, 3) := by decide +kernel
theorem d127_24 : decode (ix_by 127) 24 = .ok (.sipush 320, 3) := by decide +kernel
theorem d127_27 : decode (ix_by 127) 27 = .ok (.iload_n 1, 1) := by decide +kernel
theorem d127_28 : decode (ix_by 127) 28 = .ok (.imul, 1) := by decide +kernel
theorem d127_29 : decode (ix_by 127) 29 = .ok (.iload_n 2, 1) := by decide +kernel
theorem d127_30 : decode (ix_by 127) 30 = .ok (.iadd, 1) := by decide +kernel
theorem d127_31 : decode (ix_by 127) 31 = .ok (.goto 4, 3) := by decide +kernel
theorem d127_34 : decode (ix_by 127) 34 = .ok (.iconst (-1), 1) := by decide +kernel
theorem d127_35 : decode (ix_by 127) 35 = .ok (.ireturn, 1) := by decide +kernel
theorem d128_0 : decode (ix_by 128) 0 = .ok (.aload_n 0, 1) := by decide +kernel
theorem d128_1 : decode (ix_by 128) 1 = .ok (.iconst 0, 1) := by decide +kernel
theorem d128_2 : decode (ix_by 128) 2 = .ok (.putfield 144, 3) := by decide +kernel
theorem d128_5 : decode (ix_by 128) 5 = .ok (.aload_n 0, 1) := by decide +kernel
theorem d128_6 : decode (ix_by 128) 6 = .ok (.iload_n 1, 1) := by decide +kernel
theorem d128_7 : decode (ix_by 128) 7 = .ok (.iload_n 2, 1) := by decide +kernel
theorem d128_8 : decode (ix_by 128) 8 = .ok (.invokevirtual 174, 3) := by decide +kernel
theorem d128_11 : decode (ix_by 128) 11 = .ok (.istore 4, 2) := by decide +kernel
theorem d128_13 : decode (ix_by 128) 13 = .ok (.iload 4, 2) := by decide +kernel
theorem d128_15 : decode (ix_by 128) 15 = .ok (.ifCond .lt 25, 3) := by decide +kernel
theorem d128_18 : decode (ix_by 128) 18 = .ok (.aload_n 0, 1) := by decide +kernel
theorem d128_19 : decode (ix_by 128) 19 = .ok (.getfield 38, 3) := by decide +kernel
theorem d128_22 : decode (ix_by 128) 22 = .ok (.iload 4, 2) := by decide +kernel
theorem d128_24 : decode (ix_by 128) 24 = .ok (.iaload, 1) := by decide +kernel
theorem d128_25 : decode (ix_by 128) 25 = .ok (.iconst 5, 1) := by decide +kernel
theorem d128_26 : decode (ix_by 128) 26 = .ok (.if_icmp .ne 14, 3) := by decide +kernel
theorem d128_29 : decode (ix_by 128) 29 = .ok (.aload_n 0, 1) := by decide +kernel
theorem d128_30 : decode (ix_by 128) 30 = .ok (.getfield 65, 3) := by decide +kernel
theorem d128_33 : decode (ix_by 128) 33 = .ok (.iload 4, 2) := by decide +kernel
theorem d128_35 : decode (ix_by 128) 35 = .ok (.baload, 1) := by decide +kernel
theorem d128_36 : decode (ix_by 128) 36 = .ok (.iload_n 3, 1) := by decide +kernel
theorem d128_37 : decode (ix_by 128) 37 = .ok (.if_icmp .ne 5, 3) := by decide +kernel
theorem d128_40 : decode (ix_by 128) 40 = .ok (.iconst 0, 1) := by decide +kernel
theorem d128_41 : decode (ix_by 128) 41 = .ok (.ireturn, 1) := by decide +kernel
theorem d128_42 : decode (ix_by 128) 42 = .ok (.aload_n 0, 1) := by decide +kernel
theorem d128_43 : decode (ix_by 128) 43 = .ok (.getfield 65, 3) := by decide +kernel
theorem d128_46 : decode (ix_by 128) 46 = .ok (.iload 4, 2) := by decide +kernel
theorem d128_48 : decode (ix_by 128) 48 = .ok (.iload_n 3, 1) := by decide +kernel
theorem d128_49 : decode (ix_by 128) 49 = .ok (.bastore, 1) := by decide +kernel
theorem d128_50 : decode (ix_by 128) 50 = .ok (.iconst 1, 1) := by decide +kernel
theorem d128_51 : decode (ix_by 128) 51 = .ok (.ireturn, 1) := by decide +kernel
theorem d129_0 : decode (ix_by 129) 0 = .ok (.aload_n 0, 1) := by decide +kernel
theorem d129_1 : decode (ix_by 129) 1 = .ok (.iconst 0, 1) := by decide +kernel
theorem d129_2 : decode (ix_by 129) 2 = .ok (.putfield 144, 3) := by decide +kernel
theorem d129_5 : decode (ix_by 129) 5 = .ok (.aload_n 0, 1) := by decide +kernel
theorem d129_6 : decode (ix_by 129) 6 = .ok (.aload_n 0, 1) := by decide +kernel
theorem d129_7 : decode (ix_by 129) 7 = .ok (.getfield 215, 3) := by decide +kernel
theorem d129_10 : decode (ix_by 129) 10 = .ok (.iconst 1, 1) := by decide +kernel
theorem d129_11 : decode (ix_by 129) 11 = .ok (.iadd, 1) := by decide +kernel
theorem d129_12 : decode (ix_by 129) 12 = .ok (.putfield 234, 3) := by decide +kernel
theorem d129_15 : decode (ix_by 129) 15 = .ok (.iconst 0, 1) := by decide +kernel
theorem d129_16 : decode (ix_by 129) 16 = .ok (.istore_n 1, 1) := by decide +kernel
theorem d129_17 : decode (ix_by 129) 17 = .ok (.iload_n 1, 1) := by decide +kernel
theorem d129_18 : decode (ix_by 129) 18 = .ok (.iconst 2, 1) := by decide +kernel
theorem d129_19 : decode (ix_by 129) 19 = .ok (.if_icmp .ge 114, 3) := by decide +kernel
theorem d129_22 : decode (ix_by 129) 22 = .ok (.iconst 0, 1) := by decide +kernel
theorem d129_23 : decode (ix_by 129) 23 = .ok (.istore_n 2, 1) := by decide +kernel
theorem d129_24 : decode (ix_by 129) 24 = .ok (.iload_n 2, 1) := by decide +kernel
theorem d129_25 : decode (ix_by 129) 25 = .ok (.aload_n 0, 1) := by decide +kernel
theorem d129_26 : decode (ix_by 129) 26 = .ok (.getfield 125, 3) := by decide +kernel
theorem d129_29 : decode (ix_by 129) 29 = .ok (.iload_n 1, 1) := by decide +kernel
theorem d129_30 : decode (ix_by 129) 30 = .ok (.iaload, 1) := by decide +kernel
theorem d129_31 : decode (ix_by 129) 31 = .ok (.if_icmp .ge 38, 3) := by decide +kernel
theorem d129_34 : decode (ix_by 129) 34 = .ok (.aload_n 0, 1) := by decide +kernel
theorem d129_35 : decode (ix_by 129) 35 = .ok (.getfield 119, 3) := by decide +kernel
theorem d129_38 : decode (ix_by 129) 38 = .ok (.iconst 3, 1) := by decide +kernel
theorem d129_39 : decode (ix_by 129) 39 = .ok (.iload_n 1, 1) := by decide +kernel
theorem d129_40 : decode (ix_by 129) 40 = .ok (.imul, 1) := by decide +kernel
theorem d129_41 : decode (ix_by 129) 41 = .ok (.iload_n 2, 1) := by decide +kernel
theorem d129_42 : decode (ix_by 129) 42 = .ok (.iadd, 1) := by decide +kernel
theorem d129_43 : decode (ix_by 129) 43 = .ok (.iaload, 1) := by decide +kernel
theorem d129_44 : decode (ix_by 129) 44 = .ok (.istore_n 3, 1) := by decide +kernel
theorem d129_45 : decode (ix_by 129) 45 = .ok (.aload_n 0, 1) := by decide +kernel
theorem d129_46 : decode (ix_by 129) 46 = .ok (.iload_n 3, 1) := by decide +kernel
theorem d129_47 : decode (ix_by 129) 47 = .ok (.invokevirtual 243, 3) := by decide +kernel
theorem d129_50 : decode (ix_by 129) 50 = .ok (.aload_n 0, 1) := by decide +kernel
theorem d129_51 : decode (ix_by 129) 51 = .ok (.getfield 38, 3) := by decide +kernel
theorem d129_54 : decode (ix_by 129) 54 = .ok (.iload_n 3, 1) := by decide +kernel
theorem d129_55 : decode (ix_by 129) 55 = .ok (.iaload, 1) := by decide +kernel
theorem d129_56 : decode (ix_by 129) 56 = .ok (.iconst 5, 1) := by decide +kernel
theorem d129_57 : decode (ix_by 129) 57 = .ok (.if_icmp .eq 6, 3) := by decide +kernel
theorem d129_60 : decode (ix_by 129) 60 = .ok (.iinc 2 (-1), 3) := by decide +kernel
theorem d129_63 : decode (ix_by 129) 63 = .ok (.iinc 2 1, 3) := by decide +kernel
theorem d129_66 : decode (ix_by 129) 66 = .ok (.goto (-42), 3) := by decide +kernel
theorem d129_69 : decode (ix_by 129) 69 = .ok (.iconst 0, 1) := by decide +kernel
theorem d129_70 : decode (ix_by 129) 70 = .ok (.istore_n 2, 1) := by decide +kernel
theorem d129_71 : decode (ix_by 129) 71 = .ok (.iload_n 2, 1) := by decide +kernel
theorem d129_72 : decode (ix_by 129) 72 = .ok (.aload_n 0, 1) := by decide +kernel
theorem d129_73 : decode (ix_by 129) 73 = .ok (.getfield 128, 3) := by decide +kernel
theorem d129_76 : decode (ix_by 129) 76 = .ok (.iload_n 1, 1) := by decide +kernel
theorem d129_77 : decode (ix_by 129) 77 = .ok (.iaload, 1) := by decide +kernel
theorem d129_78 : decode (ix_by 129) 78 = .ok (.if_icmp .ge 49, 3) := by decide +kernel
theorem d129_81 : decode (ix_by 129) 81 = .ok (.aload_n 0, 1) := by decide +kernel
theorem d129_82 : decode (ix_by 129) 82 = .ok (.getfield 122, 3) := by decide +kernel
theorem d129_85 : decode (ix_by 129) 85 = .ok (.iconst 3, 1) := by decide +kernel
theorem d129_86 : decode (ix_by 129) 86 = .ok (.iload_n 1, 1) := by decide +kernel
theorem d129_87 : decode (ix_by 129) 87 = .ok (.imul, 1) := by decide +kernel
theorem d129_88 : decode (ix_by 129) 88 = .ok (.iload_n 2, 1) := by decide +kernel
theorem d129_89 : decode (ix_by 129) 89 = .ok (.iadd, 1) := by decide +kernel
theorem d129_90 : decode (ix_by 129) 90 = .ok (.iaload, 1) := by decide +kernel
theorem d129_91 : decode (ix_by 129) 91 = .ok (.istore_n 3, 1) := by decide +kernel
theorem d129_92 : decode (ix_by 129) 92 = .ok (.aload_n 0, 1) := by decide +kernel
theorem d129_93 : decode (ix_by 129) 93 = .ok (.iload_n 3, 1) := by decide +kernel
theorem d129_94 : decode (ix_by 129) 94 = .ok (.invokevirtual 246, 3) := by decide +kernel
theorem d129_97 : decode (ix_by 129) 97 = .ok (.aload_n 0, 1) := by decide +kernel
theorem d129_98 : decode (ix_by 129) 98 = .ok (.getfield 68, 3) := by decide +kernel
theorem d129_101 : decode (ix_by 129) 101 = .ok (.iload_n 3, 1) := by decide +kernel
theorem d129_102 : decode (ix_by 129) 102 = .ok (.iaload, 1) := by decide +kernel
theorem d129_103 : decode (ix_by 129) 103 = .ok (.iconst 5, 1) := by decide +kernel
theorem d129_104 : decode (ix_by 129) 104 = .ok (.if_icmp .eq 17, 3) := by decide +kernel
theorem d129_107 : decode (ix_by 129) 107 = .ok (.aload_n 0, 1) := by decide +kernel
theorem d129_108 : decode (ix_by 129) 108 = .ok (.getfield 68, 3) := by decide +kernel
theorem d129_111 : decode (ix_by 129) 111 = .ok (.iload_n 3, 1) := by decide +kernel
theorem d129_112 : decode (ix_by 129) 112 = .ok (.iaload, 1) := by decide +kernel
theorem d129_113 : decode (ix_by 129) 113 = .ok (.bipush 6, 2) := by decide +kernel
theorem d129_115 : decode (ix_by 129) 115 = .ok (.if_icmp .eq 6, 3) := by decide +kernel
theorem d129_118 : decode (ix_by 129) 118 = .ok (.iinc 2 (-1), 3) := by decide +kernel
theorem d129_121 : decode (ix_by 129) 121 = .ok (.iinc 2 1, 3) := by decide +kernel
theorem d129_124 : decode (ix_by 129) 124 = .ok (.goto (-53), 3) := by decide +kernel
theorem d129_127 : decode (ix_by 129) 127 = .ok (.iinc 1 1, 3) := by decide +kernel
theorem d129_130 : decode (ix_by 129) 130 = .ok (.goto (-113), 3) := by decide +kernel
theorem d129_133 : decode (ix_by 129) 133 = .ok (.aload_n 0, 1) := by decide +kernel
theorem d129_134 : decode (ix_by 129) 134 = .ok (.aload_n 0, 1) := by decide +kernel
theorem d129_135 : decode (ix_by 129) 135 = .ok (.getfield 234, 3) := by decide +kernel
theorem d129_138 : decode (ix_by 129) 138 = .ok (.putfield 215, 3) := by decide +kernel
theorem d129_141 : decode (ix_by 129) 141 = .ok (.aload_n 0, 1) := by decide +kernel
theorem d129_142 : decode (ix_by 129) 142 = .ok (.getfield 215, 3) := by decide +kernel
theorem d129_145 : decode (ix_by 129) 145 = .ok (.ireturn, 1) := by decide +kernel
theorem d130_0 : decode (ix_by 130) 0 = .ok (.aload_n 0, 1) := by decide +kernel
theorem d130_1 : decode (ix_by 130) 1 = .ok (.getfield 65, 3) := by decide +kernel
theorem d130_4 : decode (ix_by 130) 4 = .ok (.iload_n 1, 1) := by decide +kernel
theorem d130_5 : decode (ix_by 130) 5 = .ok (.baload, 1) := by decide +kernel
theorem d130_6 : decode (ix_by 130) 6 = .ok (.ifCond .eq 4, 3) := by decide +kernel
theorem d130_9 : decode (ix_by 130) 9 = .ok (.return_, 1) := by decide +kernel
theorem d130_10 : decode (ix_by 130) 10 = .ok (.aload_n 0, 1) := by decide +kernel
theorem d130_11 : decode (ix_by 130) 11 = .ok (.getfield 47, 3) := by decide +kernel
theorem d130_14 : decode (ix_by 130) 14 = .ok (.iload_n 1, 1) := by decide +kernel
theorem d130_15 : decode (ix_by 130) 15 = .ok (.dup2, 1) := by decide +kernel
theorem d130_16 : decode (ix_by 130) 16 = .ok (.iaload, 1) := by decide +kernel
theorem d130_17 : decode (ix_by 130) 17 = .ok (.iconst 1, 1) := by decide +kernel
theorem d130_18 : decode (ix_by 130) 18 = .ok (.iadd, 1) := by decide +kernel
theorem d130_19 : decode (ix_by 130) 19 = .ok (.iastore, 1) := by decide +kernel
theorem d130_20 : decode (ix_by 130) 20 = .ok (.aload_n 0, 1) := by decide +kernel
theorem d130_21 : decode (ix_by 130) 21 = .ok (.getfield 13, 3) := by decide +kernel
theorem d130_24 : decode (ix_by 130) 24 = .ok (.aload_n 0, 1) := by decide +kernel
theorem d130_25 : decode (ix_by 130) 25 = .ok (.iload_n 1, 1) := by decide +kernel
theorem d130_26 : decode (ix_by 130) 26 = .ok (.invokevirtual 181, 3) := by decide +kernel
theorem d130_29 : decode (ix_by 130) 29 = .ok (.iaload, 1) := by decide +kernel
theorem d130_30 : decode (ix_by 130) 30 = .ok (.invokestatic 164, 3) := by decide +kernel
theorem d130_33 : decode (ix_by 130) 33 = .ok (.istore_n 2, 1) := by decide +kernel
theorem d130_34 : decode (ix_by 130) 34 = .ok (.aload_n 0, 1) := by decide +kernel
theorem d130_35 : decode (ix_by 130) 35 = .ok (.getfield 44, 3) := by decide +kernel
theorem d130_38 : decode (ix_by 130) 38 = .ok (.iload_n 1, 1) := by decide +kernel
theorem d130_39 : decode (ix_by 130) 39 = .ok (.iaload, 1) := by decide +kernel
theorem d130_40 : decode (ix_by 130) 40 = .ok (.ifCond .ne 85, 3) := by decide +kernel
theorem d130_43 : decode (ix_by 130) 43 = .ok (.aload_n 0, 1) := by decide +kernel
theorem d130_44 : decode (ix_by 130) 44 = .ok (.getfield 53, 3) := by decide +kernel
theorem d130_47 : decode (ix_by 130) 47 = .ok (.iload_n 1, 1) := by decide +kernel
theorem d130_48 : decode (ix_by 130) 48 = .ok (.aload_n 0, 1) := by decide +kernel
theorem d130_49 : decode (ix_by 130) 49 = .ok (.getfield 47, 3) := by decide +kernel
theorem d130_52 : decode (ix_by 130) 52 = .ok (.iload_n 1, 1) := by decide +kernel
theorem d130_53 : decode (ix_by 130) 53 = .ok (.iaload, 1) := by decide +kernel
theorem d130_54 : decode (ix_by 130) 54 = .ok (.iastore, 1) := by decide +kernel
theorem d130_55 : decode (ix_by 130) 55 = .ok (.aload_n 0, 1) := by decide +kernel
theorem d130_56 : decode (ix_by 130) 56 = .ok (.getfield 62, 3) := by decide +kernel
theorem d130_59 : decode (ix_by 130) 59 = .ok (.iload_n 1, 1) := by decide +kernel
theorem d130_60 : decode (ix_by 130) 60 = .ok (.baload, 1) := by decide +kernel
theorem d130_61 : decode (ix_by 130) 61 = .ok (.ifCond .ne 13, 3) := by decide +kernel
theorem d130_64 : decode (ix_by 130) 64 = .ok (.aload_n 0, 1) := by decide +kernel
theorem d130_65 : decode (ix_by 130) 65 = .ok (.getfield 41, 3) := by decide +kernel
theorem d130_68 : decode (ix_by 130) 68 = .ok (.iload_n 1, 1) := by decide +kernel
theorem d130_69 : decode (ix_by 130) 69 = .ok (.iaload, 1) := by decide +kernel
theorem d130_70 : decode (ix_by 130) 70 = .ok (.iload_n 2, 1) := by decide +kernel
theorem d130_71 : decode (ix_by 130) 71 = .ok (.if_icmp .le 11, 3) := by decide +kernel
theorem d130_74 : decode (ix_by 130) 74 = .ok (.aload_n 0, 1) := by decide +kernel
theorem d130_75 : decode (ix_by 130) 75 = .ok (.iload_n 1, 1) := by decide +kernel
theorem d130_76 : decode (ix_by 130) 76 = .ok (.invokevirtual 191, 3) := by decide +kernel
theorem d130_79 : decode (ix_by 130) 79 = .ok (.goto 170, 3) := by decide +kernel
theorem d130_82 : decode (ix_by 130) 82 = .ok (.aload_n 0, 1) := by decide +kernel
theorem d130_83 : decode (ix_by 130) 83 = .ok (.getfield 41, 3) := by decide +kernel
theorem d130_86 : decode (ix_by 130) 86 = .ok (.iload_n 1, 1) := by decide +kernel
theorem d130_87 : decode (ix_by 130) 87 = .ok (.iaload, 1) := by decide +kernel
theorem d130_88 : decode (ix_by 130) 88 = .ok (.ifCond .ne 11, 3) := by decide +kernel
theorem d130_91 : decode (ix_by 130) 91 = .ok (.aload_n 0, 1) := by decide +kernel
theorem d130_92 : decode (ix_by 130) 92 = .ok (.iload_n 1, 1) := by decide +kernel
theorem d130_93 : decode (ix_by 130) 93 = .ok (.invokevirtual 195, 3) := by decide +kernel
theorem d130_96 : decode (ix_by 130) 96 = .ok (.goto 16, 3) := by decide +kernel
theorem d130_99 : decode (ix_by 130) 99 = .ok (.aload_n 0, 1) := by decide +kernel
theorem d130_100 : decode (ix_by 130) 100 = .ok (.iload_n 1, 1) := by decide +kernel
theorem d130_101 : decode (ix_by 130) 101 = .ok (.aload_n 0, 1) := by decide +kernel
theorem d130_102 : decode (ix_by 130) 102 = .ok (.getfield 41, 3) := by decide +kernel
theorem d130_105 : decode (ix_by 130) 105 = .ok (.iload_n 1, 1) := by decide +kernel
theorem d130_106 : decode (ix_by 130) 106 = .ok (.iaload, 1) := by decide +kernel
theorem d130_107 : decode (ix_by 130) 107 = .ok (.iconst 1, 1) := by decide +kernel
theorem d130_108 : decode (ix_by 130) 108 = .ok (.isub, 1) := by decide +kernel
theorem d130_109 : decode (ix_by 130) 109 = .ok (.invokevirtual 198, 3) := by decide +kernel
theorem d130_112 : decode (ix_by 130) 112 = .ok (.aload_n 0, 1) := by decide +kernel
theorem d130_113 : decode (ix_by 130) 113 = .ok (.getfield 41, 3) := by decide +kernel
theorem d130_116 : decode (ix_by 130) 116 = .ok (.iload_n 1, 1) := by decide +kernel
theorem d130_117 : decode (ix_by 130) 117 = .ok (.dup2, 1) := by decide +kernel
theorem d130_118 : decode (ix_by 130) 118 = .ok (.iaload, 1) := by decide +kernel
theorem d130_119 : decode (ix_by 130) 119 = .ok (.iconst 1, 1) := by decide +kernel
theorem d130_120 : decode (ix_by 130) 120 = .ok (.iadd, 1) := by decide +kernel
theorem d130_121 : decode (ix_by 130) 121 = .ok (.iastore, 1) := by decide +kernel
theorem d130_122 : decode (ix_by 130) 122 = .ok (.goto 127, 3) := by decide +kernel
theorem d130_125 : decode (ix_by 130) 125 = .ok (.aload_n 0, 1) := by decide +kernel
theorem d130_126 : decode (ix_by 130) 126 = .ok (.getfield 56, 3) := by decide +kernel
theorem d130_129 : decode (ix_by 130) 129 = .ok (.iload_n 1, 1) := by decide +kernel
theorem d130_130 : decode (ix_by 130) 130 = .ok (.iaload, 1) := by decide +kernel
theorem d130_131 : decode (ix_by 130) 131 = .ok (.ifCond .eq 23, 3) := by decide +kernel
theorem d130_134 : decode (ix_by 130) 134 = .ok (.aload_n 0, 1) := by decide +kernel
theorem d130_135 : decode (ix_by 130) 135 = .ok (.getfield 53, 3) := by decide +kernel
theorem d130_138 : decode (ix_by 130) 138 = .ok (.iload_n 1, 1) := by decide +kernel
theorem d130_139 : decode (ix_by 130) 139 = .ok (.aload_n 0, 1) := by decide +kernel
theorem d130_140 : decode (ix_by 130) 140 = .ok (.getfield 47, 3) := by decide +kernel
theorem d130_143 : decode (ix_by 130) 143 = .ok (.iload_n 1, 1) := by decide +kernel
theorem d130_144 : decode (ix_by 130) 144 = .ok (.iaload, 1) := by decide +kernel
theorem d130_145 : decode (ix_by 130) 145 = .ok (.iastore, 1) := by decide +kernel
theorem d130_146 : decode (ix_by 130) 146 = .ok (.aload_n 0, 1) := by decide +kernel
theorem d130_147 : decode (ix_by 130) 147 = .ok (.iload_n 1, 1) := by decide +kernel
theorem d130_148 : decode (ix_by 130) 148 = .ok (.invokevirtual 201, 3) := by decide +kernel
theorem d130_151 : decode (ix_by 130) 151 = .ok (.goto 98, 3) := by decide +kernel
theorem d130_154 : decode (ix_by 130) 154 = .ok (.aload_n 0, 1) := by decide +kernel
theorem d130_155 : decode (ix_by 130) 155 = .ok (.getfield 59, 3) := by decide +kernel
theorem d130_158 : decode (ix_by 130) 158 = .ok (.iload_n 1, 1) := by decide +kernel
theorem d130_159 : decode (ix_by 130) 159 = .ok (.baload, 1) := by decide +kernel
theorem d130_160 : decode (ix_by 130) 160 = .ok (.ifCond .ne 61, 3) := by decide +kernel
theorem d130_163 : decode (ix_by 130) 163 = .ok (.aload_n 0, 1) := by decide +kernel
theorem d130_164 : decode (ix_by 130) 164 = .ok (.getfield 47, 3) := by decide +kernel
theorem d130_167 : decode (ix_by 130) 167 = .ok (.iload_n 1, 1) := by decide +kernel
theorem d130_168 : decode (ix_by 130) 168 = .ok (.iaload, 1) := by decide +kernel
theorem d130_169 : decode (ix_by 130) 169 = .ok (.aload_n 0, 1) := by decide +kernel
theorem d130_170 : decode (ix_by 130) 170 = .ok (.getfield 50, 3) := by decide +kernel
theorem d130_173 : decode (ix_by 130) 173 = .ok (.iload_n 1, 1) := by decide +kernel
theorem d130_174 : decode (ix_by 130) 174 = .ok (.iaload, 1) := by decide +kernel
theorem d130_175 : decode (ix_by 130) 175 = .ok (.isub, 1) := by decide +kernel
theorem d130_176 : decode (ix_by 130) 176 = .ok (.aload_n 0, 1) := by decide +kernel
theorem d130_177 : decode (ix_by 130) 177 = .ok (.getfield 140, 3) := by decide +kernel
theorem d130_180 : decode (ix_by 130) 180 = .ok (.if_icmp .ge 4, 3) := by decide +kernel
theorem d130_183 : decode (ix_by 130) 183 = .ok (.return_, 1) := by decide +kernel
theorem d130_184 : decode (ix_by 130) 184 = .ok (.aload_n 0, 1) := by decide +kernel
theorem d130_185 : decode (ix_by 130) 185 = .ok (.getfield 44, 3) := by decide +kernel
theorem d130_188 : decode (ix_by 130) 188 = .ok (.iload_n 1, 1) := by decide +kernel
theorem d130_189 : decode (ix_by 130) 189 = .ok (.iaload, 1) := by decide +kernel
theorem d130_190 : decode (ix_by 130) 190 = .ok (.iconst 3, 1) := by decide +kernel
theorem d130_191 : decode (ix_by 130) 191 = .ok (.if_icmp .ne 10, 3) := by decide +kernel
theorem d130_194 : decode (ix_by 130) 194 = .ok (.aload_n 0, 1) := by decide +kernel
theorem d130_195 : decode (ix_by 130) 195 = .ok (.iload_n 1, 1) := by decide +kernel
theorem d130_196 : decode (ix_by 130) 196 = .ok (.iconst 3, 1) := by decide +kernel
theorem d130_197 : decode (ix_by 130) 197 = .ok (.invokevirtual 187, 3) := by decide +kernel
theorem d130_200 : decode (ix_by 130) 200 = .ok (.return_, 1) := by decide +kernel
theorem d130_201 : decode (ix_by 130) 201 = .ok (.aload_n 0, 1) := by decide +kernel
theorem d130_202 : decode (ix_by 130) 202 = .ok (.getfield 53, 3) := by decide +kernel
theorem d130_205 : decode (ix_by 130) 205 = .ok (.iload_n 1, 1) := by decide +kernel
theorem d130_206 : decode (ix_by 130) 206 = .ok (.aload_n 0, 1) := by decide +kernel
theorem d130_207 : decode (ix_by 130) 207 = .ok (.getfield 47, 3) := by decide +kernel
theorem d130_210 : decode (ix_by 130) 210 = .ok (.iload_n 1, 1) := by decide +kernel
theorem d130_211 : decode (ix_by 130) 211 = .ok (.iaload, 1) := by decide +kernel
theorem d130_212 : decode (ix_by 130) 212 = .ok (.iastore, 1) := by decide +kernel
theorem d130_213 : decode (ix_by 130) 213 = .ok (.aload_n 0, 1) := by decide +kernel
theorem d130_214 : decode (ix_by 130) 214 = .ok (.iload_n 1, 1) := by decide +kernel
theorem d130_215 : decode (ix_by 130) 215 = .ok (.invokevirtual 191, 3) := by decide +kernel
theorem d130_218 : decode (ix_by 130) 218 = .ok (.goto 31, 3) := by decide +kernel
theorem d130_221 : decode (ix_by 130) 221 = .ok (.aload_n 0, 1) := by decide +kernel
theorem d130_222 : decode (ix_by 130) 222 = .ok (.getfield 47, 3) := by decide +kernel
theorem d130_225 : decode (ix_by 130) 225 = .ok (.iload_n 1, 1) := by decide +kernel
theorem d130_226 : decode (ix_by 130) 226 = .ok (.iaload, 1) := by decide +kernel
theorem d130_227 : decode (ix_by 130) 227 = .ok (.aload_n 0, 1) := by decide +kernel
theorem d130_228 : decode (ix_by 130) 228 = .ok (.getfield 53, 3) := by decide +kernel
theorem d130_231 : decode (ix_by 130) 231 = .ok (.iload_n 1, 1) := by decide +kernel
theorem d130_232 : decode (ix_by 130) 232 = .ok (.iaload, 1) := by decide +kernel
theorem d130_233 : decode (ix_by 130) 233 = .ok (.isub, 1) := by decide +kernel
theorem d130_234 : decode (ix_by 130) 234 = .ok (.iconst 4, 1) := by decide +kernel
theorem d130_235 : decode (ix_by 130) 235 = .ok (.aload_n 0, 1) := by decide +kernel
theorem d130_236 : decode (ix_by 130) 236 = .ok (.getfield 140, 3) := by decide +kernel
theorem d130_239 : decode (ix_by 130) 239 = .ok (.imul, 1) := by decide +kernel
theorem d130_240 : decode (ix_by 130) 240 = .ok (.if_icmp .lt 9, 3) := by decide +kernel
theorem d130_243 : decode (ix_by 130) 243 = .ok (.aload_n 0, 1) := by decide +kernel
theorem d130_244 : decode (ix_by 130) 244 = .ok (.iload_n 1, 1) := by decide +kernel
theorem d130_245 : decode (ix_by 130) 245 = .ok (.iconst 3, 1) := by decide +kernel
theorem d130_246 : decode (ix_by 130) 246 = .ok (.invokevirtual 187, 3) := by decide +kernel
theorem d130_249 : decode (ix_by 130) 249 = .ok (.return_, 1) := by decide +kernel
theorem d131_0 : decode (ix_by 131) 0 = .ok (.bipush 6, 2) := by decide +kernel
theorem d131_2 : decode (ix_by 131) 2 = .ok (.iload_n 1, 1) := by decide +kernel
theorem d131_3 : decode (ix_by 131) 3 = .ok (.sipush 320, 3) := by decide +kernel
theorem d131_6 : decode (ix_by 131) 6 = .ok (.idiv, 1) := by decide +kernel
theorem d131_7 : decode (ix_by 131) 7 = .ok (.imul, 1) := by decide +kernel
theorem d131_8 : decode (ix_by 131) 8 = .ok (.aload_n 0, 1) := by decide +kernel
theorem d131_9 : decode (ix_by 131) 9 = .ok (.getfield 26, 3) := by decide +kernel
theorem d131_12 : decode (ix_by 131) 12 = .ok (.iload_n 1, 1) := by decide +kernel
theorem d131_13 : decode (ix_by 131) 13 = .ok (.iaload, 1) := by decide +kernel
theorem d131_14 : decode (ix_by 131) 14 = .ok (.iadd, 1) := by decide +kernel
theorem d131_15 : decode (ix_by 131) 15 = .ok (.ireturn, 1) := by decide +kernel
theorem d132_0 : decode (ix_by 132) 0 = .ok (.iload_n 0, 1) := by decide +kernel
theorem d132_1 : decode (ix_by 132) 1 = .ok (.iconst 3, 1) := by decide +kernel
theorem d132_2 : decode (ix_by 132) 2 = .ok (.iadd, 1) := by decide +kernel
theorem d132_3 : decode (ix_by 132) 3 = .ok (.iconst 4, 1) := by decide +kernel
theorem d132_4 : decode (ix_by 132) 4 = .ok (.idiv, 1) := by decide +kernel
theorem d132_5 : decode (ix_by 132) 5 = .ok (.ireturn, 1) := by decide +kernel
theorem d133_0 : decode (ix_by 133) 0 = .ok (.aload_n 0, 1) := by decide +kernel
theorem d133_1 : decode (ix_by 133) 1 = .ok (.iload_n 1, 1) := by decide +kernel
theorem d133_2 : decode (ix_by 133) 2 = .ok (.invokevirtual 181, 3) := by decide +kernel
theorem d133_5 : decode (ix_by 133) 5 = .ok (.istore_n 2, 1) := by decide +kernel
theorem d133_6 : decode (ix_by 133) 6 = .ok (.aload_n 0, 1) := by decide +kernel
theorem d133_7 : decode (ix_by 133) 7 = .ok (.iconst 3, 1) := by decide +kernel
theorem d133_8 : decode (ix_by 133) 8 = .ok (.iconst 1, 1) := by decide +kernel
theorem d133_9 : decode (ix_by 133) 9 = .ok (.iload_n 1, 1) := by decide +kernel
theorem d133_10 : decode (ix_by 133) 10 = .ok (.sipush 320, 3) := by decide +kernel
theorem d133_13 : decode (ix_by 133) 13 = .ok (.idiv, 1) := by decide +kernel
theorem d133_14 : decode (ix_by 133) 14 = .ok (.isub, 1) := by decide +kernel
theorem d133_15 : decode (ix_by 133) 15 = .ok (.iload_n 1, 1) := by decide +kernel
theorem d133_16 : decode (ix_by 133) 16 = .ok (.aload_n 0, 1) := by decide +kernel
theorem d133_17 : decode (ix_by 133) 17 = .ok (.getfield 62, 3) := by decide +kernel
theorem d133_20 : decode (ix_by 133) 20 = .ok (.iload_n 1, 1) := by decide +kernel
theorem d133_21 : decode (ix_by 133) 21 = .ok (.baload, 1) := by decide +kernel
theorem d133_22 : decode (ix_by 133) 22 = .ok (.ifCond .eq 7, 3) := by decide +kernel
theorem d133_25 : decode (ix_by 133) 25 = .ok (.iconst (-1), 1) := by decide +kernel
theorem d133_26 : decode (ix_by 133) 26 = .ok (.goto 9, 3) := by decide +kernel
theorem d133_29 : decode (ix_by 133) 29 = .ok (.aload_n 0, 1) := by decide +kernel
theorem d133_30 : decode (ix_by 133) 30 = .ok (.getfield 13, 3) := by decide +kernel
theorem d133_33 : decode (ix_by 133) 33 = .ok (.iload_n 2, 1) := by decide +kernel
theorem d133_34 : decode (ix_by 133) 34 = .ok (.iaload, 1) := by decide +kernel
theorem d133_35 : decode (ix_by 133) 35 = .ok (.aload_n 0, 1) := by decide +kernel
theorem d133_36 : decode (ix_by 133) 36 = .ok (.getfield 62, 3) := by decide +kernel
theorem d133_39 : decode (ix_by 133) 39 = .ok (.iload_n 1, 1) := by decide +kernel
theorem d133_40 : decode (ix_by 133) 40 = .ok (.baload, 1) := by decide +kernel
theorem d133_41 : decode (ix_by 133) 41 = .ok (.ifCond .eq 7, 3) := by decide +kernel
theorem d133_44 : decode (ix_by 133) 44 = .ok (.iconst 0, 1) := by decide +kernel
theorem d133_45 : decode (ix_by 133) 45 = .ok (.goto 8, 3) := by decide +kernel
theorem d133_48 : decode (ix_by 133) 48 = .ok (.aload_n 0, 1) := by decide +kernel
theorem d133_49 : decode (ix_by 133) 49 = .ok (.iload_n 2, 1) := by decide +kernel
theorem d133_50 : decode (ix_by 133) 50 = .ok (.invokevirtual 184, 3) := by decide +kernel
theorem d133_53 : decode (ix_by 133) 53 = .ok (.iconst 0, 1) := by decide +kernel
theorem d133_54 : decode (ix_by 133) 54 = .ok (.invokevirtual 177, 3) := by decide +kernel
theorem d133_57 : decode (ix_by 133) 57 = .ok (.ifCond .eq 27, 3) := by decide +kernel
theorem d133_60 : decode (ix_by 133) 60 = .ok (.aload_n 0, 1) := by decide +kernel
theorem d133_61 : decode (ix_by 133) 61 = .ok (.getfield 131, 3) := by decide +kernel
theorem d133_64 : decode (ix_by 133) 64 = .ok (.bipush 11, 2) := by decide +kernel
theorem d133_66 : decode (ix_by 133) 66 = .ok (.aload_n 0, 1) := by decide +kernel
theorem d133_67 : decode (ix_by 133) 67 = .ok (.getfield 171, 3) := by decide +kernel
theorem d133_70 : decode (ix_by 133) 70 = .ok (.imul, 1) := by decide +kernel
theorem d133_71 : decode (ix_by 133) 71 = .ok (.bipush 11, 2) := by decide +kernel
theorem d133_73 : decode (ix_by 133) 73 = .ok (.isub, 1) := by decide +kernel
theorem d133_74 : decode (ix_by 133) 74 = .ok (.bipush 6, 2) := by decide +kernel
theorem d133_76 : decode (ix_by 133) 76 = .ok (.iadd, 1) := by decide +kernel
theorem d133_77 : decode (ix_by 133) 77 = .ok (.aload_n 0, 1) := by decide +kernel
theorem d133_78 : decode (ix_by 133) 78 = .ok (.getfield 23, 3) := by decide +kernel
theorem d133_81 : decode (ix_by 133) 81 = .ok (.iload_n 1, 1) := by decide +kernel
theorem d133_82 : decode (ix_by 133) 82 = .ok (.iaload, 1) := by decide +kernel
theorem d133_83 : decode (ix_by 133) 83 = .ok (.iastore, 1) := by decide +kernel
theorem d133_84 : decode (ix_by 133) 84 = .ok (.aload_n 0, 1) := by decide +kernel
theorem d133_85 : decode (ix_by 133) 85 = .ok (.getfield 44, 3) := by decide +kernel
theorem d133_88 : decode (ix_by 133) 88 = .ok (.iload_n 1, 1) := by decide +kernel
theorem d133_89 : decode (ix_by 133) 89 = .ok (.dup2, 1) := by decide +kernel
theorem d133_90 : decode (ix_by 133) 90 = .ok (.iaload, 1) := by decide +kernel
theorem d133_91 : decode (ix_by 133) 91 = .ok (.iconst 1, 1) := by decide +kernel
theorem d133_92 : decode (ix_by 133) 92 = .ok (.iadd, 1) := by decide +kernel
theorem d133_93 : decode (ix_by 133) 93 = .ok (.iastore, 1) := by decide +kernel
theorem d133_94 : decode (ix_by 133) 94 = .ok (.aload_n 0, 1) := by decide +kernel
theorem d133_95 : decode (ix_by 133) 95 = .ok (.getfield 50, 3) := by decide +kernel
theorem d133_98 : decode (ix_by 133) 98 = .ok (.iload_n 1, 1) := by decide +kernel
theorem d133_99 : decode (ix_by 133) 99 = .ok (.aload_n 0, 1) := by decide +kernel
theorem d133_100 : decode (ix_by 133) 100 = .ok (.getfield 47, 3) := by decide +kernel
theorem d133_103 : decode (ix_by 133) 103 = .ok (.iload_n 1, 1) := by decide +kernel
theorem d133_104 : decode (ix_by 133) 104 = .ok (.iaload, 1) := by decide +kernel
theorem d133_105 : decode (ix_by 133) 105 = .ok (.iastore, 1) := by decide +kernel
theorem d133_106 : decode (ix_by 133) 106 = .ok (.aload_n 0, 1) := by decide +kernel
theorem d133_107 : decode (ix_by 133) 107 = .ok (.getfield 23, 3) := by decide +kernel
theorem d133_110 : decode (ix_by 133) 110 = .ok (.iload_n 1, 1) := by decide +kernel
theorem d133_111 : decode (ix_by 133) 111 = .ok (.iaload, 1) := by decide +kernel
theorem d133_112 : decode (ix_by 133) 112 = .ok (.iconst 1, 1) := by decide +kernel
theorem d133_113 : decode (ix_by 133) 113 = .ok (.if_icmp .ne 22, 3) := by decide +kernel
theorem d133_116 : decode (ix_by 133) 116 = .ok (.aload_n 0, 1) := by decide +kernel
theorem d133_117 : decode (ix_by 133) 117 = .ok (.iload_n 1, 1) := by decide +kernel
theorem d133_118 : decode (ix_by 133) 118 = .ok (.aload_n 0, 1) := by decide +kernel
theorem d133_119 : decode (ix_by 133) 119 = .ok (.getfield 62, 3) := by decide +kernel
theorem d133_122 : decode (ix_by 133) 122 = .ok (.iload_n 1, 1) := by decide +kernel
theorem d133_123 : decode (ix_by 133) 123 = .ok (.baload, 1) := by decide +kernel
theorem d133_124 : decode (ix_by 133) 124 = .ok (.ifCond .eq 7, 3) := by decide +kernel
theorem d133_127 : decode (ix_by 133) 127 = .ok (.iconst 2, 1) := by decide +kernel
theorem d133_128 : decode (ix_by 133) 128 = .ok (.goto 4, 3) := by decide +kernel
theorem d133_131 : decode (ix_by 133) 131 = .ok (.iconst 1, 1) := by decide +kernel
theorem d133_132 : decode (ix_by 133) 132 = .ok (.invokevirtual 187, 3) := by decide +kernel
theorem d133_135 : decode (ix_by 133) 135 = .ok (.return_, 1) := by decide +kernel
theorem d134_0 : decode (ix_by 134) 0 = .ok (.iconst 0, 1) := by decide +kernel
theorem d134_1 : decode (ix_by 134) 1 = .ok (.istore_n 2, 1) := by decide +kernel
theorem d134_2 : decode (ix_by 134) 2 = .ok (.iconst 0, 1) := by decide +kernel
theorem d134_3 : decode (ix_by 134) 3 = .ok (.istore_n 3, 1) := by decide +kernel
theorem d134_4 : decode (ix_by 134) 4 = .ok (.iload_n 3, 1) := by decide +kernel
theorem d134_5 : decode (ix_by 134) 5 = .ok (.aload_n 0, 1) := by decide +kernel
theorem d134_6 : decode (ix_by 134) 6 = .ok (.getfield 13, 3) := by decide +kernel
theorem d134_9 : decode (ix_by 134) 9 = .ok (.iload_n 1, 1) := by decide +kernel
theorem d134_10 : decode (ix_by 134) 10 = .ok (.iaload, 1) := by decide +kernel
theorem d134_11 : decode (ix_by 134) 11 = .ok (.invokestatic 164, 3) := by decide +kernel
theorem d134_14 : decode (ix_by 134) 14 = .ok (.if_icmp .ge 18, 3) := by decide +kernel
theorem d134_17 : decode (ix_by 134) 17 = .ok (.iload_n 2, 1) := by decide +kernel
theorem d134_18 : decode (ix_by 134) 18 = .ok (.aload_n 0, 1) := by decide +kernel
theorem d134_19 : decode (ix_by 134) 19 = .ok (.iload_n 1, 1) := by decide +kernel
theorem d134_20 : decode (ix_by 134) 20 = .ok (.iload_n 3, 1) := by decide +kernel
theorem d134_21 : decode (ix_by 134) 21 = .ok (.invokevirtual 167, 3) := by decide +kernel
theorem d134_24 : decode (ix_by 134) 24 = .ok (.iadd, 1) := by decide +kernel
theorem d134_25 : decode (ix_by 134) 25 = .ok (.istore_n 2, 1) := by decide +kernel
theorem d134_26 : decode (ix_by 134) 26 = .ok (.iinc 3 1, 3) := by decide +kernel
theorem d134_29 : decode (ix_by 134) 29 = .ok (.goto (-25), 3) := by decide +kernel
theorem d134_32 : decode (ix_by 134) 32 = .ok (.iload_n 2, 1) := by decide +kernel
theorem d134_33 : decode (ix_by 134) 33 = .ok (.ireturn, 1) := by decide +kernel
theorem d135_0 : decode (ix_by 135) 0 = .ok (.iconst 0, 1) := by decide +kernel
theorem d135_1 : decode (ix_by 135) 1 = .ok (.istore_n 3, 1) := by decide +kernel
theorem d135_2 : decode (ix_by 135) 2 = .ok (.iconst 0, 1) := by decide +kernel
theorem d135_3 : decode (ix_by 135) 3 = .ok (.istore 4, 2) := by decide +kernel
theorem d135_5 : decode (ix_by 135) 5 = .ok (.iload 4, 2) := by decide +kernel
theorem d135_7 : decode (ix_by 135) 7 = .ok (.iconst 4, 1) := by decide +kernel
theorem d135_8 : decode (ix_by 135) 8 = .ok (.if_icmp .ge 50, 3) := by decide +kernel
theorem d135_11 : decode (ix_by 135) 11 = .ok (.iload_n 3, 1) := by decide +kernel
theorem d135_12 : decode (ix_by 135) 12 = .ok (.bipush 8, 2) := by decide +kernel
theorem d135_14 : decode (ix_by 135) 14 = .ok (.ishl, 1) := by decide +kernel
theorem d135_15 : decode (ix_by 135) 15 = .ok (.iconst 4, 1) := by decide +kernel
theorem d135_16 : decode (ix_by 135) 16 = .ok (.iload_n 2, 1) := by decide +kernel
theorem d135_17 : decode (ix_by 135) 17 = .ok (.imul, 1) := by decide +kernel
theorem d135_18 : decode (ix_by 135) 18 = .ok (.iload 4, 2) := by decide +kernel
theorem d135_20 : decode (ix_by 135) 20 = .ok (.iadd, 1) := by decide +kernel
theorem d135_21 : decode (ix_by 135) 21 = .ok (.aload_n 0, 1) := by decide +kernel
theorem d135_22 : decode (ix_by 135) 22 = .ok (.getfield 13, 3) := by decide +kernel
theorem d135_25 : decode (ix_by 135) 25 = .ok (.iload_n 1, 1) := by decide +kernel
theorem d135_26 : decode (ix_by 135) 26 = .ok (.iaload, 1) := by decide +kernel
theorem d135_27 : decode (ix_by 135) 27 = .ok (.if_icmp .ge 22, 3) := by decide +kernel
theorem d135_30 : decode (ix_by 135) 30 = .ok (.aload_n 0, 1) := by decide +kernel
theorem d135_31 : decode (ix_by 135) 31 = .ok (.getfield 17, 3) := by decide +kernel
theorem d135_34 : decode (ix_by 135) 34 = .ok (.bipush 64, 2) := by decide +kernel
theorem d135_36 : decode (ix_by 135) 36 = .ok (.iload_n 1, 1) := by decide +kernel
theorem d135_37 : decode (ix_by 135) 37 = .ok (.imul, 1) := by decide +kernel
theorem d135_38 : decode (ix_by 135) 38 = .ok (.iconst 4, 1) := by decide +kernel
theorem d135_39 : decode (ix_by 135) 39 = .ok (.iload_n 2, 1) := by decide +kernel
theorem d135_40 : decode (ix_by 135) 40 = .ok (.imul, 1) := by decide +kernel
theorem d135_41 : decode (ix_by 135) 41 = .ok (.iadd, 1) := by decide +kernel
theorem d135_42 : decode (ix_by 135) 42 = .ok (.iload 4, 2) := by decide +kernel
theorem d135_44 : decode (ix_by 135) 44 = .ok (.iadd, 1) := by decide +kernel
theorem d135_45 : decode (ix_by 135) 45 = .ok (.iaload, 1) := by decide +kernel
theorem d135_46 : decode (ix_by 135) 46 = .ok (.goto 4, 3) := by decide +kernel
theorem d135_49 : decode (ix_by 135) 49 = .ok (.iconst 0, 1) := by decide +kernel
theorem d135_50 : decode (ix_by 135) 50 = .ok (.ior, 1) := by decide +kernel
theorem d135_51 : decode (ix_by 135) 51 = .ok (.istore_n 3, 1) := by decide +kernel
theorem d135_52 : decode (ix_by 135) 52 = .ok (.iinc 4 1, 3) := by decide +kernel
theorem d135_55 : decode (ix_by 135) 55 = .ok (.goto (-50), 3) := by decide +kernel
theorem d135_58 : decode (ix_by 135) 58 = .ok (.iload_n 3, 1) := by decide +kernel
theorem d135_59 : decode (ix_by 135) 59 = .ok (.ireturn, 1) := by decide +kernel
theorem d136_0 : decode (ix_by 136) 0 = .ok (.aload_n 0, 1) := by decide +kernel
theorem d136_1 : decode (ix_by 136) 1 = .ok (.getfield 171, 3) := by decide +kernel
theorem d136_4 : decode (ix_by 136) 4 = .ok (.bipush 24, 2) := by decide +kernel
theorem d136_6 : decode (ix_by 136) 6 = .ok (.if_icmp .ne 5, 3) := by decide +kernel
theorem d136_9 : decode (ix_by 136) 9 = .ok (.iconst 0, 1) := by decide +kernel
theorem d136_10 : decode (ix_by 136) 10 = .ok (.ireturn, 1) := by decide +kernel
theorem d136_11 : decode (ix_by 136) 11 = .ok (.bipush 11, 2) := by decide +kernel
theorem d136_13 : decode (ix_by 136) 13 = .ok (.aload_n 0, 1) := by decide +kernel
theorem d136_14 : decode (ix_by 136) 14 = .ok (.getfield 171, 3) := by decide +kernel
theorem d136_17 : decode (ix_by 136) 17 = .ok (.imul, 1) := by decide +kernel
theorem d136_18 : decode (ix_by 136) 18 = .ok (.istore 7, 2) := by decide +kernel
theorem d136_20 : decode (ix_by 136) 20 = .ok (.iconst 0, 1) := by decide +kernel
theorem d136_21 : decode (ix_by 136) 21 = .ok (.istore 8, 2) := by decide +kernel
theorem d136_23 : decode (ix_by 136) 23 = .ok (.iload 8, 2) := by decide +kernel
theorem d136_25 : decode (ix_by 136) 25 = .ok (.bipush 11, 2) := by decide +kernel
theorem d136_27 : decode (ix_by 136) 27 = .ok (.if_icmp .ge 20, 3) := by decide +kernel
theorem d136_30 : decode (ix_by 136) 30 = .ok (.aload_n 0, 1) := by decide +kernel
theorem d136_31 : decode (ix_by 136) 31 = .ok (.getfield 131, 3) := by decide +kernel
theorem d136_34 : decode (ix_by 136) 34 = .ok (.iload 7, 2) := by decide +kernel
theorem d136_36 : decode (ix_by 136) 36 = .ok (.iload 8, 2) := by decide +kernel
theorem d136_38 : decode (ix_by 136) 38 = .ok (.iadd, 1) := by decide +kernel
theorem d136_39 : decode (ix_by 136) 39 = .ok (.iconst 0, 1) := by decide +kernel
theorem d136_40 : decode (ix_by 136) 40 = .ok (.iastore, 1) := by decide +kernel
theorem d136_41 : decode (ix_by 136) 41 = .ok (.iinc 8 1, 3) := by decide +kernel
theorem d136_44 : decode (ix_by 136) 44 = .ok (.goto (-21), 3) := by decide +kernel
theorem d136_47 : decode (ix_by 136) 47 = .ok (.aload_n 0, 1) := by decide +kernel
theorem d136_48 : decode (ix_by 136) 48 = .ok (.getfield 131, 3) := by decide +kernel
theorem d136_51 : decode (ix_by 136) 51 = .ok (.iload 7, 2) := by decide +kernel
theorem d136_53 : decode (ix_by 136) 53 = .ok (.iload_n 1, 1) := by decide +kernel
theorem d136_54 : decode (ix_by 136) 54 = .ok (.iastore, 1) := by decide +kernel
theorem d136_55 : decode (ix_by 136) 55 = .ok (.aload_n 0, 1) := by decide +kernel
theorem d136_56 : decode (ix_by 136) 56 = .ok (.getfield 131, 3) := by decide +kernel
theorem d136_59 : decode (ix_by 136) 59 = .ok (.iload 7, 2) := by decide +kernel
theorem d136_61 : decode (ix_by 136) 61 = .ok (.iconst 1, 1) := by decide +kernel
theorem d136_62 : decode (ix_by 136) 62 = .ok (.iadd, 1) := by decide +kernel
theorem d136_63 : decode (ix_by 136) 63 = .ok (.iload_n 2, 1) := by decide +kernel
theorem d136_64 : decode (ix_by 136) 64 = .ok (.iastore, 1) := by decide +kernel
theorem d136_65 : decode (ix_by 136) 65 = .ok (.aload_n 0, 1) := by decide +kernel
theorem d136_66 : decode (ix_by 136) 66 = .ok (.getfield 131, 3) := by decide +kernel
theorem d136_69 : decode (ix_by 136) 69 = .ok (.iload 7, 2) := by decide +kernel
theorem d136_71 : decode (ix_by 136) 71 = .ok (.iconst 2, 1) := by decide +kernel
theorem d136_72 : decode (ix_by 136) 72 = .ok (.iadd, 1) := by decide +kernel
theorem d136_73 : decode (ix_by 136) 73 = .ok (.iload_n 3, 1) := by decide +kernel
theorem d136_74 : decode (ix_by 136) 74 = .ok (.iastore, 1) := by decide +kernel
theorem d136_75 : decode (ix_by 136) 75 = .ok (.aload_n 0, 1) := by decide +kernel
theorem d136_76 : decode (ix_by 136) 76 = .ok (.getfield 131, 3) := by decide +kernel
theorem d136_79 : decode (ix_by 136) 79 = .ok (.iload 7, 2) := by decide +kernel
theorem d136_81 : decode (ix_by 136) 81 = .ok (.iconst 3, 1) := by decide +kernel
theorem d136_82 : decode (ix_by 136) 82 = .ok (.iadd, 1) := by decide +kernel
theorem d136_83 : decode (ix_by 136) 83 = .ok (.iload 4, 2) := by decide +kernel
theorem d136_85 : decode (ix_by 136) 85 = .ok (.iastore, 1) := by decide +kernel
theorem d136_86 : decode (ix_by 136) 86 = .ok (.aload_n 0, 1) := by decide +kernel
theorem d136_87 : decode (ix_by 136) 87 = .ok (.getfield 131, 3) := by decide +kernel
theorem d136_90 : decode (ix_by 136) 90 = .ok (.iload 7, 2) := by decide +kernel
theorem d136_92 : decode (ix_by 136) 92 = .ok (.iconst 4, 1) := by decide +kernel
theorem d136_93 : decode (ix_by 136) 93 = .ok (.iadd, 1) := by decide +kernel
theorem d136_94 : decode (ix_by 136) 94 = .ok (.iload 5, 2) := by decide +kernel
theorem d136_96 : decode (ix_by 136) 96 = .ok (.iastore, 1) := by decide +kernel
theorem d136_97 : decode (ix_by 136) 97 = .ok (.aload_n 0, 1) := by decide +kernel
theorem d136_98 : decode (ix_by 136) 98 = .ok (.getfield 131, 3) := by decide +kernel
theorem d136_101 : decode (ix_by 136) 101 = .ok (.iload 7, 2) := by decide +kernel
theorem d136_103 : decode (ix_by 136) 103 = .ok (.iconst 5, 1) := by decide +kernel
theorem d136_104 : decode (ix_by 136) 104 = .ok (.iadd, 1) := by decide +kernel
theorem d136_105 : decode (ix_by 136) 105 = .ok (.iload 6, 2) := by decide +kernel
theorem d136_107 : decode (ix_by 136) 107 = .ok (.iastore, 1) := by decide +kernel
theorem d136_108 : decode (ix_by 136) 108 = .ok (.aload_n 0, 1) := by decide +kernel
theorem d136_109 : decode (ix_by 136) 109 = .ok (.dup, 1) := by decide +kernel
theorem d136_110 : decode (ix_by 136) 110 = .ok (.getfield 171, 3) := by decide +kernel
theorem d136_113 : decode (ix_by 136) 113 = .ok (.iconst 1, 1) := by decide +kernel
theorem d136_114 : decode (ix_by 136) 114 = .ok (.iadd, 1) := by decide +kernel
theorem d136_115 : decode (ix_by 136) 115 = .ok (.putfield 171, 3) := by decide +kernel
theorem d136_118 : decode (ix_by 136) 118 = .ok (.iconst 1, 1) := by decide +kernel
theorem d136_119 : decode (ix_by 136) 119 = .ok (.ireturn, 1) := by decide +kernel
