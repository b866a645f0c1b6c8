/-! decode rows (written by wip/whole/gen4.py) -/
theorem d148_0 : decode (ix_by 148) 0 = .ok (.iload_n 1, 1) := by decide +kernel
theorem d148_1 : decode (ix_by 148) 1 = .ok (.ifCond .lt 15, 3) := by decide +kernel
theorem d148_4 : decode (ix_by 148) 4 = .ok (.iload_n 1, 1) := by decide +kernel
theorem d148_5 : decode (ix_by 148) 5 = .ok (.aload_n 0, 1) := by decide +kernel
theorem d148_6 : decode (ix_by 148) 6 = .ok (.getfield 171, 3) := by decide +kernel
theorem d148_9 : decode (ix_by 148) 9 = .ok (.if_icmp .ge 7, 3) := by decide +kernel
theorem d148_12 : decode (ix_by 148) 12 = .ok (.iconst 1, 1) := by decide +kernel
theorem d148_13 : decode (ix_by 148) 13 = .ok (.goto 4, 3) := by decide +kernel
theorem d148_16 : decode (ix_by 148) 16 = .ok (.iconst 0, 1) := by decide +kernel
theorem d148_17 : decode (ix_by 148) 17 = .ok (.ireturn, 1) := by decide +kernel
theorem d149_0 : decode (ix_by 149) 0 = .ok (.aload_n 0, 1) := by decide +kernel
theorem d149_1 : decode (ix_by 149) 1 = .ok (.dup, 1) := by decide +kernel
theorem d149_2 : decode (ix_by 149) 2 = .ok (.getfield 171, 3) := by decide +kernel
theorem d149_5 : decode (ix_by 149) 5 = .ok (.iconst 1, 1) := by decide +kernel
theorem d149_6 : decode (ix_by 149) 6 = .ok (.isub, 1) := by decide +kernel
theorem d149_7 : decode (ix_by 149) 7 = .ok (.putfield 171, 3) := by decide +kernel
theorem d149_10 : decode (ix_by 149) 10 = .ok (.bipush 11, 2) := by decide +kernel
theorem d149_12 : decode (ix_by 149) 12 = .ok (.iload_n 1, 1) := by decide +kernel
theorem d149_13 : decode (ix_by 149) 13 = .ok (.imul, 1) := by decide +kernel
theorem d149_14 : decode (ix_by 149) 14 = .ok (.istore_n 2, 1) := by decide +kernel
theorem d149_15 : decode (ix_by 149) 15 = .ok (.iload_n 2, 1) := by decide +kernel
theorem d149_16 : decode (ix_by 149) 16 = .ok (.bipush 11, 2) := by decide +kernel
theorem d149_18 : decode (ix_by 149) 18 = .ok (.aload_n 0, 1) := by decide +kernel
theorem d149_19 : decode (ix_by 149) 19 = .ok (.getfield 171, 3) := by decide +kernel
theorem d149_22 : decode (ix_by 149) 22 = .ok (.imul, 1) := by decide +kernel
theorem d149_23 : decode (ix_by 149) 23 = .ok (.if_icmp .ge 24, 3) := by decide +kernel
theorem d149_26 : decode (ix_by 149) 26 = .ok (.aload_n 0, 1) := by decide +kernel
theorem d149_27 : decode (ix_by 149) 27 = .ok (.getfield 131, 3) := by decide +kernel
theorem d149_30 : decode (ix_by 149) 30 = .ok (.iload_n 2, 1) := by decide +kernel
theorem d149_31 : decode (ix_by 149) 31 = .ok (.aload_n 0, 1) := by decide +kernel
theorem d149_32 : decode (ix_by 149) 32 = .ok (.getfield 131, 3) := by decide +kernel
theorem d149_35 : decode (ix_by 149) 35 = .ok (.iload_n 2, 1) := by decide +kernel
theorem d149_36 : decode (ix_by 149) 36 = .ok (.bipush 11, 2) := by decide +kernel
theorem d149_38 : decode (ix_by 149) 38 = .ok (.iadd, 1) := by decide +kernel
theorem d149_39 : decode (ix_by 149) 39 = .ok (.iaload, 1) := by decide +kernel
theorem d149_40 : decode (ix_by 149) 40 = .ok (.iastore, 1) := by decide +kernel
theorem d149_41 : decode (ix_by 149) 41 = .ok (.iinc 2 1, 3) := by decide +kernel
theorem d149_44 : decode (ix_by 149) 44 = .ok (.goto (-29), 3) := by decide +kernel
theorem d149_47 : decode (ix_by 149) 47 = .ok (.return_, 1) := by decide +kernel
theorem d150_0 : decode (ix_by 150) 0 = .ok (.iload_n 1, 1) := by decide +kernel
theorem d150_1 : decode (ix_by 150) 1 = .ok (.sipush 320, 3) := by decide +kernel
theorem d150_4 : decode (ix_by 150) 4 = .ok (.idiv, 1) := by decide +kernel
theorem d150_5 : decode (ix_by 150) 5 = .ok (.istore_n 2, 1) := by decide +kernel
theorem d150_6 : decode (ix_by 150) 6 = .ok (.aload_n 0, 1) := by decide +kernel
theorem d150_7 : decode (ix_by 150) 7 = .ok (.iload_n 2, 1) := by decide +kernel
theorem d150_8 : decode (ix_by 150) 8 = .ok (.iload_n 1, 1) := by decide +kernel
theorem d150_9 : decode (ix_by 150) 9 = .ok (.sipush 320, 3) := by decide +kernel
theorem d150_12 : decode (ix_by 150) 12 = .ok (.irem, 1) := by decide +kernel
theorem d150_13 : decode (ix_by 150) 13 = .ok (.invokevirtual 174, 3) := by decide +kernel
theorem d150_16 : decode (ix_by 150) 16 = .ok (.ifCond .lt 13, 3) := by decide +kernel
theorem d150_19 : decode (ix_by 150) 19 = .ok (.aload_n 0, 1) := by decide +kernel
theorem d150_20 : decode (ix_by 150) 20 = .ok (.getfield 23, 3) := by decide +kernel
theorem d150_23 : decode (ix_by 150) 23 = .ok (.iload_n 1, 1) := by decide +kernel
theorem d150_24 : decode (ix_by 150) 24 = .ok (.iaload, 1) := by decide +kernel
theorem d150_25 : decode (ix_by 150) 25 = .ok (.iconst 1, 1) := by decide +kernel
theorem d150_26 : decode (ix_by 150) 26 = .ok (.if_icmp .ne 4, 3) := by decide +kernel
theorem d150_29 : decode (ix_by 150) 29 = .ok (.return_, 1) := by decide +kernel
theorem d150_30 : decode (ix_by 150) 30 = .ok (.aload_n 0, 1) := by decide +kernel
theorem d150_31 : decode (ix_by 150) 31 = .ok (.getfield 134, 3) := by decide +kernel
theorem d150_34 : decode (ix_by 150) 34 = .ok (.iconst 0, 1) := by decide +kernel
theorem d150_35 : decode (ix_by 150) 35 = .ok (.iaload, 1) := by decide +kernel
theorem d150_36 : decode (ix_by 150) 36 = .ok (.iconst 4, 1) := by decide +kernel
theorem d150_37 : decode (ix_by 150) 37 = .ok (.if_icmp .ne 16, 3) := by decide +kernel
theorem d150_40 : decode (ix_by 150) 40 = .ok (.aload_n 0, 1) := by decide +kernel
theorem d150_41 : decode (ix_by 150) 41 = .ok (.iconst 5, 1) := by decide +kernel
theorem d150_42 : decode (ix_by 150) 42 = .ok (.iconst 1, 1) := by decide +kernel
theorem d150_43 : decode (ix_by 150) 43 = .ok (.iload_n 2, 1) := by decide +kernel
theorem d150_44 : decode (ix_by 150) 44 = .ok (.isub, 1) := by decide +kernel
theorem d150_45 : decode (ix_by 150) 45 = .ok (.iload_n 1, 1) := by decide +kernel
theorem d150_46 : decode (ix_by 150) 46 = .ok (.iconst 4, 1) := by decide +kernel
theorem d150_47 : decode (ix_by 150) 47 = .ok (.iconst 0, 1) := by decide +kernel
theorem d150_48 : decode (ix_by 150) 48 = .ok (.iconst 0, 1) := by decide +kernel
theorem d150_49 : decode (ix_by 150) 49 = .ok (.invokevirtual 177, 3) := by decide +kernel
theorem d150_52 : decode (ix_by 150) 52 = .ok (.pop, 1) := by decide +kernel
theorem d150_53 : decode (ix_by 150) 53 = .ok (.aload_n 0, 1) := by decide +kernel
theorem d150_54 : decode (ix_by 150) 54 = .ok (.getfield 38, 3) := by decide +kernel
theorem d150_57 : decode (ix_by 150) 57 = .ok (.iload_n 1, 1) := by decide +kernel
theorem d150_58 : decode (ix_by 150) 58 = .ok (.iaload, 1) := by decide +kernel
theorem d150_59 : decode (ix_by 150) 59 = .ok (.iconst 5, 1) := by decide +kernel
theorem d150_60 : decode (ix_by 150) 60 = .ok (.if_icmp .eq 4, 3) := by decide +kernel
theorem d150_63 : decode (ix_by 150) 63 = .ok (.return_, 1) := by decide +kernel
theorem d150_64 : decode (ix_by 150) 64 = .ok (.aload_n 0, 1) := by decide +kernel
theorem d150_65 : decode (ix_by 150) 65 = .ok (.getfield 53, 3) := by decide +kernel
theorem d150_68 : decode (ix_by 150) 68 = .ok (.iload_n 1, 1) := by decide +kernel
theorem d150_69 : decode (ix_by 150) 69 = .ok (.aload_n 0, 1) := by decide +kernel
theorem d150_70 : decode (ix_by 150) 70 = .ok (.getfield 47, 3) := by decide +kernel
theorem d150_73 : decode (ix_by 150) 73 = .ok (.iload_n 1, 1) := by decide +kernel
theorem d150_74 : decode (ix_by 150) 74 = .ok (.iaload, 1) := by decide +kernel
theorem d150_75 : decode (ix_by 150) 75 = .ok (.iastore, 1) := by decide +kernel
theorem d150_76 : decode (ix_by 150) 76 = .ok (.aload_n 0, 1) := by decide +kernel
theorem d150_77 : decode (ix_by 150) 77 = .ok (.getfield 134, 3) := by decide +kernel
theorem d150_80 : decode (ix_by 150) 80 = .ok (.iconst 0, 1) := by decide +kernel
theorem d150_81 : decode (ix_by 150) 81 = .ok (.iaload, 1) := by decide +kernel
theorem d150_82 : decode (ix_by 150) 82 = .ok (.iconst 4, 1) := by decide +kernel
theorem d150_83 : decode (ix_by 150) 83 = .ok (.if_icmp .ne 14, 3) := by decide +kernel
theorem d150_86 : decode (ix_by 150) 86 = .ok (.aload_n 0, 1) := by decide +kernel
theorem d150_87 : decode (ix_by 150) 87 = .ok (.iload_n 1, 1) := by decide +kernel
theorem d150_88 : decode (ix_by 150) 88 = .ok (.aload_n 0, 1) := by decide +kernel
theorem d150_89 : decode (ix_by 150) 89 = .ok (.getfield 134, 3) := by decide +kernel
theorem d150_92 : decode (ix_by 150) 92 = .ok (.iconst 3, 1) := by decide +kernel
theorem d150_93 : decode (ix_by 150) 93 = .ok (.iaload, 1) := by decide +kernel
theorem d150_94 : decode (ix_by 150) 94 = .ok (.invokevirtual 187, 3) := by decide +kernel
theorem d150_97 : decode (ix_by 150) 97 = .ok (.aload_n 0, 1) := by decide +kernel
theorem d150_98 : decode (ix_by 150) 98 = .ok (.getfield 134, 3) := by decide +kernel
theorem d150_101 : decode (ix_by 150) 101 = .ok (.iconst 0, 1) := by decide +kernel
theorem d150_102 : decode (ix_by 150) 102 = .ok (.iaload, 1) := by decide +kernel
theorem d150_103 : decode (ix_by 150) 103 = .ok (.iconst 5, 1) := by decide +kernel
theorem d150_104 : decode (ix_by 150) 104 = .ok (.if_icmp .ne 19, 3) := by decide +kernel
theorem d150_107 : decode (ix_by 150) 107 = .ok (.aload_n 0, 1) := by decide +kernel
theorem d150_108 : decode (ix_by 150) 108 = .ok (.getfield 44, 3) := by decide +kernel
theorem d150_111 : decode (ix_by 150) 111 = .ok (.iload_n 1, 1) := by decide +kernel
theorem d150_112 : decode (ix_by 150) 112 = .ok (.iaload, 1) := by decide +kernel
theorem d150_113 : decode (ix_by 150) 113 = .ok (.ifCond .le 10, 3) := by decide +kernel
theorem d150_116 : decode (ix_by 150) 116 = .ok (.aload_n 0, 1) := by decide +kernel
theorem d150_117 : decode (ix_by 150) 117 = .ok (.getfield 59, 3) := by decide +kernel
theorem d150_120 : decode (ix_by 150) 120 = .ok (.iload_n 1, 1) := by decide +kernel
theorem d150_121 : decode (ix_by 150) 121 = .ok (.iconst 1, 1) := by decide +kernel
theorem d150_122 : decode (ix_by 150) 122 = .ok (.bastore, 1) := by decide +kernel
theorem d150_123 : decode (ix_by 150) 123 = .ok (.aload_n 0, 1) := by decide +kernel
theorem d150_124 : decode (ix_by 150) 124 = .ok (.getfield 134, 3) := by decide +kernel
theorem d150_127 : decode (ix_by 150) 127 = .ok (.iconst 0, 1) := by decide +kernel
theorem d150_128 : decode (ix_by 150) 128 = .ok (.iaload, 1) := by decide +kernel
theorem d150_129 : decode (ix_by 150) 129 = .ok (.bipush 6, 2) := by decide +kernel
theorem d150_131 : decode (ix_by 150) 131 = .ok (.if_icmp .ne 26, 3) := by decide +kernel
theorem d150_134 : decode (ix_by 150) 134 = .ok (.aload_n 0, 1) := by decide +kernel
theorem d150_135 : decode (ix_by 150) 135 = .ok (.getfield 44, 3) := by decide +kernel
theorem d150_138 : decode (ix_by 150) 138 = .ok (.iload_n 1, 1) := by decide +kernel
theorem d150_139 : decode (ix_by 150) 139 = .ok (.iaload, 1) := by decide +kernel
theorem d150_140 : decode (ix_by 150) 140 = .ok (.ifCond .le 17, 3) := by decide +kernel
theorem d150_143 : decode (ix_by 150) 143 = .ok (.aload_n 0, 1) := by decide +kernel
theorem d150_144 : decode (ix_by 150) 144 = .ok (.getfield 62, 3) := by decide +kernel
theorem d150_147 : decode (ix_by 150) 147 = .ok (.iload_n 1, 1) := by decide +kernel
theorem d150_148 : decode (ix_by 150) 148 = .ok (.baload, 1) := by decide +kernel
theorem d150_149 : decode (ix_by 150) 149 = .ok (.ifCond .ne 8, 3) := by decide +kernel
theorem d150_152 : decode (ix_by 150) 152 = .ok (.aload_n 0, 1) := by decide +kernel
theorem d150_153 : decode (ix_by 150) 153 = .ok (.iload_n 1, 1) := by decide +kernel
theorem d150_154 : decode (ix_by 150) 154 = .ok (.invokevirtual 205, 3) := by decide +kernel
theorem d150_157 : decode (ix_by 150) 157 = .ok (.return_, 1) := by decide +kernel
theorem d151_0 : decode (ix_by 151) 0 = .ok (.aload_n 0, 1) := by decide +kernel
theorem d151_1 : decode (ix_by 151) 1 = .ok (.getfield 134, 3) := by decide +kernel
theorem d151_4 : decode (ix_by 151) 4 = .ok (.iconst 3, 1) := by decide +kernel
theorem d151_5 : decode (ix_by 151) 5 = .ok (.iaload, 1) := by decide +kernel
theorem d151_6 : decode (ix_by 151) 6 = .ok (.iconst 1, 1) := by decide +kernel
theorem d151_7 : decode (ix_by 151) 7 = .ok (.if_icmp .ne 18, 3) := by decide +kernel
theorem d151_10 : decode (ix_by 151) 10 = .ok (.aload_n 0, 1) := by decide +kernel
theorem d151_11 : decode (ix_by 151) 11 = .ok (.getfield 56, 3) := by decide +kernel
theorem d151_14 : decode (ix_by 151) 14 = .ok (.iload_n 1, 1) := by decide +kernel
theorem d151_15 : decode (ix_by 151) 15 = .ok (.aload_n 0, 1) := by decide +kernel
theorem d151_16 : decode (ix_by 151) 16 = .ok (.getfield 56, 3) := by decide +kernel
theorem d151_19 : decode (ix_by 151) 19 = .ok (.iload_n 1, 1) := by decide +kernel
theorem d151_20 : decode (ix_by 151) 20 = .ok (.iaload, 1) := by decide +kernel
theorem d151_21 : decode (ix_by 151) 21 = .ok (.ldc 208, 2) := by decide +kernel
theorem d151_23 : decode (ix_by 151) 23 = .ok (.ior, 1) := by decide +kernel
theorem d151_24 : decode (ix_by 151) 24 = .ok (.iastore, 1) := by decide +kernel
theorem d151_25 : decode (ix_by 151) 25 = .ok (.aload_n 0, 1) := by decide +kernel
theorem d151_26 : decode (ix_by 151) 26 = .ok (.getfield 13, 3) := by decide +kernel
theorem d151_29 : decode (ix_by 151) 29 = .ok (.aload_n 0, 1) := by decide +kernel
theorem d151_30 : decode (ix_by 151) 30 = .ok (.iload_n 1, 1) := by decide +kernel
theorem d151_31 : decode (ix_by 151) 31 = .ok (.invokevirtual 181, 3) := by decide +kernel
theorem d151_34 : decode (ix_by 151) 34 = .ok (.iaload, 1) := by decide +kernel
theorem d151_35 : decode (ix_by 151) 35 = .ok (.invokestatic 164, 3) := by decide +kernel
theorem d151_38 : decode (ix_by 151) 38 = .ok (.istore_n 2, 1) := by decide +kernel
theorem d151_39 : decode (ix_by 151) 39 = .ok (.iconst 0, 1) := by decide +kernel
theorem d151_40 : decode (ix_by 151) 40 = .ok (.istore_n 3, 1) := by decide +kernel
theorem d151_41 : decode (ix_by 151) 41 = .ok (.iload_n 3, 1) := by decide +kernel
theorem d151_42 : decode (ix_by 151) 42 = .ok (.aload_n 0, 1) := by decide +kernel
theorem d151_43 : decode (ix_by 151) 43 = .ok (.getfield 134, 3) := by decide +kernel
theorem d151_46 : decode (ix_by 151) 46 = .ok (.iconst 4, 1) := by decide +kernel
theorem d151_47 : decode (ix_by 151) 47 = .ok (.iaload, 1) := by decide +kernel
theorem d151_48 : decode (ix_by 151) 48 = .ok (.if_icmp .ge 66, 3) := by decide +kernel
theorem d151_51 : decode (ix_by 151) 51 = .ok (.aload_n 0, 1) := by decide +kernel
theorem d151_52 : decode (ix_by 151) 52 = .ok (.getfield 134, 3) := by decide +kernel
theorem d151_55 : decode (ix_by 151) 55 = .ok (.iconst 5, 1) := by decide +kernel
theorem d151_56 : decode (ix_by 151) 56 = .ok (.iconst 2, 1) := by decide +kernel
theorem d151_57 : decode (ix_by 151) 57 = .ok (.iload_n 3, 1) := by decide +kernel
theorem d151_58 : decode (ix_by 151) 58 = .ok (.imul, 1) := by decide +kernel
theorem d151_59 : decode (ix_by 151) 59 = .ok (.iadd, 1) := by decide +kernel
theorem d151_60 : decode (ix_by 151) 60 = .ok (.iaload, 1) := by decide +kernel
theorem d151_61 : decode (ix_by 151) 61 = .ok (.istore 4, 2) := by decide +kernel
theorem d151_63 : decode (ix_by 151) 63 = .ok (.iload 4, 2) := by decide +kernel
theorem d151_65 : decode (ix_by 151) 65 = .ok (.aload_n 0, 1) := by decide +kernel
theorem d151_66 : decode (ix_by 151) 66 = .ok (.getfield 134, 3) := by decide +kernel
theorem d151_69 : decode (ix_by 151) 69 = .ok (.bipush 6, 2) := by decide +kernel
theorem d151_71 : decode (ix_by 151) 71 = .ok (.iconst 2, 1) := by decide +kernel
theorem d151_72 : decode (ix_by 151) 72 = .ok (.iload_n 3, 1) := by decide +kernel
theorem d151_73 : decode (ix_by 151) 73 = .ok (.imul, 1) := by decide +kernel
theorem d151_74 : decode (ix_by 151) 74 = .ok (.iadd, 1) := by decide +kernel
theorem d151_75 : decode (ix_by 151) 75 = .ok (.iaload, 1) := by decide +kernel
theorem d151_76 : decode (ix_by 151) 76 = .ok (.if_icmp .gt 32, 3) := by decide +kernel
theorem d151_79 : decode (ix_by 151) 79 = .ok (.iload 4, 2) := by decide +kernel
theorem d151_81 : decode (ix_by 151) 81 = .ok (.iload_n 2, 1) := by decide +kernel
theorem d151_82 : decode (ix_by 151) 82 = .ok (.if_icmp .ge 26, 3) := by decide +kernel
theorem d151_85 : decode (ix_by 151) 85 = .ok (.aload_n 0, 1) := by decide +kernel
theorem d151_86 : decode (ix_by 151) 86 = .ok (.getfield 56, 3) := by decide +kernel
theorem d151_89 : decode (ix_by 151) 89 = .ok (.iload_n 1, 1) := by decide +kernel
theorem d151_90 : decode (ix_by 151) 90 = .ok (.aload_n 0, 1) := by decide +kernel
theorem d151_91 : decode (ix_by 151) 91 = .ok (.getfield 56, 3) := by decide +kernel
theorem d151_94 : decode (ix_by 151) 94 = .ok (.iload_n 1, 1) := by decide +kernel
theorem d151_95 : decode (ix_by 151) 95 = .ok (.iaload, 1) := by decide +kernel
theorem d151_96 : decode (ix_by 151) 96 = .ok (.iconst 1, 1) := by decide +kernel
theorem d151_97 : decode (ix_by 151) 97 = .ok (.iload 4, 2) := by decide +kernel
theorem d151_99 : decode (ix_by 151) 99 = .ok (.ishl, 1) := by decide +kernel
theorem d151_100 : decode (ix_by 151) 100 = .ok (.ior, 1) := by decide +kernel
theorem d151_101 : decode (ix_by 151) 101 = .ok (.iastore, 1) := by decide +kernel
theorem d151_102 : decode (ix_by 151) 102 = .ok (.iinc 4 1, 3) := by decide +kernel
theorem d151_105 : decode (ix_by 151) 105 = .ok (.goto (-42), 3) := by decide +kernel
theorem d151_108 : decode (ix_by 151) 108 = .ok (.iinc 3 1, 3) := by decide +kernel
theorem d151_111 : decode (ix_by 151) 111 = .ok (.goto (-70), 3) := by decide +kernel
theorem d151_114 : decode (ix_by 151) 114 = .ok (.return_, 1) := by decide +kernel
theorem d152_0 : decode (ix_by 152) 0 = .ok (.aload_n 0, 1) := by decide +kernel
theorem d152_1 : decode (ix_by 152) 1 = .ok (.getfield 134, 3) := by decide +kernel
theorem d152_4 : decode (ix_by 152) 4 = .ok (.iconst 0, 1) := by decide +kernel
theorem d152_5 : decode (ix_by 152) 5 = .ok (.iaload, 1) := by decide +kernel
theorem d152_6 : decode (ix_by 152) 6 = .ok (.istore_n 3, 1) := by decide +kernel
theorem d152_7 : decode (ix_by 152) 7 = .ok (.iload_n 3, 1) := by decide +kernel
theorem d152_8 : decode (ix_by 152) 8 = .ok (.iconst 5, 1) := by decide +kernel
theorem d152_9 : decode (ix_by 152) 9 = .ok (.if_icmp .ne 31, 3) := by decide +kernel
theorem d152_12 : decode (ix_by 152) 12 = .ok (.aload_n 0, 1) := by decide +kernel
theorem d152_13 : decode (ix_by 152) 13 = .ok (.getfield 68, 3) := by decide +kernel
theorem d152_16 : decode (ix_by 152) 16 = .ok (.iload_n 2, 1) := by decide +kernel
theorem d152_17 : decode (ix_by 152) 17 = .ok (.iaload, 1) := by decide +kernel
theorem d152_18 : decode (ix_by 152) 18 = .ok (.bipush 6, 2) := by decide +kernel
theorem d152_20 : decode (ix_by 152) 20 = .ok (.if_icmp .ne 19, 3) := by decide +kernel
theorem d152_23 : decode (ix_by 152) 23 = .ok (.aload_n 0, 1) := by decide +kernel
theorem d152_24 : decode (ix_by 152) 24 = .ok (.iload_n 2, 1) := by decide +kernel
theorem d152_25 : decode (ix_by 152) 25 = .ok (.aload_n 0, 1) := by decide +kernel
theorem d152_26 : decode (ix_by 152) 26 = .ok (.getfield 77, 3) := by decide +kernel
theorem d152_29 : decode (ix_by 152) 29 = .ok (.aload_n 0, 1) := by decide +kernel
theorem d152_30 : decode (ix_by 152) 30 = .ok (.getfield 74, 3) := by decide +kernel
theorem d152_33 : decode (ix_by 152) 33 = .ok (.iload_n 2, 1) := by decide +kernel
theorem d152_34 : decode (ix_by 152) 34 = .ok (.iaload, 1) := by decide +kernel
theorem d152_35 : decode (ix_by 152) 35 = .ok (.iaload, 1) := by decide +kernel
theorem d152_36 : decode (ix_by 152) 36 = .ok (.invokevirtual 209, 3) := by decide +kernel
theorem d152_39 : decode (ix_by 152) 39 = .ok (.return_, 1) := by decide +kernel
theorem d152_40 : decode (ix_by 152) 40 = .ok (.aload_n 0, 1) := by decide +kernel
theorem d152_41 : decode (ix_by 152) 41 = .ok (.getfield 134, 3) := by decide +kernel
theorem d152_44 : decode (ix_by 152) 44 = .ok (.bipush 6, 2) := by decide +kernel
theorem d152_46 : decode (ix_by 152) 46 = .ok (.iaload, 1) := by decide +kernel
theorem d152_47 : decode (ix_by 152) 47 = .ok (.istore 4, 2) := by decide +kernel
theorem d152_49 : decode (ix_by 152) 49 = .ok (.aload_n 0, 1) := by decide +kernel
theorem d152_50 : decode (ix_by 152) 50 = .ok (.getfield 68, 3) := by decide +kernel
theorem d152_53 : decode (ix_by 152) 53 = .ok (.iload_n 2, 1) := by decide +kernel
theorem d152_54 : decode (ix_by 152) 54 = .ok (.iaload, 1) := by decide +kernel
theorem d152_55 : decode (ix_by 152) 55 = .ok (.ifCond .ne 53, 3) := by decide +kernel
theorem d152_58 : decode (ix_by 152) 58 = .ok (.aload_n 0, 1) := by decide +kernel
theorem d152_59 : decode (ix_by 152) 59 = .ok (.getfield 128, 3) := by decide +kernel
theorem d152_62 : decode (ix_by 152) 62 = .ok (.iload_n 1, 1) := by decide +kernel
theorem d152_63 : decode (ix_by 152) 63 = .ok (.iaload, 1) := by decide +kernel
theorem d152_64 : decode (ix_by 152) 64 = .ok (.iconst 3, 1) := by decide +kernel
theorem d152_65 : decode (ix_by 152) 65 = .ok (.if_icmp .ne 4, 3) := by decide +kernel
theorem d152_68 : decode (ix_by 152) 68 = .ok (.return_, 1) := by decide +kernel
theorem d152_69 : decode (ix_by 152) 69 = .ok (.aload_n 0, 1) := by decide +kernel
theorem d152_70 : decode (ix_by 152) 70 = .ok (.getfield 68, 3) := by decide +kernel
theorem d152_73 : decode (ix_by 152) 73 = .ok (.iload_n 2, 1) := by decide +kernel
theorem d152_74 : decode (ix_by 152) 74 = .ok (.iconst 5, 1) := by decide +kernel
theorem d152_75 : decode (ix_by 152) 75 = .ok (.iastore, 1) := by decide +kernel
theorem d152_76 : decode (ix_by 152) 76 = .ok (.aload_n 0, 1) := by decide +kernel
theorem d152_77 : decode (ix_by 152) 77 = .ok (.getfield 122, 3) := by decide +kernel
theorem d152_80 : decode (ix_by 152) 80 = .ok (.iconst 3, 1) := by decide +kernel
theorem d152_81 : decode (ix_by 152) 81 = .ok (.iload_n 1, 1) := by decide +kernel
theorem d152_82 : decode (ix_by 152) 82 = .ok (.imul, 1) := by decide +kernel
theorem d152_83 : decode (ix_by 152) 83 = .ok (.aload_n 0, 1) := by decide +kernel
theorem d152_84 : decode (ix_by 152) 84 = .ok (.getfield 128, 3) := by decide +kernel
theorem d152_87 : decode (ix_by 152) 87 = .ok (.iload_n 1, 1) := by decide +kernel
theorem d152_88 : decode (ix_by 152) 88 = .ok (.iaload, 1) := by decide +kernel
theorem d152_89 : decode (ix_by 152) 89 = .ok (.iadd, 1) := by decide +kernel
theorem d152_90 : decode (ix_by 152) 90 = .ok (.iload_n 2, 1) := by decide +kernel
theorem d152_91 : decode (ix_by 152) 91 = .ok (.iastore, 1) := by decide +kernel
theorem d152_92 : decode (ix_by 152) 92 = .ok (.aload_n 0, 1) := by decide +kernel
theorem d152_93 : decode (ix_by 152) 93 = .ok (.getfield 128, 3) := by decide +kernel
theorem d152_96 : decode (ix_by 152) 96 = .ok (.iload_n 1, 1) := by decide +kernel
theorem d152_97 : decode (ix_by 152) 97 = .ok (.dup2, 1) := by decide +kernel
theorem d152_98 : decode (ix_by 152) 98 = .ok (.iaload, 1) := by decide +kernel
theorem d152_99 : decode (ix_by 152) 99 = .ok (.iconst 1, 1) := by decide +kernel
theorem d152_100 : decode (ix_by 152) 100 = .ok (.iadd, 1) := by decide +kernel
theorem d152_101 : decode (ix_by 152) 101 = .ok (.iastore, 1) := by decide +kernel
theorem d152_102 : decode (ix_by 152) 102 = .ok (.aload_n 0, 1) := by decide +kernel
theorem d152_103 : decode (ix_by 152) 103 = .ok (.iload_n 1, 1) := by decide +kernel
theorem d152_104 : decode (ix_by 152) 104 = .ok (.iload_n 2, 1) := by decide +kernel
theorem d152_105 : decode (ix_by 152) 105 = .ok (.invokevirtual 212, 3) := by decide +kernel
theorem d152_108 : decode (ix_by 152) 108 = .ok (.iload_n 3, 1) := by decide +kernel
theorem d152_109 : decode (ix_by 152) 109 = .ok (.iconst 3, 1) := by decide +kernel
theorem d152_110 : decode (ix_by 152) 110 = .ok (.if_icmp .ne 22, 3) := by decide +kernel
theorem d152_113 : decode (ix_by 152) 113 = .ok (.iload 4, 2) := by decide +kernel
theorem d152_115 : decode (ix_by 152) 115 = .ok (.iconst 2, 1) := by decide +kernel
theorem d152_116 : decode (ix_by 152) 116 = .ok (.if_icmp .ne 16, 3) := by decide +kernel
theorem d152_119 : decode (ix_by 152) 119 = .ok (.aload_n 0, 1) := by decide +kernel
theorem d152_120 : decode (ix_by 152) 120 = .ok (.iconst 5, 1) := by decide +kernel
theorem d152_121 : decode (ix_by 152) 121 = .ok (.iconst 1, 1) := by decide +kernel
theorem d152_122 : decode (ix_by 152) 122 = .ok (.iload_n 1, 1) := by decide +kernel
theorem d152_123 : decode (ix_by 152) 123 = .ok (.isub, 1) := by decide +kernel
theorem d152_124 : decode (ix_by 152) 124 = .ok (.iload_n 2, 1) := by decide +kernel
theorem d152_125 : decode (ix_by 152) 125 = .ok (.iconst 3, 1) := by decide +kernel
theorem d152_126 : decode (ix_by 152) 126 = .ok (.iconst 0, 1) := by decide +kernel
theorem d152_127 : decode (ix_by 152) 127 = .ok (.iconst 0, 1) := by decide +kernel
theorem d152_128 : decode (ix_by 152) 128 = .ok (.invokevirtual 177, 3) := by decide +kernel
theorem d152_131 : decode (ix_by 152) 131 = .ok (.pop, 1) := by decide +kernel
theorem d152_132 : decode (ix_by 152) 132 = .ok (.aload_n 0, 1) := by decide +kernel
theorem d152_133 : decode (ix_by 152) 133 = .ok (.getfield 68, 3) := by decide +kernel
theorem d152_136 : decode (ix_by 152) 136 = .ok (.iload_n 2, 1) := by decide +kernel
theorem d152_137 : decode (ix_by 152) 137 = .ok (.iaload, 1) := by decide +kernel
theorem d152_138 : decode (ix_by 152) 138 = .ok (.iconst 5, 1) := by decide +kernel
theorem d152_139 : decode (ix_by 152) 139 = .ok (.if_icmp .eq 4, 3) := by decide +kernel
theorem d152_142 : decode (ix_by 152) 142 = .ok (.return_, 1) := by decide +kernel
theorem d152_143 : decode (ix_by 152) 143 = .ok (.aload_n 0, 1) := by decide +kernel
theorem d152_144 : decode (ix_by 152) 144 = .ok (.getfield 92, 3) := by decide +kernel
theorem d152_147 : decode (ix_by 152) 147 = .ok (.aload_n 0, 1) := by decide +kernel
theorem d152_148 : decode (ix_by 152) 148 = .ok (.getfield 74, 3) := by decide +kernel
theorem d152_151 : decode (ix_by 152) 151 = .ok (.iload_n 2, 1) := by decide +kernel
theorem d152_152 : decode (ix_by 152) 152 = .ok (.iaload, 1) := by decide +kernel
theorem d152_153 : decode (ix_by 152) 153 = .ok (.aload_n 0, 1) := by decide +kernel
theorem d152_154 : decode (ix_by 152) 154 = .ok (.getfield 215, 3) := by decide +kernel
theorem d152_157 : decode (ix_by 152) 157 = .ok (.iastore, 1) := by decide +kernel
theorem d152_158 : decode (ix_by 152) 158 = .ok (.iconst 0, 1) := by decide +kernel
theorem d152_159 : decode (ix_by 152) 159 = .ok (.istore 5, 2) := by decide +kernel
theorem d152_161 : decode (ix_by 152) 161 = .ok (.iload_n 3, 1) := by decide +kernel
theorem d152_162 : decode (ix_by 152) 162 = .ok (.iconst 1, 1) := by decide +kernel
theorem d152_163 : decode (ix_by 152) 163 = .ok (.if_icmp .ne 80, 3) := by decide +kernel
theorem d152_166 : decode (ix_by 152) 166 = .ok (.aload_n 0, 1) := by decide +kernel
theorem d152_167 : decode (ix_by 152) 167 = .ok (.getfield 107, 3) := by decide +kernel
theorem d152_170 : decode (ix_by 152) 170 = .ok (.aload_n 0, 1) := by decide +kernel
theorem d152_171 : decode (ix_by 152) 171 = .ok (.getfield 74, 3) := by decide +kernel
theorem d152_174 : decode (ix_by 152) 174 = .ok (.iload_n 2, 1) := by decide +kernel
theorem d152_175 : decode (ix_by 152) 175 = .ok (.iaload, 1) := by decide +kernel
theorem d152_176 : decode (ix_by 152) 176 = .ok (.baload, 1) := by decide +kernel
theorem d152_177 : decode (ix_by 152) 177 = .ok (.ifCond .ne 66, 3) := by decide +kernel
theorem d152_180 : decode (ix_by 152) 180 = .ok (.aload_n 0, 1) := by decide +kernel
theorem d152_181 : decode (ix_by 152) 181 = .ok (.getfield 107, 3) := by decide +kernel
theorem d152_184 : decode (ix_by 152) 184 = .ok (.aload_n 0, 1) := by decide +kernel
theorem d152_185 : decode (ix_by 152) 185 = .ok (.getfield 74, 3) := by decide +kernel
theorem d152_188 : decode (ix_by 152) 188 = .ok (.iload_n 2, 1) := by decide +kernel
theorem d152_189 : decode (ix_by 152) 189 = .ok (.iaload, 1) := by decide +kernel
theorem d152_190 : decode (ix_by 152) 190 = .ok (.iconst 1, 1) := by decide +kernel
theorem d152_191 : decode (ix_by 152) 191 = .ok (.bastore, 1) := by decide +kernel
theorem d152_192 : decode (ix_by 152) 192 = .ok (.aload_n 0, 1) := by decide +kernel
theorem d152_193 : decode (ix_by 152) 193 = .ok (.getfield 95, 3) := by decide +kernel
theorem d152_196 : decode (ix_by 152) 196 = .ok (.aload_n 0, 1) := by decide +kernel
theorem d152_197 : decode (ix_by 152) 197 = .ok (.getfield 74, 3) := by decide +kernel
theorem d152_200 : decode (ix_by 152) 200 = .ok (.iload_n 2, 1) := by decide +kernel
theorem d152_201 : decode (ix_by 152) 201 = .ok (.iaload, 1) := by decide +kernel
theorem d152_202 : decode (ix_by 152) 202 = .ok (.aload_n 0, 1) := by decide +kernel
theorem d152_203 : decode (ix_by 152) 203 = .ok (.getfield 134, 3) := by decide +kernel
theorem d152_206 : decode (ix_by 152) 206 = .ok (.iconst 3, 1) := by decide +kernel
theorem d152_207 : decode (ix_by 152) 207 = .ok (.iaload, 1) := by decide +kernel
theorem d152_208 : decode (ix_by 152) 208 = .ok (.iastore, 1) := by decide +kernel
theorem d152_209 : decode (ix_by 152) 209 = .ok (.aload_n 0, 1) := by decide +kernel
theorem d152_210 : decode (ix_by 152) 210 = .ok (.getfield 98, 3) := by decide +kernel
theorem d152_213 : decode (ix_by 152) 213 = .ok (.aload_n 0, 1) := by decide +kernel
theorem d152_214 : decode (ix_by 152) 214 = .ok (.getfield 74, 3) := by decide +kernel
theorem d152_217 : decode (ix_by 152) 217 = .ok (.iload_n 2, 1) := by decide +kernel
theorem d152_218 : decode (ix_by 152) 218 = .ok (.iaload, 1) := by decide +kernel
theorem d152_219 : decode (ix_by 152) 219 = .ok (.aload_n 0, 1) := by decide +kernel
theorem d152_220 : decode (ix_by 152) 220 = .ok (.getfield 134, 3) := by decide +kernel
theorem d152_223 : decode (ix_by 152) 223 = .ok (.iconst 4, 1) := by decide +kernel
theorem d152_224 : decode (ix_by 152) 224 = .ok (.iaload, 1) := by decide +kernel
theorem d152_225 : decode (ix_by 152) 225 = .ok (.iastore, 1) := by decide +kernel
theorem d152_226 : decode (ix_by 152) 226 = .ok (.aload_n 0, 1) := by decide +kernel
theorem d152_227 : decode (ix_by 152) 227 = .ok (.getfield 101, 3) := by decide +kernel
theorem d152_230 : decode (ix_by 152) 230 = .ok (.aload_n 0, 1) := by decide +kernel
theorem d152_231 : decode (ix_by 152) 231 = .ok (.getfield 74, 3) := by decide +kernel
theorem d152_234 : decode (ix_by 152) 234 = .ok (.iload_n 2, 1) := by decide +kernel
theorem d152_235 : decode (ix_by 152) 235 = .ok (.iaload, 1) := by decide +kernel
theorem d152_236 : decode (ix_by 152) 236 = .ok (.aload_n 0, 1) := by decide +kernel
theorem d152_237 : decode (ix_by 152) 237 = .ok (.getfield 134, 3) := by decide +kernel
theorem d152_240 : decode (ix_by 152) 240 = .ok (.iconst 5, 1) := by decide +kernel
theorem d152_241 : decode (ix_by 152) 241 = .ok (.iaload, 1) := by decide +kernel
theorem d152_242 : decode (ix_by 152) 242 = .ok (.iastore, 1) := by decide +kernel
theorem d152_243 : decode (ix_by 152) 243 = .ok (.iload_n 3, 1) := by decide +kernel
theorem d152_244 : decode (ix_by 152) 244 = .ok (.iconst 2, 1) := by decide +kernel
theorem d152_245 : decode (ix_by 152) 245 = .ok (.if_icmp .ne 81, 3) := by decide +kernel
theorem d152_248 : decode (ix_by 152) 248 = .ok (.aload_n 0, 1) := by decide +kernel
theorem d152_249 : decode (ix_by 152) 249 = .ok (.getfield 116, 3) := by decide +kernel
theorem d152_252 : decode (ix_by 152) 252 = .ok (.bipush 16, 2) := by decide +kernel
theorem d152_254 : decode (ix_by 152) 254 = .ok (.aload_n 0, 1) := by decide +kernel
theorem d152_255 : decode (ix_by 152) 255 = .ok (.getfield 74, 3) := by decide +kernel
theorem d152_258 : decode (ix_by 152) 258 = .ok (.iload_n 2, 1) := by decide +kernel
theorem d152_259 : decode (ix_by 152) 259 = .ok (.iaload, 1) := by decide +kernel
theorem d152_260 : decode (ix_by 152) 260 = .ok (.imul, 1) := by decide +kernel
theorem d152_261 : decode (ix_by 152) 261 = .ok (.aload_n 0, 1) := by decide +kernel
theorem d152_262 : decode (ix_by 152) 262 = .ok (.getfield 134, 3) := by decide +kernel
theorem d152_265 : decode (ix_by 152) 265 = .ok (.iconst 3, 1) := by decide +kernel
theorem d152_266 : decode (ix_by 152) 266 = .ok (.iaload, 1) := by decide +kernel
theorem d152_267 : decode (ix_by 152) 267 = .ok (.iadd, 1) := by decide +kernel
theorem d152_268 : decode (ix_by 152) 268 = .ok (.iaload, 1) := by decide +kernel
theorem d152_269 : decode (ix_by 152) 269 = .ok (.ifCond .ne 57, 3) := by decide +kernel
theorem d152_272 : decode (ix_by 152) 272 = .ok (.aload_n 0, 1) := by decide +kernel
theorem d152_273 : decode (ix_by 152) 273 = .ok (.getfield 116, 3) := by decide +kernel
theorem d152_276 : decode (ix_by 152) 276 = .ok (.bipush 16, 2) := by decide +kernel
theorem d152_278 : decode (ix_by 152) 278 = .ok (.aload_n 0, 1) := by decide +kernel
theorem d152_279 : decode (ix_by 152) 279 = .ok (.getfield 74, 3) := by decide +kernel
theorem d152_282 : decode (ix_by 152) 282 = .ok (.iload_n 2, 1) := by decide +kernel
theorem d152_283 : decode (ix_by 152) 283 = .ok (.iaload, 1) := by decide +kernel
theorem d152_284 : decode (ix_by 152) 284 = .ok (.imul, 1) := by decide +kernel
theorem d152_285 : decode (ix_by 152) 285 = .ok (.aload_n 0, 1) := by decide +kernel
theorem d152_286 : decode (ix_by 152) 286 = .ok (.getfield 134, 3) := by decide +kernel
theorem d152_289 : decode (ix_by 152) 289 = .ok (.iconst 3, 1) := by decide +kernel
theorem d152_290 : decode (ix_by 152) 290 = .ok (.iaload, 1) := by decide +kernel
theorem d152_291 : decode (ix_by 152) 291 = .ok (.iadd, 1) := by decide +kernel
theorem d152_292 : decode (ix_by 152) 292 = .ok (.aload_n 0, 1) := by decide +kernel
theorem d152_293 : decode (ix_by 152) 293 = .ok (.getfield 134, 3) := by decide +kernel
theorem d152_296 : decode (ix_by 152) 296 = .ok (.iconst 4, 1) := by decide +kernel
theorem d152_297 : decode (ix_by 152) 297 = .ok (.iaload, 1) := by decide +kernel
theorem d152_298 : decode (ix_by 152) 298 = .ok (.iastore, 1) := by decide +kernel
theorem d152_299 : decode (ix_by 152) 299 = .ok (.aload_n 0, 1) := by decide +kernel
theorem d152_300 : decode (ix_by 152) 300 = .ok (.getfield 113, 3) := by decide +kernel
theorem d152_303 : decode (ix_by 152) 303 = .ok (.bipush 16, 2) := by decide +kernel
theorem d152_305 : decode (ix_by 152) 305 = .ok (.aload_n 0, 1) := by decide +kernel
theorem d152_306 : decode (ix_by 152) 306 = .ok (.getfield 74, 3) := by decide +kernel
theorem d152_309 : decode (ix_by 152) 309 = .ok (.iload_n 2, 1) := by decide +kernel
theorem d152_310 : decode (ix_by 152) 310 = .ok (.iaload, 1) := by decide +kernel
theorem d152_311 : decode (ix_by 152) 311 = .ok (.imul, 1) := by decide +kernel
theorem d152_312 : decode (ix_by 152) 312 = .ok (.aload_n 0, 1) := by decide +kernel
theorem d152_313 : decode (ix_by 152) 313 = .ok (.getfield 134, 3) := by decide +kernel
theorem d152_316 : decode (ix_by 152) 316 = .ok (.iconst 3, 1) := by decide +kernel
theorem d152_317 : decode (ix_by 152) 317 = .ok (.iaload, 1) := by decide +kernel
theorem d152_318 : decode (ix_by 152) 318 = .ok (.iadd, 1) := by decide +kernel
theorem d152_319 : decode (ix_by 152) 319 = .ok (.aload_n 0, 1) := by decide +kernel
theorem d152_320 : decode (ix_by 152) 320 = .ok (.getfield 134, 3) := by decide +kernel
theorem d152_323 : decode (ix_by 152) 323 = .ok (.iconst 5, 1) := by decide +kernel
theorem d152_324 : decode (ix_by 152) 324 = .ok (.iaload, 1) := by decide +kernel
theorem d152_325 : decode (ix_by 152) 325 = .ok (.iastore, 1) := by decide +kernel
theorem d152_326 : decode (ix_by 152) 326 = .ok (.iload_n 3, 1) := by decide +kernel
theorem d152_327 : decode (ix_by 152) 327 = .ok (.iconst 3, 1) := by decide +kernel
theorem d152_328 : decode (ix_by 152) 328 = .ok (.if_icmp .ne 21, 3) := by decide +kernel
theorem d152_331 : decode (ix_by 152) 331 = .ok (.aload_n 0, 1) := by decide +kernel
theorem d152_332 : decode (ix_by 152) 332 = .ok (.getfield 134, 3) := by decide +kernel
theorem d152_335 : decode (ix_by 152) 335 = .ok (.iconst 3, 1) := by decide +kernel
theorem d152_336 : decode (ix_by 152) 336 = .ok (.iaload, 1) := by decide +kernel
theorem d152_337 : decode (ix_by 152) 337 = .ok (.ifCond .ge 12, 3) := by decide +kernel
theorem d152_340 : decode (ix_by 152) 340 = .ok (.aload_n 0, 1) := by decide +kernel
theorem d152_341 : decode (ix_by 152) 341 = .ok (.iload_n 2, 1) := by decide +kernel
theorem d152_342 : decode (ix_by 152) 342 = .ok (.iconst 2, 1) := by decide +kernel
theorem d152_343 : decode (ix_by 152) 343 = .ok (.iload 4, 2) := by decide +kernel
theorem d152_345 : decode (ix_by 152) 345 = .ok (.invokevirtual 218, 3) := by decide +kernel
theorem d152_348 : decode (ix_by 152) 348 = .ok (.return_, 1) := by decide +kernel
theorem d152_349 : decode (ix_by 152) 349 = .ok (.iload_n 3, 1) := by decide +kernel
theorem d152_350 : decode (ix_by 152) 350 = .ok (.iconst 3, 1) := by decide +kernel
theorem d152_351 : decode (ix_by 152) 351 = .ok (.if_icmp .ne 81, 3) := by decide +kernel
theorem d152_354 : decode (ix_by 152) 354 = .ok (.aload_n 0, 1) := by decide +kernel
theorem d152_355 : decode (ix_by 152) 355 = .ok (.getfield 110, 3) := by decide +kernel
theorem d152_358 : decode (ix_by 152) 358 = .ok (.aload_n 0, 1) := by decide +kernel
theorem d152_359 : decode (ix_by 152) 359 = .ok (.getfield 74, 3) := by decide +kernel
theorem d152_362 : decode (ix_by 152) 362 = .ok (.iload_n 2, 1) := by decide +kernel
theorem d152_363 : decode (ix_by 152) 363 = .ok (.iaload, 1) := by decide +kernel
theorem d152_364 : decode (ix_by 152) 364 = .ok (.baload, 1) := by decide +kernel
theorem d152_365 : decode (ix_by 152) 365 = .ok (.ifCond .ne 67, 3) := by decide +kernel
theorem d152_368 : decode (ix_by 152) 368 = .ok (.iconst 1, 1) := by decide +kernel
theorem d152_369 : decode (ix_by 152) 369 = .ok (.istore 5, 2) := by decide +kernel
theorem d152_371 : decode (ix_by 152) 371 = .ok (.aload_n 0, 1) := by decide +kernel
theorem d152_372 : decode (ix_by 152) 372 = .ok (.getfield 110, 3) := by decide +kernel
theorem d152_375 : decode (ix_by 152) 375 = .ok (.aload_n 0, 1) := by decide +kernel
theorem d152_376 : decode (ix_by 152) 376 = .ok (.getfield 74, 3) := by decide +kernel
theorem d152_379 : decode (ix_by 152) 379 = .ok (.iload_n 2, 1) := by decide +kernel
theorem d152_380 : decode (ix_by 152) 380 = .ok (.iaload, 1) := by decide +kernel
theorem d152_381 : decode (ix_by 152) 381 = .ok (.iconst 1, 1) := by decide +kernel
theorem d152_382 : decode (ix_by 152) 382 = .ok (.bastore, 1) := by decide +kernel
theorem d152_383 : decode (ix_by 152) 383 = .ok (.aload_n 0, 1) := by decide +kernel
theorem d152_384 : decode (ix_by 152) 384 = .ok (.getfield 80, 3) := by decide +kernel
theorem d152_387 : decode (ix_by 152) 387 = .ok (.aload_n 0, 1) := by decide +kernel
theorem d152_388 : decode (ix_by 152) 388 = .ok (.getfield 74, 3) := by decide +kernel
theorem d152_391 : decode (ix_by 152) 391 = .ok (.iload_n 2, 1) := by decide +kernel
theorem d152_392 : decode (ix_by 152) 392 = .ok (.iaload, 1) := by decide +kernel
theorem d152_393 : decode (ix_by 152) 393 = .ok (.aload_n 0, 1) := by decide +kernel
theorem d152_394 : decode (ix_by 152) 394 = .ok (.getfield 134, 3) := by decide +kernel
theorem d152_397 : decode (ix_by 152) 397 = .ok (.iconst 3, 1) := by decide +kernel
theorem d152_398 : decode (ix_by 152) 398 = .ok (.iaload, 1) := by decide +kernel
theorem d152_399 : decode (ix_by 152) 399 = .ok (.iastore, 1) := by decide +kernel
theorem d152_400 : decode (ix_by 152) 400 = .ok (.aload_n 0, 1) := by decide +kernel
theorem d152_401 : decode (ix_by 152) 401 = .ok (.getfield 83, 3) := by decide +kernel
theorem d152_404 : decode (ix_by 152) 404 = .ok (.aload_n 0, 1) := by decide +kernel
theorem d152_405 : decode (ix_by 152) 405 = .ok (.getfield 74, 3) := by decide +kernel
theorem d152_408 : decode (ix_by 152) 408 = .ok (.iload_n 2, 1) := by decide +kernel
theorem d152_409 : decode (ix_by 152) 409 = .ok (.iaload, 1) := by decide +kernel
theorem d152_410 : decode (ix_by 152) 410 = .ok (.aload_n 0, 1) := by decide +kernel
theorem d152_411 : decode (ix_by 152) 411 = .ok (.getfield 134, 3) := by decide +kernel
theorem d152_414 : decode (ix_by 152) 414 = .ok (.iconst 4, 1) := by decide +kernel
theorem d152_415 : decode (ix_by 152) 415 = .ok (.iaload, 1) := by decide +kernel
theorem d152_416 : decode (ix_by 152) 416 = .ok (.iastore, 1) := by decide +kernel
theorem d152_417 : decode (ix_by 152) 417 = .ok (.aload_n 0, 1) := by decide +kernel
theorem d152_418 : decode (ix_by 152) 418 = .ok (.getfield 89, 3) := by decide +kernel
theorem d152_421 : decode (ix_by 152) 421 = .ok (.aload_n 0, 1) := by decide +kernel
theorem d152_422 : decode (ix_by 152) 422 = .ok (.getfield 74, 3) := by decide +kernel
theorem d152_425 : decode (ix_by 152) 425 = .ok (.iload_n 2, 1) := by decide +kernel
theorem d152_426 : decode (ix_by 152) 426 = .ok (.iaload, 1) := by decide +kernel
theorem d152_427 : decode (ix_by 152) 427 = .ok (.aload_n 0, 1) := by decide +kernel
theorem d152_428 : decode (ix_by 152) 428 = .ok (.getfield 215, 3) := by decide +kernel
theorem d152_431 : decode (ix_by 152) 431 = .ok (.iastore, 1) := by decide +kernel
theorem d152_432 : decode (ix_by 152) 432 = .ok (.aload_n 0, 1) := by decide +kernel
theorem d152_433 : decode (ix_by 152) 433 = .ok (.getfield 110, 3) := by decide +kernel
theorem d152_436 : decode (ix_by 152) 436 = .ok (.aload_n 0, 1) := by decide +kernel
theorem d152_437 : decode (ix_by 152) 437 = .ok (.getfield 74, 3) := by decide +kernel
theorem d152_440 : decode (ix_by 152) 440 = .ok (.iload_n 2, 1) := by decide +kernel
theorem d152_441 : decode (ix_by 152) 441 = .ok (.iaload, 1) := by decide +kernel
theorem d152_442 : decode (ix_by 152) 442 = .ok (.baload, 1) := by decide +kernel
theorem d152_443 : decode (ix_by 152) 443 = .ok (.ifCond .ne 4, 3) := by decide +kernel
theorem d152_446 : decode (ix_by 152) 446 = .ok (.return_, 1) := by decide +kernel
theorem d152_447 : decode (ix_by 152) 447 = .ok (.aload_n 0, 1) := by decide +kernel
theorem d152_448 : decode (ix_by 152) 448 = .ok (.getfield 107, 3) := by decide +kernel
theorem d152_451 : decode (ix_by 152) 451 = .ok (.aload_n 0, 1) := by decide +kernel
theorem d152_452 : decode (ix_by 152) 452 = .ok (.getfield 74, 3) := by decide +kernel
theorem d152_455 : decode (ix_by 152) 455 = .ok (.iload_n 2, 1) := by decide +kernel
theorem d152_456 : decode (ix_by 152) 456 = .ok (.iaload, 1) := by decide +kernel
theorem d152_457 : decode (ix_by 152) 457 = .ok (.baload, 1) := by decide +kernel
theorem d152_458 : decode (ix_by 152) 458 = .ok (.ifCond .eq 22, 3) := by decide +kernel
theorem d152_461 : decode (ix_by 152) 461 = .ok (.aload_n 0, 1) := by decide +kernel
theorem d152_462 : decode (ix_by 152) 462 = .ok (.iload_n 2, 1) := by decide +kernel
theorem d152_463 : decode (ix_by 152) 463 = .ok (.iconst 0, 1) := by decide +kernel
theorem d152_464 : decode (ix_by 152) 464 = .ok (.invokevirtual 222, 3) := by decide +kernel
theorem d152_467 : decode (ix_by 152) 467 = .ok (.ifCond .ge 13, 3) := by decide +kernel
theorem d152_470 : decode (ix_by 152) 470 = .ok (.aload_n 0, 1) := by decide +kernel
theorem d152_471 : decode (ix_by 152) 471 = .ok (.iload_n 2, 1) := by decide +kernel
theorem d152_472 : decode (ix_by 152) 472 = .ok (.iload 4, 2) := by decide +kernel
theorem d152_474 : decode (ix_by 152) 474 = .ok (.invokevirtual 225, 3) := by decide +kernel
theorem d152_477 : decode (ix_by 152) 477 = .ok (.goto 19, 3) := by decide +kernel
theorem d152_480 : decode (ix_by 152) 480 = .ok (.iload 5, 2) := by decide +kernel
theorem d152_482 : decode (ix_by 152) 482 = .ok (.ifCond .eq 14, 3) := by decide +kernel
theorem d152_485 : decode (ix_by 152) 485 = .ok (.iload 4, 2) := by decide +kernel
theorem d152_487 : decode (ix_by 152) 487 = .ok (.iconst 2, 1) := by decide +kernel
theorem d152_488 : decode (ix_by 152) 488 = .ok (.if_icmp .ne 8, 3) := by decide +kernel
theorem d152_491 : decode (ix_by 152) 491 = .ok (.aload_n 0, 1) := by decide +kernel
theorem d152_492 : decode (ix_by 152) 492 = .ok (.iload_n 2, 1) := by decide +kernel
theorem d152_493 : decode (ix_by 152) 493 = .ok (.invokevirtual 228, 3) := by decide +kernel
theorem d152_496 : decode (ix_by 152) 496 = .ok (.return_, 1) := by decide +kernel
theorem d153_0 : decode (ix_by 153) 0 = .ok (.iconst 3, 1) := by decide +kernel
theorem d153_1 : decode (ix_by 153) 1 = .ok (.iload_n 1, 1) := by decide +kernel
theorem d153_2 : decode (ix_by 153) 2 = .ok (.imul, 1) := by decide +kernel
theorem d153_3 : decode (ix_by 153) 3 = .ok (.istore_n 3, 1) := by decide +kernel
theorem d153_4 : decode (ix_by 153) 4 = .ok (.aload_n 0, 1) := by decide +kernel
theorem d153_5 : decode (ix_by 153) 5 = .ok (.getfield 104, 3) := by decide +kernel
theorem d153_8 : decode (ix_by 153) 8 = .ok (.iload_n 3, 1) := by decide +kernel
theorem d153_9 : decode (ix_by 153) 9 = .ok (.baload, 1) := by decide +kernel
theorem d153_10 : decode (ix_by 153) 10 = .ok (.ifCond .eq 9, 3) := by decide +kernel
theorem d153_13 : decode (ix_by 153) 13 = .ok (.iinc 3 1, 3) := by decide +kernel
theorem d153_16 : decode (ix_by 153) 16 = .ok (.goto (-12), 3) := by decide +kernel
theorem d153_19 : decode (ix_by 153) 19 = .ok (.aload_n 0, 1) := by decide +kernel
theorem d153_20 : decode (ix_by 153) 20 = .ok (.getfield 74, 3) := by decide +kernel
theorem d153_23 : decode (ix_by 153) 23 = .ok (.iload_n 2, 1) := by decide +kernel
theorem d153_24 : decode (ix_by 153) 24 = .ok (.iload_n 3, 1) := by decide +kernel
theorem d153_25 : decode (ix_by 153) 25 = .ok (.iastore, 1) := by decide +kernel
theorem d153_26 : decode (ix_by 153) 26 = .ok (.aload_n 0, 1) := by decide +kernel
theorem d153_27 : decode (ix_by 153) 27 = .ok (.getfield 104, 3) := by decide +kernel
theorem d153_30 : decode (ix_by 153) 30 = .ok (.iload_n 3, 1) := by decide +kernel
theorem d153_31 : decode (ix_by 153) 31 = .ok (.iconst 1, 1) := by decide +kernel
theorem d153_32 : decode (ix_by 153) 32 = .ok (.bastore, 1) := by decide +kernel
theorem d153_33 : decode (ix_by 153) 33 = .ok (.aload_n 0, 1) := by decide +kernel
theorem d153_34 : decode (ix_by 153) 34 = .ok (.getfield 107, 3) := by decide +kernel
theorem d153_37 : decode (ix_by 153) 37 = .ok (.iload_n 3, 1) := by decide +kernel
theorem d153_38 : decode (ix_by 153) 38 = .ok (.iconst 0, 1) := by decide +kernel
theorem d153_39 : decode (ix_by 153) 39 = .ok (.bastore, 1) := by decide +kernel
theorem d153_40 : decode (ix_by 153) 40 = .ok (.aload_n 0, 1) := by decide +kernel
theorem d153_41 : decode (ix_by 153) 41 = .ok (.getfield 110, 3) := by decide +kernel
theorem d153_44 : decode (ix_by 153) 44 = .ok (.iload_n 3, 1) := by decide +kernel
theorem d153_45 : decode (ix_by 153) 45 = .ok (.iconst 0, 1) := by decide +kernel
theorem d153_46 : decode (ix_by 153) 46 = .ok (.bastore, 1) := by decide +kernel
theorem d153_47 : decode (ix_by 153) 47 = .ok (.aload_n 0, 1) := by decide +kernel
theorem d153_48 : decode (ix_by 153) 48 = .ok (.getfield 86, 3) := by decide +kernel
theorem d153_51 : decode (ix_by 153) 51 = .ok (.iload_n 3, 1) := by decide +kernel
theorem d153_52 : decode (ix_by 153) 52 = .ok (.iconst 0, 1) := by decide +kernel
theorem d153_53 : decode (ix_by 153) 53 = .ok (.iastore, 1) := by decide +kernel
theorem d153_54 : decode (ix_by 153) 54 = .ok (.bipush 16, 2) := by decide +kernel
theorem d153_56 : decode (ix_by 153) 56 = .ok (.iload_n 3, 1) := by decide +kernel
theorem d153_57 : decode (ix_by 153) 57 = .ok (.imul, 1) := by decide +kernel
theorem d153_58 : decode (ix_by 153) 58 = .ok (.istore 4, 2) := by decide +kernel
theorem d153_60 : decode (ix_by 153) 60 = .ok (.iload 4, 2) := by decide +kernel
theorem d153_62 : decode (ix_by 153) 62 = .ok (.bipush 16, 2) := by decide +kernel
theorem d153_64 : decode (ix_by 153) 64 = .ok (.iload_n 3, 1) := by decide +kernel
theorem d153_65 : decode (ix_by 153) 65 = .ok (.imul, 1) := by decide +kernel
theorem d153_66 : decode (ix_by 153) 66 = .ok (.bipush 16, 2) := by decide +kernel
theorem d153_68 : decode (ix_by 153) 68 = .ok (.iadd, 1) := by decide +kernel
theorem d153_69 : decode (ix_by 153) 69 = .ok (.if_icmp .ge 17, 3) := by decide +kernel
theorem d153_72 : decode (ix_by 153) 72 = .ok (.aload_n 0, 1) := by decide +kernel
theorem d153_73 : decode (ix_by 153) 73 = .ok (.getfield 116, 3) := by decide +kernel
theorem d153_76 : decode (ix_by 153) 76 = .ok (.iload 4, 2) := by decide +kernel
theorem d153_78 : decode (ix_by 153) 78 = .ok (.iconst 0, 1) := by decide +kernel
theorem d153_79 : decode (ix_by 153) 79 = .ok (.iastore, 1) := by decide +kernel
theorem d153_80 : decode (ix_by 153) 80 = .ok (.iinc 4 1, 3) := by decide +kernel
theorem d153_83 : decode (ix_by 153) 83 = .ok (.goto (-23), 3) := by decide +kernel
theorem d153_86 : decode (ix_by 153) 86 = .ok (.return_, 1) := by decide +kernel
theorem d154_0 : decode (ix_by 154) 0 = .ok (.iconst 0, 1) := by decide +kernel
theorem d154_1 : decode (ix_by 154) 1 = .ok (.istore_n 3, 1) := by decide +kernel
theorem d154_2 : decode (ix_by 154) 2 = .ok (.aload_n 0, 1) := by decide +kernel
theorem d154_3 : decode (ix_by 154) 3 = .ok (.getfield 80, 3) := by decide +kernel
theorem d154_6 : decode (ix_by 154) 6 = .ok (.aload_n 0, 1) := by decide +kernel
theorem d154_7 : decode (ix_by 154) 7 = .ok (.getfield 74, 3) := by decide +kernel
theorem d154_10 : decode (ix_by 154) 10 = .ok (.iload_n 1, 1) := by decide +kernel
theorem d154_11 : decode (ix_by 154) 11 = .ok (.iaload, 1) := by decide +kernel
theorem d154_12 : decode (ix_by 154) 12 = .ok (.iaload, 1) := by decide +kernel
theorem d154_13 : decode (ix_by 154) 13 = .ok (.istore 4, 2) := by decide +kernel
theorem d154_15 : decode (ix_by 154) 15 = .ok (.iconst 0, 1) := by decide +kernel
theorem d154_16 : decode (ix_by 154) 16 = .ok (.istore 5, 2) := by decide +kernel
theorem d154_18 : decode (ix_by 154) 18 = .ok (.iload 5, 2) := by decide +kernel
theorem d154_20 : decode (ix_by 154) 20 = .ok (.iload 4, 2) := by decide +kernel
theorem d154_22 : decode (ix_by 154) 22 = .ok (.if_icmp .ge 30, 3) := by decide +kernel
theorem d154_25 : decode (ix_by 154) 25 = .ok (.iload_n 3, 1) := by decide +kernel
theorem d154_26 : decode (ix_by 154) 26 = .ok (.aload_n 0, 1) := by decide +kernel
theorem d154_27 : decode (ix_by 154) 27 = .ok (.iload_n 1, 1) := by decide +kernel
theorem d154_28 : decode (ix_by 154) 28 = .ok (.iload 5, 2) := by decide +kernel
theorem d154_30 : decode (ix_by 154) 30 = .ok (.invokevirtual 237, 3) := by decide +kernel
theorem d154_33 : decode (ix_by 154) 33 = .ok (.bipush 24, 2) := by decide +kernel
theorem d154_35 : decode (ix_by 154) 35 = .ok (.bipush 8, 2) := by decide +kernel
theorem d154_37 : decode (ix_by 154) 37 = .ok (.iload 5, 2) := by decide +kernel
theorem d154_39 : decode (ix_by 154) 39 = .ok (.iconst 4, 1) := by decide +kernel
theorem d154_40 : decode (ix_by 154) 40 = .ok (.irem, 1) := by decide +kernel
theorem d154_41 : decode (ix_by 154) 41 = .ok (.imul, 1) := by decide +kernel
theorem d154_42 : decode (ix_by 154) 42 = .ok (.isub, 1) := by decide +kernel
theorem d154_43 : decode (ix_by 154) 43 = .ok (.ishl, 1) := by decide +kernel
theorem d154_44 : decode (ix_by 154) 44 = .ok (.iadd, 1) := by decide +kernel
theorem d154_45 : decode (ix_by 154) 45 = .ok (.istore_n 3, 1) := by decide +kernel
theorem d154_46 : decode (ix_by 154) 46 = .ok (.iinc 5 1, 3) := by decide +kernel
theorem d154_49 : decode (ix_by 154) 49 = .ok (.goto (-31), 3) := by decide +kernel
theorem d154_52 : decode (ix_by 154) 52 = .ok (.iconst 1, 1) := by decide +kernel
theorem d154_53 : decode (ix_by 154) 53 = .ok (.iload_n 1, 1) := by decide +kernel
theorem d154_54 : decode (ix_by 154) 54 = .ok (.sipush 320, 3) := by decide +kernel
theorem d154_57 : decode (ix_by 154) 57 = .ok (.idiv, 1) := by decide +kernel
theorem d154_58 : decode (ix_by 154) 58 = .ok (.isub, 1) := by decide +kernel
theorem d154_59 : decode (ix_by 154) 59 = .ok (.istore 5, 2) := by decide +kernel
theorem d154_61 : decode (ix_by 154) 61 = .ok (.bipush 6, 2) := by decide +kernel
theorem d154_63 : decode (ix_by 154) 63 = .ok (.iload 5, 2) := by decide +kernel
theorem d154_65 : decode (ix_by 154) 65 = .ok (.imul, 1) := by decide +kernel
theorem d154_66 : decode (ix_by 154) 66 = .ok (.aload_n 0, 1) := by decide +kernel
theorem d154_67 : decode (ix_by 154) 67 = .ok (.getfield 95, 3) := by decide +kernel
theorem d154_70 : decode (ix_by 154) 70 = .ok (.aload_n 0, 1) := by decide +kernel
theorem d154_71 : decode (ix_by 154) 71 = .ok (.getfield 74, 3) := by decide +kernel
theorem d154_74 : decode (ix_by 154) 74 = .ok (.iload_n 1, 1) := by decide +kernel
theorem d154_75 : decode (ix_by 154) 75 = .ok (.iaload, 1) := by decide +kernel
theorem d154_76 : decode (ix_by 154) 76 = .ok (.iaload, 1) := by decide +kernel
theorem d154_77 : decode (ix_by 154) 77 = .ok (.iadd, 1) := by decide +kernel
theorem d154_78 : decode (ix_by 154) 78 = .ok (.istore 6, 2) := by decide +kernel
theorem d154_80 : decode (ix_by 154) 80 = .ok (.iload_n 3, 1) := by decide +kernel
theorem d154_81 : decode (ix_by 154) 81 = .ok (.aload_n 0, 1) := by decide +kernel
theorem d154_82 : decode (ix_by 154) 82 = .ok (.getfield 83, 3) := by decide +kernel
theorem d154_85 : decode (ix_by 154) 85 = .ok (.aload_n 0, 1) := by decide +kernel
theorem d154_86 : decode (ix_by 154) 86 = .ok (.getfield 74, 3) := by decide +kernel
theorem d154_89 : decode (ix_by 154) 89 = .ok (.iload_n 1, 1) := by decide +kernel
theorem d154_90 : decode (ix_by 154) 90 = .ok (.iaload, 1) := by decide +kernel
theorem d154_91 : decode (ix_by 154) 91 = .ok (.iaload, 1) := by decide +kernel
theorem d154_92 : decode (ix_by 154) 92 = .ok (.if_icmp .eq 13, 3) := by decide +kernel
theorem d154_95 : decode (ix_by 154) 95 = .ok (.aload_n 0, 1) := by decide +kernel
theorem d154_96 : decode (ix_by 154) 96 = .ok (.iload_n 1, 1) := by decide +kernel
theorem d154_97 : decode (ix_by 154) 97 = .ok (.iconst 3, 1) := by decide +kernel
theorem d154_98 : decode (ix_by 154) 98 = .ok (.iload_n 2, 1) := by decide +kernel
theorem d154_99 : decode (ix_by 154) 99 = .ok (.invokevirtual 218, 3) := by decide +kernel
theorem d154_102 : decode (ix_by 154) 102 = .ok (.goto 102, 3) := by decide +kernel
theorem d154_105 : decode (ix_by 154) 105 = .ok (.aload_n 0, 1) := by decide +kernel
theorem d154_106 : decode (ix_by 154) 106 = .ok (.iload 5, 2) := by decide +kernel
theorem d154_108 : decode (ix_by 154) 108 = .ok (.aload_n 0, 1) := by decide +kernel
theorem d154_109 : decode (ix_by 154) 109 = .ok (.getfield 95, 3) := by decide +kernel
theorem d154_112 : decode (ix_by 154) 112 = .ok (.aload_n 0, 1) := by decide +kernel
theorem d154_113 : decode (ix_by 154) 113 = .ok (.getfield 74, 3) := by decide +kernel
theorem d154_116 : decode (ix_by 154) 116 = .ok (.iload_n 1, 1) := by decide +kernel
theorem d154_117 : decode (ix_by 154) 117 = .ok (.iaload, 1) := by decide +kernel
theorem d154_118 : decode (ix_by 154) 118 = .ok (.iaload, 1) := by decide +kernel
theorem d154_119 : decode (ix_by 154) 119 = .ok (.invokevirtual 159, 3) := by decide +kernel
theorem d154_122 : decode (ix_by 154) 122 = .ok (.ifCond .eq 13, 3) := by decide +kernel
theorem d154_125 : decode (ix_by 154) 125 = .ok (.aload_n 0, 1) := by decide +kernel
theorem d154_126 : decode (ix_by 154) 126 = .ok (.iload_n 1, 1) := by decide +kernel
theorem d154_127 : decode (ix_by 154) 127 = .ok (.iconst 4, 1) := by decide +kernel
theorem d154_128 : decode (ix_by 154) 128 = .ok (.iload_n 2, 1) := by decide +kernel
theorem d154_129 : decode (ix_by 154) 129 = .ok (.invokevirtual 218, 3) := by decide +kernel
theorem d154_132 : decode (ix_by 154) 132 = .ok (.goto 72, 3) := by decide +kernel
theorem d154_135 : decode (ix_by 154) 135 = .ok (.aload_n 0, 1) := by decide +kernel
theorem d154_136 : decode (ix_by 154) 136 = .ok (.getfield 7, 3) := by decide +kernel
theorem d154_139 : decode (ix_by 154) 139 = .ok (.iload 6, 2) := by decide +kernel
theorem d154_141 : decode (ix_by 154) 141 = .ok (.iconst 1, 1) := by decide +kernel
theorem d154_142 : decode (ix_by 154) 142 = .ok (.bastore, 1) := by decide +kernel
theorem d154_143 : decode (ix_by 154) 143 = .ok (.aload_n 0, 1) := by decide +kernel
theorem d154_144 : decode (ix_by 154) 144 = .ok (.getfield 13, 3) := by decide +kernel
theorem d154_147 : decode (ix_by 154) 147 = .ok (.iload 6, 2) := by decide +kernel
theorem d154_149 : decode (ix_by 154) 149 = .ok (.iload 4, 2) := by decide +kernel
theorem d154_151 : decode (ix_by 154) 151 = .ok (.iastore, 1) := by decide +kernel
theorem d154_152 : decode (ix_by 154) 152 = .ok (.iconst 0, 1) := by decide +kernel
theorem d154_153 : decode (ix_by 154) 153 = .ok (.istore 7, 2) := by decide +kernel
theorem d154_155 : decode (ix_by 154) 155 = .ok (.iload 7, 2) := by decide +kernel
theorem d154_157 : decode (ix_by 154) 157 = .ok (.iload 4, 2) := by decide +kernel
theorem d154_159 : decode (ix_by 154) 159 = .ok (.if_icmp .ge 29, 3) := by decide +kernel
theorem d154_162 : decode (ix_by 154) 162 = .ok (.aload_n 0, 1) := by decide +kernel
theorem d154_163 : decode (ix_by 154) 163 = .ok (.getfield 17, 3) := by decide +kernel
theorem d154_166 : decode (ix_by 154) 166 = .ok (.bipush 64, 2) := by decide +kernel
theorem d154_168 : decode (ix_by 154) 168 = .ok (.iload 6, 2) := by decide +kernel
theorem d154_170 : decode (ix_by 154) 170 = .ok (.imul, 1) := by decide +kernel
theorem d154_171 : decode (ix_by 154) 171 = .ok (.iload 7, 2) := by decide +kernel
theorem d154_173 : decode (ix_by 154) 173 = .ok (.iadd, 1) := by decide +kernel
theorem d154_174 : decode (ix_by 154) 174 = .ok (.aload_n 0, 1) := by decide +kernel
theorem d154_175 : decode (ix_by 154) 175 = .ok (.iload_n 1, 1) := by decide +kernel
theorem d154_176 : decode (ix_by 154) 176 = .ok (.iload 7, 2) := by decide +kernel
theorem d154_178 : decode (ix_by 154) 178 = .ok (.invokevirtual 237, 3) := by decide +kernel
theorem d154_181 : decode (ix_by 154) 181 = .ok (.iastore, 1) := by decide +kernel
theorem d154_182 : decode (ix_by 154) 182 = .ok (.iinc 7 1, 3) := by decide +kernel
theorem d154_185 : decode (ix_by 154) 185 = .ok (.goto (-30), 3) := by decide +kernel
theorem d154_188 : decode (ix_by 154) 188 = .ok (.aload_n 0, 1) := by decide +kernel
theorem d154_189 : decode (ix_by 154) 189 = .ok (.iload_n 1, 1) := by decide +kernel
theorem d154_190 : decode (ix_by 154) 190 = .ok (.iload 5, 2) := by decide +kernel
theorem d154_192 : decode (ix_by 154) 192 = .ok (.iload 6, 2) := by decide +kernel
theorem d154_194 : decode (ix_by 154) 194 = .ok (.invokevirtual 240, 3) := by decide +kernel
theorem d154_197 : decode (ix_by 154) 197 = .ok (.aload_n 0, 1) := by decide +kernel
theorem d154_198 : decode (ix_by 154) 198 = .ok (.iload_n 1, 1) := by decide +kernel
theorem d154_199 : decode (ix_by 154) 199 = .ok (.iconst 1, 1) := by decide +kernel
theorem d154_200 : decode (ix_by 154) 200 = .ok (.iload_n 2, 1) := by decide +kernel
theorem d154_201 : decode (ix_by 154) 201 = .ok (.invokevirtual 218, 3) := by decide +kernel
theorem d154_204 : decode (ix_by 154) 204 = .ok (.return_, 1) := by decide +kernel
theorem d155_0 : decode (ix_by 155) 0 = .ok (.aload_n 0, 1) := by decide +kernel
theorem d155_1 : decode (ix_by 155) 1 = .ok (.getfield 116, 3) := by decide +kernel
theorem d155_4 : decode (ix_by 155) 4 = .ok (.bipush 16, 2) := by decide +kernel
theorem d155_6 : decode (ix_by 155) 6 = .ok (.aload_n 0, 1) := by decide +kernel
theorem d155_7 : decode (ix_by 155) 7 = .ok (.getfield 74, 3) := by decide +kernel
theorem d155_10 : decode (ix_by 155) 10 = .ok (.iload_n 1, 1) := by decide +kernel
theorem d155_11 : decode (ix_by 155) 11 = .ok (.iaload, 1) := by decide +kernel
theorem d155_12 : decode (ix_by 155) 12 = .ok (.imul, 1) := by decide +kernel
theorem d155_13 : decode (ix_by 155) 13 = .ok (.iload_n 2, 1) := by decide +kernel
theorem d155_14 : decode (ix_by 155) 14 = .ok (.iconst 4, 1) := by decide +kernel
theorem d155_15 : decode (ix_by 155) 15 = .ok (.idiv, 1) := by decide +kernel
theorem d155_16 : decode (ix_by 155) 16 = .ok (.iadd, 1) := by decide +kernel
theorem d155_17 : decode (ix_by 155) 17 = .ok (.iaload, 1) := by decide +kernel
theorem d155_18 : decode (ix_by 155) 18 = .ok (.istore_n 3, 1) := by decide +kernel
theorem d155_19 : decode (ix_by 155) 19 = .ok (.iload_n 2, 1) := by decide +kernel
theorem d155_20 : decode (ix_by 155) 20 = .ok (.iconst 4, 1) := by decide +kernel
theorem d155_21 : decode (ix_by 155) 21 = .ok (.irem, 1) := by decide +kernel
theorem d155_22 : decode (ix_by 155) 22 = .ok (.iload_n 3, 1) := by decide +kernel
theorem d155_23 : decode (ix_by 155) 23 = .ok (.if_icmp .ge 38, 3) := by decide +kernel
theorem d155_26 : decode (ix_by 155) 26 = .ok (.aload_n 0, 1) := by decide +kernel
theorem d155_27 : decode (ix_by 155) 27 = .ok (.getfield 113, 3) := by decide +kernel
theorem d155_30 : decode (ix_by 155) 30 = .ok (.bipush 16, 2) := by decide +kernel
theorem d155_32 : decode (ix_by 155) 32 = .ok (.aload_n 0, 1) := by decide +kernel
theorem d155_33 : decode (ix_by 155) 33 = .ok (.getfield 74, 3) := by decide +kernel
theorem d155_36 : decode (ix_by 155) 36 = .ok (.iload_n 1, 1) := by decide +kernel
theorem d155_37 : decode (ix_by 155) 37 = .ok (.iaload, 1) := by decide +kernel
theorem d155_38 : decode (ix_by 155) 38 = .ok (.imul, 1) := by decide +kernel
theorem d155_39 : decode (ix_by 155) 39 = .ok (.iload_n 2, 1) := by decide +kernel
theorem d155_40 : decode (ix_by 155) 40 = .ok (.iconst 4, 1) := by decide +kernel
theorem d155_41 : decode (ix_by 155) 41 = .ok (.idiv, 1) := by decide +kernel
theorem d155_42 : decode (ix_by 155) 42 = .ok (.iadd, 1) := by decide +kernel
theorem d155_43 : decode (ix_by 155) 43 = .ok (.iaload, 1) := by decide +kernel
theorem d155_44 : decode (ix_by 155) 44 = .ok (.bipush 24, 2) := by decide +kernel
theorem d155_46 : decode (ix_by 155) 46 = .ok (.bipush 8, 2) := by decide +kernel
theorem d155_48 : decode (ix_by 155) 48 = .ok (.iload_n 2, 1) := by decide +kernel
theorem d155_49 : decode (ix_by 155) 49 = .ok (.iconst 4, 1) := by decide +kernel
theorem d155_50 : decode (ix_by 155) 50 = .ok (.irem, 1) := by decide +kernel
theorem d155_51 : decode (ix_by 155) 51 = .ok (.imul, 1) := by decide +kernel
theorem d155_52 : decode (ix_by 155) 52 = .ok (.isub, 1) := by decide +kernel
theorem d155_53 : decode (ix_by 155) 53 = .ok (.ishr, 1) := by decide +kernel
theorem d155_54 : decode (ix_by 155) 54 = .ok (.sipush 255, 3) := by decide +kernel
theorem d155_57 : decode (ix_by 155) 57 = .ok (.iand, 1) := by decide +kernel
theorem d155_58 : decode (ix_by 155) 58 = .ok (.goto 4, 3) := by decide +kernel
theorem d155_61 : decode (ix_by 155) 61 = .ok (.iconst 0, 1) := by decide +kernel
theorem d155_62 : decode (ix_by 155) 62 = .ok (.ireturn, 1) := by decide +kernel
