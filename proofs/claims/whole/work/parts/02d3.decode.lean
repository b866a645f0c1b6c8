/-! decode rows (written by wip/whole/gen4.py) -/
theorem d76_0 : decode (ix_by 76) 0 = .ok (.aload_n 0, 1) := by decide +kernel
theorem d76_1 : decode (ix_by 76) 1 = .ok (.iload_n 1, 1) := by decide +kernel
theorem d76_2 : decode (ix_by 76) 2 = .ok (.aload_n 0, 1) := by decide +kernel
theorem d76_3 : decode (ix_by 76) 3 = .ok (.invokevirtual 86, 3) := by decide +kernel
theorem d76_6 : decode (ix_by 76) 6 = .ok (.invokestatic 300, 3) := by decide +kernel
theorem d76_9 : decode (ix_by 76) 9 = .ok (.areturn, 1) := by decide +kernel
theorem d77_0 : decode (ix_by 77) 0 = .ok (.aload_n 2, 1) := by decide +kernel
theorem d77_1 : decode (ix_by 77) 1 = .ok (.ldc 110, 2) := by decide +kernel
theorem d77_3 : decode (ix_by 77) 3 = .ok (.if_acmp .ne 10, 3) := by decide +kernel
theorem d77_6 : decode (ix_by 77) 6 = .ok (.iload_n 1, 1) := by decide +kernel
theorem d77_7 : decode (ix_by 77) 7 = .ok (.anewarray 2, 3) := by decide +kernel
theorem d77_10 : decode (ix_by 77) 10 = .ok (.goto 14, 3) := by decide +kernel
theorem d77_13 : decode (ix_by 77) 13 = .ok (.aload_n 2, 1) := by decide +kernel
theorem d77_14 : decode (ix_by 77) 14 = .ok (.invokevirtual 90, 3) := by decide +kernel
theorem d77_17 : decode (ix_by 77) 17 = .ok (.iload_n 1, 1) := by decide +kernel
theorem d77_18 : decode (ix_by 77) 18 = .ok (.invokestatic 95, 3) := by decide +kernel
theorem d77_21 : decode (ix_by 77) 21 = .ok (.checkcast 110, 3) := by decide +kernel
theorem d77_24 : decode (ix_by 77) 24 = .ok (.astore_n 3, 1) := by decide +kernel
theorem d77_25 : decode (ix_by 77) 25 = .ok (.aload_n 0, 1) := by decide +kernel
theorem d77_26 : decode (ix_by 77) 26 = .ok (.iconst 0, 1) := by decide +kernel
theorem d77_27 : decode (ix_by 77) 27 = .ok (.aload_n 3, 1) := by decide +kernel
theorem d77_28 : decode (ix_by 77) 28 = .ok (.iconst 0, 1) := by decide +kernel
theorem d77_29 : decode (ix_by 77) 29 = .ok (.aload_n 0, 1) := by decide +kernel
theorem d77_30 : decode (ix_by 77) 30 = .ok (.arraylength, 1) := by decide +kernel
theorem d77_31 : decode (ix_by 77) 31 = .ok (.iload_n 1, 1) := by decide +kernel
theorem d77_32 : decode (ix_by 77) 32 = .ok (.invokestatic 304, 3) := by decide +kernel
theorem d77_35 : decode (ix_by 77) 35 = .ok (.invokestatic 150, 3) := by decide +kernel
theorem d77_38 : decode (ix_by 77) 38 = .ok (.aload_n 3, 1) := by decide +kernel
theorem d77_39 : decode (ix_by 77) 39 = .ok (.areturn, 1) := by decide +kernel
theorem d78_0 : decode (ix_by 78) 0 = .ok (.iload_n 0, 1) := by decide +kernel
theorem d78_1 : decode (ix_by 78) 1 = .ok (.iload_n 1, 1) := by decide +kernel
theorem d78_2 : decode (ix_by 78) 2 = .ok (.if_icmp .gt 7, 3) := by decide +kernel
theorem d78_5 : decode (ix_by 78) 5 = .ok (.iload_n 0, 1) := by decide +kernel
theorem d78_6 : decode (ix_by 78) 6 = .ok (.goto 4, 3) := by decide +kernel
theorem d78_9 : decode (ix_by 78) 9 = .ok (.iload_n 1, 1) := by decide +kernel
theorem d78_10 : decode (ix_by 78) 10 = .ok (.ireturn, 1) := by decide +kernel
theorem d79_0 : decode (ix_by 79) 0 = .ok (.aload_n 1, 1) := by decide +kernel
theorem d79_1 : decode (ix_by 79) 1 = .ok (.getfield 70, 3) := by decide +kernel
theorem d79_4 : decode (ix_by 79) 4 = .ok (.iconst 3, 1) := by decide +kernel
theorem d79_5 : decode (ix_by 79) 5 = .ok (.if_icmp .ne 20, 3) := by decide +kernel
theorem d79_8 : decode (ix_by 79) 8 = .ok (.aload_n 0, 1) := by decide +kernel
theorem d79_9 : decode (ix_by 79) 9 = .ok (.getfield 19, 3) := by decide +kernel
theorem d79_12 : decode (ix_by 79) 12 = .ok (.invokevirtual 52, 3) := by decide +kernel
theorem d79_15 : decode (ix_by 79) 15 = .ok (.ifCond .eq 10, 3) := by decide +kernel
theorem d79_18 : decode (ix_by 79) 18 = .ok (.aload_n 0, 1) := by decide +kernel
theorem d79_19 : decode (ix_by 79) 19 = .ok (.iconst 5, 1) := by decide +kernel
theorem d79_20 : decode (ix_by 79) 20 = .ok (.iconst 3, 1) := by decide +kernel
theorem d79_21 : decode (ix_by 79) 21 = .ok (.iconst 0, 1) := by decide +kernel
theorem d79_22 : decode (ix_by 79) 22 = .ok (.invokevirtual 75, 3) := by decide +kernel
theorem d79_25 : decode (ix_by 79) 25 = .ok (.aload_n 0, 1) := by decide +kernel
theorem d79_26 : decode (ix_by 79) 26 = .ok (.getfield 37, 3) := by decide +kernel
theorem d79_29 : decode (ix_by 79) 29 = .ok (.ifCond .ne 10, 3) := by decide +kernel
theorem d79_32 : decode (ix_by 79) 32 = .ok (.aload_n 0, 1) := by decide +kernel
theorem d79_33 : decode (ix_by 79) 33 = .ok (.invokevirtual 44, 3) := by decide +kernel
theorem d79_36 : decode (ix_by 79) 36 = .ok (.ifCond .eq 26, 3) := by decide +kernel
theorem d79_39 : decode (ix_by 79) 39 = .ok (.aload_n 0, 1) := by decide +kernel
theorem d79_40 : decode (ix_by 79) 40 = .ok (.dup, 1) := by decide +kernel
theorem d79_41 : decode (ix_by 79) 41 = .ok (.getfield 37, 3) := by decide +kernel
theorem d79_44 : decode (ix_by 79) 44 = .ok (.aload_n 1, 1) := by decide +kernel
theorem d79_45 : decode (ix_by 79) 45 = .ok (.getfield 70, 3) := by decide +kernel
theorem d79_48 : decode (ix_by 79) 48 = .ok (.iconst 5, 1) := by decide +kernel
theorem d79_49 : decode (ix_by 79) 49 = .ok (.if_icmp .ne 7, 3) := by decide +kernel
theorem d79_52 : decode (ix_by 79) 52 = .ok (.iconst 1, 1) := by decide +kernel
theorem d79_53 : decode (ix_by 79) 53 = .ok (.goto 4, 3) := by decide +kernel
theorem d79_56 : decode (ix_by 79) 56 = .ok (.iconst 0, 1) := by decide +kernel
theorem d79_57 : decode (ix_by 79) 57 = .ok (.ior, 1) := by decide +kernel
theorem d79_58 : decode (ix_by 79) 58 = .ok (.putfield 37, 3) := by decide +kernel
theorem d79_61 : decode (ix_by 79) 61 = .ok (.return_, 1) := by decide +kernel
theorem d79_62 : decode (ix_by 79) 62 = .ok (.aload_n 0, 1) := by decide +kernel
theorem d79_63 : decode (ix_by 79) 63 = .ok (.getfield 15, 3) := by decide +kernel
theorem d79_66 : decode (ix_by 79) 66 = .ok (.iconst (-1), 1) := by decide +kernel
theorem d79_67 : decode (ix_by 79) 67 = .ok (.if_icmp .ne 7, 3) := by decide +kernel
theorem d79_70 : decode (ix_by 79) 70 = .ok (.iconst 1, 1) := by decide +kernel
theorem d79_71 : decode (ix_by 79) 71 = .ok (.goto 4, 3) := by decide +kernel
theorem d79_74 : decode (ix_by 79) 74 = .ok (.iconst 0, 1) := by decide +kernel
theorem d79_75 : decode (ix_by 79) 75 = .ok (.istore_n 3, 1) := by decide +kernel
theorem d79_76 : decode (ix_by 79) 76 = .ok (.aload_n 0, 1) := by decide +kernel
theorem d79_77 : decode (ix_by 79) 77 = .ok (.aload_n 1, 1) := by decide +kernel
theorem d79_78 : decode (ix_by 79) 78 = .ok (.invokevirtual 79, 3) := by decide +kernel
theorem d79_81 : decode (ix_by 79) 81 = .ok (.aload_n 1, 1) := by decide +kernel
theorem d79_82 : decode (ix_by 79) 82 = .ok (.getfield 70, 3) := by decide +kernel
theorem d79_85 : decode (ix_by 79) 85 = .ok (.iconst 3, 1) := by decide +kernel
theorem d79_86 : decode (ix_by 79) 86 = .ok (.if_icmp .ne 20, 3) := by decide +kernel
theorem d79_89 : decode (ix_by 79) 89 = .ok (.aload_n 1, 1) := by decide +kernel
theorem d79_90 : decode (ix_by 79) 90 = .ok (.getfield 83, 3) := by decide +kernel
theorem d79_93 : decode (ix_by 79) 93 = .ok (.iconst (-1), 1) := by decide +kernel
theorem d79_94 : decode (ix_by 79) 94 = .ok (.if_icmp .ne 12, 3) := by decide +kernel
theorem d79_97 : decode (ix_by 79) 97 = .ok (.aload_n 0, 1) := by decide +kernel
theorem d79_98 : decode (ix_by 79) 98 = .ok (.iconst 2, 1) := by decide +kernel
theorem d79_99 : decode (ix_by 79) 99 = .ok (.iload_n 2, 1) := by decide +kernel
theorem d79_100 : decode (ix_by 79) 100 = .ok (.invokevirtual 64, 3) := by decide +kernel
theorem d79_103 : decode (ix_by 79) 103 = .ok (.goto 47, 3) := by decide +kernel
theorem d79_106 : decode (ix_by 79) 106 = .ok (.aload_n 0, 1) := by decide +kernel
theorem d79_107 : decode (ix_by 79) 107 = .ok (.getfield 15, 3) := by decide +kernel
theorem d79_110 : decode (ix_by 79) 110 = .ok (.iconst (-1), 1) := by decide +kernel
theorem d79_111 : decode (ix_by 79) 111 = .ok (.if_icmp .ne 11, 3) := by decide +kernel
theorem d79_114 : decode (ix_by 79) 114 = .ok (.aload_n 0, 1) := by decide +kernel
theorem d79_115 : decode (ix_by 79) 115 = .ok (.iload_n 2, 1) := by decide +kernel
theorem d79_116 : decode (ix_by 79) 116 = .ok (.putfield 41, 3) := by decide +kernel
theorem d79_119 : decode (ix_by 79) 119 = .ok (.goto 31, 3) := by decide +kernel
theorem d79_122 : decode (ix_by 79) 122 = .ok (.aload_n 0, 1) := by decide +kernel
theorem d79_123 : decode (ix_by 79) 123 = .ok (.invokevirtual 86, 3) := by decide +kernel
theorem d79_126 : decode (ix_by 79) 126 = .ok (.ifCond .eq 15, 3) := by decide +kernel
theorem d79_129 : decode (ix_by 79) 129 = .ok (.aload_n 0, 1) := by decide +kernel
theorem d79_130 : decode (ix_by 79) 130 = .ok (.aload_n 0, 1) := by decide +kernel
theorem d79_131 : decode (ix_by 79) 131 = .ok (.invokevirtual 89, 3) := by decide +kernel
theorem d79_134 : decode (ix_by 79) 134 = .ok (.iload_n 2, 1) := by decide +kernel
theorem d79_135 : decode (ix_by 79) 135 = .ok (.invokevirtual 64, 3) := by decide +kernel
theorem d79_138 : decode (ix_by 79) 138 = .ok (.goto 12, 3) := by decide +kernel
theorem d79_141 : decode (ix_by 79) 141 = .ok (.iload_n 3, 1) := by decide +kernel
theorem d79_142 : decode (ix_by 79) 142 = .ok (.ifCond .eq 8, 3) := by decide +kernel
theorem d79_145 : decode (ix_by 79) 145 = .ok (.aload_n 0, 1) := by decide +kernel
theorem d79_146 : decode (ix_by 79) 146 = .ok (.iload_n 2, 1) := by decide +kernel
theorem d79_147 : decode (ix_by 79) 147 = .ok (.invokevirtual 93, 3) := by decide +kernel
theorem d79_150 : decode (ix_by 79) 150 = .ok (.return_, 1) := by decide +kernel
theorem d80_0 : decode (ix_by 80) 0 = .ok (.aload_n 1, 1) := by decide +kernel
theorem d80_1 : decode (ix_by 80) 1 = .ok (.getfield 70, 3) := by decide +kernel
theorem d80_4 : decode (ix_by 80) 4 = .ok (.iconst 1, 1) := by decide +kernel
theorem d80_5 : decode (ix_by 80) 5 = .ok (.if_icmp .ne 11, 3) := by decide +kernel
theorem d80_8 : decode (ix_by 80) 8 = .ok (.aload_n 0, 1) := by decide +kernel
theorem d80_9 : decode (ix_by 80) 9 = .ok (.iconst 1, 1) := by decide +kernel
theorem d80_10 : decode (ix_by 80) 10 = .ok (.putfield 96, 3) := by decide +kernel
theorem d80_13 : decode (ix_by 80) 13 = .ok (.goto 59, 3) := by decide +kernel
theorem d80_16 : decode (ix_by 80) 16 = .ok (.aload_n 1, 1) := by decide +kernel
theorem d80_17 : decode (ix_by 80) 17 = .ok (.getfield 70, 3) := by decide +kernel
theorem d80_20 : decode (ix_by 80) 20 = .ok (.iconst 2, 1) := by decide +kernel
theorem d80_21 : decode (ix_by 80) 21 = .ok (.if_icmp .ne 11, 3) := by decide +kernel
theorem d80_24 : decode (ix_by 80) 24 = .ok (.aload_n 0, 1) := by decide +kernel
theorem d80_25 : decode (ix_by 80) 25 = .ok (.aload_n 1, 1) := by decide +kernel
theorem d80_26 : decode (ix_by 80) 26 = .ok (.invokevirtual 99, 3) := by decide +kernel
theorem d80_29 : decode (ix_by 80) 29 = .ok (.goto 43, 3) := by decide +kernel
theorem d80_32 : decode (ix_by 80) 32 = .ok (.aload_n 1, 1) := by decide +kernel
theorem d80_33 : decode (ix_by 80) 33 = .ok (.getfield 70, 3) := by decide +kernel
theorem d80_36 : decode (ix_by 80) 36 = .ok (.iconst 3, 1) := by decide +kernel
theorem d80_37 : decode (ix_by 80) 37 = .ok (.if_icmp .ne 35, 3) := by decide +kernel
theorem d80_40 : decode (ix_by 80) 40 = .ok (.aload_n 0, 1) := by decide +kernel
theorem d80_41 : decode (ix_by 80) 41 = .ok (.getfield 15, 3) := by decide +kernel
theorem d80_44 : decode (ix_by 80) 44 = .ok (.iconst (-1), 1) := by decide +kernel
theorem d80_45 : decode (ix_by 80) 45 = .ok (.if_icmp .ne 27, 3) := by decide +kernel
theorem d80_48 : decode (ix_by 80) 48 = .ok (.aload_n 1, 1) := by decide +kernel
theorem d80_49 : decode (ix_by 80) 49 = .ok (.getfield 83, 3) := by decide +kernel
theorem d80_52 : decode (ix_by 80) 52 = .ok (.iconst (-1), 1) := by decide +kernel
theorem d80_53 : decode (ix_by 80) 53 = .ok (.if_icmp .eq 19, 3) := by decide +kernel
theorem d80_56 : decode (ix_by 80) 56 = .ok (.aload_n 0, 1) := by decide +kernel
theorem d80_57 : decode (ix_by 80) 57 = .ok (.aload_n 1, 1) := by decide +kernel
theorem d80_58 : decode (ix_by 80) 58 = .ok (.getfield 83, 3) := by decide +kernel
theorem d80_61 : decode (ix_by 80) 61 = .ok (.putfield 15, 3) := by decide +kernel
theorem d80_64 : decode (ix_by 80) 64 = .ok (.aload_n 0, 1) := by decide +kernel
theorem d80_65 : decode (ix_by 80) 65 = .ok (.aload_n 1, 1) := by decide +kernel
theorem d80_66 : decode (ix_by 80) 66 = .ok (.getfield 102, 3) := by decide +kernel
theorem d80_69 : decode (ix_by 80) 69 = .ok (.putfield 105, 3) := by decide +kernel
theorem d80_72 : decode (ix_by 80) 72 = .ok (.return_, 1) := by decide +kernel
theorem d81_0 : decode (ix_by 81) 0 = .ok (.aload_n 1, 1) := by decide +kernel
theorem d81_1 : decode (ix_by 81) 1 = .ok (.getfield 83, 3) := by decide +kernel
theorem d81_4 : decode (ix_by 81) 4 = .ok (.istore_n 2, 1) := by decide +kernel
theorem d81_5 : decode (ix_by 81) 5 = .ok (.iload_n 2, 1) := by decide +kernel
theorem d81_6 : decode (ix_by 81) 6 = .ok (.ifCond .lt 20, 3) := by decide +kernel
theorem d81_9 : decode (ix_by 81) 9 = .ok (.iload_n 2, 1) := by decide +kernel
theorem d81_10 : decode (ix_by 81) 10 = .ok (.bipush 16, 2) := by decide +kernel
theorem d81_12 : decode (ix_by 81) 12 = .ok (.if_icmp .ge 14, 3) := by decide +kernel
theorem d81_15 : decode (ix_by 81) 15 = .ok (.aload_n 0, 1) := by decide +kernel
theorem d81_16 : decode (ix_by 81) 16 = .ok (.getfield 108, 3) := by decide +kernel
theorem d81_19 : decode (ix_by 81) 19 = .ok (.iconst 1, 1) := by decide +kernel
theorem d81_20 : decode (ix_by 81) 20 = .ok (.iload_n 2, 1) := by decide +kernel
theorem d81_21 : decode (ix_by 81) 21 = .ok (.ishl, 1) := by decide +kernel
theorem d81_22 : decode (ix_by 81) 22 = .ok (.iand, 1) := by decide +kernel
theorem d81_23 : decode (ix_by 81) 23 = .ok (.ifCond .eq 4, 3) := by decide +kernel
theorem d81_26 : decode (ix_by 81) 26 = .ok (.return_, 1) := by decide +kernel
theorem d81_27 : decode (ix_by 81) 27 = .ok (.aload_n 0, 1) := by decide +kernel
theorem d81_28 : decode (ix_by 81) 28 = .ok (.dup, 1) := by decide +kernel
theorem d81_29 : decode (ix_by 81) 29 = .ok (.getfield 108, 3) := by decide +kernel
theorem d81_32 : decode (ix_by 81) 32 = .ok (.iconst 1, 1) := by decide +kernel
theorem d81_33 : decode (ix_by 81) 33 = .ok (.iload_n 2, 1) := by decide +kernel
theorem d81_34 : decode (ix_by 81) 34 = .ok (.ishl, 1) := by decide +kernel
theorem d81_35 : decode (ix_by 81) 35 = .ok (.ior, 1) := by decide +kernel
theorem d81_36 : decode (ix_by 81) 36 = .ok (.putfield 108, 3) := by decide +kernel
theorem d81_39 : decode (ix_by 81) 39 = .ok (.iconst 0, 1) := by decide +kernel
theorem d81_40 : decode (ix_by 81) 40 = .ok (.istore_n 3, 1) := by decide +kernel
theorem d81_41 : decode (ix_by 81) 41 = .ok (.iload_n 3, 1) := by decide +kernel
theorem d81_42 : decode (ix_by 81) 42 = .ok (.aload_n 1, 1) := by decide +kernel
theorem d81_43 : decode (ix_by 81) 43 = .ok (.getfield 111, 3) := by decide +kernel
theorem d81_46 : decode (ix_by 81) 46 = .ok (.if_icmp .ge 34, 3) := by decide +kernel
theorem d81_49 : decode (ix_by 81) 49 = .ok (.iload_n 3, 1) := by decide +kernel
theorem d81_50 : decode (ix_by 81) 50 = .ok (.iconst 4, 1) := by decide +kernel
theorem d81_51 : decode (ix_by 81) 51 = .ok (.if_icmp .ge 29, 3) := by decide +kernel
theorem d81_54 : decode (ix_by 81) 54 = .ok (.aload_n 0, 1) := by decide +kernel
theorem d81_55 : decode (ix_by 81) 55 = .ok (.getfield 9, 3) := by decide +kernel
theorem d81_58 : decode (ix_by 81) 58 = .ok (.iload_n 2, 1) := by decide +kernel
theorem d81_59 : decode (ix_by 81) 59 = .ok (.iconst 4, 1) := by decide +kernel
theorem d81_60 : decode (ix_by 81) 60 = .ok (.imul, 1) := by decide +kernel
theorem d81_61 : decode (ix_by 81) 61 = .ok (.iload_n 3, 1) := by decide +kernel
theorem d81_62 : decode (ix_by 81) 62 = .ok (.iadd, 1) := by decide +kernel
theorem d81_63 : decode (ix_by 81) 63 = .ok (.aload_n 1, 1) := by decide +kernel
theorem d81_64 : decode (ix_by 81) 64 = .ok (.getfield 102, 3) := by decide +kernel
theorem d81_67 : decode (ix_by 81) 67 = .ok (.bipush 8, 2) := by decide +kernel
theorem d81_69 : decode (ix_by 81) 69 = .ok (.iload_n 3, 1) := by decide +kernel
theorem d81_70 : decode (ix_by 81) 70 = .ok (.imul, 1) := by decide +kernel
theorem d81_71 : decode (ix_by 81) 71 = .ok (.ishr, 1) := by decide +kernel
theorem d81_72 : decode (ix_by 81) 72 = .ok (.i2b, 1) := by decide +kernel
theorem d81_73 : decode (ix_by 81) 73 = .ok (.bastore, 1) := by decide +kernel
theorem d81_74 : decode (ix_by 81) 74 = .ok (.iinc 3 1, 3) := by decide +kernel
theorem d81_77 : decode (ix_by 81) 77 = .ok (.goto (-36), 3) := by decide +kernel
theorem d81_80 : decode (ix_by 81) 80 = .ok (.return_, 1) := by decide +kernel
theorem d82_0 : decode (ix_by 82) 0 = .ok (.aload_n 0, 1) := by decide +kernel
theorem d82_1 : decode (ix_by 82) 1 = .ok (.getfield 96, 3) := by decide +kernel
theorem d82_4 : decode (ix_by 82) 4 = .ok (.ifCond .eq 14, 3) := by decide +kernel
theorem d82_7 : decode (ix_by 82) 7 = .ok (.aload_n 0, 1) := by decide +kernel
theorem d82_8 : decode (ix_by 82) 8 = .ok (.invokevirtual 118, 3) := by decide +kernel
theorem d82_11 : decode (ix_by 82) 11 = .ok (.ifCond .ne 7, 3) := by decide +kernel
theorem d82_14 : decode (ix_by 82) 14 = .ok (.iconst 1, 1) := by decide +kernel
theorem d82_15 : decode (ix_by 82) 15 = .ok (.goto 4, 3) := by decide +kernel
theorem d82_18 : decode (ix_by 82) 18 = .ok (.iconst 0, 1) := by decide +kernel
theorem d82_19 : decode (ix_by 82) 19 = .ok (.ireturn, 1) := by decide +kernel
theorem d83_0 : decode (ix_by 83) 0 = .ok (.aload_n 0, 1) := by decide +kernel
theorem d83_1 : decode (ix_by 83) 1 = .ok (.getfield 9, 3) := by decide +kernel
theorem d83_4 : decode (ix_by 83) 4 = .ok (.aload_n 0, 1) := by decide +kernel
theorem d83_5 : decode (ix_by 83) 5 = .ok (.getfield 15, 3) := by decide +kernel
theorem d83_8 : decode (ix_by 83) 8 = .ok (.invokestatic 121, 3) := by decide +kernel
theorem d83_11 : decode (ix_by 83) 11 = .ok (.aload_n 0, 1) := by decide +kernel
theorem d83_12 : decode (ix_by 83) 12 = .ok (.getfield 105, 3) := by decide +kernel
theorem d83_15 : decode (ix_by 83) 15 = .ok (.if_icmp .eq 5, 3) := by decide +kernel
theorem d83_18 : decode (ix_by 83) 18 = .ok (.iconst 3, 1) := by decide +kernel
theorem d83_19 : decode (ix_by 83) 19 = .ok (.ireturn, 1) := by decide +kernel
theorem d83_20 : decode (ix_by 83) 20 = .ok (.aload_n 0, 1) := by decide +kernel
theorem d83_21 : decode (ix_by 83) 21 = .ok (.getfield 23, 3) := by decide +kernel
theorem d83_24 : decode (ix_by 83) 24 = .ok (.aload_n 0, 1) := by decide +kernel
theorem d83_25 : decode (ix_by 83) 25 = .ok (.getfield 19, 3) := by decide +kernel
theorem d83_28 : decode (ix_by 83) 28 = .ok (.getfield 125, 3) := by decide +kernel
theorem d83_31 : decode (ix_by 83) 31 = .ok (.invokevirtual 128, 3) := by decide +kernel
theorem d83_34 : decode (ix_by 83) 34 = .ok (.ifCond .eq 5, 3) := by decide +kernel
theorem d83_37 : decode (ix_by 83) 37 = .ok (.iconst 4, 1) := by decide +kernel
theorem d83_38 : decode (ix_by 83) 38 = .ok (.ireturn, 1) := by decide +kernel
theorem d83_39 : decode (ix_by 83) 39 = .ok (.aload_n 0, 1) := by decide +kernel
theorem d83_40 : decode (ix_by 83) 40 = .ok (.getfield 23, 3) := by decide +kernel
theorem d83_43 : decode (ix_by 83) 43 = .ok (.getfield 134, 3) := by decide +kernel
theorem d83_46 : decode (ix_by 83) 46 = .ok (.aload_n 0, 1) := by decide +kernel
theorem d83_47 : decode (ix_by 83) 47 = .ok (.getfield 19, 3) := by decide +kernel
theorem d83_50 : decode (ix_by 83) 50 = .ok (.getfield 125, 3) := by decide +kernel
theorem d83_53 : decode (ix_by 83) 53 = .ok (.aload_n 0, 1) := by decide +kernel
theorem d83_54 : decode (ix_by 83) 54 = .ok (.getfield 9, 3) := by decide +kernel
theorem d83_57 : decode (ix_by 83) 57 = .ok (.aload_n 0, 1) := by decide +kernel
theorem d83_58 : decode (ix_by 83) 58 = .ok (.getfield 15, 3) := by decide +kernel
theorem d83_61 : decode (ix_by 83) 61 = .ok (.invokevirtual 138, 3) := by decide +kernel
theorem d83_64 : decode (ix_by 83) 64 = .ok (.aload_n 0, 1) := by decide +kernel
theorem d83_65 : decode (ix_by 83) 65 = .ok (.getfield 19, 3) := by decide +kernel
theorem d83_68 : decode (ix_by 83) 68 = .ok (.getfield 144, 3) := by decide +kernel
theorem d83_71 : decode (ix_by 83) 71 = .ok (.ifCond .eq 19, 3) := by decide +kernel
theorem d83_74 : decode (ix_by 83) 74 = .ok (.aload_n 0, 1) := by decide +kernel
theorem d83_75 : decode (ix_by 83) 75 = .ok (.aload_n 0, 1) := by decide +kernel
theorem d83_76 : decode (ix_by 83) 76 = .ok (.invokevirtual 147, 3) := by decide +kernel
theorem d83_79 : decode (ix_by 83) 79 = .ok (.ifCond .eq 7, 3) := by decide +kernel
theorem d83_82 : decode (ix_by 83) 82 = .ok (.iconst 1, 1) := by decide +kernel
theorem d83_83 : decode (ix_by 83) 83 = .ok (.goto 4, 3) := by decide +kernel
theorem d83_86 : decode (ix_by 83) 86 = .ok (.iconst 2, 1) := by decide +kernel
theorem d83_87 : decode (ix_by 83) 87 = .ok (.putfield 150, 3) := by decide +kernel
theorem d83_90 : decode (ix_by 83) 90 = .ok (.iconst 1, 1) := by decide +kernel
theorem d83_91 : decode (ix_by 83) 91 = .ok (.ireturn, 1) := by decide +kernel
theorem d84_0 : decode (ix_by 84) 0 = .ok (.iconst 0, 1) := by decide +kernel
theorem d84_1 : decode (ix_by 84) 1 = .ok (.istore_n 2, 1) := by decide +kernel
theorem d84_2 : decode (ix_by 84) 2 = .ok (.iload_n 2, 1) := by decide +kernel
theorem d84_3 : decode (ix_by 84) 3 = .ok (.aload_n 0, 1) := by decide +kernel
theorem d84_4 : decode (ix_by 84) 4 = .ok (.getfield 23, 3) := by decide +kernel
theorem d84_7 : decode (ix_by 84) 7 = .ok (.invokevirtual 33, 3) := by decide +kernel
theorem d84_10 : decode (ix_by 84) 10 = .ok (.if_icmp .ge 32, 3) := by decide +kernel
theorem d84_13 : decode (ix_by 84) 13 = .ok (.aload_n 0, 1) := by decide +kernel
theorem d84_14 : decode (ix_by 84) 14 = .ok (.getfield 23, 3) := by decide +kernel
theorem d84_17 : decode (ix_by 84) 17 = .ok (.iload_n 2, 1) := by decide +kernel
theorem d84_18 : decode (ix_by 84) 18 = .ok (.invokevirtual 37, 3) := by decide +kernel
theorem d84_21 : decode (ix_by 84) 21 = .ok (.checkcast 41, 3) := by decide +kernel
theorem d84_24 : decode (ix_by 84) 24 = .ok (.getfield 43, 3) := by decide +kernel
theorem d84_27 : decode (ix_by 84) 27 = .ok (.getfield 47, 3) := by decide +kernel
theorem d84_30 : decode (ix_by 84) 30 = .ok (.iload_n 1, 1) := by decide +kernel
theorem d84_31 : decode (ix_by 84) 31 = .ok (.if_icmp .ne 5, 3) := by decide +kernel
theorem d84_34 : decode (ix_by 84) 34 = .ok (.iconst 1, 1) := by decide +kernel
theorem d84_35 : decode (ix_by 84) 35 = .ok (.ireturn, 1) := by decide +kernel
theorem d84_36 : decode (ix_by 84) 36 = .ok (.iinc 2 1, 3) := by decide +kernel
theorem d84_39 : decode (ix_by 84) 39 = .ok (.goto (-37), 3) := by decide +kernel
theorem d84_42 : decode (ix_by 84) 42 = .ok (.iconst 0, 1) := by decide +kernel
theorem d84_43 : decode (ix_by 84) 43 = .ok (.ireturn, 1) := by decide +kernel
theorem d85_0 : decode (ix_by 85) 0 = .ok (.aload_n 2, 1) := by decide +kernel
theorem d85_1 : decode (ix_by 85) 1 = .ok (.iconst 0, 1) := by decide +kernel
theorem d85_2 : decode (ix_by 85) 2 = .ok (.aload_n 0, 1) := by decide +kernel
theorem d85_3 : decode (ix_by 85) 3 = .ok (.getfield 11, 3) := by decide +kernel
theorem d85_6 : decode (ix_by 85) 6 = .ok (.iload_n 1, 1) := by decide +kernel
theorem d85_7 : decode (ix_by 85) 7 = .ok (.aaload, 1) := by decide +kernel
theorem d85_8 : decode (ix_by 85) 8 = .ok (.iconst 0, 1) := by decide +kernel
theorem d85_9 : decode (ix_by 85) 9 = .ok (.iload_n 3, 1) := by decide +kernel
theorem d85_10 : decode (ix_by 85) 10 = .ok (.invokestatic 31, 3) := by decide +kernel
theorem d85_13 : decode (ix_by 85) 13 = .ok (.aload_n 0, 1) := by decide +kernel
theorem d85_14 : decode (ix_by 85) 14 = .ok (.getfield 16, 3) := by decide +kernel
theorem d85_17 : decode (ix_by 85) 17 = .ok (.iload_n 1, 1) := by decide +kernel
theorem d85_18 : decode (ix_by 85) 18 = .ok (.iload_n 3, 1) := by decide +kernel
theorem d85_19 : decode (ix_by 85) 19 = .ok (.iastore, 1) := by decide +kernel
theorem d85_20 : decode (ix_by 85) 20 = .ok (.return_, 1) := by decide +kernel
theorem d86_0 : decode (ix_by 86) 0 = .ok (.aload_n 0, 1) := by decide +kernel
theorem d86_1 : decode (ix_by 86) 1 = .ok (.getfield 23, 3) := by decide +kernel
theorem d86_4 : decode (ix_by 86) 4 = .ok (.aload_n 0, 1) := by decide +kernel
theorem d86_5 : decode (ix_by 86) 5 = .ok (.getfield 19, 3) := by decide +kernel
theorem d86_8 : decode (ix_by 86) 8 = .ok (.getfield 153, 3) := by decide +kernel
theorem d86_11 : decode (ix_by 86) 11 = .ok (.invokevirtual 128, 3) := by decide +kernel
theorem d86_14 : decode (ix_by 86) 14 = .ok (.ifCond .eq 5, 3) := by decide +kernel
theorem d86_17 : decode (ix_by 86) 17 = .ok (.iconst 0, 1) := by decide +kernel
theorem d86_18 : decode (ix_by 86) 18 = .ok (.ireturn, 1) := by decide +kernel
theorem d86_19 : decode (ix_by 86) 19 = .ok (.aload_n 0, 1) := by decide +kernel
theorem d86_20 : decode (ix_by 86) 20 = .ok (.getfield 19, 3) := by decide +kernel
theorem d86_23 : decode (ix_by 86) 23 = .ok (.getfield 144, 3) := by decide +kernel
theorem d86_26 : decode (ix_by 86) 26 = .ok (.iconst 2, 1) := by decide +kernel
theorem d86_27 : decode (ix_by 86) 27 = .ok (.if_icmp .ne 29, 3) := by decide +kernel
theorem d86_30 : decode (ix_by 86) 30 = .ok (.aload_n 0, 1) := by decide +kernel
theorem d86_31 : decode (ix_by 86) 31 = .ok (.getfield 23, 3) := by decide +kernel
theorem d86_34 : decode (ix_by 86) 34 = .ok (.getfield 134, 3) := by decide +kernel
theorem d86_37 : decode (ix_by 86) 37 = .ok (.aload_n 0, 1) := by decide +kernel
theorem d86_38 : decode (ix_by 86) 38 = .ok (.getfield 19, 3) := by decide +kernel
theorem d86_41 : decode (ix_by 86) 41 = .ok (.getfield 125, 3) := by decide +kernel
theorem d86_44 : decode (ix_by 86) 44 = .ok (.aload_n 0, 1) := by decide +kernel
theorem d86_45 : decode (ix_by 86) 45 = .ok (.getfield 19, 3) := by decide +kernel
theorem d86_48 : decode (ix_by 86) 48 = .ok (.getfield 153, 3) := by decide +kernel
theorem d86_51 : decode (ix_by 86) 51 = .ok (.invokevirtual 156, 3) := by decide +kernel
theorem d86_54 : decode (ix_by 86) 54 = .ok (.iconst 1, 1) := by decide +kernel
theorem d86_55 : decode (ix_by 86) 55 = .ok (.ireturn, 1) := by decide +kernel
theorem d86_56 : decode (ix_by 86) 56 = .ok (.aload_n 0, 1) := by decide +kernel
theorem d86_57 : decode (ix_by 86) 57 = .ok (.getfield 19, 3) := by decide +kernel
theorem d86_60 : decode (ix_by 86) 60 = .ok (.getfield 144, 3) := by decide +kernel
theorem d86_63 : decode (ix_by 86) 63 = .ok (.iconst 1, 1) := by decide +kernel
theorem d86_64 : decode (ix_by 86) 64 = .ok (.if_icmp .ne 23, 3) := by decide +kernel
theorem d86_67 : decode (ix_by 86) 67 = .ok (.aload_n 0, 1) := by decide +kernel
theorem d86_68 : decode (ix_by 86) 68 = .ok (.getfield 23, 3) := by decide +kernel
theorem d86_71 : decode (ix_by 86) 71 = .ok (.getfield 134, 3) := by decide +kernel
theorem d86_74 : decode (ix_by 86) 74 = .ok (.aload_n 0, 1) := by decide +kernel
theorem d86_75 : decode (ix_by 86) 75 = .ok (.getfield 19, 3) := by decide +kernel
theorem d86_78 : decode (ix_by 86) 78 = .ok (.getfield 153, 3) := by decide +kernel
theorem d86_81 : decode (ix_by 86) 81 = .ok (.invokevirtual 159, 3) := by decide +kernel
theorem d86_84 : decode (ix_by 86) 84 = .ok (.ifCond .ne 5, 3) := by decide +kernel
theorem d86_87 : decode (ix_by 86) 87 = .ok (.iconst 0, 1) := by decide +kernel
theorem d86_88 : decode (ix_by 86) 88 = .ok (.ireturn, 1) := by decide +kernel
theorem d86_89 : decode (ix_by 86) 89 = .ok (.aload_n 0, 1) := by decide +kernel
theorem d86_90 : decode (ix_by 86) 90 = .ok (.getfield 23, 3) := by decide +kernel
theorem d86_93 : decode (ix_by 86) 93 = .ok (.getfield 134, 3) := by decide +kernel
theorem d86_96 : decode (ix_by 86) 96 = .ok (.aload_n 0, 1) := by decide +kernel
theorem d86_97 : decode (ix_by 86) 97 = .ok (.getfield 19, 3) := by decide +kernel
theorem d86_100 : decode (ix_by 86) 100 = .ok (.getfield 153, 3) := by decide +kernel
theorem d86_103 : decode (ix_by 86) 103 = .ok (.invokevirtual 162, 3) := by decide +kernel
theorem d86_106 : decode (ix_by 86) 106 = .ok (.iconst 1, 1) := by decide +kernel
theorem d86_107 : decode (ix_by 86) 107 = .ok (.ireturn, 1) := by decide +kernel
theorem d87_0 : decode (ix_by 87) 0 = .ok (.aload_n 0, 1) := by decide +kernel
theorem d87_1 : decode (ix_by 87) 1 = .ok (.iload_n 2, 1) := by decide +kernel
theorem d87_2 : decode (ix_by 87) 2 = .ok (.aload_n 0, 1) := by decide +kernel
theorem d87_3 : decode (ix_by 87) 3 = .ok (.getfield 11, 3) := by decide +kernel
theorem d87_6 : decode (ix_by 87) 6 = .ok (.iload_n 1, 1) := by decide +kernel
theorem d87_7 : decode (ix_by 87) 7 = .ok (.aaload, 1) := by decide +kernel
theorem d87_8 : decode (ix_by 87) 8 = .ok (.aload_n 0, 1) := by decide +kernel
theorem d87_9 : decode (ix_by 87) 9 = .ok (.getfield 16, 3) := by decide +kernel
theorem d87_12 : decode (ix_by 87) 12 = .ok (.iload_n 1, 1) := by decide +kernel
theorem d87_13 : decode (ix_by 87) 13 = .ok (.iaload, 1) := by decide +kernel
theorem d87_14 : decode (ix_by 87) 14 = .ok (.invokevirtual 37, 3) := by decide +kernel
theorem d87_17 : decode (ix_by 87) 17 = .ok (.return_, 1) := by decide +kernel
theorem d88_0 : decode (ix_by 88) 0 = .ok (.aload_n 0, 1) := by decide +kernel
theorem d88_1 : decode (ix_by 88) 1 = .ok (.getfield 16, 3) := by decide +kernel
theorem d88_4 : decode (ix_by 88) 4 = .ok (.iload_n 1, 1) := by decide +kernel
theorem d88_5 : decode (ix_by 88) 5 = .ok (.iconst (-1), 1) := by decide +kernel
theorem d88_6 : decode (ix_by 88) 6 = .ok (.iastore, 1) := by decide +kernel
theorem d88_7 : decode (ix_by 88) 7 = .ok (.return_, 1) := by decide +kernel
theorem d89_0 : decode (ix_by 89) 0 = .ok (.aload_n 0, 1) := by decide +kernel
theorem d89_1 : decode (ix_by 89) 1 = .ok (.iload_n 1, 1) := by decide +kernel
theorem d89_2 : decode (ix_by 89) 2 = .ok (.putfield 41, 3) := by decide +kernel
theorem d89_5 : decode (ix_by 89) 5 = .ok (.aload_n 0, 1) := by decide +kernel
theorem d89_6 : decode (ix_by 89) 6 = .ok (.getfield 19, 3) := by decide +kernel
theorem d89_9 : decode (ix_by 89) 9 = .ok (.invokevirtual 52, 3) := by decide +kernel
theorem d89_12 : decode (ix_by 89) 12 = .ok (.ifCond .eq 8, 3) := by decide +kernel
theorem d89_15 : decode (ix_by 89) 15 = .ok (.aload_n 0, 1) := by decide +kernel
theorem d89_16 : decode (ix_by 89) 16 = .ok (.iload_n 1, 1) := by decide +kernel
theorem d89_17 : decode (ix_by 89) 17 = .ok (.invokevirtual 60, 3) := by decide +kernel
theorem d89_20 : decode (ix_by 89) 20 = .ok (.return_, 1) := by decide +kernel
theorem d90_0 : decode (ix_by 90) 0 = .ok (.aload_n 0, 1) := by decide +kernel
theorem d90_1 : decode (ix_by 90) 1 = .ok (.getfield 23, 3) := by decide +kernel
theorem d90_4 : decode (ix_by 90) 4 = .ok (.iload_n 1, 1) := by decide +kernel
theorem d90_5 : decode (ix_by 90) 5 = .ok (.invokevirtual 144, 3) := by decide +kernel
theorem d90_8 : decode (ix_by 90) 8 = .ok (.ifnull 7, 3) := by decide +kernel
theorem d90_11 : decode (ix_by 90) 11 = .ok (.iconst 1, 1) := by decide +kernel
theorem d90_12 : decode (ix_by 90) 12 = .ok (.goto 4, 3) := by decide +kernel
theorem d90_15 : decode (ix_by 90) 15 = .ok (.iconst 0, 1) := by decide +kernel
theorem d90_16 : decode (ix_by 90) 16 = .ok (.ireturn, 1) := by decide +kernel
theorem d91_0 : decode (ix_by 91) 0 = .ok (.aload_n 0, 1) := by decide +kernel
theorem d91_1 : decode (ix_by 91) 1 = .ok (.getfield 23, 3) := by decide +kernel
theorem d91_4 : decode (ix_by 91) 4 = .ok (.iload_n 1, 1) := by decide +kernel
theorem d91_5 : decode (ix_by 91) 5 = .ok (.invokevirtual 167, 3) := by decide +kernel
theorem d91_8 : decode (ix_by 91) 8 = .ok (.astore_n 2, 1) := by decide +kernel
theorem d91_9 : decode (ix_by 91) 9 = .ok (.aload_n 2, 1) := by decide +kernel
theorem d91_10 : decode (ix_by 91) 10 = .ok (.ifnull 13, 3) := by decide +kernel
theorem d91_13 : decode (ix_by 91) 13 = .ok (.aload_n 0, 1) := by decide +kernel
theorem d91_14 : decode (ix_by 91) 14 = .ok (.getfield 23, 3) := by decide +kernel
theorem d91_17 : decode (ix_by 91) 17 = .ok (.invokevirtual 170, 3) := by decide +kernel
theorem d91_20 : decode (ix_by 91) 20 = .ok (.ifCond .eq 5, 3) := by decide +kernel
theorem d91_23 : decode (ix_by 91) 23 = .ok (.iconst 0, 1) := by decide +kernel
theorem d91_24 : decode (ix_by 91) 24 = .ok (.ireturn, 1) := by decide +kernel
theorem d91_25 : decode (ix_by 91) 25 = .ok (.aload_n 0, 1) := by decide +kernel
theorem d91_26 : decode (ix_by 91) 26 = .ok (.getfield 23, 3) := by decide +kernel
theorem d91_29 : decode (ix_by 91) 29 = .ok (.aload_n 2, 1) := by decide +kernel
theorem d91_30 : decode (ix_by 91) 30 = .ok (.invokevirtual 173, 3) := by decide +kernel
theorem d91_33 : decode (ix_by 91) 33 = .ok (.invokevirtual 177, 3) := by decide +kernel
theorem d91_36 : decode (ix_by 91) 36 = .ok (.iconst 1, 1) := by decide +kernel
theorem d91_37 : decode (ix_by 91) 37 = .ok (.ireturn, 1) := by decide +kernel
theorem d92_0 : decode (ix_by 92) 0 = .ok (.aload_n 0, 1) := by decide +kernel
theorem d92_1 : decode (ix_by 92) 1 = .ok (.getfield 17, 3) := by decide +kernel
theorem d92_4 : decode (ix_by 92) 4 = .ok (.bipush 24, 2) := by decide +kernel
theorem d92_6 : decode (ix_by 92) 6 = .ok (.if_icmp .lt 7, 3) := by decide +kernel
theorem d92_9 : decode (ix_by 92) 9 = .ok (.iconst 1, 1) := by decide +kernel
theorem d92_10 : decode (ix_by 92) 10 = .ok (.goto 4, 3) := by decide +kernel
theorem d92_13 : decode (ix_by 92) 13 = .ok (.iconst 0, 1) := by decide +kernel
theorem d92_14 : decode (ix_by 92) 14 = .ok (.ireturn, 1) := by decide +kernel
theorem d93_0 : decode (ix_by 93) 0 = .ok (.new 8, 3) := by decide +kernel
theorem d93_3 : decode (ix_by 93) 3 = .ok (.dup, 1) := by decide +kernel
theorem d93_4 : decode (ix_by 93) 4 = .ok (.aload_n 0, 1) := by decide +kernel
theorem d93_5 : decode (ix_by 93) 5 = .ok (.getfield 7, 3) := by decide +kernel
theorem d93_8 : decode (ix_by 93) 8 = .ok (.aload_n 0, 1) := by decide +kernel
theorem d93_9 : decode (ix_by 93) 9 = .ok (.getfield 13, 3) := by decide +kernel
theorem d93_12 : decode (ix_by 93) 12 = .ok (.aload_n 0, 1) := by decide +kernel
theorem d93_13 : decode (ix_by 93) 13 = .ok (.getfield 17, 3) := by decide +kernel
theorem d93_16 : decode (ix_by 93) 16 = .ok (.aload_n 0, 1) := by decide +kernel
theorem d93_17 : decode (ix_by 93) 17 = .ok (.getfield 20, 3) := by decide +kernel
theorem d93_20 : decode (ix_by 93) 20 = .ok (.aload_n 0, 1) := by decide +kernel
theorem d93_21 : decode (ix_by 93) 21 = .ok (.getfield 23, 3) := by decide +kernel
theorem d93_24 : decode (ix_by 93) 24 = .ok (.aload_n 0, 1) := by decide +kernel
theorem d93_25 : decode (ix_by 93) 25 = .ok (.getfield 26, 3) := by decide +kernel
theorem d93_28 : decode (ix_by 93) 28 = .ok (.invokespecial 29, 3) := by decide +kernel
theorem d93_31 : decode (ix_by 93) 31 = .ok (.areturn, 1) := by decide +kernel
theorem d94_0 : decode (ix_by 94) 0 = .ok (.aload_n 0, 1) := by decide +kernel
theorem d94_1 : decode (ix_by 94) 1 = .ok (.getfield 23, 3) := by decide +kernel
theorem d94_4 : decode (ix_by 94) 4 = .ok (.iload_n 1, 1) := by decide +kernel
theorem d94_5 : decode (ix_by 94) 5 = .ok (.invokevirtual 167, 3) := by decide +kernel
theorem d94_8 : decode (ix_by 94) 8 = .ok (.astore_n 3, 1) := by decide +kernel
theorem d94_9 : decode (ix_by 94) 9 = .ok (.aload_n 3, 1) := by decide +kernel
theorem d94_10 : decode (ix_by 94) 10 = .ok (.ifnull 11, 3) := by decide +kernel
theorem d94_13 : decode (ix_by 94) 13 = .ok (.aload_n 3, 1) := by decide +kernel
theorem d94_14 : decode (ix_by 94) 14 = .ok (.getfield 180, 3) := by decide +kernel
theorem d94_17 : decode (ix_by 94) 17 = .ok (.iconst 2, 1) := by decide +kernel
theorem d94_18 : decode (ix_by 94) 18 = .ok (.if_icmp .eq 5, 3) := by decide +kernel
theorem d94_21 : decode (ix_by 94) 21 = .ok (.iconst 0, 1) := by decide +kernel
theorem d94_22 : decode (ix_by 94) 22 = .ok (.ireturn, 1) := by decide +kernel
theorem d94_23 : decode (ix_by 94) 23 = .ok (.aload_n 3, 1) := by decide +kernel
theorem d94_24 : decode (ix_by 94) 24 = .ok (.dup, 1) := by decide +kernel
theorem d94_25 : decode (ix_by 94) 25 = .ok (.getfield 183, 3) := by decide +kernel
theorem d94_28 : decode (ix_by 94) 28 = .ok (.iload_n 2, 1) := by decide +kernel
theorem d94_29 : decode (ix_by 94) 29 = .ok (.ixor, 1) := by decide +kernel
theorem d94_30 : decode (ix_by 94) 30 = .ok (.putfield 183, 3) := by decide +kernel
theorem d94_33 : decode (ix_by 94) 33 = .ok (.iconst 1, 1) := by decide +kernel
theorem d94_34 : decode (ix_by 94) 34 = .ok (.ireturn, 1) := by decide +kernel
theorem d95_0 : decode (ix_by 95) 0 = .ok (.aload_n 0, 1) := by decide +kernel
theorem d95_1 : decode (ix_by 95) 1 = .ok (.getfield 23, 3) := by decide +kernel
theorem d95_4 : decode (ix_by 95) 4 = .ok (.getfield 186, 3) := by decide +kernel
theorem d95_7 : decode (ix_by 95) 7 = .ok (.ireturn, 1) := by decide +kernel
theorem d96_0 : decode (ix_by 96) 0 = .ok (.aload_n 0, 1) := by decide +kernel
theorem d96_1 : decode (ix_by 96) 1 = .ok (.getfield 23, 3) := by decide +kernel
theorem d96_4 : decode (ix_by 96) 4 = .ok (.iload_n 1, 1) := by decide +kernel
theorem d96_5 : decode (ix_by 96) 5 = .ok (.invokevirtual 167, 3) := by decide +kernel
theorem d96_8 : decode (ix_by 96) 8 = .ok (.astore_n 3, 1) := by decide +kernel
theorem d96_9 : decode (ix_by 96) 9 = .ok (.aload_n 3, 1) := by decide +kernel
theorem d96_10 : decode (ix_by 96) 10 = .ok (.ifnonnull 5, 3) := by decide +kernel
theorem d96_13 : decode (ix_by 96) 13 = .ok (.iconst (-1), 1) := by decide +kernel
theorem d96_14 : decode (ix_by 96) 14 = .ok (.ireturn, 1) := by decide +kernel
theorem d96_15 : decode (ix_by 96) 15 = .ok (.iload_n 2, 1) := by decide +kernel
theorem d96_16 : decode (ix_by 96) 16 = .ok (.tableswitch 55 0 3 #[32, 37, 42, 50], 32) := by decide +kernel
theorem d96_48 : decode (ix_by 96) 48 = .ok (.aload_n 3, 1) := by decide +kernel
theorem d96_49 : decode (ix_by 96) 49 = .ok (.getfield 180, 3) := by decide +kernel
theorem d96_52 : decode (ix_by 96) 52 = .ok (.ireturn, 1) := by decide +kernel
theorem d96_53 : decode (ix_by 96) 53 = .ok (.aload_n 3, 1) := by decide +kernel
theorem d96_54 : decode (ix_by 96) 54 = .ok (.getfield 148, 3) := by decide +kernel
theorem d96_57 : decode (ix_by 96) 57 = .ok (.ireturn, 1) := by decide +kernel
theorem d96_58 : decode (ix_by 96) 58 = .ok (.aload_n 3, 1) := by decide +kernel
theorem d96_59 : decode (ix_by 96) 59 = .ok (.getfield 153, 3) := by decide +kernel
theorem d96_62 : decode (ix_by 96) 62 = .ok (.getfield 189, 3) := by decide +kernel
theorem d96_65 : decode (ix_by 96) 65 = .ok (.ireturn, 1) := by decide +kernel
theorem d96_66 : decode (ix_by 96) 66 = .ok (.aload_n 3, 1) := by decide +kernel
theorem d96_67 : decode (ix_by 96) 67 = .ok (.getfield 192, 3) := by decide +kernel
theorem d96_70 : decode (ix_by 96) 70 = .ok (.ireturn, 1) := by decide +kernel
theorem d96_71 : decode (ix_by 96) 71 = .ok (.iconst (-1), 1) := by decide +kernel
theorem d96_72 : decode (ix_by 96) 72 = .ok (.ireturn, 1) := by decide +kernel
theorem d97_0 : decode (ix_by 97) 0 = .ok (.aload_n 0, 1) := by decide +kernel
theorem d97_1 : decode (ix_by 97) 1 = .ok (.iload_n 1, 1) := by decide +kernel
theorem d97_2 : decode (ix_by 97) 2 = .ok (.iload_n 2, 1) := by decide +kernel
theorem d97_3 : decode (ix_by 97) 3 = .ok (.invokevirtual 129, 3) := by decide +kernel
theorem d97_6 : decode (ix_by 97) 6 = .ok (.astore_n 3, 1) := by decide +kernel
theorem d97_7 : decode (ix_by 97) 7 = .ok (.aload_n 3, 1) := by decide +kernel
theorem d97_8 : decode (ix_by 97) 8 = .ok (.ifnonnull 5, 3) := by decide +kernel
theorem d97_11 : decode (ix_by 97) 11 = .ok (.iconst 0, 1) := by decide +kernel
theorem d97_12 : decode (ix_by 97) 12 = .ok (.ireturn, 1) := by decide +kernel
theorem d97_13 : decode (ix_by 97) 13 = .ok (.aload_n 3, 1) := by decide +kernel
theorem d97_14 : decode (ix_by 97) 14 = .ok (.invokevirtual 195, 3) := by decide +kernel
theorem d97_17 : decode (ix_by 97) 17 = .ok (.ifCond .eq 7, 3) := by decide +kernel
theorem d97_20 : decode (ix_by 97) 20 = .ok (.iconst 5, 1) := by decide +kernel
theorem d97_21 : decode (ix_by 97) 21 = .ok (.goto 7, 3) := by decide +kernel
theorem d97_24 : decode (ix_by 97) 24 = .ok (.aload_n 3, 1) := by decide +kernel
theorem d97_25 : decode (ix_by 97) 25 = .ok (.getfield 198, 3) := by decide +kernel
theorem d97_28 : decode (ix_by 97) 28 = .ok (.ireturn, 1) := by decide +kernel
theorem d98_0 : decode (ix_by 98) 0 = .ok (.aload_n 0, 1) := by decide +kernel
theorem d98_1 : decode (ix_by 98) 1 = .ok (.iload_n 1, 1) := by decide +kernel
theorem d98_2 : decode (ix_by 98) 2 = .ok (.iload_n 2, 1) := by decide +kernel
theorem d98_3 : decode (ix_by 98) 3 = .ok (.invokevirtual 201, 3) := by decide +kernel
theorem d98_6 : decode (ix_by 98) 6 = .ok (.astore_n 3, 1) := by decide +kernel
theorem d98_7 : decode (ix_by 98) 7 = .ok (.aload_n 3, 1) := by decide +kernel
theorem d98_8 : decode (ix_by 98) 8 = .ok (.ifnonnull 5, 3) := by decide +kernel
theorem d98_11 : decode (ix_by 98) 11 = .ok (.iconst 0, 1) := by decide +kernel
theorem d98_12 : decode (ix_by 98) 12 = .ok (.ireturn, 1) := by decide +kernel
theorem d98_13 : decode (ix_by 98) 13 = .ok (.aload_n 3, 1) := by decide +kernel
theorem d98_14 : decode (ix_by 98) 14 = .ok (.getfield 205, 3) := by decide +kernel
theorem d98_17 : decode (ix_by 98) 17 = .ok (.ifCond .eq 8, 3) := by decide +kernel
theorem d98_20 : decode (ix_by 98) 20 = .ok (.aload_n 3, 1) := by decide +kernel
theorem d98_21 : decode (ix_by 98) 21 = .ok (.getfield 211, 3) := by decide +kernel
theorem d98_24 : decode (ix_by 98) 24 = .ok (.ireturn, 1) := by decide +kernel
theorem d98_25 : decode (ix_by 98) 25 = .ok (.aload_n 3, 1) := by decide +kernel
theorem d98_26 : decode (ix_by 98) 26 = .ok (.invokevirtual 212, 3) := by decide +kernel
theorem d98_29 : decode (ix_by 98) 29 = .ok (.ifCond .eq 8, 3) := by decide +kernel
theorem d98_32 : decode (ix_by 98) 32 = .ok (.bipush 6, 2) := by decide +kernel
theorem d98_34 : decode (ix_by 98) 34 = .ok (.goto 4, 3) := by decide +kernel
theorem d98_37 : decode (ix_by 98) 37 = .ok (.iconst 5, 1) := by decide +kernel
theorem d98_38 : decode (ix_by 98) 38 = .ok (.ireturn, 1) := by decide +kernel
theorem d99_0 : decode (ix_by 99) 0 = .ok (.aload_n 0, 1) := by decide +kernel
theorem d99_1 : decode (ix_by 99) 1 = .ok (.iload_n 1, 1) := by decide +kernel
theorem d99_2 : decode (ix_by 99) 2 = .ok (.iload_n 2, 1) := by decide +kernel
theorem d99_3 : decode (ix_by 99) 3 = .ok (.invokevirtual 129, 3) := by decide +kernel
theorem d99_6 : decode (ix_by 99) 6 = .ok (.astore_n 3, 1) := by decide +kernel
theorem d99_7 : decode (ix_by 99) 7 = .ok (.aload_n 3, 1) := by decide +kernel
theorem d99_8 : decode (ix_by 99) 8 = .ok (.ifnonnull 7, 3) := by decide +kernel
theorem d99_11 : decode (ix_by 99) 11 = .ok (.aconst_null, 1) := by decide +kernel
theorem d99_12 : decode (ix_by 99) 12 = .ok (.goto 10, 3) := by decide +kernel
theorem d99_15 : decode (ix_by 99) 15 = .ok (.aload_n 3, 1) := by decide +kernel
theorem d99_16 : decode (ix_by 99) 16 = .ok (.getfield 225, 3) := by decide +kernel
theorem d99_19 : decode (ix_by 99) 19 = .ok (.getfield 226, 3) := by decide +kernel
theorem d99_22 : decode (ix_by 99) 22 = .ok (.areturn, 1) := by decide +kernel
theorem d100_0 : decode (ix_by 100) 0 = .ok (.aload_n 0, 1) := by decide +kernel
theorem d100_1 : decode (ix_by 100) 1 = .ok (.iload_n 1, 1) := by decide +kernel
theorem d100_2 : decode (ix_by 100) 2 = .ok (.iload_n 2, 1) := by decide +kernel
theorem d100_3 : decode (ix_by 100) 3 = .ok (.invokevirtual 201, 3) := by decide +kernel
theorem d100_6 : decode (ix_by 100) 6 = .ok (.astore_n 3, 1) := by decide +kernel
theorem d100_7 : decode (ix_by 100) 7 = .ok (.aload_n 3, 1) := by decide +kernel
theorem d100_8 : decode (ix_by 100) 8 = .ok (.ifnonnull 7, 3) := by decide +kernel
theorem d100_11 : decode (ix_by 100) 11 = .ok (.iconst 0, 1) := by decide +kernel
theorem d100_12 : decode (ix_by 100) 12 = .ok (.goto 7, 3) := by decide +kernel
theorem d100_15 : decode (ix_by 100) 15 = .ok (.aload_n 3, 1) := by decide +kernel
theorem d100_16 : decode (ix_by 100) 16 = .ok (.getfield 215, 3) := by decide +kernel
theorem d100_19 : decode (ix_by 100) 19 = .ok (.ireturn, 1) := by decide +kernel
theorem d101_0 : decode (ix_by 101) 0 = .ok (.iload_n 1, 1) := by decide +kernel
theorem d101_1 : decode (ix_by 101) 1 = .ok (.aload_n 0, 1) := by decide +kernel
theorem d101_2 : decode (ix_by 101) 2 = .ok (.arraylength, 1) := by decide +kernel
theorem d101_3 : decode (ix_by 101) 3 = .ok (.if_icmp .ge 9, 3) := by decide +kernel
theorem d101_6 : decode (ix_by 101) 6 = .ok (.aload_n 0, 1) := by decide +kernel
theorem d101_7 : decode (ix_by 101) 7 = .ok (.iload_n 1, 1) := by decide +kernel
theorem d101_8 : decode (ix_by 101) 8 = .ok (.iaload, 1) := by decide +kernel
theorem d101_9 : decode (ix_by 101) 9 = .ok (.goto 4, 3) := by decide +kernel
theorem d101_12 : decode (ix_by 101) 12 = .ok (.iconst 0, 1) := by decide +kernel
theorem d101_13 : decode (ix_by 101) 13 = .ok (.ireturn, 1) := by decide +kernel
theorem d102_0 : decode (ix_by 102) 0 = .ok (.aload 6, 2) := by decide +kernel
theorem d102_2 : decode (ix_by 102) 2 = .ok (.iconst 0, 1) := by decide +kernel
theorem d102_3 : decode (ix_by 102) 3 = .ok (.aload_n 0, 1) := by decide +kernel
theorem d102_4 : decode (ix_by 102) 4 = .ok (.iload_n 1, 1) := by decide +kernel
theorem d102_5 : decode (ix_by 102) 5 = .ok (.iload_n 2, 1) := by decide +kernel
theorem d102_6 : decode (ix_by 102) 6 = .ok (.iload_n 3, 1) := by decide +kernel
theorem d102_7 : decode (ix_by 102) 7 = .ok (.lload 4, 2) := by decide +kernel
theorem d102_9 : decode (ix_by 102) 9 = .ok (.invokevirtual 7, 3) := by decide +kernel
theorem d102_12 : decode (ix_by 102) 12 = .ok (.i2l, 1) := by decide +kernel
theorem d102_13 : decode (ix_by 102) 13 = .ok (.lastore, 1) := by decide +kernel
theorem d102_14 : decode (ix_by 102) 14 = .ok (.goto 15, 3) := by decide +kernel
theorem d102_17 : decode (ix_by 102) 17 = .ok (.astore 7, 2) := by decide +kernel
theorem d102_19 : decode (ix_by 102) 19 = .ok (.iconst 1, 1) := by decide +kernel
theorem d102_20 : decode (ix_by 102) 20 = .ok (.ireturn, 1) := by decide +kernel
theorem d102_21 : decode (ix_by 102) 21 = .ok (.astore 7, 2) := by decide +kernel
theorem d102_23 : decode (ix_by 102) 23 = .ok (.iconst 2, 1) := by decide +kernel
theorem d102_24 : decode (ix_by 102) 24 = .ok (.ireturn, 1) := by decide +kernel
theorem d102_25 : decode (ix_by 102) 25 = .ok (.astore 7, 2) := by decide +kernel
theorem d102_27 : decode (ix_by 102) 27 = .ok (.iconst 3, 1) := by decide +kernel
theorem d102_28 : decode (ix_by 102) 28 = .ok (.ireturn, 1) := by decide +kernel
theorem d102_29 : decode (ix_by 102) 29 = .ok (.iconst 0, 1) := by decide +kernel
theorem d102_30 : decode (ix_by 102) 30 = .ok (.ireturn, 1) := by decide +kernel
theorem d103_0 : decode (ix_by 103) 0 = .ok (.iload_n 1, 1) := by decide +kernel
theorem d103_1 : decode (ix_by 103) 1 = .ok (.iload_n 2, 1) := by decide +kernel
theorem d103_2 : decode (ix_by 103) 2 = .ok (.invokestatic 30, 3) := by decide +kernel
theorem d103_5 : decode (ix_by 103) 5 = .ok (.ifCond .eq 14, 3) := by decide +kernel
theorem d103_8 : decode (ix_by 103) 8 = .ok (.iload_n 3, 1) := by decide +kernel
theorem d103_9 : decode (ix_by 103) 9 = .ok (.iconst 1, 1) := by decide +kernel
theorem d103_10 : decode (ix_by 103) 10 = .ok (.if_icmp .lt 9, 3) := by decide +kernel
theorem d103_13 : decode (ix_by 103) 13 = .ok (.iload_n 3, 1) := by decide +kernel
theorem d103_14 : decode (ix_by 103) 14 = .ok (.bipush 8, 2) := by decide +kernel
theorem d103_16 : decode (ix_by 103) 16 = .ok (.if_icmp .le 13, 3) := by decide +kernel
theorem d103_19 : decode (ix_by 103) 19 = .ok (.new 48, 3) := by decide +kernel
theorem d103_22 : decode (ix_by 103) 22 = .ok (.dup, 1) := by decide +kernel
theorem d103_23 : decode (ix_by 103) 23 = .ok (.ldc 50, 2) := by decide +kernel
theorem d103_25 : decode (ix_by 103) 25 = .ok (.invokespecial 52, 3) := by decide +kernel
theorem d103_28 : decode (ix_by 103) 28 = .ok (.athrow, 1) := by decide +kernel
theorem d103_29 : decode (ix_by 103) 29 = .ok (.aload_n 0, 1) := by decide +kernel
theorem d103_30 : decode (ix_by 103) 30 = .ok (.getfield 16, 3) := by decide +kernel
theorem d103_33 : decode (ix_by 103) 33 = .ok (.iload_n 1, 1) := by decide +kernel
theorem d103_34 : decode (ix_by 103) 34 = .ok (.aaload, 1) := by decide +kernel
theorem d103_35 : decode (ix_by 103) 35 = .ok (.astore 6, 2) := by decide +kernel
theorem d103_37 : decode (ix_by 103) 37 = .ok (.aload 6, 2) := by decide +kernel
theorem d103_39 : decode (ix_by 103) 39 = .ok (.getfield 34, 3) := by decide +kernel
theorem d103_42 : decode (ix_by 103) 42 = .ok (.iload_n 2, 1) := by decide +kernel
theorem d103_43 : decode (ix_by 103) 43 = .ok (.invokevirtual 38, 3) := by decide +kernel
theorem d103_46 : decode (ix_by 103) 46 = .ok (.ifCond .ne 13, 3) := by decide +kernel
theorem d103_49 : decode (ix_by 103) 49 = .ok (.new 55, 3) := by decide +kernel
theorem d103_52 : decode (ix_by 103) 52 = .ok (.dup, 1) := by decide +kernel
theorem d103_53 : decode (ix_by 103) 53 = .ok (.ldc 57, 2) := by decide +kernel
theorem d103_55 : decode (ix_by 103) 55 = .ok (.invokespecial 59, 3) := by decide +kernel
theorem d103_58 : decode (ix_by 103) 58 = .ok (.athrow, 1) := by decide +kernel
theorem d103_59 : decode (ix_by 103) 59 = .ok (.aload 6, 2) := by decide +kernel
theorem d103_61 : decode (ix_by 103) 61 = .ok (.iload_n 2, 1) := by decide +kernel
theorem d103_62 : decode (ix_by 103) 62 = .ok (.invokevirtual 60, 3) := by decide +kernel
theorem d103_65 : decode (ix_by 103) 65 = .ok (.ifCond .ne 19, 3) := by decide +kernel
theorem d103_68 : decode (ix_by 103) 68 = .ok (.aload 6, 2) := by decide +kernel
theorem d103_70 : decode (ix_by 103) 70 = .ok (.getfield 34, 3) := by decide +kernel
theorem d103_73 : decode (ix_by 103) 73 = .ok (.iload_n 2, 1) := by decide +kernel
theorem d103_74 : decode (ix_by 103) 74 = .ok (.invokevirtual 63, 3) := by decide +kernel
theorem d103_77 : decode (ix_by 103) 77 = .ok (.iload_n 3, 1) := by decide +kernel
theorem d103_78 : decode (ix_by 103) 78 = .ok (.iadd, 1) := by decide +kernel
theorem d103_79 : decode (ix_by 103) 79 = .ok (.bipush 64, 2) := by decide +kernel
theorem d103_81 : decode (ix_by 103) 81 = .ok (.if_icmp .le 13, 3) := by decide +kernel
theorem d103_84 : decode (ix_by 103) 84 = .ok (.new 67, 3) := by decide +kernel
theorem d103_87 : decode (ix_by 103) 87 = .ok (.dup, 1) := by decide +kernel
theorem d103_88 : decode (ix_by 103) 88 = .ok (.ldc 69, 2) := by decide +kernel
theorem d103_90 : decode (ix_by 103) 90 = .ok (.invokespecial 71, 3) := by decide +kernel
theorem d103_93 : decode (ix_by 103) 93 = .ok (.athrow, 1) := by decide +kernel
theorem d103_94 : decode (ix_by 103) 94 = .ok (.aload 6, 2) := by decide +kernel
theorem d103_96 : decode (ix_by 103) 96 = .ok (.getfield 34, 3) := by decide +kernel
theorem d103_99 : decode (ix_by 103) 99 = .ok (.iload_n 2, 1) := by decide +kernel
theorem d103_100 : decode (ix_by 103) 100 = .ok (.iload_n 3, 1) := by decide +kernel
theorem d103_101 : decode (ix_by 103) 101 = .ok (.lload 4, 2) := by decide +kernel
theorem d103_103 : decode (ix_by 103) 103 = .ok (.invokevirtual 72, 3) := by decide +kernel
theorem d103_106 : decode (ix_by 103) 106 = .ok (.aload 6, 2) := by decide +kernel
theorem d103_108 : decode (ix_by 103) 108 = .ok (.getfield 34, 3) := by decide +kernel
theorem d103_111 : decode (ix_by 103) 111 = .ok (.iload_n 2, 1) := by decide +kernel
theorem d103_112 : decode (ix_by 103) 112 = .ok (.invokevirtual 63, 3) := by decide +kernel
theorem d103_115 : decode (ix_by 103) 115 = .ok (.ireturn, 1) := by decide +kernel
theorem d104_0 : decode (ix_by 104) 0 = .ok (.iconst 0, 1) := by decide +kernel
theorem d104_1 : decode (ix_by 104) 1 = .ok (.istore 5, 2) := by decide +kernel
theorem d104_3 : decode (ix_by 104) 3 = .ok (.iload 5, 2) := by decide +kernel
theorem d104_5 : decode (ix_by 104) 5 = .ok (.iload_n 2, 1) := by decide +kernel
theorem d104_6 : decode (ix_by 104) 6 = .ok (.if_icmp .ge 34, 3) := by decide +kernel
theorem d104_9 : decode (ix_by 104) 9 = .ok (.aload_n 0, 1) := by decide +kernel
theorem d104_10 : decode (ix_by 104) 10 = .ok (.getfield 11, 3) := by decide +kernel
theorem d104_13 : decode (ix_by 104) 13 = .ok (.iload_n 1, 1) := by decide +kernel
theorem d104_14 : decode (ix_by 104) 14 = .ok (.aaload, 1) := by decide +kernel
theorem d104_15 : decode (ix_by 104) 15 = .ok (.aload_n 0, 1) := by decide +kernel
theorem d104_16 : decode (ix_by 104) 16 = .ok (.getfield 16, 3) := by decide +kernel
theorem d104_19 : decode (ix_by 104) 19 = .ok (.iload_n 1, 1) := by decide +kernel
theorem d104_20 : decode (ix_by 104) 20 = .ok (.iaload, 1) := by decide +kernel
theorem d104_21 : decode (ix_by 104) 21 = .ok (.iload 5, 2) := by decide +kernel
theorem d104_23 : decode (ix_by 104) 23 = .ok (.iadd, 1) := by decide +kernel
theorem d104_24 : decode (ix_by 104) 24 = .ok (.lload_n 3, 1) := by decide +kernel
theorem d104_25 : decode (ix_by 104) 25 = .ok (.bipush 8, 2) := by decide +kernel
theorem d104_27 : decode (ix_by 104) 27 = .ok (.iload 5, 2) := by decide +kernel
theorem d104_29 : decode (ix_by 104) 29 = .ok (.imul, 1) := by decide +kernel
theorem d104_30 : decode (ix_by 104) 30 = .ok (.lshr, 1) := by decide +kernel
theorem d104_31 : decode (ix_by 104) 31 = .ok (.l2i, 1) := by decide +kernel
theorem d104_32 : decode (ix_by 104) 32 = .ok (.i2b, 1) := by decide +kernel
theorem d104_33 : decode (ix_by 104) 33 = .ok (.bastore, 1) := by decide +kernel
theorem d104_34 : decode (ix_by 104) 34 = .ok (.iinc 5 1, 3) := by decide +kernel
theorem d104_37 : decode (ix_by 104) 37 = .ok (.goto (-34), 3) := by decide +kernel
theorem d104_40 : decode (ix_by 104) 40 = .ok (.aload_n 0, 1) := by decide +kernel
theorem d104_41 : decode (ix_by 104) 41 = .ok (.getfield 16, 3) := by decide +kernel
theorem d104_44 : decode (ix_by 104) 44 = .ok (.iload_n 1, 1) := by decide +kernel
theorem d104_45 : decode (ix_by 104) 45 = .ok (.dup2, 1) := by decide +kernel
theorem d104_46 : decode (ix_by 104) 46 = .ok (.iaload, 1) := by decide +kernel
theorem d104_47 : decode (ix_by 104) 47 = .ok (.iload_n 2, 1) := by decide +kernel
theorem d104_48 : decode (ix_by 104) 48 = .ok (.iadd, 1) := by decide +kernel
theorem d104_49 : decode (ix_by 104) 49 = .ok (.iastore, 1) := by decide +kernel
theorem d104_50 : decode (ix_by 104) 50 = .ok (.return_, 1) := by decide +kernel
theorem d105_0 : decode (ix_by 105) 0 = .ok (.aload_n 3, 1) := by decide +kernel
theorem d105_1 : decode (ix_by 105) 1 = .ok (.iconst 0, 1) := by decide +kernel
theorem d105_2 : decode (ix_by 105) 2 = .ok (.aload_n 0, 1) := by decide +kernel
theorem d105_3 : decode (ix_by 105) 3 = .ok (.iload_n 1, 1) := by decide +kernel
theorem d105_4 : decode (ix_by 105) 4 = .ok (.iload_n 2, 1) := by decide +kernel
theorem d105_5 : decode (ix_by 105) 5 = .ok (.invokevirtual 19, 3) := by decide +kernel
theorem d105_8 : decode (ix_by 105) 8 = .ok (.ifCond .eq 7, 3) := by decide +kernel
theorem d105_11 : decode (ix_by 105) 11 = .ok (.lconst 1, 1) := by decide +kernel
theorem d105_12 : decode (ix_by 105) 12 = .ok (.goto 4, 3) := by decide +kernel
theorem d105_15 : decode (ix_by 105) 15 = .ok (.lconst 0, 1) := by decide +kernel
theorem d105_16 : decode (ix_by 105) 16 = .ok (.lastore, 1) := by decide +kernel
theorem d105_17 : decode (ix_by 105) 17 = .ok (.goto 11, 3) := by decide +kernel
theorem d105_20 : decode (ix_by 105) 20 = .ok (.astore 4, 2) := by decide +kernel
theorem d105_22 : decode (ix_by 105) 22 = .ok (.iconst 1, 1) := by decide +kernel
theorem d105_23 : decode (ix_by 105) 23 = .ok (.ireturn, 1) := by decide +kernel
theorem d105_24 : decode (ix_by 105) 24 = .ok (.astore 4, 2) := by decide +kernel
theorem d105_26 : decode (ix_by 105) 26 = .ok (.iconst 2, 1) := by decide +kernel
theorem d105_27 : decode (ix_by 105) 27 = .ok (.ireturn, 1) := by decide +kernel
theorem d105_28 : decode (ix_by 105) 28 = .ok (.iconst 0, 1) := by decide +kernel
theorem d105_29 : decode (ix_by 105) 29 = .ok (.ireturn, 1) := by decide +kernel
theorem d106_0 : decode (ix_by 106) 0 = .ok (.aload_n 0, 1) := by decide +kernel
theorem d106_1 : decode (ix_by 106) 1 = .ok (.iload_n 1, 1) := by decide +kernel
theorem d106_2 : decode (ix_by 106) 2 = .ok (.iload_n 2, 1) := by decide +kernel
theorem d106_3 : decode (ix_by 106) 3 = .ok (.invokevirtual 76, 3) := by decide +kernel
theorem d106_6 : decode (ix_by 106) 6 = .ok (.ifCond .ne 13, 3) := by decide +kernel
theorem d106_9 : decode (ix_by 106) 9 = .ok (.new 55, 3) := by decide +kernel
theorem d106_12 : decode (ix_by 106) 12 = .ok (.dup, 1) := by decide +kernel
theorem d106_13 : decode (ix_by 106) 13 = .ok (.ldc 57, 2) := by decide +kernel
theorem d106_15 : decode (ix_by 106) 15 = .ok (.invokespecial 59, 3) := by decide +kernel
theorem d106_18 : decode (ix_by 106) 18 = .ok (.athrow, 1) := by decide +kernel
theorem d106_19 : decode (ix_by 106) 19 = .ok (.aload_n 0, 1) := by decide +kernel
theorem d106_20 : decode (ix_by 106) 20 = .ok (.getfield 16, 3) := by decide +kernel
theorem d106_23 : decode (ix_by 106) 23 = .ok (.iload_n 1, 1) := by decide +kernel
theorem d106_24 : decode (ix_by 106) 24 = .ok (.aaload, 1) := by decide +kernel
theorem d106_25 : decode (ix_by 106) 25 = .ok (.iload_n 2, 1) := by decide +kernel
theorem d106_26 : decode (ix_by 106) 26 = .ok (.invokevirtual 60, 3) := by decide +kernel
theorem d106_29 : decode (ix_by 106) 29 = .ok (.ifCond .eq 13, 3) := by decide +kernel
theorem d106_32 : decode (ix_by 106) 32 = .ok (.new 67, 3) := by decide +kernel
theorem d106_35 : decode (ix_by 106) 35 = .ok (.dup, 1) := by decide +kernel
theorem d106_36 : decode (ix_by 106) 36 = .ok (.ldc 79, 2) := by decide +kernel
theorem d106_38 : decode (ix_by 106) 38 = .ok (.invokespecial 71, 3) := by decide +kernel
theorem d106_41 : decode (ix_by 106) 41 = .ok (.athrow, 1) := by decide +kernel
theorem d106_42 : decode (ix_by 106) 42 = .ok (.aload_n 0, 1) := by decide +kernel
theorem d106_43 : decode (ix_by 106) 43 = .ok (.getfield 16, 3) := by decide +kernel
theorem d106_46 : decode (ix_by 106) 46 = .ok (.iload_n 1, 1) := by decide +kernel
theorem d106_47 : decode (ix_by 106) 47 = .ok (.aaload, 1) := by decide +kernel
theorem d106_48 : decode (ix_by 106) 48 = .ok (.getfield 34, 3) := by decide +kernel
theorem d106_51 : decode (ix_by 106) 51 = .ok (.iload_n 2, 1) := by decide +kernel
theorem d106_52 : decode (ix_by 106) 52 = .ok (.invokevirtual 81, 3) := by decide +kernel
theorem d106_55 : decode (ix_by 106) 55 = .ok (.iconst 1, 1) := by decide +kernel
theorem d106_56 : decode (ix_by 106) 56 = .ok (.ireturn, 1) := by decide +kernel
