/-! decode rows (written by wip/whole/gen4.py) -/
theorem d48_0 : decode (ix_by 48) 0 = .ok (.aload_n 0, 1) := by decide +kernel
theorem d48_1 : decode (ix_by 48) 1 = .ok (.getfield 37, 3) := by decide +kernel
theorem d48_4 : decode (ix_by 48) 4 = .ok (.ifCond .eq 4, 3) := by decide +kernel
theorem d48_7 : decode (ix_by 48) 7 = .ok (.return_, 1) := by decide +kernel
theorem d48_8 : decode (ix_by 48) 8 = .ok (.iload_n 1, 1) := by decide +kernel
theorem d48_9 : decode (ix_by 48) 9 = .ok (.aload_n 0, 1) := by decide +kernel
theorem d48_10 : decode (ix_by 48) 10 = .ok (.getfield 41, 3) := by decide +kernel
theorem d48_13 : decode (ix_by 48) 13 = .ok (.isub, 1) := by decide +kernel
theorem d48_14 : decode (ix_by 48) 14 = .ok (.istore_n 2, 1) := by decide +kernel
theorem d48_15 : decode (ix_by 48) 15 = .ok (.aload_n 0, 1) := by decide +kernel
theorem d48_16 : decode (ix_by 48) 16 = .ok (.invokevirtual 44, 3) := by decide +kernel
theorem d48_19 : decode (ix_by 48) 19 = .ok (.ifCond .eq 12, 3) := by decide +kernel
theorem d48_22 : decode (ix_by 48) 22 = .ok (.aload_n 0, 1) := by decide +kernel
theorem d48_23 : decode (ix_by 48) 23 = .ok (.iload_n 2, 1) := by decide +kernel
theorem d48_24 : decode (ix_by 48) 24 = .ok (.iload_n 1, 1) := by decide +kernel
theorem d48_25 : decode (ix_by 48) 25 = .ok (.invokevirtual 48, 3) := by decide +kernel
theorem d48_28 : decode (ix_by 48) 28 = .ok (.goto 93, 3) := by decide +kernel
theorem d48_31 : decode (ix_by 48) 31 = .ok (.aload_n 0, 1) := by decide +kernel
theorem d48_32 : decode (ix_by 48) 32 = .ok (.getfield 15, 3) := by decide +kernel
theorem d48_35 : decode (ix_by 48) 35 = .ok (.iconst (-1), 1) := by decide +kernel
theorem d48_36 : decode (ix_by 48) 36 = .ok (.if_icmp .ne 26, 3) := by decide +kernel
theorem d48_39 : decode (ix_by 48) 39 = .ok (.iload_n 2, 1) := by decide +kernel
theorem d48_40 : decode (ix_by 48) 40 = .ok (.iconst 4, 1) := by decide +kernel
theorem d48_41 : decode (ix_by 48) 41 = .ok (.aload_n 0, 1) := by decide +kernel
theorem d48_42 : decode (ix_by 48) 42 = .ok (.getfield 31, 3) := by decide +kernel
theorem d48_45 : decode (ix_by 48) 45 = .ok (.imul, 1) := by decide +kernel
theorem d48_46 : decode (ix_by 48) 46 = .ok (.if_icmp .lt 75, 3) := by decide +kernel
theorem d48_49 : decode (ix_by 48) 49 = .ok (.aload_n 0, 1) := by decide +kernel
theorem d48_50 : decode (ix_by 48) 50 = .ok (.iconst 3, 1) := by decide +kernel
theorem d48_51 : decode (ix_by 48) 51 = .ok (.putfield 34, 3) := by decide +kernel
theorem d48_54 : decode (ix_by 48) 54 = .ok (.aload_n 0, 1) := by decide +kernel
theorem d48_55 : decode (ix_by 48) 55 = .ok (.iconst 1, 1) := by decide +kernel
theorem d48_56 : decode (ix_by 48) 56 = .ok (.putfield 37, 3) := by decide +kernel
theorem d48_59 : decode (ix_by 48) 59 = .ok (.goto 62, 3) := by decide +kernel
theorem d48_62 : decode (ix_by 48) 62 = .ok (.iload_n 2, 1) := by decide +kernel
theorem d48_63 : decode (ix_by 48) 63 = .ok (.aload_n 0, 1) := by decide +kernel
theorem d48_64 : decode (ix_by 48) 64 = .ok (.getfield 19, 3) := by decide +kernel
theorem d48_67 : decode (ix_by 48) 67 = .ok (.invokevirtual 52, 3) := by decide +kernel
theorem d48_70 : decode (ix_by 48) 70 = .ok (.ifCond .eq 10, 3) := by decide +kernel
theorem d48_73 : decode (ix_by 48) 73 = .ok (.aload_n 0, 1) := by decide +kernel
theorem d48_74 : decode (ix_by 48) 74 = .ok (.getfield 31, 3) := by decide +kernel
theorem d48_77 : decode (ix_by 48) 77 = .ok (.goto 9, 3) := by decide +kernel
theorem d48_80 : decode (ix_by 48) 80 = .ok (.iconst 2, 1) := by decide +kernel
theorem d48_81 : decode (ix_by 48) 81 = .ok (.aload_n 0, 1) := by decide +kernel
theorem d48_82 : decode (ix_by 48) 82 = .ok (.getfield 31, 3) := by decide +kernel
theorem d48_85 : decode (ix_by 48) 85 = .ok (.imul, 1) := by decide +kernel
theorem d48_86 : decode (ix_by 48) 86 = .ok (.if_icmp .lt 35, 3) := by decide +kernel
theorem d48_89 : decode (ix_by 48) 89 = .ok (.aload_n 0, 1) := by decide +kernel
theorem d48_90 : decode (ix_by 48) 90 = .ok (.getfield 19, 3) := by decide +kernel
theorem d48_93 : decode (ix_by 48) 93 = .ok (.invokevirtual 52, 3) := by decide +kernel
theorem d48_96 : decode (ix_by 48) 96 = .ok (.ifCond .eq 19, 3) := by decide +kernel
theorem d48_99 : decode (ix_by 48) 99 = .ok (.aload_n 0, 1) := by decide +kernel
theorem d48_100 : decode (ix_by 48) 100 = .ok (.getfield 57, 3) := by decide +kernel
theorem d48_103 : decode (ix_by 48) 103 = .ok (.iconst 3, 1) := by decide +kernel
theorem d48_104 : decode (ix_by 48) 104 = .ok (.if_icmp .ge 11, 3) := by decide +kernel
theorem d48_107 : decode (ix_by 48) 107 = .ok (.aload_n 0, 1) := by decide +kernel
theorem d48_108 : decode (ix_by 48) 108 = .ok (.iload_n 1, 1) := by decide +kernel
theorem d48_109 : decode (ix_by 48) 109 = .ok (.invokevirtual 60, 3) := by decide +kernel
theorem d48_112 : decode (ix_by 48) 112 = .ok (.goto 9, 3) := by decide +kernel
theorem d48_115 : decode (ix_by 48) 115 = .ok (.aload_n 0, 1) := by decide +kernel
theorem d48_116 : decode (ix_by 48) 116 = .ok (.iconst 3, 1) := by decide +kernel
theorem d48_117 : decode (ix_by 48) 117 = .ok (.iload_n 1, 1) := by decide +kernel
theorem d48_118 : decode (ix_by 48) 118 = .ok (.invokevirtual 64, 3) := by decide +kernel
theorem d48_121 : decode (ix_by 48) 121 = .ok (.return_, 1) := by decide +kernel
theorem d49_0 : decode (ix_by 49) 0 = .ok (.aload_n 0, 1) := by decide +kernel
theorem d49_1 : decode (ix_by 49) 1 = .ok (.getfield 34, 3) := by decide +kernel
theorem d49_4 : decode (ix_by 49) 4 = .ok (.ifCond .eq 7, 3) := by decide +kernel
theorem d49_7 : decode (ix_by 49) 7 = .ok (.iconst 1, 1) := by decide +kernel
theorem d49_8 : decode (ix_by 49) 8 = .ok (.goto 4, 3) := by decide +kernel
theorem d49_11 : decode (ix_by 49) 11 = .ok (.iconst 0, 1) := by decide +kernel
theorem d49_12 : decode (ix_by 49) 12 = .ok (.ireturn, 1) := by decide +kernel
theorem d50_0 : decode (ix_by 50) 0 = .ok (.iload_n 1, 1) := by decide +kernel
theorem d50_1 : decode (ix_by 50) 1 = .ok (.aload_n 0, 1) := by decide +kernel
theorem d50_2 : decode (ix_by 50) 2 = .ok (.getfield 31, 3) := by decide +kernel
theorem d50_5 : decode (ix_by 50) 5 = .ok (.if_icmp .ge 4, 3) := by decide +kernel
theorem d50_8 : decode (ix_by 50) 8 = .ok (.return_, 1) := by decide +kernel
theorem d50_9 : decode (ix_by 50) 9 = .ok (.aload_n 0, 1) := by decide +kernel
theorem d50_10 : decode (ix_by 50) 10 = .ok (.getfield 57, 3) := by decide +kernel
theorem d50_13 : decode (ix_by 50) 13 = .ok (.iconst 3, 1) := by decide +kernel
theorem d50_14 : decode (ix_by 50) 14 = .ok (.if_icmp .ge 11, 3) := by decide +kernel
theorem d50_17 : decode (ix_by 50) 17 = .ok (.aload_n 0, 1) := by decide +kernel
theorem d50_18 : decode (ix_by 50) 18 = .ok (.iload_n 2, 1) := by decide +kernel
theorem d50_19 : decode (ix_by 50) 19 = .ok (.invokevirtual 67, 3) := by decide +kernel
theorem d50_22 : decode (ix_by 50) 22 = .ok (.goto 8, 3) := by decide +kernel
theorem d50_25 : decode (ix_by 50) 25 = .ok (.aload_n 0, 1) := by decide +kernel
theorem d50_26 : decode (ix_by 50) 26 = .ok (.iconst 1, 1) := by decide +kernel
theorem d50_27 : decode (ix_by 50) 27 = .ok (.putfield 37, 3) := by decide +kernel
theorem d50_30 : decode (ix_by 50) 30 = .ok (.return_, 1) := by decide +kernel
theorem d51_0 : decode (ix_by 51) 0 = .ok (.aload_n 0, 1) := by decide +kernel
theorem d51_1 : decode (ix_by 51) 1 = .ok (.dup, 1) := by decide +kernel
theorem d51_2 : decode (ix_by 51) 2 = .ok (.getfield 57, 3) := by decide +kernel
theorem d51_5 : decode (ix_by 51) 5 = .ok (.iconst 1, 1) := by decide +kernel
theorem d51_6 : decode (ix_by 51) 6 = .ok (.iadd, 1) := by decide +kernel
theorem d51_7 : decode (ix_by 51) 7 = .ok (.putfield 57, 3) := by decide +kernel
theorem d51_10 : decode (ix_by 51) 10 = .ok (.aload_n 0, 1) := by decide +kernel
theorem d51_11 : decode (ix_by 51) 11 = .ok (.iload_n 1, 1) := by decide +kernel
theorem d51_12 : decode (ix_by 51) 12 = .ok (.putfield 41, 3) := by decide +kernel
theorem d51_15 : decode (ix_by 51) 15 = .ok (.aload_n 0, 1) := by decide +kernel
theorem d51_16 : decode (ix_by 51) 16 = .ok (.iconst 4, 1) := by decide +kernel
theorem d51_17 : decode (ix_by 51) 17 = .ok (.aload_n 0, 1) := by decide +kernel
theorem d51_18 : decode (ix_by 51) 18 = .ok (.getfield 34, 3) := by decide +kernel
theorem d51_21 : decode (ix_by 51) 21 = .ok (.iconst 0, 1) := by decide +kernel
theorem d51_22 : decode (ix_by 51) 22 = .ok (.invokevirtual 75, 3) := by decide +kernel
theorem d51_25 : decode (ix_by 51) 25 = .ok (.return_, 1) := by decide +kernel
theorem d52_0 : decode (ix_by 52) 0 = .ok (.aload_n 0, 1) := by decide +kernel
theorem d52_1 : decode (ix_by 52) 1 = .ok (.getfield 27, 3) := by decide +kernel
theorem d52_4 : decode (ix_by 52) 4 = .ok (.new 71, 3) := by decide +kernel
theorem d52_7 : decode (ix_by 52) 7 = .ok (.dup, 1) := by decide +kernel
theorem d52_8 : decode (ix_by 52) 8 = .ok (.aload_n 0, 1) := by decide +kernel
theorem d52_9 : decode (ix_by 52) 9 = .ok (.getfield 19, 3) := by decide +kernel
theorem d52_12 : decode (ix_by 52) 12 = .ok (.iload_n 1, 1) := by decide +kernel
theorem d52_13 : decode (ix_by 52) 13 = .ok (.aload_n 0, 1) := by decide +kernel
theorem d52_14 : decode (ix_by 52) 14 = .ok (.getfield 19, 3) := by decide +kernel
theorem d52_17 : decode (ix_by 52) 17 = .ok (.getfield 165, 3) := by decide +kernel
theorem d52_20 : decode (ix_by 52) 20 = .ok (.iload_n 2, 1) := by decide +kernel
theorem d52_21 : decode (ix_by 52) 21 = .ok (.iconst 0, 1) := by decide +kernel
theorem d52_22 : decode (ix_by 52) 22 = .ok (.iload_n 3, 1) := by decide +kernel
theorem d52_23 : decode (ix_by 52) 23 = .ok (.invokespecial 168, 3) := by decide +kernel
theorem d52_26 : decode (ix_by 52) 26 = .ok (.invokevirtual 171, 3) := by decide +kernel
theorem d52_29 : decode (ix_by 52) 29 = .ok (.return_, 1) := by decide +kernel
theorem d53_0 : decode (ix_by 53) 0 = .ok (.aload_n 0, 1) := by decide +kernel
theorem d53_1 : decode (ix_by 53) 1 = .ok (.dup, 1) := by decide +kernel
theorem d53_2 : decode (ix_by 53) 2 = .ok (.getfield 57, 3) := by decide +kernel
theorem d53_5 : decode (ix_by 53) 5 = .ok (.iconst 1, 1) := by decide +kernel
theorem d53_6 : decode (ix_by 53) 6 = .ok (.iadd, 1) := by decide +kernel
theorem d53_7 : decode (ix_by 53) 7 = .ok (.putfield 57, 3) := by decide +kernel
theorem d53_10 : decode (ix_by 53) 10 = .ok (.aload_n 0, 1) := by decide +kernel
theorem d53_11 : decode (ix_by 53) 11 = .ok (.iload_n 1, 1) := by decide +kernel
theorem d53_12 : decode (ix_by 53) 12 = .ok (.putfield 41, 3) := by decide +kernel
theorem d53_15 : decode (ix_by 53) 15 = .ok (.aload_n 0, 1) := by decide +kernel
theorem d53_16 : decode (ix_by 53) 16 = .ok (.invokevirtual 118, 3) := by decide +kernel
theorem d53_19 : decode (ix_by 53) 19 = .ok (.istore_n 2, 1) := by decide +kernel
theorem d53_20 : decode (ix_by 53) 20 = .ok (.iconst 0, 1) := by decide +kernel
theorem d53_21 : decode (ix_by 53) 21 = .ok (.istore_n 3, 1) := by decide +kernel
theorem d53_22 : decode (ix_by 53) 22 = .ok (.iconst 0, 1) := by decide +kernel
theorem d53_23 : decode (ix_by 53) 23 = .ok (.istore 4, 2) := by decide +kernel
theorem d53_25 : decode (ix_by 53) 25 = .ok (.iconst 0, 1) := by decide +kernel
theorem d53_26 : decode (ix_by 53) 26 = .ok (.istore 5, 2) := by decide +kernel
theorem d53_28 : decode (ix_by 53) 28 = .ok (.iload 5, 2) := by decide +kernel
theorem d53_30 : decode (ix_by 53) 30 = .ok (.bipush 16, 2) := by decide +kernel
theorem d53_32 : decode (ix_by 53) 32 = .ok (.if_icmp .ge 83, 3) := by decide +kernel
theorem d53_35 : decode (ix_by 53) 35 = .ok (.iconst 1, 1) := by decide +kernel
theorem d53_36 : decode (ix_by 53) 36 = .ok (.iload 5, 2) := by decide +kernel
theorem d53_38 : decode (ix_by 53) 38 = .ok (.ishl, 1) := by decide +kernel
theorem d53_39 : decode (ix_by 53) 39 = .ok (.istore 6, 2) := by decide +kernel
theorem d53_41 : decode (ix_by 53) 41 = .ok (.iload_n 2, 1) := by decide +kernel
theorem d53_42 : decode (ix_by 53) 42 = .ok (.iload 6, 2) := by decide +kernel
theorem d53_44 : decode (ix_by 53) 44 = .ok (.iand, 1) := by decide +kernel
theorem d53_45 : decode (ix_by 53) 45 = .ok (.ifCond .eq 7, 3) := by decide +kernel
theorem d53_48 : decode (ix_by 53) 48 = .ok (.iconst 1, 1) := by decide +kernel
theorem d53_49 : decode (ix_by 53) 49 = .ok (.goto 4, 3) := by decide +kernel
theorem d53_52 : decode (ix_by 53) 52 = .ok (.iconst 0, 1) := by decide +kernel
theorem d53_53 : decode (ix_by 53) 53 = .ok (.istore 7, 2) := by decide +kernel
theorem d53_55 : decode (ix_by 53) 55 = .ok (.iload 7, 2) := by decide +kernel
theorem d53_57 : decode (ix_by 53) 57 = .ok (.ifCond .eq 16, 3) := by decide +kernel
theorem d53_60 : decode (ix_by 53) 60 = .ok (.iload_n 2, 1) := by decide +kernel
theorem d53_61 : decode (ix_by 53) 61 = .ok (.iload 6, 2) := by decide +kernel
theorem d53_63 : decode (ix_by 53) 63 = .ok (.iconst 1, 1) := by decide +kernel
theorem d53_64 : decode (ix_by 53) 64 = .ok (.ishr, 1) := by decide +kernel
theorem d53_65 : decode (ix_by 53) 65 = .ok (.iand, 1) := by decide +kernel
theorem d53_66 : decode (ix_by 53) 66 = .ok (.ifCond .ne 7, 3) := by decide +kernel
theorem d53_69 : decode (ix_by 53) 69 = .ok (.iconst 1, 1) := by decide +kernel
theorem d53_70 : decode (ix_by 53) 70 = .ok (.goto 4, 3) := by decide +kernel
theorem d53_73 : decode (ix_by 53) 73 = .ok (.iconst 0, 1) := by decide +kernel
theorem d53_74 : decode (ix_by 53) 74 = .ok (.istore 8, 2) := by decide +kernel
theorem d53_76 : decode (ix_by 53) 76 = .ok (.iload 8, 2) := by decide +kernel
theorem d53_78 : decode (ix_by 53) 78 = .ok (.ifCond .eq 11, 3) := by decide +kernel
theorem d53_81 : decode (ix_by 53) 81 = .ok (.iload_n 3, 1) := by decide +kernel
theorem d53_82 : decode (ix_by 53) 82 = .ok (.iconst 3, 1) := by decide +kernel
theorem d53_83 : decode (ix_by 53) 83 = .ok (.if_icmp .ne 6, 3) := by decide +kernel
theorem d53_86 : decode (ix_by 53) 86 = .ok (.goto 29, 3) := by decide +kernel
theorem d53_89 : decode (ix_by 53) 89 = .ok (.iload 8, 2) := by decide +kernel
theorem d53_91 : decode (ix_by 53) 91 = .ok (.ifCond .eq 6, 3) := by decide +kernel
theorem d53_94 : decode (ix_by 53) 94 = .ok (.iinc 3 1, 3) := by decide +kernel
theorem d53_97 : decode (ix_by 53) 97 = .ok (.iload 7, 2) := by decide +kernel
theorem d53_99 : decode (ix_by 53) 99 = .ok (.ifCond .eq 10, 3) := by decide +kernel
theorem d53_102 : decode (ix_by 53) 102 = .ok (.iload 4, 2) := by decide +kernel
theorem d53_104 : decode (ix_by 53) 104 = .ok (.iload 6, 2) := by decide +kernel
theorem d53_106 : decode (ix_by 53) 106 = .ok (.ior, 1) := by decide +kernel
theorem d53_107 : decode (ix_by 53) 107 = .ok (.istore 4, 2) := by decide +kernel
theorem d53_109 : decode (ix_by 53) 109 = .ok (.iinc 5 1, 3) := by decide +kernel
theorem d53_112 : decode (ix_by 53) 112 = .ok (.goto (-84), 3) := by decide +kernel
theorem d53_115 : decode (ix_by 53) 115 = .ok (.aload_n 0, 1) := by decide +kernel
theorem d53_116 : decode (ix_by 53) 116 = .ok (.bipush 6, 2) := by decide +kernel
theorem d53_118 : decode (ix_by 53) 118 = .ok (.aload_n 0, 1) := by decide +kernel
theorem d53_119 : decode (ix_by 53) 119 = .ok (.getfield 96, 3) := by decide +kernel
theorem d53_122 : decode (ix_by 53) 122 = .ok (.ifCond .eq 7, 3) := by decide +kernel
theorem d53_125 : decode (ix_by 53) 125 = .ok (.iload_n 3, 1) := by decide +kernel
theorem d53_126 : decode (ix_by 53) 126 = .ok (.goto 7, 3) := by decide +kernel
theorem d53_129 : decode (ix_by 53) 129 = .ok (.iload_n 3, 1) := by decide +kernel
theorem d53_130 : decode (ix_by 53) 130 = .ok (.bipush 8, 2) := by decide +kernel
theorem d53_132 : decode (ix_by 53) 132 = .ok (.iadd, 1) := by decide +kernel
theorem d53_133 : decode (ix_by 53) 133 = .ok (.iload 4, 2) := by decide +kernel
theorem d53_135 : decode (ix_by 53) 135 = .ok (.invokevirtual 75, 3) := by decide +kernel
theorem d53_138 : decode (ix_by 53) 138 = .ok (.return_, 1) := by decide +kernel
theorem d54_0 : decode (ix_by 54) 0 = .ok (.iconst 1, 1) := by decide +kernel
theorem d54_1 : decode (ix_by 54) 1 = .ok (.aload_n 0, 1) := by decide +kernel
theorem d54_2 : decode (ix_by 54) 2 = .ok (.getfield 15, 3) := by decide +kernel
theorem d54_5 : decode (ix_by 54) 5 = .ok (.invokestatic 114, 3) := by decide +kernel
theorem d54_8 : decode (ix_by 54) 8 = .ok (.ishl, 1) := by decide +kernel
theorem d54_9 : decode (ix_by 54) 9 = .ok (.iconst 1, 1) := by decide +kernel
theorem d54_10 : decode (ix_by 54) 10 = .ok (.isub, 1) := by decide +kernel
theorem d54_11 : decode (ix_by 54) 11 = .ok (.aload_n 0, 1) := by decide +kernel
theorem d54_12 : decode (ix_by 54) 12 = .ok (.getfield 108, 3) := by decide +kernel
theorem d54_15 : decode (ix_by 54) 15 = .ok (.iconst (-1), 1) := by decide +kernel
theorem d54_16 : decode (ix_by 54) 16 = .ok (.ixor, 1) := by decide +kernel
theorem d54_17 : decode (ix_by 54) 17 = .ok (.iand, 1) := by decide +kernel
theorem d54_18 : decode (ix_by 54) 18 = .ok (.ireturn, 1) := by decide +kernel
theorem d55_0 : decode (ix_by 55) 0 = .ok (.iload_n 0, 1) := by decide +kernel
theorem d55_1 : decode (ix_by 55) 1 = .ok (.iconst 4, 1) := by decide +kernel
theorem d55_2 : decode (ix_by 55) 2 = .ok (.iadd, 1) := by decide +kernel
theorem d55_3 : decode (ix_by 55) 3 = .ok (.iconst 1, 1) := by decide +kernel
theorem d55_4 : decode (ix_by 55) 4 = .ok (.isub, 1) := by decide +kernel
theorem d55_5 : decode (ix_by 55) 5 = .ok (.iconst 4, 1) := by decide +kernel
theorem d55_6 : decode (ix_by 55) 6 = .ok (.idiv, 1) := by decide +kernel
theorem d55_7 : decode (ix_by 55) 7 = .ok (.ireturn, 1) := by decide +kernel
theorem d56_0 : decode (ix_by 56) 0 = .ok (.aload_n 0, 1) := by decide +kernel
theorem d56_1 : decode (ix_by 56) 1 = .ok (.iload_n 1, 1) := by decide +kernel
theorem d56_2 : decode (ix_by 56) 2 = .ok (.putfield 34, 3) := by decide +kernel
theorem d56_5 : decode (ix_by 56) 5 = .ok (.aload_n 0, 1) := by decide +kernel
theorem d56_6 : decode (ix_by 56) 6 = .ok (.getfield 19, 3) := by decide +kernel
theorem d56_9 : decode (ix_by 56) 9 = .ok (.invokevirtual 52, 3) := by decide +kernel
theorem d56_12 : decode (ix_by 56) 12 = .ok (.ifCond .eq 16, 3) := by decide +kernel
theorem d56_15 : decode (ix_by 56) 15 = .ok (.aload_n 0, 1) := by decide +kernel
theorem d56_16 : decode (ix_by 56) 16 = .ok (.iconst 0, 1) := by decide +kernel
theorem d56_17 : decode (ix_by 56) 17 = .ok (.putfield 57, 3) := by decide +kernel
theorem d56_20 : decode (ix_by 56) 20 = .ok (.aload_n 0, 1) := by decide +kernel
theorem d56_21 : decode (ix_by 56) 21 = .ok (.iload_n 2, 1) := by decide +kernel
theorem d56_22 : decode (ix_by 56) 22 = .ok (.invokevirtual 67, 3) := by decide +kernel
theorem d56_25 : decode (ix_by 56) 25 = .ok (.goto 8, 3) := by decide +kernel
theorem d56_28 : decode (ix_by 56) 28 = .ok (.aload_n 0, 1) := by decide +kernel
theorem d56_29 : decode (ix_by 56) 29 = .ok (.iconst 1, 1) := by decide +kernel
theorem d56_30 : decode (ix_by 56) 30 = .ok (.putfield 37, 3) := by decide +kernel
theorem d56_33 : decode (ix_by 56) 33 = .ok (.return_, 1) := by decide +kernel
theorem d57_0 : decode (ix_by 57) 0 = .ok (.aload_n 0, 1) := by decide +kernel
theorem d57_1 : decode (ix_by 57) 1 = .ok (.getfield 23, 3) := by decide +kernel
theorem d57_4 : decode (ix_by 57) 4 = .ok (.invokevirtual 33, 3) := by decide +kernel
theorem d57_7 : decode (ix_by 57) 7 = .ok (.iconst 1, 1) := by decide +kernel
theorem d57_8 : decode (ix_by 57) 8 = .ok (.isub, 1) := by decide +kernel
theorem d57_9 : decode (ix_by 57) 9 = .ok (.istore_n 1, 1) := by decide +kernel
theorem d57_10 : decode (ix_by 57) 10 = .ok (.iload_n 1, 1) := by decide +kernel
theorem d57_11 : decode (ix_by 57) 11 = .ok (.ifCond .lt 35, 3) := by decide +kernel
theorem d57_14 : decode (ix_by 57) 14 = .ok (.aload_n 0, 1) := by decide +kernel
theorem d57_15 : decode (ix_by 57) 15 = .ok (.getfield 23, 3) := by decide +kernel
theorem d57_18 : decode (ix_by 57) 18 = .ok (.iload_n 1, 1) := by decide +kernel
theorem d57_19 : decode (ix_by 57) 19 = .ok (.invokevirtual 37, 3) := by decide +kernel
theorem d57_22 : decode (ix_by 57) 22 = .ok (.checkcast 41, 3) := by decide +kernel
theorem d57_25 : decode (ix_by 57) 25 = .ok (.invokevirtual 64, 3) := by decide +kernel
theorem d57_28 : decode (ix_by 57) 28 = .ok (.ifCond .ne 12, 3) := by decide +kernel
theorem d57_31 : decode (ix_by 57) 31 = .ok (.aload_n 0, 1) := by decide +kernel
theorem d57_32 : decode (ix_by 57) 32 = .ok (.getfield 23, 3) := by decide +kernel
theorem d57_35 : decode (ix_by 57) 35 = .ok (.iload_n 1, 1) := by decide +kernel
theorem d57_36 : decode (ix_by 57) 36 = .ok (.invokevirtual 68, 3) := by decide +kernel
theorem d57_39 : decode (ix_by 57) 39 = .ok (.pop, 1) := by decide +kernel
theorem d57_40 : decode (ix_by 57) 40 = .ok (.iinc 1 (-1), 3) := by decide +kernel
theorem d57_43 : decode (ix_by 57) 43 = .ok (.goto (-33), 3) := by decide +kernel
theorem d57_46 : decode (ix_by 57) 46 = .ok (.aload_n 0, 1) := by decide +kernel
theorem d57_47 : decode (ix_by 57) 47 = .ok (.getfield 26, 3) := by decide +kernel
theorem d57_50 : decode (ix_by 57) 50 = .ok (.invokevirtual 33, 3) := by decide +kernel
theorem d57_53 : decode (ix_by 57) 53 = .ok (.iconst 1, 1) := by decide +kernel
theorem d57_54 : decode (ix_by 57) 54 = .ok (.isub, 1) := by decide +kernel
theorem d57_55 : decode (ix_by 57) 55 = .ok (.istore_n 1, 1) := by decide +kernel
theorem d57_56 : decode (ix_by 57) 56 = .ok (.iload_n 1, 1) := by decide +kernel
theorem d57_57 : decode (ix_by 57) 57 = .ok (.ifCond .lt 35, 3) := by decide +kernel
theorem d57_60 : decode (ix_by 57) 60 = .ok (.aload_n 0, 1) := by decide +kernel
theorem d57_61 : decode (ix_by 57) 61 = .ok (.getfield 26, 3) := by decide +kernel
theorem d57_64 : decode (ix_by 57) 64 = .ok (.iload_n 1, 1) := by decide +kernel
theorem d57_65 : decode (ix_by 57) 65 = .ok (.invokevirtual 37, 3) := by decide +kernel
theorem d57_68 : decode (ix_by 57) 68 = .ok (.checkcast 56, 3) := by decide +kernel
theorem d57_71 : decode (ix_by 57) 71 = .ok (.getfield 71, 3) := by decide +kernel
theorem d57_74 : decode (ix_by 57) 74 = .ok (.ifCond .eq 12, 3) := by decide +kernel
theorem d57_77 : decode (ix_by 57) 77 = .ok (.aload_n 0, 1) := by decide +kernel
theorem d57_78 : decode (ix_by 57) 78 = .ok (.getfield 26, 3) := by decide +kernel
theorem d57_81 : decode (ix_by 57) 81 = .ok (.iload_n 1, 1) := by decide +kernel
theorem d57_82 : decode (ix_by 57) 82 = .ok (.invokevirtual 68, 3) := by decide +kernel
theorem d57_85 : decode (ix_by 57) 85 = .ok (.pop, 1) := by decide +kernel
theorem d57_86 : decode (ix_by 57) 86 = .ok (.iinc 1 (-1), 3) := by decide +kernel
theorem d57_89 : decode (ix_by 57) 89 = .ok (.goto (-33), 3) := by decide +kernel
theorem d57_92 : decode (ix_by 57) 92 = .ok (.return_, 1) := by decide +kernel
theorem d58_0 : decode (ix_by 58) 0 = .ok (.iload_n 1, 1) := by decide +kernel
theorem d58_1 : decode (ix_by 58) 1 = .ok (.aload_n 0, 1) := by decide +kernel
theorem d58_2 : decode (ix_by 58) 2 = .ok (.getfield 48, 3) := by decide +kernel
theorem d58_5 : decode (ix_by 58) 5 = .ok (.invokestatic 118, 3) := by decide +kernel
theorem d58_8 : decode (ix_by 58) 8 = .ok (.pop, 1) := by decide +kernel
theorem d58_9 : decode (ix_by 58) 9 = .ok (.aload_n 0, 1) := by decide +kernel
theorem d58_10 : decode (ix_by 58) 10 = .ok (.getfield 9, 3) := by decide +kernel
theorem d58_13 : decode (ix_by 58) 13 = .ok (.astore_n 2, 1) := by decide +kernel
theorem d58_14 : decode (ix_by 58) 14 = .ok (.aload_n 2, 1) := by decide +kernel
theorem d58_15 : decode (ix_by 58) 15 = .ok (.iload_n 1, 1) := by decide +kernel
theorem d58_16 : decode (ix_by 58) 16 = .ok (.aaload, 1) := by decide +kernel
theorem d58_17 : decode (ix_by 58) 17 = .ok (.astore_n 3, 1) := by decide +kernel
theorem d58_18 : decode (ix_by 58) 18 = .ok (.aload_n 0, 1) := by decide +kernel
theorem d58_19 : decode (ix_by 58) 19 = .ok (.aload_n 2, 1) := by decide +kernel
theorem d58_20 : decode (ix_by 58) 20 = .ok (.iload_n 1, 1) := by decide +kernel
theorem d58_21 : decode (ix_by 58) 21 = .ok (.invokevirtual 144, 3) := by decide +kernel
theorem d58_24 : decode (ix_by 58) 24 = .ok (.aload_n 3, 1) := by decide +kernel
theorem d58_25 : decode (ix_by 58) 25 = .ok (.areturn, 1) := by decide +kernel
theorem d59_0 : decode (ix_by 59) 0 = .ok (.aload_n 0, 1) := by decide +kernel
theorem d59_1 : decode (ix_by 59) 1 = .ok (.dup, 1) := by decide +kernel
theorem d59_2 : decode (ix_by 59) 2 = .ok (.getfield 63, 3) := by decide +kernel
theorem d59_5 : decode (ix_by 59) 5 = .ok (.iconst 1, 1) := by decide +kernel
theorem d59_6 : decode (ix_by 59) 6 = .ok (.iadd, 1) := by decide +kernel
theorem d59_7 : decode (ix_by 59) 7 = .ok (.putfield 63, 3) := by decide +kernel
theorem d59_10 : decode (ix_by 59) 10 = .ok (.aload_n 0, 1) := by decide +kernel
theorem d59_11 : decode (ix_by 59) 11 = .ok (.getfield 48, 3) := by decide +kernel
theorem d59_14 : decode (ix_by 59) 14 = .ok (.iconst 1, 1) := by decide +kernel
theorem d59_15 : decode (ix_by 59) 15 = .ok (.isub, 1) := by decide +kernel
theorem d59_16 : decode (ix_by 59) 16 = .ok (.dup, 1) := by decide +kernel
theorem d59_17 : decode (ix_by 59) 17 = .ok (.istore_n 3, 1) := by decide +kernel
theorem d59_18 : decode (ix_by 59) 18 = .ok (.iload_n 2, 1) := by decide +kernel
theorem d59_19 : decode (ix_by 59) 19 = .ok (.if_icmp .le 15, 3) := by decide +kernel
theorem d59_22 : decode (ix_by 59) 22 = .ok (.aload_n 1, 1) := by decide +kernel
theorem d59_23 : decode (ix_by 59) 23 = .ok (.iload_n 2, 1) := by decide +kernel
theorem d59_24 : decode (ix_by 59) 24 = .ok (.iconst 1, 1) := by decide +kernel
theorem d59_25 : decode (ix_by 59) 25 = .ok (.iadd, 1) := by decide +kernel
theorem d59_26 : decode (ix_by 59) 26 = .ok (.aload_n 1, 1) := by decide +kernel
theorem d59_27 : decode (ix_by 59) 27 = .ok (.iload_n 2, 1) := by decide +kernel
theorem d59_28 : decode (ix_by 59) 28 = .ok (.iload_n 3, 1) := by decide +kernel
theorem d59_29 : decode (ix_by 59) 29 = .ok (.iload_n 2, 1) := by decide +kernel
theorem d59_30 : decode (ix_by 59) 30 = .ok (.isub, 1) := by decide +kernel
theorem d59_31 : decode (ix_by 59) 31 = .ok (.invokestatic 112, 3) := by decide +kernel
theorem d59_34 : decode (ix_by 59) 34 = .ok (.aload_n 1, 1) := by decide +kernel
theorem d59_35 : decode (ix_by 59) 35 = .ok (.aload_n 0, 1) := by decide +kernel
theorem d59_36 : decode (ix_by 59) 36 = .ok (.iload_n 3, 1) := by decide +kernel
theorem d59_37 : decode (ix_by 59) 37 = .ok (.dup_x1, 1) := by decide +kernel
theorem d59_38 : decode (ix_by 59) 38 = .ok (.putfield 48, 3) := by decide +kernel
theorem d59_41 : decode (ix_by 59) 41 = .ok (.aconst_null, 1) := by decide +kernel
theorem d59_42 : decode (ix_by 59) 42 = .ok (.aastore, 1) := by decide +kernel
theorem d59_43 : decode (ix_by 59) 43 = .ok (.return_, 1) := by decide +kernel
theorem d60_0 : decode (ix_by 60) 0 = .ok (.aload_n 0, 1) := by decide +kernel
theorem d60_1 : decode (ix_by 60) 1 = .ok (.getfield 23, 3) := by decide +kernel
theorem d60_4 : decode (ix_by 60) 4 = .ok (.iload_n 1, 1) := by decide +kernel
theorem d60_5 : decode (ix_by 60) 5 = .ok (.invokevirtual 144, 3) := by decide +kernel
theorem d60_8 : decode (ix_by 60) 8 = .ok (.astore_n 2, 1) := by decide +kernel
theorem d60_9 : decode (ix_by 60) 9 = .ok (.aload_n 2, 1) := by decide +kernel
theorem d60_10 : decode (ix_by 60) 10 = .ok (.ifnonnull 5, 3) := by decide +kernel
theorem d60_13 : decode (ix_by 60) 13 = .ok (.iconst 0, 1) := by decide +kernel
theorem d60_14 : decode (ix_by 60) 14 = .ok (.ireturn, 1) := by decide +kernel
theorem d60_15 : decode (ix_by 60) 15 = .ok (.aload_n 2, 1) := by decide +kernel
theorem d60_16 : decode (ix_by 60) 16 = .ok (.getfield 148, 3) := by decide +kernel
theorem d60_19 : decode (ix_by 60) 19 = .ok (.aload_n 2, 1) := by decide +kernel
theorem d60_20 : decode (ix_by 60) 20 = .ok (.getfield 153, 3) := by decide +kernel
theorem d60_23 : decode (ix_by 60) 23 = .ok (.getfield 157, 3) := by decide +kernel
theorem d60_26 : decode (ix_by 60) 26 = .ok (.if_icmp .ne 11, 3) := by decide +kernel
theorem d60_29 : decode (ix_by 60) 29 = .ok (.aload_n 0, 1) := by decide +kernel
theorem d60_30 : decode (ix_by 60) 30 = .ok (.aload_n 2, 1) := by decide +kernel
theorem d60_31 : decode (ix_by 60) 31 = .ok (.invokevirtual 160, 3) := by decide +kernel
theorem d60_34 : decode (ix_by 60) 34 = .ok (.goto 8, 3) := by decide +kernel
theorem d60_37 : decode (ix_by 60) 37 = .ok (.aload_n 0, 1) := by decide +kernel
theorem d60_38 : decode (ix_by 60) 38 = .ok (.aload_n 2, 1) := by decide +kernel
theorem d60_39 : decode (ix_by 60) 39 = .ok (.invokevirtual 164, 3) := by decide +kernel
theorem d60_42 : decode (ix_by 60) 42 = .ok (.iconst 1, 1) := by decide +kernel
theorem d60_43 : decode (ix_by 60) 43 = .ok (.ireturn, 1) := by decide +kernel
theorem d61_0 : decode (ix_by 61) 0 = .ok (.aload_n 0, 1) := by decide +kernel
theorem d61_1 : decode (ix_by 61) 1 = .ok (.iload_n 1, 1) := by decide +kernel
theorem d61_2 : decode (ix_by 61) 2 = .ok (.invokevirtual 21, 3) := by decide +kernel
theorem d61_5 : decode (ix_by 61) 5 = .ok (.astore_n 2, 1) := by decide +kernel
theorem d61_6 : decode (ix_by 61) 6 = .ok (.aload_n 2, 1) := by decide +kernel
theorem d61_7 : decode (ix_by 61) 7 = .ok (.ifnull 53, 3) := by decide +kernel
theorem d61_10 : decode (ix_by 61) 10 = .ok (.aload_n 0, 1) := by decide +kernel
theorem d61_11 : decode (ix_by 61) 11 = .ok (.dup, 1) := by decide +kernel
theorem d61_12 : decode (ix_by 61) 12 = .ok (.getfield 17, 3) := by decide +kernel
theorem d61_15 : decode (ix_by 61) 15 = .ok (.iconst 1, 1) := by decide +kernel
theorem d61_16 : decode (ix_by 61) 16 = .ok (.isub, 1) := by decide +kernel
theorem d61_17 : decode (ix_by 61) 17 = .ok (.putfield 17, 3) := by decide +kernel
theorem d61_20 : decode (ix_by 61) 20 = .ok (.iload_n 1, 1) := by decide +kernel
theorem d61_21 : decode (ix_by 61) 21 = .ok (.istore_n 3, 1) := by decide +kernel
theorem d61_22 : decode (ix_by 61) 22 = .ok (.iload_n 3, 1) := by decide +kernel
theorem d61_23 : decode (ix_by 61) 23 = .ok (.aload_n 0, 1) := by decide +kernel
theorem d61_24 : decode (ix_by 61) 24 = .ok (.getfield 17, 3) := by decide +kernel
theorem d61_27 : decode (ix_by 61) 27 = .ok (.if_icmp .ge 23, 3) := by decide +kernel
theorem d61_30 : decode (ix_by 61) 30 = .ok (.aload_n 0, 1) := by decide +kernel
theorem d61_31 : decode (ix_by 61) 31 = .ok (.getfield 11, 3) := by decide +kernel
theorem d61_34 : decode (ix_by 61) 34 = .ok (.iload_n 3, 1) := by decide +kernel
theorem d61_35 : decode (ix_by 61) 35 = .ok (.aload_n 0, 1) := by decide +kernel
theorem d61_36 : decode (ix_by 61) 36 = .ok (.getfield 11, 3) := by decide +kernel
theorem d61_39 : decode (ix_by 61) 39 = .ok (.iload_n 3, 1) := by decide +kernel
theorem d61_40 : decode (ix_by 61) 40 = .ok (.iconst 1, 1) := by decide +kernel
theorem d61_41 : decode (ix_by 61) 41 = .ok (.iadd, 1) := by decide +kernel
theorem d61_42 : decode (ix_by 61) 42 = .ok (.aaload, 1) := by decide +kernel
theorem d61_43 : decode (ix_by 61) 43 = .ok (.aastore, 1) := by decide +kernel
theorem d61_44 : decode (ix_by 61) 44 = .ok (.iinc 3 1, 3) := by decide +kernel
theorem d61_47 : decode (ix_by 61) 47 = .ok (.goto (-25), 3) := by decide +kernel
theorem d61_50 : decode (ix_by 61) 50 = .ok (.aload_n 0, 1) := by decide +kernel
theorem d61_51 : decode (ix_by 61) 51 = .ok (.getfield 11, 3) := by decide +kernel
theorem d61_54 : decode (ix_by 61) 54 = .ok (.aload_n 0, 1) := by decide +kernel
theorem d61_55 : decode (ix_by 61) 55 = .ok (.getfield 17, 3) := by decide +kernel
theorem d61_58 : decode (ix_by 61) 58 = .ok (.aconst_null, 1) := by decide +kernel
theorem d61_59 : decode (ix_by 61) 59 = .ok (.aastore, 1) := by decide +kernel
theorem d61_60 : decode (ix_by 61) 60 = .ok (.aload_n 2, 1) := by decide +kernel
theorem d61_61 : decode (ix_by 61) 61 = .ok (.areturn, 1) := by decide +kernel
theorem d62_0 : decode (ix_by 62) 0 = .ok (.iload_n 1, 1) := by decide +kernel
theorem d62_1 : decode (ix_by 62) 1 = .ok (.ifCond .lt 20, 3) := by decide +kernel
theorem d62_4 : decode (ix_by 62) 4 = .ok (.iload_n 1, 1) := by decide +kernel
theorem d62_5 : decode (ix_by 62) 5 = .ok (.aload_n 0, 1) := by decide +kernel
theorem d62_6 : decode (ix_by 62) 6 = .ok (.getfield 17, 3) := by decide +kernel
theorem d62_9 : decode (ix_by 62) 9 = .ok (.if_icmp .ge 12, 3) := by decide +kernel
theorem d62_12 : decode (ix_by 62) 12 = .ok (.aload_n 0, 1) := by decide +kernel
theorem d62_13 : decode (ix_by 62) 13 = .ok (.getfield 11, 3) := by decide +kernel
theorem d62_16 : decode (ix_by 62) 16 = .ok (.iload_n 1, 1) := by decide +kernel
theorem d62_17 : decode (ix_by 62) 17 = .ok (.aaload, 1) := by decide +kernel
theorem d62_18 : decode (ix_by 62) 18 = .ok (.goto 4, 3) := by decide +kernel
theorem d62_21 : decode (ix_by 62) 21 = .ok (.aconst_null, 1) := by decide +kernel
theorem d62_22 : decode (ix_by 62) 22 = .ok (.areturn, 1) := by decide +kernel
theorem d63_0 : decode (ix_by 63) 0 = .ok (.aload_n 0, 1) := by decide +kernel
theorem d63_1 : decode (ix_by 63) 1 = .ok (.getfield 16, 3) := by decide +kernel
theorem d63_4 : decode (ix_by 63) 4 = .ok (.aload_n 1, 1) := by decide +kernel
theorem d63_5 : decode (ix_by 63) 5 = .ok (.getfield 148, 3) := by decide +kernel
theorem d63_8 : decode (ix_by 63) 8 = .ok (.aaload, 1) := by decide +kernel
theorem d63_9 : decode (ix_by 63) 9 = .ok (.astore_n 2, 1) := by decide +kernel
theorem d63_10 : decode (ix_by 63) 10 = .ok (.aload_n 2, 1) := by decide +kernel
theorem d63_11 : decode (ix_by 63) 11 = .ok (.aload_n 1, 1) := by decide +kernel
theorem d63_12 : decode (ix_by 63) 12 = .ok (.getfield 153, 3) := by decide +kernel
theorem d63_15 : decode (ix_by 63) 15 = .ok (.getfield 189, 3) := by decide +kernel
theorem d63_18 : decode (ix_by 63) 18 = .ok (.invokevirtual 221, 3) := by decide +kernel
theorem d63_21 : decode (ix_by 63) 21 = .ok (.astore_n 3, 1) := by decide +kernel
theorem d63_22 : decode (ix_by 63) 22 = .ok (.aload_n 3, 1) := by decide +kernel
theorem d63_23 : decode (ix_by 63) 23 = .ok (.ifnull 12, 3) := by decide +kernel
theorem d63_26 : decode (ix_by 63) 26 = .ok (.aload_n 3, 1) := by decide +kernel
theorem d63_27 : decode (ix_by 63) 27 = .ok (.aload_n 1, 1) := by decide +kernel
theorem d63_28 : decode (ix_by 63) 28 = .ok (.invokevirtual 230, 3) := by decide +kernel
theorem d63_31 : decode (ix_by 63) 31 = .ok (.aload_n 2, 1) := by decide +kernel
theorem d63_32 : decode (ix_by 63) 32 = .ok (.invokevirtual 233, 3) := by decide +kernel
theorem d63_35 : decode (ix_by 63) 35 = .ok (.return_, 1) := by decide +kernel
theorem d64_0 : decode (ix_by 64) 0 = .ok (.aload_n 0, 1) := by decide +kernel
theorem d64_1 : decode (ix_by 64) 1 = .ok (.getfield 15, 3) := by decide +kernel
theorem d64_4 : decode (ix_by 64) 4 = .ok (.invokevirtual 98, 3) := by decide +kernel
theorem d64_7 : decode (ix_by 64) 7 = .ok (.ifCond .ne 4, 3) := by decide +kernel
theorem d64_10 : decode (ix_by 64) 10 = .ok (.return_, 1) := by decide +kernel
theorem d64_11 : decode (ix_by 64) 11 = .ok (.aload_n 1, 1) := by decide +kernel
theorem d64_12 : decode (ix_by 64) 12 = .ok (.getfield 136, 3) := by decide +kernel
theorem d64_15 : decode (ix_by 64) 15 = .ok (.iconst 4, 1) := by decide +kernel
theorem d64_16 : decode (ix_by 64) 16 = .ok (.if_icmp .ne 29, 3) := by decide +kernel
theorem d64_19 : decode (ix_by 64) 19 = .ok (.aload_n 0, 1) := by decide +kernel
theorem d64_20 : decode (ix_by 64) 20 = .ok (.iconst 5, 1) := by decide +kernel
theorem d64_21 : decode (ix_by 64) 21 = .ok (.iconst 4, 1) := by decide +kernel
theorem d64_22 : decode (ix_by 64) 22 = .ok (.iconst 0, 1) := by decide +kernel
theorem d64_23 : decode (ix_by 64) 23 = .ok (.iconst 0, 1) := by decide +kernel
theorem d64_24 : decode (ix_by 64) 24 = .ok (.invokevirtual 107, 3) := by decide +kernel
theorem d64_27 : decode (ix_by 64) 27 = .ok (.aload_n 0, 1) := by decide +kernel
theorem d64_28 : decode (ix_by 64) 28 = .ok (.invokevirtual 50, 3) := by decide +kernel
theorem d64_31 : decode (ix_by 64) 31 = .ok (.ifCond .eq 34, 3) := by decide +kernel
theorem d64_34 : decode (ix_by 64) 34 = .ok (.aload_n 0, 1) := by decide +kernel
theorem d64_35 : decode (ix_by 64) 35 = .ok (.aload_n 1, 1) := by decide +kernel
theorem d64_36 : decode (ix_by 64) 36 = .ok (.getfield 139, 3) := by decide +kernel
theorem d64_39 : decode (ix_by 64) 39 = .ok (.putfield 47, 3) := by decide +kernel
theorem d64_42 : decode (ix_by 64) 42 = .ok (.goto 23, 3) := by decide +kernel
theorem d64_45 : decode (ix_by 64) 45 = .ok (.aload_n 0, 1) := by decide +kernel
theorem d64_46 : decode (ix_by 64) 46 = .ok (.invokevirtual 50, 3) := by decide +kernel
theorem d64_49 : decode (ix_by 64) 49 = .ok (.ifCond .eq 16, 3) := by decide +kernel
theorem d64_52 : decode (ix_by 64) 52 = .ok (.aload_n 0, 1) := by decide +kernel
theorem d64_53 : decode (ix_by 64) 53 = .ok (.aload_n 0, 1) := by decide +kernel
theorem d64_54 : decode (ix_by 64) 54 = .ok (.getfield 73, 3) := by decide +kernel
theorem d64_57 : decode (ix_by 64) 57 = .ok (.putfield 85, 3) := by decide +kernel
theorem d64_60 : decode (ix_by 64) 60 = .ok (.aload_n 0, 1) := by decide +kernel
theorem d64_61 : decode (ix_by 64) 61 = .ok (.aload_n 1, 1) := by decide +kernel
theorem d64_62 : decode (ix_by 64) 62 = .ok (.invokevirtual 142, 3) := by decide +kernel
theorem d64_65 : decode (ix_by 64) 65 = .ok (.return_, 1) := by decide +kernel
theorem d65_0 : decode (ix_by 65) 0 = .ok (.aload_n 0, 1) := by decide +kernel
theorem d65_1 : decode (ix_by 65) 1 = .ok (.getfield 64, 3) := by decide +kernel
theorem d65_4 : decode (ix_by 65) 4 = .ok (.ifCond .ne 4, 3) := by decide +kernel
theorem d65_7 : decode (ix_by 65) 7 = .ok (.return_, 1) := by decide +kernel
theorem d65_8 : decode (ix_by 65) 8 = .ok (.aload_n 1, 1) := by decide +kernel
theorem d65_9 : decode (ix_by 65) 9 = .ok (.getfield 136, 3) := by decide +kernel
theorem d65_12 : decode (ix_by 65) 12 = .ok (.iconst 5, 1) := by decide +kernel
theorem d65_13 : decode (ix_by 65) 13 = .ok (.if_icmp .ne 11, 3) := by decide +kernel
theorem d65_16 : decode (ix_by 65) 16 = .ok (.aload_n 0, 1) := by decide +kernel
theorem d65_17 : decode (ix_by 65) 17 = .ok (.iconst 1, 1) := by decide +kernel
theorem d65_18 : decode (ix_by 65) 18 = .ok (.putfield 67, 3) := by decide +kernel
theorem d65_21 : decode (ix_by 65) 21 = .ok (.goto 64, 3) := by decide +kernel
theorem d65_24 : decode (ix_by 65) 24 = .ok (.aload_n 1, 1) := by decide +kernel
theorem d65_25 : decode (ix_by 65) 25 = .ok (.getfield 136, 3) := by decide +kernel
theorem d65_28 : decode (ix_by 65) 28 = .ok (.bipush 6, 2) := by decide +kernel
theorem d65_30 : decode (ix_by 65) 30 = .ok (.if_icmp .ne 55, 3) := by decide +kernel
theorem d65_33 : decode (ix_by 65) 33 = .ok (.aload_n 0, 1) := by decide +kernel
theorem d65_34 : decode (ix_by 65) 34 = .ok (.getfield 54, 3) := by decide +kernel
theorem d65_37 : decode (ix_by 65) 37 = .ok (.ifCond .ne 48, 3) := by decide +kernel
theorem d65_40 : decode (ix_by 65) 40 = .ok (.aload_n 0, 1) := by decide +kernel
theorem d65_41 : decode (ix_by 65) 41 = .ok (.dup, 1) := by decide +kernel
theorem d65_42 : decode (ix_by 65) 42 = .ok (.getfield 58, 3) := by decide +kernel
theorem d65_45 : decode (ix_by 65) 45 = .ok (.aload_n 1, 1) := by decide +kernel
theorem d65_46 : decode (ix_by 65) 46 = .ok (.getfield 139, 3) := by decide +kernel
theorem d65_49 : decode (ix_by 65) 49 = .ok (.bipush 8, 2) := by decide +kernel
theorem d65_51 : decode (ix_by 65) 51 = .ok (.if_icmp .lt 7, 3) := by decide +kernel
theorem d65_54 : decode (ix_by 65) 54 = .ok (.iconst 1, 1) := by decide +kernel
theorem d65_55 : decode (ix_by 65) 55 = .ok (.goto 4, 3) := by decide +kernel
theorem d65_58 : decode (ix_by 65) 58 = .ok (.iconst 0, 1) := by decide +kernel
theorem d65_59 : decode (ix_by 65) 59 = .ok (.ior, 1) := by decide +kernel
theorem d65_60 : decode (ix_by 65) 60 = .ok (.putfield 58, 3) := by decide +kernel
theorem d65_63 : decode (ix_by 65) 63 = .ok (.aload_n 0, 1) := by decide +kernel
theorem d65_64 : decode (ix_by 65) 64 = .ok (.dup, 1) := by decide +kernel
theorem d65_65 : decode (ix_by 65) 65 = .ok (.getfield 61, 3) := by decide +kernel
theorem d65_68 : decode (ix_by 65) 68 = .ok (.aload_n 1, 1) := by decide +kernel
theorem d65_69 : decode (ix_by 65) 69 = .ok (.getfield 145, 3) := by decide +kernel
theorem d65_72 : decode (ix_by 65) 72 = .ok (.iconst 1, 1) := by decide +kernel
theorem d65_73 : decode (ix_by 65) 73 = .ok (.aload_n 0, 1) := by decide +kernel
theorem d65_74 : decode (ix_by 65) 74 = .ok (.getfield 44, 3) := by decide +kernel
theorem d65_77 : decode (ix_by 65) 77 = .ok (.ishl, 1) := by decide +kernel
theorem d65_78 : decode (ix_by 65) 78 = .ok (.iconst 1, 1) := by decide +kernel
theorem d65_79 : decode (ix_by 65) 79 = .ok (.isub, 1) := by decide +kernel
theorem d65_80 : decode (ix_by 65) 80 = .ok (.iand, 1) := by decide +kernel
theorem d65_81 : decode (ix_by 65) 81 = .ok (.ior, 1) := by decide +kernel
theorem d65_82 : decode (ix_by 65) 82 = .ok (.putfield 61, 3) := by decide +kernel
theorem d65_85 : decode (ix_by 65) 85 = .ok (.return_, 1) := by decide +kernel
theorem d66_0 : decode (ix_by 66) 0 = .ok (.aload_n 0, 1) := by decide +kernel
theorem d66_1 : decode (ix_by 66) 1 = .ok (.getfield 16, 3) := by decide +kernel
theorem d66_4 : decode (ix_by 66) 4 = .ok (.aload_n 1, 1) := by decide +kernel
theorem d66_5 : decode (ix_by 66) 5 = .ok (.getfield 148, 3) := by decide +kernel
theorem d66_8 : decode (ix_by 66) 8 = .ok (.aaload, 1) := by decide +kernel
theorem d66_9 : decode (ix_by 66) 9 = .ok (.astore_n 2, 1) := by decide +kernel
theorem d66_10 : decode (ix_by 66) 10 = .ok (.aload_n 1, 1) := by decide +kernel
theorem d66_11 : decode (ix_by 66) 11 = .ok (.getfield 153, 3) := by decide +kernel
theorem d66_14 : decode (ix_by 66) 14 = .ok (.getfield 226, 3) := by decide +kernel
theorem d66_17 : decode (ix_by 66) 17 = .ok (.ifnonnull 9, 3) := by decide +kernel
theorem d66_20 : decode (ix_by 66) 20 = .ok (.aload_n 0, 1) := by decide +kernel
theorem d66_21 : decode (ix_by 66) 21 = .ok (.aload_n 1, 1) := by decide +kernel
theorem d66_22 : decode (ix_by 66) 22 = .ok (.aload_n 2, 1) := by decide +kernel
theorem d66_23 : decode (ix_by 66) 23 = .ok (.invokevirtual 236, 3) := by decide +kernel
theorem d66_26 : decode (ix_by 66) 26 = .ok (.aload_n 1, 1) := by decide +kernel
theorem d66_27 : decode (ix_by 66) 27 = .ok (.getfield 153, 3) := by decide +kernel
theorem d66_30 : decode (ix_by 66) 30 = .ok (.getfield 226, 3) := by decide +kernel
theorem d66_33 : decode (ix_by 66) 33 = .ok (.astore_n 3, 1) := by decide +kernel
theorem d66_34 : decode (ix_by 66) 34 = .ok (.aload_n 3, 1) := by decide +kernel
theorem d66_35 : decode (ix_by 66) 35 = .ok (.ifnull 16, 3) := by decide +kernel
theorem d66_38 : decode (ix_by 66) 38 = .ok (.aload_n 3, 1) := by decide +kernel
theorem d66_39 : decode (ix_by 66) 39 = .ok (.aload_n 1, 1) := by decide +kernel
theorem d66_40 : decode (ix_by 66) 40 = .ok (.aload_n 0, 1) := by decide +kernel
theorem d66_41 : decode (ix_by 66) 41 = .ok (.getfield 27, 3) := by decide +kernel
theorem d66_44 : decode (ix_by 66) 44 = .ok (.invokevirtual 240, 3) := by decide +kernel
theorem d66_47 : decode (ix_by 66) 47 = .ok (.aload_n 2, 1) := by decide +kernel
theorem d66_48 : decode (ix_by 66) 48 = .ok (.invokevirtual 233, 3) := by decide +kernel
theorem d66_51 : decode (ix_by 66) 51 = .ok (.return_, 1) := by decide +kernel
theorem d67_0 : decode (ix_by 67) 0 = .ok (.aload_n 1, 1) := by decide +kernel
theorem d67_1 : decode (ix_by 67) 1 = .ok (.getfield 180, 3) := by decide +kernel
theorem d67_4 : decode (ix_by 67) 4 = .ok (.iconst 5, 1) := by decide +kernel
theorem d67_5 : decode (ix_by 67) 5 = .ok (.if_icmp .eq 52, 3) := by decide +kernel
theorem d67_8 : decode (ix_by 67) 8 = .ok (.aload_n 2, 1) := by decide +kernel
theorem d67_9 : decode (ix_by 67) 9 = .ok (.getfield 243, 3) := by decide +kernel
theorem d67_12 : decode (ix_by 67) 12 = .ok (.invokevirtual 104, 3) := by decide +kernel
theorem d67_15 : decode (ix_by 67) 15 = .ok (.iconst 3, 1) := by decide +kernel
theorem d67_16 : decode (ix_by 67) 16 = .ok (.if_icmp .ge 41, 3) := by decide +kernel
theorem d67_19 : decode (ix_by 67) 19 = .ok (.new 206, 3) := by decide +kernel
theorem d67_22 : decode (ix_by 67) 22 = .ok (.dup, 1) := by decide +kernel
theorem d67_23 : decode (ix_by 67) 23 = .ok (.aload_n 1, 1) := by decide +kernel
theorem d67_24 : decode (ix_by 67) 24 = .ok (.getfield 153, 3) := by decide +kernel
theorem d67_27 : decode (ix_by 67) 27 = .ok (.aload_n 2, 1) := by decide +kernel
theorem d67_28 : decode (ix_by 67) 28 = .ok (.aload_n 0, 1) := by decide +kernel
theorem d67_29 : decode (ix_by 67) 29 = .ok (.getfield 23, 3) := by decide +kernel
theorem d67_32 : decode (ix_by 67) 32 = .ok (.aload_n 0, 1) := by decide +kernel
theorem d67_33 : decode (ix_by 67) 33 = .ok (.getfield 7, 3) := by decide +kernel
theorem d67_36 : decode (ix_by 67) 36 = .ok (.invokespecial 246, 3) := by decide +kernel
theorem d67_39 : decode (ix_by 67) 39 = .ok (.astore_n 3, 1) := by decide +kernel
theorem d67_40 : decode (ix_by 67) 40 = .ok (.aload_n 1, 1) := by decide +kernel
theorem d67_41 : decode (ix_by 67) 41 = .ok (.getfield 153, 3) := by decide +kernel
theorem d67_44 : decode (ix_by 67) 44 = .ok (.aload_n 3, 1) := by decide +kernel
theorem d67_45 : decode (ix_by 67) 45 = .ok (.putfield 226, 3) := by decide +kernel
theorem d67_48 : decode (ix_by 67) 48 = .ok (.aload_n 2, 1) := by decide +kernel
theorem d67_49 : decode (ix_by 67) 49 = .ok (.getfield 243, 3) := by decide +kernel
theorem d67_52 : decode (ix_by 67) 52 = .ok (.aload_n 3, 1) := by decide +kernel
theorem d67_53 : decode (ix_by 67) 53 = .ok (.invokevirtual 249, 3) := by decide +kernel
theorem d67_56 : decode (ix_by 67) 56 = .ok (.pop, 1) := by decide +kernel
theorem d67_57 : decode (ix_by 67) 57 = .ok (.return_, 1) := by decide +kernel
theorem d68_0 : decode (ix_by 68) 0 = .ok (.aload_n 0, 1) := by decide +kernel
theorem d68_1 : decode (ix_by 68) 1 = .ok (.invokespecial 3, 3) := by decide +kernel
theorem d68_4 : decode (ix_by 68) 4 = .ok (.aload_n 0, 1) := by decide +kernel
theorem d68_5 : decode (ix_by 68) 5 = .ok (.bipush 64, 2) := by decide +kernel
theorem d68_7 : decode (ix_by 68) 7 = .ok (.newarray .byte, 2) := by decide +kernel
theorem d68_9 : decode (ix_by 68) 9 = .ok (.putfield 9, 3) := by decide +kernel
theorem d68_12 : decode (ix_by 68) 12 = .ok (.aload_n 0, 1) := by decide +kernel
theorem d68_13 : decode (ix_by 68) 13 = .ok (.iconst (-1), 1) := by decide +kernel
theorem d68_14 : decode (ix_by 68) 14 = .ok (.putfield 15, 3) := by decide +kernel
theorem d68_17 : decode (ix_by 68) 17 = .ok (.aload_n 0, 1) := by decide +kernel
theorem d68_18 : decode (ix_by 68) 18 = .ok (.aload_n 1, 1) := by decide +kernel
theorem d68_19 : decode (ix_by 68) 19 = .ok (.putfield 19, 3) := by decide +kernel
theorem d68_22 : decode (ix_by 68) 22 = .ok (.aload_n 0, 1) := by decide +kernel
theorem d68_23 : decode (ix_by 68) 23 = .ok (.aload_n 2, 1) := by decide +kernel
theorem d68_24 : decode (ix_by 68) 24 = .ok (.putfield 23, 3) := by decide +kernel
theorem d68_27 : decode (ix_by 68) 27 = .ok (.aload_n 0, 1) := by decide +kernel
theorem d68_28 : decode (ix_by 68) 28 = .ok (.aload_n 3, 1) := by decide +kernel
theorem d68_29 : decode (ix_by 68) 29 = .ok (.putfield 27, 3) := by decide +kernel
theorem d68_32 : decode (ix_by 68) 32 = .ok (.aload_n 0, 1) := by decide +kernel
theorem d68_33 : decode (ix_by 68) 33 = .ok (.iload 4, 2) := by decide +kernel
theorem d68_35 : decode (ix_by 68) 35 = .ok (.putfield 31, 3) := by decide +kernel
theorem d68_38 : decode (ix_by 68) 38 = .ok (.return_, 1) := by decide +kernel
theorem d69_0 : decode (ix_by 69) 0 = .ok (.aload_n 0, 1) := by decide +kernel
theorem d69_1 : decode (ix_by 69) 1 = .ok (.dup, 1) := by decide +kernel
theorem d69_2 : decode (ix_by 69) 2 = .ok (.getfield 63, 3) := by decide +kernel
theorem d69_5 : decode (ix_by 69) 5 = .ok (.iconst 1, 1) := by decide +kernel
theorem d69_6 : decode (ix_by 69) 6 = .ok (.iadd, 1) := by decide +kernel
theorem d69_7 : decode (ix_by 69) 7 = .ok (.putfield 63, 3) := by decide +kernel
theorem d69_10 : decode (ix_by 69) 10 = .ok (.aload_n 0, 1) := by decide +kernel
theorem d69_11 : decode (ix_by 69) 11 = .ok (.aload_n 1, 1) := by decide +kernel
theorem d69_12 : decode (ix_by 69) 12 = .ok (.aload_n 0, 1) := by decide +kernel
theorem d69_13 : decode (ix_by 69) 13 = .ok (.getfield 9, 3) := by decide +kernel
theorem d69_16 : decode (ix_by 69) 16 = .ok (.aload_n 0, 1) := by decide +kernel
theorem d69_17 : decode (ix_by 69) 17 = .ok (.getfield 48, 3) := by decide +kernel
theorem d69_20 : decode (ix_by 69) 20 = .ok (.invokevirtual 131, 3) := by decide +kernel
theorem d69_23 : decode (ix_by 69) 23 = .ok (.iconst 1, 1) := by decide +kernel
theorem d69_24 : decode (ix_by 69) 24 = .ok (.ireturn, 1) := by decide +kernel
theorem d70_0 : decode (ix_by 70) 0 = .ok (.iload_n 3, 1) := by decide +kernel
theorem d70_1 : decode (ix_by 70) 1 = .ok (.aload_n 2, 1) := by decide +kernel
theorem d70_2 : decode (ix_by 70) 2 = .ok (.arraylength, 1) := by decide +kernel
theorem d70_3 : decode (ix_by 70) 3 = .ok (.if_icmp .ne 8, 3) := by decide +kernel
theorem d70_6 : decode (ix_by 70) 6 = .ok (.aload_n 0, 1) := by decide +kernel
theorem d70_7 : decode (ix_by 70) 7 = .ok (.invokevirtual 129, 3) := by decide +kernel
theorem d70_10 : decode (ix_by 70) 10 = .ok (.astore_n 2, 1) := by decide +kernel
theorem d70_11 : decode (ix_by 70) 11 = .ok (.aload_n 2, 1) := by decide +kernel
theorem d70_12 : decode (ix_by 70) 12 = .ok (.iload_n 3, 1) := by decide +kernel
theorem d70_13 : decode (ix_by 70) 13 = .ok (.aload_n 1, 1) := by decide +kernel
theorem d70_14 : decode (ix_by 70) 14 = .ok (.aastore, 1) := by decide +kernel
theorem d70_15 : decode (ix_by 70) 15 = .ok (.aload_n 0, 1) := by decide +kernel
theorem d70_16 : decode (ix_by 70) 16 = .ok (.iload_n 3, 1) := by decide +kernel
theorem d70_17 : decode (ix_by 70) 17 = .ok (.iconst 1, 1) := by decide +kernel
theorem d70_18 : decode (ix_by 70) 18 = .ok (.iadd, 1) := by decide +kernel
theorem d70_19 : decode (ix_by 70) 19 = .ok (.putfield 48, 3) := by decide +kernel
theorem d70_22 : decode (ix_by 70) 22 = .ok (.return_, 1) := by decide +kernel
theorem d71_0 : decode (ix_by 71) 0 = .ok (.aload_n 0, 1) := by decide +kernel
theorem d71_1 : decode (ix_by 71) 1 = .ok (.aload_n 0, 1) := by decide +kernel
theorem d71_2 : decode (ix_by 71) 2 = .ok (.getfield 48, 3) := by decide +kernel
theorem d71_5 : decode (ix_by 71) 5 = .ok (.iconst 1, 1) := by decide +kernel
theorem d71_6 : decode (ix_by 71) 6 = .ok (.iadd, 1) := by decide +kernel
theorem d71_7 : decode (ix_by 71) 7 = .ok (.invokevirtual 69, 3) := by decide +kernel
theorem d71_10 : decode (ix_by 71) 10 = .ok (.areturn, 1) := by decide +kernel
theorem d72_0 : decode (ix_by 72) 0 = .ok (.aload_n 0, 1) := by decide +kernel
theorem d72_1 : decode (ix_by 72) 1 = .ok (.getfield 9, 3) := by decide +kernel
theorem d72_4 : decode (ix_by 72) 4 = .ok (.arraylength, 1) := by decide +kernel
theorem d72_5 : decode (ix_by 72) 5 = .ok (.istore_n 2, 1) := by decide +kernel
theorem d72_6 : decode (ix_by 72) 6 = .ok (.iload_n 2, 1) := by decide +kernel
theorem d72_7 : decode (ix_by 72) 7 = .ok (.ifCond .gt 13, 3) := by decide +kernel
theorem d72_10 : decode (ix_by 72) 10 = .ok (.aload_n 0, 1) := by decide +kernel
theorem d72_11 : decode (ix_by 72) 11 = .ok (.getfield 9, 3) := by decide +kernel
theorem d72_14 : decode (ix_by 72) 14 = .ok (.getstatic 39, 3) := by decide +kernel
theorem d72_17 : decode (ix_by 72) 17 = .ok (.if_acmp .eq 28, 3) := by decide +kernel
theorem d72_20 : decode (ix_by 72) 20 = .ok (.iload_n 2, 1) := by decide +kernel
theorem d72_21 : decode (ix_by 72) 21 = .ok (.iload_n 1, 1) := by decide +kernel
theorem d72_22 : decode (ix_by 72) 22 = .ok (.iload_n 2, 1) := by decide +kernel
theorem d72_23 : decode (ix_by 72) 23 = .ok (.isub, 1) := by decide +kernel
theorem d72_24 : decode (ix_by 72) 24 = .ok (.iload_n 2, 1) := by decide +kernel
theorem d72_25 : decode (ix_by 72) 25 = .ok (.iconst 1, 1) := by decide +kernel
theorem d72_26 : decode (ix_by 72) 26 = .ok (.ishr, 1) := by decide +kernel
theorem d72_27 : decode (ix_by 72) 27 = .ok (.invokestatic 73, 3) := by decide +kernel
theorem d72_30 : decode (ix_by 72) 30 = .ok (.istore_n 3, 1) := by decide +kernel
theorem d72_31 : decode (ix_by 72) 31 = .ok (.aload_n 0, 1) := by decide +kernel
theorem d72_32 : decode (ix_by 72) 32 = .ok (.aload_n 0, 1) := by decide +kernel
theorem d72_33 : decode (ix_by 72) 33 = .ok (.getfield 9, 3) := by decide +kernel
theorem d72_36 : decode (ix_by 72) 36 = .ok (.iload_n 3, 1) := by decide +kernel
theorem d72_37 : decode (ix_by 72) 37 = .ok (.invokestatic 66, 3) := by decide +kernel
theorem d72_40 : decode (ix_by 72) 40 = .ok (.dup_x1, 1) := by decide +kernel
theorem d72_41 : decode (ix_by 72) 41 = .ok (.putfield 9, 3) := by decide +kernel
theorem d72_44 : decode (ix_by 72) 44 = .ok (.areturn, 1) := by decide +kernel
theorem d72_45 : decode (ix_by 72) 45 = .ok (.aload_n 0, 1) := by decide +kernel
theorem d72_46 : decode (ix_by 72) 46 = .ok (.bipush 10, 2) := by decide +kernel
theorem d72_48 : decode (ix_by 72) 48 = .ok (.iload_n 1, 1) := by decide +kernel
theorem d72_49 : decode (ix_by 72) 49 = .ok (.invokestatic 79, 3) := by decide +kernel
theorem d72_52 : decode (ix_by 72) 52 = .ok (.anewarray 7, 3) := by decide +kernel
theorem d72_55 : decode (ix_by 72) 55 = .ok (.dup_x1, 1) := by decide +kernel
theorem d72_56 : decode (ix_by 72) 56 = .ok (.putfield 9, 3) := by decide +kernel
theorem d72_59 : decode (ix_by 72) 59 = .ok (.areturn, 1) := by decide +kernel
theorem d73_0 : decode (ix_by 73) 0 = .ok (.iload_n 0, 1) := by decide +kernel
theorem d73_1 : decode (ix_by 73) 1 = .ok (.iload_n 1, 1) := by decide +kernel
theorem d73_2 : decode (ix_by 73) 2 = .ok (.iload_n 2, 1) := by decide +kernel
theorem d73_3 : decode (ix_by 73) 3 = .ok (.invokestatic 194, 3) := by decide +kernel
theorem d73_6 : decode (ix_by 73) 6 = .ok (.iadd, 1) := by decide +kernel
theorem d73_7 : decode (ix_by 73) 7 = .ok (.istore_n 3, 1) := by decide +kernel
theorem d73_8 : decode (ix_by 73) 8 = .ok (.iconst 0, 1) := by decide +kernel
theorem d73_9 : decode (ix_by 73) 9 = .ok (.iload_n 3, 1) := by decide +kernel
theorem d73_10 : decode (ix_by 73) 10 = .ok (.if_icmp .ge 11, 3) := by decide +kernel
theorem d73_13 : decode (ix_by 73) 13 = .ok (.iload_n 3, 1) := by decide +kernel
theorem d73_14 : decode (ix_by 73) 14 = .ok (.ldc 200, 2) := by decide +kernel
theorem d73_16 : decode (ix_by 73) 16 = .ok (.if_icmp .gt 5, 3) := by decide +kernel
theorem d73_19 : decode (ix_by 73) 19 = .ok (.iload_n 3, 1) := by decide +kernel
theorem d73_20 : decode (ix_by 73) 20 = .ok (.ireturn, 1) := by decide +kernel
theorem d73_21 : decode (ix_by 73) 21 = .ok (.iload_n 0, 1) := by decide +kernel
theorem d73_22 : decode (ix_by 73) 22 = .ok (.iload_n 1, 1) := by decide +kernel
theorem d73_23 : decode (ix_by 73) 23 = .ok (.invokestatic 201, 3) := by decide +kernel
theorem d73_26 : decode (ix_by 73) 26 = .ok (.ireturn, 1) := by decide +kernel
theorem d74_0 : decode (ix_by 74) 0 = .ok (.iload_n 0, 1) := by decide +kernel
theorem d74_1 : decode (ix_by 74) 1 = .ok (.iload_n 1, 1) := by decide +kernel
theorem d74_2 : decode (ix_by 74) 2 = .ok (.if_icmp .lt 7, 3) := by decide +kernel
theorem d74_5 : decode (ix_by 74) 5 = .ok (.iload_n 0, 1) := by decide +kernel
theorem d74_6 : decode (ix_by 74) 6 = .ok (.goto 4, 3) := by decide +kernel
theorem d74_9 : decode (ix_by 74) 9 = .ok (.iload_n 1, 1) := by decide +kernel
theorem d74_10 : decode (ix_by 74) 10 = .ok (.ireturn, 1) := by decide +kernel
theorem d75_0 : decode (ix_by 75) 0 = .ok (.iload_n 0, 1) := by decide +kernel
theorem d75_1 : decode (ix_by 75) 1 = .ok (.iload_n 1, 1) := by decide +kernel
theorem d75_2 : decode (ix_by 75) 2 = .ok (.iadd, 1) := by decide +kernel
theorem d75_3 : decode (ix_by 75) 3 = .ok (.istore_n 2, 1) := by decide +kernel
theorem d75_4 : decode (ix_by 75) 4 = .ok (.iload_n 2, 1) := by decide +kernel
theorem d75_5 : decode (ix_by 75) 5 = .ok (.ifCond .ge 44, 3) := by decide +kernel
theorem d75_8 : decode (ix_by 75) 8 = .ok (.new 204, 3) := by decide +kernel
theorem d75_11 : decode (ix_by 75) 11 = .ok (.dup, 1) := by decide +kernel
theorem d75_12 : decode (ix_by 75) 12 = .ok (.new 89, 3) := by decide +kernel
theorem d75_15 : decode (ix_by 75) 15 = .ok (.dup, 1) := by decide +kernel
theorem d75_16 : decode (ix_by 75) 16 = .ok (.invokespecial 91, 3) := by decide +kernel
theorem d75_19 : decode (ix_by 75) 19 = .ok (.ldc 206, 2) := by decide +kernel
theorem d75_21 : decode (ix_by 75) 21 = .ok (.invokevirtual 94, 3) := by decide +kernel
theorem d75_24 : decode (ix_by 75) 24 = .ok (.iload_n 0, 1) := by decide +kernel
theorem d75_25 : decode (ix_by 75) 25 = .ok (.invokevirtual 98, 3) := by decide +kernel
theorem d75_28 : decode (ix_by 75) 28 = .ok (.ldc 208, 2) := by decide +kernel
theorem d75_30 : decode (ix_by 75) 30 = .ok (.invokevirtual 94, 3) := by decide +kernel
theorem d75_33 : decode (ix_by 75) 33 = .ok (.iload_n 1, 1) := by decide +kernel
theorem d75_34 : decode (ix_by 75) 34 = .ok (.invokevirtual 98, 3) := by decide +kernel
theorem d75_37 : decode (ix_by 75) 37 = .ok (.ldc 210, 2) := by decide +kernel
theorem d75_39 : decode (ix_by 75) 39 = .ok (.invokevirtual 94, 3) := by decide +kernel
theorem d75_42 : decode (ix_by 75) 42 = .ok (.invokevirtual 101, 3) := by decide +kernel
theorem d75_45 : decode (ix_by 75) 45 = .ok (.invokespecial 212, 3) := by decide +kernel
theorem d75_48 : decode (ix_by 75) 48 = .ok (.athrow, 1) := by decide +kernel
theorem d75_49 : decode (ix_by 75) 49 = .ok (.iload_n 2, 1) := by decide +kernel
theorem d75_50 : decode (ix_by 75) 50 = .ok (.ldc 200, 2) := by decide +kernel
theorem d75_52 : decode (ix_by 75) 52 = .ok (.if_icmp .gt 6, 3) := by decide +kernel
theorem d75_55 : decode (ix_by 75) 55 = .ok (.ldc 200, 2) := by decide +kernel
theorem d75_57 : decode (ix_by 75) 57 = .ok (.ireturn, 1) := by decide +kernel
theorem d75_58 : decode (ix_by 75) 58 = .ok (.iload_n 2, 1) := by decide +kernel
theorem d75_59 : decode (ix_by 75) 59 = .ok (.ireturn, 1) := by decide +kernel
