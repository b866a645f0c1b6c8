/-! decode rows (written by wip/whole/gen4.py) -/
theorem d137_0 : decode (ix_by 137) 0 = .ok (.aload_n 0, 1) := by decide +kernel
theorem d137_1 : decode (ix_by 137) 1 = .ok (.getfield 38, 3) := by decide +kernel
theorem d137_4 : decode (ix_by 137) 4 = .ok (.iload_n 1, 1) := by decide +kernel
theorem d137_5 : decode (ix_by 137) 5 = .ok (.iload_n 2, 1) := by decide +kernel
theorem d137_6 : decode (ix_by 137) 6 = .ok (.iastore, 1) := by decide +kernel
theorem d137_7 : decode (ix_by 137) 7 = .ok (.iload_n 1, 1) := by decide +kernel
theorem d137_8 : decode (ix_by 137) 8 = .ok (.sipush 320, 3) := by decide +kernel
theorem d137_11 : decode (ix_by 137) 11 = .ok (.idiv, 1) := by decide +kernel
theorem d137_12 : decode (ix_by 137) 12 = .ok (.istore_n 3, 1) := by decide +kernel
theorem d137_13 : decode (ix_by 137) 13 = .ok (.iconst 0, 1) := by decide +kernel
theorem d137_14 : decode (ix_by 137) 14 = .ok (.istore 4, 2) := by decide +kernel
theorem d137_16 : decode (ix_by 137) 16 = .ok (.aload_n 0, 1) := by decide +kernel
theorem d137_17 : decode (ix_by 137) 17 = .ok (.getfield 119, 3) := by decide +kernel
theorem d137_20 : decode (ix_by 137) 20 = .ok (.iconst 3, 1) := by decide +kernel
theorem d137_21 : decode (ix_by 137) 21 = .ok (.iload_n 3, 1) := by decide +kernel
theorem d137_22 : decode (ix_by 137) 22 = .ok (.imul, 1) := by decide +kernel
theorem d137_23 : decode (ix_by 137) 23 = .ok (.iload 4, 2) := by decide +kernel
theorem d137_25 : decode (ix_by 137) 25 = .ok (.iadd, 1) := by decide +kernel
theorem d137_26 : decode (ix_by 137) 26 = .ok (.iaload, 1) := by decide +kernel
theorem d137_27 : decode (ix_by 137) 27 = .ok (.iload_n 1, 1) := by decide +kernel
theorem d137_28 : decode (ix_by 137) 28 = .ok (.if_icmp .eq 9, 3) := by decide +kernel
theorem d137_31 : decode (ix_by 137) 31 = .ok (.iinc 4 1, 3) := by decide +kernel
theorem d137_34 : decode (ix_by 137) 34 = .ok (.goto (-18), 3) := by decide +kernel
theorem d137_37 : decode (ix_by 137) 37 = .ok (.aload_n 0, 1) := by decide +kernel
theorem d137_38 : decode (ix_by 137) 38 = .ok (.getfield 125, 3) := by decide +kernel
theorem d137_41 : decode (ix_by 137) 41 = .ok (.iload_n 3, 1) := by decide +kernel
theorem d137_42 : decode (ix_by 137) 42 = .ok (.dup2, 1) := by decide +kernel
theorem d137_43 : decode (ix_by 137) 43 = .ok (.iaload, 1) := by decide +kernel
theorem d137_44 : decode (ix_by 137) 44 = .ok (.iconst 1, 1) := by decide +kernel
theorem d137_45 : decode (ix_by 137) 45 = .ok (.isub, 1) := by decide +kernel
theorem d137_46 : decode (ix_by 137) 46 = .ok (.iastore, 1) := by decide +kernel
theorem d137_47 : decode (ix_by 137) 47 = .ok (.iload 4, 2) := by decide +kernel
theorem d137_49 : decode (ix_by 137) 49 = .ok (.istore 5, 2) := by decide +kernel
theorem d137_51 : decode (ix_by 137) 51 = .ok (.iload 5, 2) := by decide +kernel
theorem d137_53 : decode (ix_by 137) 53 = .ok (.aload_n 0, 1) := by decide +kernel
theorem d137_54 : decode (ix_by 137) 54 = .ok (.getfield 125, 3) := by decide +kernel
theorem d137_57 : decode (ix_by 137) 57 = .ok (.iload_n 3, 1) := by decide +kernel
theorem d137_58 : decode (ix_by 137) 58 = .ok (.iaload, 1) := by decide +kernel
theorem d137_59 : decode (ix_by 137) 59 = .ok (.if_icmp .ge 33, 3) := by decide +kernel
theorem d137_62 : decode (ix_by 137) 62 = .ok (.aload_n 0, 1) := by decide +kernel
theorem d137_63 : decode (ix_by 137) 63 = .ok (.getfield 119, 3) := by decide +kernel
theorem d137_66 : decode (ix_by 137) 66 = .ok (.iconst 3, 1) := by decide +kernel
theorem d137_67 : decode (ix_by 137) 67 = .ok (.iload_n 3, 1) := by decide +kernel
theorem d137_68 : decode (ix_by 137) 68 = .ok (.imul, 1) := by decide +kernel
theorem d137_69 : decode (ix_by 137) 69 = .ok (.iload 5, 2) := by decide +kernel
theorem d137_71 : decode (ix_by 137) 71 = .ok (.iadd, 1) := by decide +kernel
theorem d137_72 : decode (ix_by 137) 72 = .ok (.aload_n 0, 1) := by decide +kernel
theorem d137_73 : decode (ix_by 137) 73 = .ok (.getfield 119, 3) := by decide +kernel
theorem d137_76 : decode (ix_by 137) 76 = .ok (.iconst 3, 1) := by decide +kernel
theorem d137_77 : decode (ix_by 137) 77 = .ok (.iload_n 3, 1) := by decide +kernel
theorem d137_78 : decode (ix_by 137) 78 = .ok (.imul, 1) := by decide +kernel
theorem d137_79 : decode (ix_by 137) 79 = .ok (.iload 5, 2) := by decide +kernel
theorem d137_81 : decode (ix_by 137) 81 = .ok (.iadd, 1) := by decide +kernel
theorem d137_82 : decode (ix_by 137) 82 = .ok (.iconst 1, 1) := by decide +kernel
theorem d137_83 : decode (ix_by 137) 83 = .ok (.iadd, 1) := by decide +kernel
theorem d137_84 : decode (ix_by 137) 84 = .ok (.iaload, 1) := by decide +kernel
theorem d137_85 : decode (ix_by 137) 85 = .ok (.iastore, 1) := by decide +kernel
theorem d137_86 : decode (ix_by 137) 86 = .ok (.iinc 5 1, 3) := by decide +kernel
theorem d137_89 : decode (ix_by 137) 89 = .ok (.goto (-38), 3) := by decide +kernel
theorem d137_92 : decode (ix_by 137) 92 = .ok (.return_, 1) := by decide +kernel
theorem d138_0 : decode (ix_by 138) 0 = .ok (.aload_n 0, 1) := by decide +kernel
theorem d138_1 : decode (ix_by 138) 1 = .ok (.iconst 1, 1) := by decide +kernel
theorem d138_2 : decode (ix_by 138) 2 = .ok (.iconst 1, 1) := by decide +kernel
theorem d138_3 : decode (ix_by 138) 3 = .ok (.iload_n 1, 1) := by decide +kernel
theorem d138_4 : decode (ix_by 138) 4 = .ok (.sipush 320, 3) := by decide +kernel
theorem d138_7 : decode (ix_by 138) 7 = .ok (.idiv, 1) := by decide +kernel
theorem d138_8 : decode (ix_by 138) 8 = .ok (.isub, 1) := by decide +kernel
theorem d138_9 : decode (ix_by 138) 9 = .ok (.iload_n 1, 1) := by decide +kernel
theorem d138_10 : decode (ix_by 138) 10 = .ok (.aload_n 0, 1) := by decide +kernel
theorem d138_11 : decode (ix_by 138) 11 = .ok (.getfield 29, 3) := by decide +kernel
theorem d138_14 : decode (ix_by 138) 14 = .ok (.iload_n 1, 1) := by decide +kernel
theorem d138_15 : decode (ix_by 138) 15 = .ok (.iaload, 1) := by decide +kernel
theorem d138_16 : decode (ix_by 138) 16 = .ok (.aload_n 0, 1) := by decide +kernel
theorem d138_17 : decode (ix_by 138) 17 = .ok (.getfield 32, 3) := by decide +kernel
theorem d138_20 : decode (ix_by 138) 20 = .ok (.iload_n 1, 1) := by decide +kernel
theorem d138_21 : decode (ix_by 138) 21 = .ok (.iaload, 1) := by decide +kernel
theorem d138_22 : decode (ix_by 138) 22 = .ok (.aload_n 0, 1) := by decide +kernel
theorem d138_23 : decode (ix_by 138) 23 = .ok (.getfield 35, 3) := by decide +kernel
theorem d138_26 : decode (ix_by 138) 26 = .ok (.iload_n 1, 1) := by decide +kernel
theorem d138_27 : decode (ix_by 138) 27 = .ok (.iaload, 1) := by decide +kernel
theorem d138_28 : decode (ix_by 138) 28 = .ok (.invokevirtual 177, 3) := by decide +kernel
theorem d138_31 : decode (ix_by 138) 31 = .ok (.ifCond .eq 27, 3) := by decide +kernel
theorem d138_34 : decode (ix_by 138) 34 = .ok (.aload_n 0, 1) := by decide +kernel
theorem d138_35 : decode (ix_by 138) 35 = .ok (.getfield 131, 3) := by decide +kernel
theorem d138_38 : decode (ix_by 138) 38 = .ok (.bipush 11, 2) := by decide +kernel
theorem d138_40 : decode (ix_by 138) 40 = .ok (.aload_n 0, 1) := by decide +kernel
theorem d138_41 : decode (ix_by 138) 41 = .ok (.getfield 171, 3) := by decide +kernel
theorem d138_44 : decode (ix_by 138) 44 = .ok (.imul, 1) := by decide +kernel
theorem d138_45 : decode (ix_by 138) 45 = .ok (.bipush 11, 2) := by decide +kernel
theorem d138_47 : decode (ix_by 138) 47 = .ok (.isub, 1) := by decide +kernel
theorem d138_48 : decode (ix_by 138) 48 = .ok (.bipush 6, 2) := by decide +kernel
theorem d138_50 : decode (ix_by 138) 50 = .ok (.iadd, 1) := by decide +kernel
theorem d138_51 : decode (ix_by 138) 51 = .ok (.aload_n 0, 1) := by decide +kernel
theorem d138_52 : decode (ix_by 138) 52 = .ok (.getfield 23, 3) := by decide +kernel
theorem d138_55 : decode (ix_by 138) 55 = .ok (.iload_n 1, 1) := by decide +kernel
theorem d138_56 : decode (ix_by 138) 56 = .ok (.iaload, 1) := by decide +kernel
theorem d138_57 : decode (ix_by 138) 57 = .ok (.iastore, 1) := by decide +kernel
theorem d138_58 : decode (ix_by 138) 58 = .ok (.return_, 1) := by decide +kernel
theorem d139_0 : decode (ix_by 139) 0 = .ok (.aload_n 0, 1) := by decide +kernel
theorem d139_1 : decode (ix_by 139) 1 = .ok (.iload_n 1, 1) := by decide +kernel
theorem d139_2 : decode (ix_by 139) 2 = .ok (.invokevirtual 181, 3) := by decide +kernel
theorem d139_5 : decode (ix_by 139) 5 = .ok (.istore_n 3, 1) := by decide +kernel
theorem d139_6 : decode (ix_by 139) 6 = .ok (.aload_n 0, 1) := by decide +kernel
theorem d139_7 : decode (ix_by 139) 7 = .ok (.getfield 13, 3) := by decide +kernel
theorem d139_10 : decode (ix_by 139) 10 = .ok (.iload_n 3, 1) := by decide +kernel
theorem d139_11 : decode (ix_by 139) 11 = .ok (.iaload, 1) := by decide +kernel
theorem d139_12 : decode (ix_by 139) 12 = .ok (.iconst 4, 1) := by decide +kernel
theorem d139_13 : decode (ix_by 139) 13 = .ok (.iload_n 2, 1) := by decide +kernel
theorem d139_14 : decode (ix_by 139) 14 = .ok (.imul, 1) := by decide +kernel
theorem d139_15 : decode (ix_by 139) 15 = .ok (.isub, 1) := by decide +kernel
theorem d139_16 : decode (ix_by 139) 16 = .ok (.iconst 4, 1) := by decide +kernel
theorem d139_17 : decode (ix_by 139) 17 = .ok (.if_icmp .ge 16, 3) := by decide +kernel
theorem d139_20 : decode (ix_by 139) 20 = .ok (.aload_n 0, 1) := by decide +kernel
theorem d139_21 : decode (ix_by 139) 21 = .ok (.getfield 13, 3) := by decide +kernel
theorem d139_24 : decode (ix_by 139) 24 = .ok (.iload_n 3, 1) := by decide +kernel
theorem d139_25 : decode (ix_by 139) 25 = .ok (.iaload, 1) := by decide +kernel
theorem d139_26 : decode (ix_by 139) 26 = .ok (.iconst 4, 1) := by decide +kernel
theorem d139_27 : decode (ix_by 139) 27 = .ok (.iload_n 2, 1) := by decide +kernel
theorem d139_28 : decode (ix_by 139) 28 = .ok (.imul, 1) := by decide +kernel
theorem d139_29 : decode (ix_by 139) 29 = .ok (.isub, 1) := by decide +kernel
theorem d139_30 : decode (ix_by 139) 30 = .ok (.goto 4, 3) := by decide +kernel
theorem d139_33 : decode (ix_by 139) 33 = .ok (.iconst 4, 1) := by decide +kernel
theorem d139_34 : decode (ix_by 139) 34 = .ok (.istore 4, 2) := by decide +kernel
theorem d139_36 : decode (ix_by 139) 36 = .ok (.aload_n 0, 1) := by decide +kernel
theorem d139_37 : decode (ix_by 139) 37 = .ok (.iconst 2, 1) := by decide +kernel
theorem d139_38 : decode (ix_by 139) 38 = .ok (.iconst 1, 1) := by decide +kernel
theorem d139_39 : decode (ix_by 139) 39 = .ok (.iload_n 1, 1) := by decide +kernel
theorem d139_40 : decode (ix_by 139) 40 = .ok (.sipush 320, 3) := by decide +kernel
theorem d139_43 : decode (ix_by 139) 43 = .ok (.idiv, 1) := by decide +kernel
theorem d139_44 : decode (ix_by 139) 44 = .ok (.isub, 1) := by decide +kernel
theorem d139_45 : decode (ix_by 139) 45 = .ok (.iload_n 1, 1) := by decide +kernel
theorem d139_46 : decode (ix_by 139) 46 = .ok (.iload_n 2, 1) := by decide +kernel
theorem d139_47 : decode (ix_by 139) 47 = .ok (.iload 4, 2) := by decide +kernel
theorem d139_49 : decode (ix_by 139) 49 = .ok (.aload_n 0, 1) := by decide +kernel
theorem d139_50 : decode (ix_by 139) 50 = .ok (.iload_n 3, 1) := by decide +kernel
theorem d139_51 : decode (ix_by 139) 51 = .ok (.iload_n 2, 1) := by decide +kernel
theorem d139_52 : decode (ix_by 139) 52 = .ok (.invokevirtual 167, 3) := by decide +kernel
theorem d139_55 : decode (ix_by 139) 55 = .ok (.invokevirtual 177, 3) := by decide +kernel
theorem d139_58 : decode (ix_by 139) 58 = .ok (.ifCond .eq 27, 3) := by decide +kernel
theorem d139_61 : decode (ix_by 139) 61 = .ok (.aload_n 0, 1) := by decide +kernel
theorem d139_62 : decode (ix_by 139) 62 = .ok (.getfield 131, 3) := by decide +kernel
theorem d139_65 : decode (ix_by 139) 65 = .ok (.bipush 11, 2) := by decide +kernel
theorem d139_67 : decode (ix_by 139) 67 = .ok (.aload_n 0, 1) := by decide +kernel
theorem d139_68 : decode (ix_by 139) 68 = .ok (.getfield 171, 3) := by decide +kernel
theorem d139_71 : decode (ix_by 139) 71 = .ok (.imul, 1) := by decide +kernel
theorem d139_72 : decode (ix_by 139) 72 = .ok (.bipush 11, 2) := by decide +kernel
theorem d139_74 : decode (ix_by 139) 74 = .ok (.isub, 1) := by decide +kernel
theorem d139_75 : decode (ix_by 139) 75 = .ok (.bipush 6, 2) := by decide +kernel
theorem d139_77 : decode (ix_by 139) 77 = .ok (.iadd, 1) := by decide +kernel
theorem d139_78 : decode (ix_by 139) 78 = .ok (.aload_n 0, 1) := by decide +kernel
theorem d139_79 : decode (ix_by 139) 79 = .ok (.getfield 23, 3) := by decide +kernel
theorem d139_82 : decode (ix_by 139) 82 = .ok (.iload_n 1, 1) := by decide +kernel
theorem d139_83 : decode (ix_by 139) 83 = .ok (.iaload, 1) := by decide +kernel
theorem d139_84 : decode (ix_by 139) 84 = .ok (.iastore, 1) := by decide +kernel
theorem d139_85 : decode (ix_by 139) 85 = .ok (.return_, 1) := by decide +kernel
theorem d140_0 : decode (ix_by 140) 0 = .ok (.aload_n 0, 1) := by decide +kernel
theorem d140_1 : decode (ix_by 140) 1 = .ok (.getfield 56, 3) := by decide +kernel
theorem d140_4 : decode (ix_by 140) 4 = .ok (.iload_n 1, 1) := by decide +kernel
theorem d140_5 : decode (ix_by 140) 5 = .ok (.iaload, 1) := by decide +kernel
theorem d140_6 : decode (ix_by 140) 6 = .ok (.bipush 16, 2) := by decide +kernel
theorem d140_8 : decode (ix_by 140) 8 = .ok (.ishr, 1) := by decide +kernel
theorem d140_9 : decode (ix_by 140) 9 = .ok (.iconst 1, 1) := by decide +kernel
theorem d140_10 : decode (ix_by 140) 10 = .ok (.iand, 1) := by decide +kernel
theorem d140_11 : decode (ix_by 140) 11 = .ok (.iconst 1, 1) := by decide +kernel
theorem d140_12 : decode (ix_by 140) 12 = .ok (.if_icmp .ne 24, 3) := by decide +kernel
theorem d140_15 : decode (ix_by 140) 15 = .ok (.aload_n 0, 1) := by decide +kernel
theorem d140_16 : decode (ix_by 140) 16 = .ok (.getfield 56, 3) := by decide +kernel
theorem d140_19 : decode (ix_by 140) 19 = .ok (.iload_n 1, 1) := by decide +kernel
theorem d140_20 : decode (ix_by 140) 20 = .ok (.aload_n 0, 1) := by decide +kernel
theorem d140_21 : decode (ix_by 140) 21 = .ok (.getfield 56, 3) := by decide +kernel
theorem d140_24 : decode (ix_by 140) 24 = .ok (.iload_n 1, 1) := by decide +kernel
theorem d140_25 : decode (ix_by 140) 25 = .ok (.iaload, 1) := by decide +kernel
theorem d140_26 : decode (ix_by 140) 26 = .ok (.ldc 204, 2) := by decide +kernel
theorem d140_28 : decode (ix_by 140) 28 = .ok (.iand, 1) := by decide +kernel
theorem d140_29 : decode (ix_by 140) 29 = .ok (.iastore, 1) := by decide +kernel
theorem d140_30 : decode (ix_by 140) 30 = .ok (.aload_n 0, 1) := by decide +kernel
theorem d140_31 : decode (ix_by 140) 31 = .ok (.iload_n 1, 1) := by decide +kernel
theorem d140_32 : decode (ix_by 140) 32 = .ok (.invokevirtual 195, 3) := by decide +kernel
theorem d140_35 : decode (ix_by 140) 35 = .ok (.return_, 1) := by decide +kernel
theorem d140_36 : decode (ix_by 140) 36 = .ok (.iconst 0, 1) := by decide +kernel
theorem d140_37 : decode (ix_by 140) 37 = .ok (.istore_n 2, 1) := by decide +kernel
theorem d140_38 : decode (ix_by 140) 38 = .ok (.aload_n 0, 1) := by decide +kernel
theorem d140_39 : decode (ix_by 140) 39 = .ok (.getfield 56, 3) := by decide +kernel
theorem d140_42 : decode (ix_by 140) 42 = .ok (.iload_n 1, 1) := by decide +kernel
theorem d140_43 : decode (ix_by 140) 43 = .ok (.iaload, 1) := by decide +kernel
theorem d140_44 : decode (ix_by 140) 44 = .ok (.iload_n 2, 1) := by decide +kernel
theorem d140_45 : decode (ix_by 140) 45 = .ok (.ishr, 1) := by decide +kernel
theorem d140_46 : decode (ix_by 140) 46 = .ok (.iconst 1, 1) := by decide +kernel
theorem d140_47 : decode (ix_by 140) 47 = .ok (.iand, 1) := by decide +kernel
theorem d140_48 : decode (ix_by 140) 48 = .ok (.ifCond .ne 9, 3) := by decide +kernel
theorem d140_51 : decode (ix_by 140) 51 = .ok (.iinc 2 1, 3) := by decide +kernel
theorem d140_54 : decode (ix_by 140) 54 = .ok (.goto (-16), 3) := by decide +kernel
theorem d140_57 : decode (ix_by 140) 57 = .ok (.aload_n 0, 1) := by decide +kernel
theorem d140_58 : decode (ix_by 140) 58 = .ok (.getfield 56, 3) := by decide +kernel
theorem d140_61 : decode (ix_by 140) 61 = .ok (.iload_n 1, 1) := by decide +kernel
theorem d140_62 : decode (ix_by 140) 62 = .ok (.aload_n 0, 1) := by decide +kernel
theorem d140_63 : decode (ix_by 140) 63 = .ok (.getfield 56, 3) := by decide +kernel
theorem d140_66 : decode (ix_by 140) 66 = .ok (.iload_n 1, 1) := by decide +kernel
theorem d140_67 : decode (ix_by 140) 67 = .ok (.iaload, 1) := by decide +kernel
theorem d140_68 : decode (ix_by 140) 68 = .ok (.iconst 1, 1) := by decide +kernel
theorem d140_69 : decode (ix_by 140) 69 = .ok (.iload_n 2, 1) := by decide +kernel
theorem d140_70 : decode (ix_by 140) 70 = .ok (.ishl, 1) := by decide +kernel
theorem d140_71 : decode (ix_by 140) 71 = .ok (.iconst (-1), 1) := by decide +kernel
theorem d140_72 : decode (ix_by 140) 72 = .ok (.ixor, 1) := by decide +kernel
theorem d140_73 : decode (ix_by 140) 73 = .ok (.iand, 1) := by decide +kernel
theorem d140_74 : decode (ix_by 140) 74 = .ok (.iastore, 1) := by decide +kernel
theorem d140_75 : decode (ix_by 140) 75 = .ok (.aload_n 0, 1) := by decide +kernel
theorem d140_76 : decode (ix_by 140) 76 = .ok (.iload_n 1, 1) := by decide +kernel
theorem d140_77 : decode (ix_by 140) 77 = .ok (.iload_n 2, 1) := by decide +kernel
theorem d140_78 : decode (ix_by 140) 78 = .ok (.invokevirtual 198, 3) := by decide +kernel
theorem d140_81 : decode (ix_by 140) 81 = .ok (.return_, 1) := by decide +kernel
theorem d141_0 : decode (ix_by 141) 0 = .ok (.aload_n 0, 1) := by decide +kernel
theorem d141_1 : decode (ix_by 141) 1 = .ok (.getfield 23, 3) := by decide +kernel
theorem d141_4 : decode (ix_by 141) 4 = .ok (.iload_n 1, 1) := by decide +kernel
theorem d141_5 : decode (ix_by 141) 5 = .ok (.iaload, 1) := by decide +kernel
theorem d141_6 : decode (ix_by 141) 6 = .ok (.istore_n 2, 1) := by decide +kernel
theorem d141_7 : decode (ix_by 141) 7 = .ok (.aload_n 0, 1) := by decide +kernel
theorem d141_8 : decode (ix_by 141) 8 = .ok (.getfield 68, 3) := by decide +kernel
theorem d141_11 : decode (ix_by 141) 11 = .ok (.iload_n 1, 1) := by decide +kernel
theorem d141_12 : decode (ix_by 141) 12 = .ok (.iaload, 1) := by decide +kernel
theorem d141_13 : decode (ix_by 141) 13 = .ok (.bipush 6, 2) := by decide +kernel
theorem d141_15 : decode (ix_by 141) 15 = .ok (.if_icmp .ne 69, 3) := by decide +kernel
theorem d141_18 : decode (ix_by 141) 18 = .ok (.aload_n 0, 1) := by decide +kernel
theorem d141_19 : decode (ix_by 141) 19 = .ok (.getfield 234, 3) := by decide +kernel
theorem d141_22 : decode (ix_by 141) 22 = .ok (.aload_n 0, 1) := by decide +kernel
theorem d141_23 : decode (ix_by 141) 23 = .ok (.getfield 89, 3) := by decide +kernel
theorem d141_26 : decode (ix_by 141) 26 = .ok (.aload_n 0, 1) := by decide +kernel
theorem d141_27 : decode (ix_by 141) 27 = .ok (.getfield 74, 3) := by decide +kernel
theorem d141_30 : decode (ix_by 141) 30 = .ok (.iload_n 1, 1) := by decide +kernel
theorem d141_31 : decode (ix_by 141) 31 = .ok (.iaload, 1) := by decide +kernel
theorem d141_32 : decode (ix_by 141) 32 = .ok (.iaload, 1) := by decide +kernel
theorem d141_33 : decode (ix_by 141) 33 = .ok (.isub, 1) := by decide +kernel
theorem d141_34 : decode (ix_by 141) 34 = .ok (.aload_n 0, 1) := by decide +kernel
theorem d141_35 : decode (ix_by 141) 35 = .ok (.getfield 140, 3) := by decide +kernel
theorem d141_38 : decode (ix_by 141) 38 = .ok (.if_icmp .ge 4, 3) := by decide +kernel
theorem d141_41 : decode (ix_by 141) 41 = .ok (.return_, 1) := by decide +kernel
theorem d141_42 : decode (ix_by 141) 42 = .ok (.aload_n 0, 1) := by decide +kernel
theorem d141_43 : decode (ix_by 141) 43 = .ok (.getfield 86, 3) := by decide +kernel
theorem d141_46 : decode (ix_by 141) 46 = .ok (.aload_n 0, 1) := by decide +kernel
theorem d141_47 : decode (ix_by 141) 47 = .ok (.getfield 74, 3) := by decide +kernel
theorem d141_50 : decode (ix_by 141) 50 = .ok (.iload_n 1, 1) := by decide +kernel
theorem d141_51 : decode (ix_by 141) 51 = .ok (.iaload, 1) := by decide +kernel
theorem d141_52 : decode (ix_by 141) 52 = .ok (.iaload, 1) := by decide +kernel
theorem d141_53 : decode (ix_by 141) 53 = .ok (.iconst 3, 1) := by decide +kernel
theorem d141_54 : decode (ix_by 141) 54 = .ok (.if_icmp .ne 22, 3) := by decide +kernel
theorem d141_57 : decode (ix_by 141) 57 = .ok (.aload_n 0, 1) := by decide +kernel
theorem d141_58 : decode (ix_by 141) 58 = .ok (.iload_n 1, 1) := by decide +kernel
theorem d141_59 : decode (ix_by 141) 59 = .ok (.aload_n 0, 1) := by decide +kernel
theorem d141_60 : decode (ix_by 141) 60 = .ok (.getfield 77, 3) := by decide +kernel
theorem d141_63 : decode (ix_by 141) 63 = .ok (.aload_n 0, 1) := by decide +kernel
theorem d141_64 : decode (ix_by 141) 64 = .ok (.getfield 74, 3) := by decide +kernel
theorem d141_67 : decode (ix_by 141) 67 = .ok (.iload_n 1, 1) := by decide +kernel
theorem d141_68 : decode (ix_by 141) 68 = .ok (.iaload, 1) := by decide +kernel
theorem d141_69 : decode (ix_by 141) 69 = .ok (.iaload, 1) := by decide +kernel
theorem d141_70 : decode (ix_by 141) 70 = .ok (.invokevirtual 209, 3) := by decide +kernel
theorem d141_73 : decode (ix_by 141) 73 = .ok (.goto 151, 3) := by decide +kernel
theorem d141_76 : decode (ix_by 141) 76 = .ok (.aload_n 0, 1) := by decide +kernel
theorem d141_77 : decode (ix_by 141) 77 = .ok (.iload_n 1, 1) := by decide +kernel
theorem d141_78 : decode (ix_by 141) 78 = .ok (.invokevirtual 231, 3) := by decide +kernel
theorem d141_81 : decode (ix_by 141) 81 = .ok (.goto 143, 3) := by decide +kernel
theorem d141_84 : decode (ix_by 141) 84 = .ok (.aload_n 0, 1) := by decide +kernel
theorem d141_85 : decode (ix_by 141) 85 = .ok (.getfield 110, 3) := by decide +kernel
theorem d141_88 : decode (ix_by 141) 88 = .ok (.aload_n 0, 1) := by decide +kernel
theorem d141_89 : decode (ix_by 141) 89 = .ok (.getfield 74, 3) := by decide +kernel
theorem d141_92 : decode (ix_by 141) 92 = .ok (.iload_n 1, 1) := by decide +kernel
theorem d141_93 : decode (ix_by 141) 93 = .ok (.iaload, 1) := by decide +kernel
theorem d141_94 : decode (ix_by 141) 94 = .ok (.baload, 1) := by decide +kernel
theorem d141_95 : decode (ix_by 141) 95 = .ok (.ifCond .ne 37, 3) := by decide +kernel
theorem d141_98 : decode (ix_by 141) 98 = .ok (.aload_n 0, 1) := by decide +kernel
theorem d141_99 : decode (ix_by 141) 99 = .ok (.getfield 234, 3) := by decide +kernel
theorem d141_102 : decode (ix_by 141) 102 = .ok (.aload_n 0, 1) := by decide +kernel
theorem d141_103 : decode (ix_by 141) 103 = .ok (.getfield 92, 3) := by decide +kernel
theorem d141_106 : decode (ix_by 141) 106 = .ok (.aload_n 0, 1) := by decide +kernel
theorem d141_107 : decode (ix_by 141) 107 = .ok (.getfield 74, 3) := by decide +kernel
theorem d141_110 : decode (ix_by 141) 110 = .ok (.iload_n 1, 1) := by decide +kernel
theorem d141_111 : decode (ix_by 141) 111 = .ok (.iaload, 1) := by decide +kernel
theorem d141_112 : decode (ix_by 141) 112 = .ok (.iaload, 1) := by decide +kernel
theorem d141_113 : decode (ix_by 141) 113 = .ok (.isub, 1) := by decide +kernel
theorem d141_114 : decode (ix_by 141) 114 = .ok (.iconst 4, 1) := by decide +kernel
theorem d141_115 : decode (ix_by 141) 115 = .ok (.aload_n 0, 1) := by decide +kernel
theorem d141_116 : decode (ix_by 141) 116 = .ok (.getfield 140, 3) := by decide +kernel
theorem d141_119 : decode (ix_by 141) 119 = .ok (.imul, 1) := by decide +kernel
theorem d141_120 : decode (ix_by 141) 120 = .ok (.if_icmp .lt 104, 3) := by decide +kernel
theorem d141_123 : decode (ix_by 141) 123 = .ok (.aload_n 0, 1) := by decide +kernel
theorem d141_124 : decode (ix_by 141) 124 = .ok (.iload_n 1, 1) := by decide +kernel
theorem d141_125 : decode (ix_by 141) 125 = .ok (.iconst 3, 1) := by decide +kernel
theorem d141_126 : decode (ix_by 141) 126 = .ok (.invokevirtual 209, 3) := by decide +kernel
theorem d141_129 : decode (ix_by 141) 129 = .ok (.goto 95, 3) := by decide +kernel
theorem d141_132 : decode (ix_by 141) 132 = .ok (.iload_n 2, 1) := by decide +kernel
theorem d141_133 : decode (ix_by 141) 133 = .ok (.iconst 1, 1) := by decide +kernel
theorem d141_134 : decode (ix_by 141) 134 = .ok (.if_icmp .ne 37, 3) := by decide +kernel
theorem d141_137 : decode (ix_by 141) 137 = .ok (.aload_n 0, 1) := by decide +kernel
theorem d141_138 : decode (ix_by 141) 138 = .ok (.getfield 234, 3) := by decide +kernel
theorem d141_141 : decode (ix_by 141) 141 = .ok (.aload_n 0, 1) := by decide +kernel
theorem d141_142 : decode (ix_by 141) 142 = .ok (.getfield 89, 3) := by decide +kernel
theorem d141_145 : decode (ix_by 141) 145 = .ok (.aload_n 0, 1) := by decide +kernel
theorem d141_146 : decode (ix_by 141) 146 = .ok (.getfield 74, 3) := by decide +kernel
theorem d141_149 : decode (ix_by 141) 149 = .ok (.iload_n 1, 1) := by decide +kernel
theorem d141_150 : decode (ix_by 141) 150 = .ok (.iaload, 1) := by decide +kernel
theorem d141_151 : decode (ix_by 141) 151 = .ok (.iaload, 1) := by decide +kernel
theorem d141_152 : decode (ix_by 141) 152 = .ok (.isub, 1) := by decide +kernel
theorem d141_153 : decode (ix_by 141) 153 = .ok (.iconst 2, 1) := by decide +kernel
theorem d141_154 : decode (ix_by 141) 154 = .ok (.aload_n 0, 1) := by decide +kernel
theorem d141_155 : decode (ix_by 141) 155 = .ok (.getfield 140, 3) := by decide +kernel
theorem d141_158 : decode (ix_by 141) 158 = .ok (.imul, 1) := by decide +kernel
theorem d141_159 : decode (ix_by 141) 159 = .ok (.if_icmp .lt 65, 3) := by decide +kernel
theorem d141_162 : decode (ix_by 141) 162 = .ok (.aload_n 0, 1) := by decide +kernel
theorem d141_163 : decode (ix_by 141) 163 = .ok (.iload_n 1, 1) := by decide +kernel
theorem d141_164 : decode (ix_by 141) 164 = .ok (.iconst 3, 1) := by decide +kernel
theorem d141_165 : decode (ix_by 141) 165 = .ok (.invokevirtual 209, 3) := by decide +kernel
theorem d141_168 : decode (ix_by 141) 168 = .ok (.goto 56, 3) := by decide +kernel
theorem d141_171 : decode (ix_by 141) 171 = .ok (.aload_n 0, 1) := by decide +kernel
theorem d141_172 : decode (ix_by 141) 172 = .ok (.getfield 234, 3) := by decide +kernel
theorem d141_175 : decode (ix_by 141) 175 = .ok (.aload_n 0, 1) := by decide +kernel
theorem d141_176 : decode (ix_by 141) 176 = .ok (.getfield 89, 3) := by decide +kernel
theorem d141_179 : decode (ix_by 141) 179 = .ok (.aload_n 0, 1) := by decide +kernel
theorem d141_180 : decode (ix_by 141) 180 = .ok (.getfield 74, 3) := by decide +kernel
theorem d141_183 : decode (ix_by 141) 183 = .ok (.iload_n 1, 1) := by decide +kernel
theorem d141_184 : decode (ix_by 141) 184 = .ok (.iaload, 1) := by decide +kernel
theorem d141_185 : decode (ix_by 141) 185 = .ok (.iaload, 1) := by decide +kernel
theorem d141_186 : decode (ix_by 141) 186 = .ok (.isub, 1) := by decide +kernel
theorem d141_187 : decode (ix_by 141) 187 = .ok (.aload_n 0, 1) := by decide +kernel
theorem d141_188 : decode (ix_by 141) 188 = .ok (.getfield 140, 3) := by decide +kernel
theorem d141_191 : decode (ix_by 141) 191 = .ok (.if_icmp .lt 33, 3) := by decide +kernel
theorem d141_194 : decode (ix_by 141) 194 = .ok (.aload_n 0, 1) := by decide +kernel
theorem d141_195 : decode (ix_by 141) 195 = .ok (.getfield 86, 3) := by decide +kernel
theorem d141_198 : decode (ix_by 141) 198 = .ok (.aload_n 0, 1) := by decide +kernel
theorem d141_199 : decode (ix_by 141) 199 = .ok (.getfield 74, 3) := by decide +kernel
theorem d141_202 : decode (ix_by 141) 202 = .ok (.iload_n 1, 1) := by decide +kernel
theorem d141_203 : decode (ix_by 141) 203 = .ok (.iaload, 1) := by decide +kernel
theorem d141_204 : decode (ix_by 141) 204 = .ok (.iaload, 1) := by decide +kernel
theorem d141_205 : decode (ix_by 141) 205 = .ok (.iconst 3, 1) := by decide +kernel
theorem d141_206 : decode (ix_by 141) 206 = .ok (.if_icmp .ne 13, 3) := by decide +kernel
theorem d141_209 : decode (ix_by 141) 209 = .ok (.aload_n 0, 1) := by decide +kernel
theorem d141_210 : decode (ix_by 141) 210 = .ok (.iload_n 1, 1) := by decide +kernel
theorem d141_211 : decode (ix_by 141) 211 = .ok (.iconst 3, 1) := by decide +kernel
theorem d141_212 : decode (ix_by 141) 212 = .ok (.iconst 2, 1) := by decide +kernel
theorem d141_213 : decode (ix_by 141) 213 = .ok (.invokevirtual 218, 3) := by decide +kernel
theorem d141_216 : decode (ix_by 141) 216 = .ok (.goto 8, 3) := by decide +kernel
theorem d141_219 : decode (ix_by 141) 219 = .ok (.aload_n 0, 1) := by decide +kernel
theorem d141_220 : decode (ix_by 141) 220 = .ok (.iload_n 1, 1) := by decide +kernel
theorem d141_221 : decode (ix_by 141) 221 = .ok (.invokevirtual 228, 3) := by decide +kernel
theorem d141_224 : decode (ix_by 141) 224 = .ok (.return_, 1) := by decide +kernel
theorem d142_0 : decode (ix_by 142) 0 = .ok (.aload_n 0, 1) := by decide +kernel
theorem d142_1 : decode (ix_by 142) 1 = .ok (.getfield 68, 3) := by decide +kernel
theorem d142_4 : decode (ix_by 142) 4 = .ok (.iload_n 1, 1) := by decide +kernel
theorem d142_5 : decode (ix_by 142) 5 = .ok (.iload_n 2, 1) := by decide +kernel
theorem d142_6 : decode (ix_by 142) 6 = .ok (.iastore, 1) := by decide +kernel
theorem d142_7 : decode (ix_by 142) 7 = .ok (.aload_n 0, 1) := by decide +kernel
theorem d142_8 : decode (ix_by 142) 8 = .ok (.getfield 104, 3) := by decide +kernel
theorem d142_11 : decode (ix_by 142) 11 = .ok (.aload_n 0, 1) := by decide +kernel
theorem d142_12 : decode (ix_by 142) 12 = .ok (.getfield 74, 3) := by decide +kernel
theorem d142_15 : decode (ix_by 142) 15 = .ok (.iload_n 1, 1) := by decide +kernel
theorem d142_16 : decode (ix_by 142) 16 = .ok (.iaload, 1) := by decide +kernel
theorem d142_17 : decode (ix_by 142) 17 = .ok (.iconst 0, 1) := by decide +kernel
theorem d142_18 : decode (ix_by 142) 18 = .ok (.bastore, 1) := by decide +kernel
theorem d142_19 : decode (ix_by 142) 19 = .ok (.iconst 1, 1) := by decide +kernel
theorem d142_20 : decode (ix_by 142) 20 = .ok (.iload_n 1, 1) := by decide +kernel
theorem d142_21 : decode (ix_by 142) 21 = .ok (.sipush 320, 3) := by decide +kernel
theorem d142_24 : decode (ix_by 142) 24 = .ok (.idiv, 1) := by decide +kernel
theorem d142_25 : decode (ix_by 142) 25 = .ok (.isub, 1) := by decide +kernel
theorem d142_26 : decode (ix_by 142) 26 = .ok (.istore_n 3, 1) := by decide +kernel
theorem d142_27 : decode (ix_by 142) 27 = .ok (.iconst 0, 1) := by decide +kernel
theorem d142_28 : decode (ix_by 142) 28 = .ok (.istore 4, 2) := by decide +kernel
theorem d142_30 : decode (ix_by 142) 30 = .ok (.aload_n 0, 1) := by decide +kernel
theorem d142_31 : decode (ix_by 142) 31 = .ok (.getfield 122, 3) := by decide +kernel
theorem d142_34 : decode (ix_by 142) 34 = .ok (.iconst 3, 1) := by decide +kernel
theorem d142_35 : decode (ix_by 142) 35 = .ok (.iload_n 3, 1) := by decide +kernel
theorem d142_36 : decode (ix_by 142) 36 = .ok (.imul, 1) := by decide +kernel
theorem d142_37 : decode (ix_by 142) 37 = .ok (.iload 4, 2) := by decide +kernel
theorem d142_39 : decode (ix_by 142) 39 = .ok (.iadd, 1) := by decide +kernel
theorem d142_40 : decode (ix_by 142) 40 = .ok (.iaload, 1) := by decide +kernel
theorem d142_41 : decode (ix_by 142) 41 = .ok (.iload_n 1, 1) := by decide +kernel
theorem d142_42 : decode (ix_by 142) 42 = .ok (.if_icmp .eq 9, 3) := by decide +kernel
theorem d142_45 : decode (ix_by 142) 45 = .ok (.iinc 4 1, 3) := by decide +kernel
theorem d142_48 : decode (ix_by 142) 48 = .ok (.goto (-18), 3) := by decide +kernel
theorem d142_51 : decode (ix_by 142) 51 = .ok (.aload_n 0, 1) := by decide +kernel
theorem d142_52 : decode (ix_by 142) 52 = .ok (.getfield 128, 3) := by decide +kernel
theorem d142_55 : decode (ix_by 142) 55 = .ok (.iload_n 3, 1) := by decide +kernel
theorem d142_56 : decode (ix_by 142) 56 = .ok (.dup2, 1) := by decide +kernel
theorem d142_57 : decode (ix_by 142) 57 = .ok (.iaload, 1) := by decide +kernel
theorem d142_58 : decode (ix_by 142) 58 = .ok (.iconst 1, 1) := by decide +kernel
theorem d142_59 : decode (ix_by 142) 59 = .ok (.isub, 1) := by decide +kernel
theorem d142_60 : decode (ix_by 142) 60 = .ok (.iastore, 1) := by decide +kernel
theorem d142_61 : decode (ix_by 142) 61 = .ok (.iload 4, 2) := by decide +kernel
theorem d142_63 : decode (ix_by 142) 63 = .ok (.istore 5, 2) := by decide +kernel
theorem d142_65 : decode (ix_by 142) 65 = .ok (.iload 5, 2) := by decide +kernel
theorem d142_67 : decode (ix_by 142) 67 = .ok (.aload_n 0, 1) := by decide +kernel
theorem d142_68 : decode (ix_by 142) 68 = .ok (.getfield 128, 3) := by decide +kernel
theorem d142_71 : decode (ix_by 142) 71 = .ok (.iload_n 3, 1) := by decide +kernel
theorem d142_72 : decode (ix_by 142) 72 = .ok (.iaload, 1) := by decide +kernel
theorem d142_73 : decode (ix_by 142) 73 = .ok (.if_icmp .ge 33, 3) := by decide +kernel
theorem d142_76 : decode (ix_by 142) 76 = .ok (.aload_n 0, 1) := by decide +kernel
theorem d142_77 : decode (ix_by 142) 77 = .ok (.getfield 122, 3) := by decide +kernel
theorem d142_80 : decode (ix_by 142) 80 = .ok (.iconst 3, 1) := by decide +kernel
theorem d142_81 : decode (ix_by 142) 81 = .ok (.iload_n 3, 1) := by decide +kernel
theorem d142_82 : decode (ix_by 142) 82 = .ok (.imul, 1) := by decide +kernel
theorem d142_83 : decode (ix_by 142) 83 = .ok (.iload 5, 2) := by decide +kernel
theorem d142_85 : decode (ix_by 142) 85 = .ok (.iadd, 1) := by decide +kernel
theorem d142_86 : decode (ix_by 142) 86 = .ok (.aload_n 0, 1) := by decide +kernel
theorem d142_87 : decode (ix_by 142) 87 = .ok (.getfield 122, 3) := by decide +kernel
theorem d142_90 : decode (ix_by 142) 90 = .ok (.iconst 3, 1) := by decide +kernel
theorem d142_91 : decode (ix_by 142) 91 = .ok (.iload_n 3, 1) := by decide +kernel
theorem d142_92 : decode (ix_by 142) 92 = .ok (.imul, 1) := by decide +kernel
theorem d142_93 : decode (ix_by 142) 93 = .ok (.iload 5, 2) := by decide +kernel
theorem d142_95 : decode (ix_by 142) 95 = .ok (.iadd, 1) := by decide +kernel
theorem d142_96 : decode (ix_by 142) 96 = .ok (.iconst 1, 1) := by decide +kernel
theorem d142_97 : decode (ix_by 142) 97 = .ok (.iadd, 1) := by decide +kernel
theorem d142_98 : decode (ix_by 142) 98 = .ok (.iaload, 1) := by decide +kernel
theorem d142_99 : decode (ix_by 142) 99 = .ok (.iastore, 1) := by decide +kernel
theorem d142_100 : decode (ix_by 142) 100 = .ok (.iinc 5 1, 3) := by decide +kernel
theorem d142_103 : decode (ix_by 142) 103 = .ok (.goto (-38), 3) := by decide +kernel
theorem d142_106 : decode (ix_by 142) 106 = .ok (.return_, 1) := by decide +kernel
theorem d143_0 : decode (ix_by 143) 0 = .ok (.aload_n 0, 1) := by decide +kernel
theorem d143_1 : decode (ix_by 143) 1 = .ok (.iconst 4, 1) := by decide +kernel
theorem d143_2 : decode (ix_by 143) 2 = .ok (.iload_n 1, 1) := by decide +kernel
theorem d143_3 : decode (ix_by 143) 3 = .ok (.sipush 320, 3) := by decide +kernel
theorem d143_6 : decode (ix_by 143) 6 = .ok (.idiv, 1) := by decide +kernel
theorem d143_7 : decode (ix_by 143) 7 = .ok (.iload_n 1, 1) := by decide +kernel
theorem d143_8 : decode (ix_by 143) 8 = .ok (.aload_n 0, 1) := by decide +kernel
theorem d143_9 : decode (ix_by 143) 9 = .ok (.getfield 77, 3) := by decide +kernel
theorem d143_12 : decode (ix_by 143) 12 = .ok (.aload_n 0, 1) := by decide +kernel
theorem d143_13 : decode (ix_by 143) 13 = .ok (.getfield 74, 3) := by decide +kernel
theorem d143_16 : decode (ix_by 143) 16 = .ok (.iload_n 1, 1) := by decide +kernel
theorem d143_17 : decode (ix_by 143) 17 = .ok (.iaload, 1) := by decide +kernel
theorem d143_18 : decode (ix_by 143) 18 = .ok (.iaload, 1) := by decide +kernel
theorem d143_19 : decode (ix_by 143) 19 = .ok (.iconst 0, 1) := by decide +kernel
theorem d143_20 : decode (ix_by 143) 20 = .ok (.iconst 0, 1) := by decide +kernel
theorem d143_21 : decode (ix_by 143) 21 = .ok (.invokevirtual 177, 3) := by decide +kernel
theorem d143_24 : decode (ix_by 143) 24 = .ok (.pop, 1) := by decide +kernel
theorem d143_25 : decode (ix_by 143) 25 = .ok (.aload_n 0, 1) := by decide +kernel
theorem d143_26 : decode (ix_by 143) 26 = .ok (.getfield 86, 3) := by decide +kernel
theorem d143_29 : decode (ix_by 143) 29 = .ok (.aload_n 0, 1) := by decide +kernel
theorem d143_30 : decode (ix_by 143) 30 = .ok (.getfield 74, 3) := by decide +kernel
theorem d143_33 : decode (ix_by 143) 33 = .ok (.iload_n 1, 1) := by decide +kernel
theorem d143_34 : decode (ix_by 143) 34 = .ok (.iaload, 1) := by decide +kernel
theorem d143_35 : decode (ix_by 143) 35 = .ok (.dup2, 1) := by decide +kernel
theorem d143_36 : decode (ix_by 143) 36 = .ok (.iaload, 1) := by decide +kernel
theorem d143_37 : decode (ix_by 143) 37 = .ok (.iconst 1, 1) := by decide +kernel
theorem d143_38 : decode (ix_by 143) 38 = .ok (.iadd, 1) := by decide +kernel
theorem d143_39 : decode (ix_by 143) 39 = .ok (.iastore, 1) := by decide +kernel
theorem d143_40 : decode (ix_by 143) 40 = .ok (.aload_n 0, 1) := by decide +kernel
theorem d143_41 : decode (ix_by 143) 41 = .ok (.getfield 89, 3) := by decide +kernel
theorem d143_44 : decode (ix_by 143) 44 = .ok (.aload_n 0, 1) := by decide +kernel
theorem d143_45 : decode (ix_by 143) 45 = .ok (.getfield 74, 3) := by decide +kernel
theorem d143_48 : decode (ix_by 143) 48 = .ok (.iload_n 1, 1) := by decide +kernel
theorem d143_49 : decode (ix_by 143) 49 = .ok (.iaload, 1) := by decide +kernel
theorem d143_50 : decode (ix_by 143) 50 = .ok (.aload_n 0, 1) := by decide +kernel
theorem d143_51 : decode (ix_by 143) 51 = .ok (.getfield 234, 3) := by decide +kernel
theorem d143_54 : decode (ix_by 143) 54 = .ok (.iastore, 1) := by decide +kernel
theorem d143_55 : decode (ix_by 143) 55 = .ok (.return_, 1) := by decide +kernel
theorem d144_0 : decode (ix_by 144) 0 = .ok (.aload_n 0, 1) := by decide +kernel
theorem d144_1 : decode (ix_by 144) 1 = .ok (.getfield 77, 3) := by decide +kernel
theorem d144_4 : decode (ix_by 144) 4 = .ok (.aload_n 0, 1) := by decide +kernel
theorem d144_5 : decode (ix_by 144) 5 = .ok (.getfield 74, 3) := by decide +kernel
theorem d144_8 : decode (ix_by 144) 8 = .ok (.iload_n 1, 1) := by decide +kernel
theorem d144_9 : decode (ix_by 144) 9 = .ok (.iaload, 1) := by decide +kernel
theorem d144_10 : decode (ix_by 144) 10 = .ok (.iload_n 2, 1) := by decide +kernel
theorem d144_11 : decode (ix_by 144) 11 = .ok (.iastore, 1) := by decide +kernel
theorem d144_12 : decode (ix_by 144) 12 = .ok (.iload_n 3, 1) := by decide +kernel
theorem d144_13 : decode (ix_by 144) 13 = .ok (.iconst 1, 1) := by decide +kernel
theorem d144_14 : decode (ix_by 144) 14 = .ok (.if_icmp .ne 10, 3) := by decide +kernel
theorem d144_17 : decode (ix_by 144) 17 = .ok (.aload_n 0, 1) := by decide +kernel
theorem d144_18 : decode (ix_by 144) 18 = .ok (.iload_n 1, 1) := by decide +kernel
theorem d144_19 : decode (ix_by 144) 19 = .ok (.iload_n 2, 1) := by decide +kernel
theorem d144_20 : decode (ix_by 144) 20 = .ok (.invokevirtual 209, 3) := by decide +kernel
theorem d144_23 : decode (ix_by 144) 23 = .ok (.return_, 1) := by decide +kernel
theorem d144_24 : decode (ix_by 144) 24 = .ok (.aload_n 0, 1) := by decide +kernel
theorem d144_25 : decode (ix_by 144) 25 = .ok (.getfield 68, 3) := by decide +kernel
theorem d144_28 : decode (ix_by 144) 28 = .ok (.iload_n 1, 1) := by decide +kernel
theorem d144_29 : decode (ix_by 144) 29 = .ok (.bipush 6, 2) := by decide +kernel
theorem d144_31 : decode (ix_by 144) 31 = .ok (.iastore, 1) := by decide +kernel
theorem d144_32 : decode (ix_by 144) 32 = .ok (.aload_n 0, 1) := by decide +kernel
theorem d144_33 : decode (ix_by 144) 33 = .ok (.getfield 86, 3) := by decide +kernel
theorem d144_36 : decode (ix_by 144) 36 = .ok (.aload_n 0, 1) := by decide +kernel
theorem d144_37 : decode (ix_by 144) 37 = .ok (.getfield 74, 3) := by decide +kernel
theorem d144_40 : decode (ix_by 144) 40 = .ok (.iload_n 1, 1) := by decide +kernel
theorem d144_41 : decode (ix_by 144) 41 = .ok (.iaload, 1) := by decide +kernel
theorem d144_42 : decode (ix_by 144) 42 = .ok (.iconst 0, 1) := by decide +kernel
theorem d144_43 : decode (ix_by 144) 43 = .ok (.iastore, 1) := by decide +kernel
theorem d144_44 : decode (ix_by 144) 44 = .ok (.aload_n 0, 1) := by decide +kernel
theorem d144_45 : decode (ix_by 144) 45 = .ok (.iload_n 1, 1) := by decide +kernel
theorem d144_46 : decode (ix_by 144) 46 = .ok (.invokevirtual 231, 3) := by decide +kernel
theorem d144_49 : decode (ix_by 144) 49 = .ok (.return_, 1) := by decide +kernel
theorem d145_0 : decode (ix_by 145) 0 = .ok (.iconst 0, 1) := by decide +kernel
theorem d145_1 : decode (ix_by 145) 1 = .ok (.istore_n 2, 1) := by decide +kernel
theorem d145_2 : decode (ix_by 145) 2 = .ok (.aload_n 0, 1) := by decide +kernel
theorem d145_3 : decode (ix_by 145) 3 = .ok (.iload_n 1, 1) := by decide +kernel
theorem d145_4 : decode (ix_by 145) 4 = .ok (.iconst 0, 1) := by decide +kernel
theorem d145_5 : decode (ix_by 145) 5 = .ok (.invokevirtual 222, 3) := by decide +kernel
theorem d145_8 : decode (ix_by 145) 8 = .ok (.istore_n 3, 1) := by decide +kernel
theorem d145_9 : decode (ix_by 145) 9 = .ok (.iconst 0, 1) := by decide +kernel
theorem d145_10 : decode (ix_by 145) 10 = .ok (.istore 4, 2) := by decide +kernel
theorem d145_12 : decode (ix_by 145) 12 = .ok (.iload 4, 2) := by decide +kernel
theorem d145_14 : decode (ix_by 145) 14 = .ok (.bipush 6, 2) := by decide +kernel
theorem d145_16 : decode (ix_by 145) 16 = .ok (.if_icmp .ge 17, 3) := by decide +kernel
theorem d145_19 : decode (ix_by 145) 19 = .ok (.aload_n 0, 1) := by decide +kernel
theorem d145_20 : decode (ix_by 145) 20 = .ok (.getfield 137, 3) := by decide +kernel
theorem d145_23 : decode (ix_by 145) 23 = .ok (.iload 4, 2) := by decide +kernel
theorem d145_25 : decode (ix_by 145) 25 = .ok (.iconst 0, 1) := by decide +kernel
theorem d145_26 : decode (ix_by 145) 26 = .ok (.iastore, 1) := by decide +kernel
theorem d145_27 : decode (ix_by 145) 27 = .ok (.iinc 4 1, 3) := by decide +kernel
theorem d145_30 : decode (ix_by 145) 30 = .ok (.goto (-18), 3) := by decide +kernel
theorem d145_33 : decode (ix_by 145) 33 = .ok (.iload_n 3, 1) := by decide +kernel
theorem d145_34 : decode (ix_by 145) 34 = .ok (.ifCond .lt 97, 3) := by decide +kernel
theorem d145_37 : decode (ix_by 145) 37 = .ok (.iload_n 2, 1) := by decide +kernel
theorem d145_38 : decode (ix_by 145) 38 = .ok (.iconst 3, 1) := by decide +kernel
theorem d145_39 : decode (ix_by 145) 39 = .ok (.if_icmp .ge 92, 3) := by decide +kernel
theorem d145_42 : decode (ix_by 145) 42 = .ok (.iload_n 3, 1) := by decide +kernel
theorem d145_43 : decode (ix_by 145) 43 = .ok (.istore 4, 2) := by decide +kernel
theorem d145_45 : decode (ix_by 145) 45 = .ok (.iload 4, 2) := by decide +kernel
theorem d145_47 : decode (ix_by 145) 47 = .ok (.iconst 1, 1) := by decide +kernel
theorem d145_48 : decode (ix_by 145) 48 = .ok (.iadd, 1) := by decide +kernel
theorem d145_49 : decode (ix_by 145) 49 = .ok (.aload_n 0, 1) := by decide +kernel
theorem d145_50 : decode (ix_by 145) 50 = .ok (.getfield 80, 3) := by decide +kernel
theorem d145_53 : decode (ix_by 145) 53 = .ok (.aload_n 0, 1) := by decide +kernel
theorem d145_54 : decode (ix_by 145) 54 = .ok (.getfield 74, 3) := by decide +kernel
theorem d145_57 : decode (ix_by 145) 57 = .ok (.iload_n 1, 1) := by decide +kernel
theorem d145_58 : decode (ix_by 145) 58 = .ok (.iaload, 1) := by decide +kernel
theorem d145_59 : decode (ix_by 145) 59 = .ok (.iaload, 1) := by decide +kernel
theorem d145_60 : decode (ix_by 145) 60 = .ok (.invokestatic 164, 3) := by decide +kernel
theorem d145_63 : decode (ix_by 145) 63 = .ok (.if_icmp .ge 31, 3) := by decide +kernel
theorem d145_66 : decode (ix_by 145) 66 = .ok (.aload_n 0, 1) := by decide +kernel
theorem d145_67 : decode (ix_by 145) 67 = .ok (.getfield 116, 3) := by decide +kernel
theorem d145_70 : decode (ix_by 145) 70 = .ok (.bipush 16, 2) := by decide +kernel
theorem d145_72 : decode (ix_by 145) 72 = .ok (.aload_n 0, 1) := by decide +kernel
theorem d145_73 : decode (ix_by 145) 73 = .ok (.getfield 74, 3) := by decide +kernel
theorem d145_76 : decode (ix_by 145) 76 = .ok (.iload_n 1, 1) := by decide +kernel
theorem d145_77 : decode (ix_by 145) 77 = .ok (.iaload, 1) := by decide +kernel
theorem d145_78 : decode (ix_by 145) 78 = .ok (.imul, 1) := by decide +kernel
theorem d145_79 : decode (ix_by 145) 79 = .ok (.iload 4, 2) := by decide +kernel
theorem d145_81 : decode (ix_by 145) 81 = .ok (.iadd, 1) := by decide +kernel
theorem d145_82 : decode (ix_by 145) 82 = .ok (.iconst 1, 1) := by decide +kernel
theorem d145_83 : decode (ix_by 145) 83 = .ok (.iadd, 1) := by decide +kernel
theorem d145_84 : decode (ix_by 145) 84 = .ok (.iaload, 1) := by decide +kernel
theorem d145_85 : decode (ix_by 145) 85 = .ok (.ifCond .ne 9, 3) := by decide +kernel
theorem d145_88 : decode (ix_by 145) 88 = .ok (.iinc 4 1, 3) := by decide +kernel
theorem d145_91 : decode (ix_by 145) 91 = .ok (.goto (-46), 3) := by decide +kernel
theorem d145_94 : decode (ix_by 145) 94 = .ok (.aload_n 0, 1) := by decide +kernel
theorem d145_95 : decode (ix_by 145) 95 = .ok (.getfield 137, 3) := by decide +kernel
theorem d145_98 : decode (ix_by 145) 98 = .ok (.iconst 2, 1) := by decide +kernel
theorem d145_99 : decode (ix_by 145) 99 = .ok (.iload_n 2, 1) := by decide +kernel
theorem d145_100 : decode (ix_by 145) 100 = .ok (.imul, 1) := by decide +kernel
theorem d145_101 : decode (ix_by 145) 101 = .ok (.iload_n 3, 1) := by decide +kernel
theorem d145_102 : decode (ix_by 145) 102 = .ok (.iastore, 1) := by decide +kernel
theorem d145_103 : decode (ix_by 145) 103 = .ok (.aload_n 0, 1) := by decide +kernel
theorem d145_104 : decode (ix_by 145) 104 = .ok (.getfield 137, 3) := by decide +kernel
theorem d145_107 : decode (ix_by 145) 107 = .ok (.iconst 2, 1) := by decide +kernel
theorem d145_108 : decode (ix_by 145) 108 = .ok (.iload_n 2, 1) := by decide +kernel
theorem d145_109 : decode (ix_by 145) 109 = .ok (.imul, 1) := by decide +kernel
theorem d145_110 : decode (ix_by 145) 110 = .ok (.iconst 1, 1) := by decide +kernel
theorem d145_111 : decode (ix_by 145) 111 = .ok (.iadd, 1) := by decide +kernel
theorem d145_112 : decode (ix_by 145) 112 = .ok (.iload 4, 2) := by decide +kernel
theorem d145_114 : decode (ix_by 145) 114 = .ok (.iastore, 1) := by decide +kernel
theorem d145_115 : decode (ix_by 145) 115 = .ok (.iinc 2 1, 3) := by decide +kernel
theorem d145_118 : decode (ix_by 145) 118 = .ok (.aload_n 0, 1) := by decide +kernel
theorem d145_119 : decode (ix_by 145) 119 = .ok (.iload_n 1, 1) := by decide +kernel
theorem d145_120 : decode (ix_by 145) 120 = .ok (.iload 4, 2) := by decide +kernel
theorem d145_122 : decode (ix_by 145) 122 = .ok (.iconst 1, 1) := by decide +kernel
theorem d145_123 : decode (ix_by 145) 123 = .ok (.iadd, 1) := by decide +kernel
theorem d145_124 : decode (ix_by 145) 124 = .ok (.invokevirtual 222, 3) := by decide +kernel
theorem d145_127 : decode (ix_by 145) 127 = .ok (.istore_n 3, 1) := by decide +kernel
theorem d145_128 : decode (ix_by 145) 128 = .ok (.goto (-95), 3) := by decide +kernel
theorem d145_131 : decode (ix_by 145) 131 = .ok (.aload_n 0, 1) := by decide +kernel
theorem d145_132 : decode (ix_by 145) 132 = .ok (.bipush 6, 2) := by decide +kernel
theorem d145_134 : decode (ix_by 145) 134 = .ok (.iload_n 1, 1) := by decide +kernel
theorem d145_135 : decode (ix_by 145) 135 = .ok (.sipush 320, 3) := by decide +kernel
theorem d145_138 : decode (ix_by 145) 138 = .ok (.idiv, 1) := by decide +kernel
theorem d145_139 : decode (ix_by 145) 139 = .ok (.iload_n 1, 1) := by decide +kernel
theorem d145_140 : decode (ix_by 145) 140 = .ok (.aload_n 0, 1) := by decide +kernel
theorem d145_141 : decode (ix_by 145) 141 = .ok (.getfield 107, 3) := by decide +kernel
theorem d145_144 : decode (ix_by 145) 144 = .ok (.aload_n 0, 1) := by decide +kernel
theorem d145_145 : decode (ix_by 145) 145 = .ok (.getfield 74, 3) := by decide +kernel
theorem d145_148 : decode (ix_by 145) 148 = .ok (.iload_n 1, 1) := by decide +kernel
theorem d145_149 : decode (ix_by 145) 149 = .ok (.iaload, 1) := by decide +kernel
theorem d145_150 : decode (ix_by 145) 150 = .ok (.baload, 1) := by decide +kernel
theorem d145_151 : decode (ix_by 145) 151 = .ok (.ifCond .eq 7, 3) := by decide +kernel
theorem d145_154 : decode (ix_by 145) 154 = .ok (.iconst 0, 1) := by decide +kernel
theorem d145_155 : decode (ix_by 145) 155 = .ok (.goto 4, 3) := by decide +kernel
theorem d145_158 : decode (ix_by 145) 158 = .ok (.iconst 1, 1) := by decide +kernel
theorem d145_159 : decode (ix_by 145) 159 = .ok (.iload_n 2, 1) := by decide +kernel
theorem d145_160 : decode (ix_by 145) 160 = .ok (.iconst 0, 1) := by decide +kernel
theorem d145_161 : decode (ix_by 145) 161 = .ok (.invokevirtual 177, 3) := by decide +kernel
theorem d145_164 : decode (ix_by 145) 164 = .ok (.ifCond .eq 46, 3) := by decide +kernel
theorem d145_167 : decode (ix_by 145) 167 = .ok (.iconst 0, 1) := by decide +kernel
theorem d145_168 : decode (ix_by 145) 168 = .ok (.istore 4, 2) := by decide +kernel
theorem d145_170 : decode (ix_by 145) 170 = .ok (.iload 4, 2) := by decide +kernel
theorem d145_172 : decode (ix_by 145) 172 = .ok (.bipush 6, 2) := by decide +kernel
theorem d145_174 : decode (ix_by 145) 174 = .ok (.if_icmp .ge 36, 3) := by decide +kernel
theorem d145_177 : decode (ix_by 145) 177 = .ok (.aload_n 0, 1) := by decide +kernel
theorem d145_178 : decode (ix_by 145) 178 = .ok (.getfield 131, 3) := by decide +kernel
theorem d145_181 : decode (ix_by 145) 181 = .ok (.bipush 11, 2) := by decide +kernel
theorem d145_183 : decode (ix_by 145) 183 = .ok (.aload_n 0, 1) := by decide +kernel
theorem d145_184 : decode (ix_by 145) 184 = .ok (.getfield 171, 3) := by decide +kernel
theorem d145_187 : decode (ix_by 145) 187 = .ok (.imul, 1) := by decide +kernel
theorem d145_188 : decode (ix_by 145) 188 = .ok (.bipush 11, 2) := by decide +kernel
theorem d145_190 : decode (ix_by 145) 190 = .ok (.isub, 1) := by decide +kernel
theorem d145_191 : decode (ix_by 145) 191 = .ok (.iconst 5, 1) := by decide +kernel
theorem d145_192 : decode (ix_by 145) 192 = .ok (.iadd, 1) := by decide +kernel
theorem d145_193 : decode (ix_by 145) 193 = .ok (.iload 4, 2) := by decide +kernel
theorem d145_195 : decode (ix_by 145) 195 = .ok (.iadd, 1) := by decide +kernel
theorem d145_196 : decode (ix_by 145) 196 = .ok (.aload_n 0, 1) := by decide +kernel
theorem d145_197 : decode (ix_by 145) 197 = .ok (.getfield 137, 3) := by decide +kernel
theorem d145_200 : decode (ix_by 145) 200 = .ok (.iload 4, 2) := by decide +kernel
theorem d145_202 : decode (ix_by 145) 202 = .ok (.iaload, 1) := by decide +kernel
theorem d145_203 : decode (ix_by 145) 203 = .ok (.iastore, 1) := by decide +kernel
theorem d145_204 : decode (ix_by 145) 204 = .ok (.iinc 4 1, 3) := by decide +kernel
theorem d145_207 : decode (ix_by 145) 207 = .ok (.goto (-37), 3) := by decide +kernel
theorem d145_210 : decode (ix_by 145) 210 = .ok (.aload_n 0, 1) := by decide +kernel
theorem d145_211 : decode (ix_by 145) 211 = .ok (.getfield 86, 3) := by decide +kernel
theorem d145_214 : decode (ix_by 145) 214 = .ok (.aload_n 0, 1) := by decide +kernel
theorem d145_215 : decode (ix_by 145) 215 = .ok (.getfield 74, 3) := by decide +kernel
theorem d145_218 : decode (ix_by 145) 218 = .ok (.iload_n 1, 1) := by decide +kernel
theorem d145_219 : decode (ix_by 145) 219 = .ok (.iaload, 1) := by decide +kernel
theorem d145_220 : decode (ix_by 145) 220 = .ok (.dup2, 1) := by decide +kernel
theorem d145_221 : decode (ix_by 145) 221 = .ok (.iaload, 1) := by decide +kernel
theorem d145_222 : decode (ix_by 145) 222 = .ok (.iconst 1, 1) := by decide +kernel
theorem d145_223 : decode (ix_by 145) 223 = .ok (.iadd, 1) := by decide +kernel
theorem d145_224 : decode (ix_by 145) 224 = .ok (.iastore, 1) := by decide +kernel
theorem d145_225 : decode (ix_by 145) 225 = .ok (.aload_n 0, 1) := by decide +kernel
theorem d145_226 : decode (ix_by 145) 226 = .ok (.getfield 89, 3) := by decide +kernel
theorem d145_229 : decode (ix_by 145) 229 = .ok (.aload_n 0, 1) := by decide +kernel
theorem d145_230 : decode (ix_by 145) 230 = .ok (.getfield 74, 3) := by decide +kernel
theorem d145_233 : decode (ix_by 145) 233 = .ok (.iload_n 1, 1) := by decide +kernel
theorem d145_234 : decode (ix_by 145) 234 = .ok (.iaload, 1) := by decide +kernel
theorem d145_235 : decode (ix_by 145) 235 = .ok (.aload_n 0, 1) := by decide +kernel
theorem d145_236 : decode (ix_by 145) 236 = .ok (.getfield 234, 3) := by decide +kernel
theorem d145_239 : decode (ix_by 145) 239 = .ok (.iastore, 1) := by decide +kernel
theorem d145_240 : decode (ix_by 145) 240 = .ok (.return_, 1) := by decide +kernel
theorem d146_0 : decode (ix_by 146) 0 = .ok (.iload_n 2, 1) := by decide +kernel
theorem d146_1 : decode (ix_by 146) 1 = .ok (.istore_n 3, 1) := by decide +kernel
theorem d146_2 : decode (ix_by 146) 2 = .ok (.iload_n 3, 1) := by decide +kernel
theorem d146_3 : decode (ix_by 146) 3 = .ok (.aload_n 0, 1) := by decide +kernel
theorem d146_4 : decode (ix_by 146) 4 = .ok (.getfield 80, 3) := by decide +kernel
theorem d146_7 : decode (ix_by 146) 7 = .ok (.aload_n 0, 1) := by decide +kernel
theorem d146_8 : decode (ix_by 146) 8 = .ok (.getfield 74, 3) := by decide +kernel
theorem d146_11 : decode (ix_by 146) 11 = .ok (.iload_n 1, 1) := by decide +kernel
theorem d146_12 : decode (ix_by 146) 12 = .ok (.iaload, 1) := by decide +kernel
theorem d146_13 : decode (ix_by 146) 13 = .ok (.iaload, 1) := by decide +kernel
theorem d146_14 : decode (ix_by 146) 14 = .ok (.invokestatic 164, 3) := by decide +kernel
theorem d146_17 : decode (ix_by 146) 17 = .ok (.if_icmp .ge 30, 3) := by decide +kernel
theorem d146_20 : decode (ix_by 146) 20 = .ok (.aload_n 0, 1) := by decide +kernel
theorem d146_21 : decode (ix_by 146) 21 = .ok (.getfield 116, 3) := by decide +kernel
theorem d146_24 : decode (ix_by 146) 24 = .ok (.bipush 16, 2) := by decide +kernel
theorem d146_26 : decode (ix_by 146) 26 = .ok (.aload_n 0, 1) := by decide +kernel
theorem d146_27 : decode (ix_by 146) 27 = .ok (.getfield 74, 3) := by decide +kernel
theorem d146_30 : decode (ix_by 146) 30 = .ok (.iload_n 1, 1) := by decide +kernel
theorem d146_31 : decode (ix_by 146) 31 = .ok (.iaload, 1) := by decide +kernel
theorem d146_32 : decode (ix_by 146) 32 = .ok (.imul, 1) := by decide +kernel
theorem d146_33 : decode (ix_by 146) 33 = .ok (.iload_n 3, 1) := by decide +kernel
theorem d146_34 : decode (ix_by 146) 34 = .ok (.iadd, 1) := by decide +kernel
theorem d146_35 : decode (ix_by 146) 35 = .ok (.iaload, 1) := by decide +kernel
theorem d146_36 : decode (ix_by 146) 36 = .ok (.ifCond .ne 5, 3) := by decide +kernel
theorem d146_39 : decode (ix_by 146) 39 = .ok (.iload_n 3, 1) := by decide +kernel
theorem d146_40 : decode (ix_by 146) 40 = .ok (.ireturn, 1) := by decide +kernel
theorem d146_41 : decode (ix_by 146) 41 = .ok (.iinc 3 1, 3) := by decide +kernel
theorem d146_44 : decode (ix_by 146) 44 = .ok (.goto (-42), 3) := by decide +kernel
theorem d146_47 : decode (ix_by 146) 47 = .ok (.iconst (-1), 1) := by decide +kernel
theorem d146_48 : decode (ix_by 146) 48 = .ok (.ireturn, 1) := by decide +kernel
theorem d147_0 : decode (ix_by 147) 0 = .ok (.aload_n 0, 1) := by decide +kernel
theorem d147_1 : decode (ix_by 147) 1 = .ok (.iconst 0, 1) := by decide +kernel
theorem d147_2 : decode (ix_by 147) 2 = .ok (.putfield 144, 3) := by decide +kernel
theorem d147_5 : decode (ix_by 147) 5 = .ok (.aload_n 0, 1) := by decide +kernel
theorem d147_6 : decode (ix_by 147) 6 = .ok (.iload_n 1, 1) := by decide +kernel
theorem d147_7 : decode (ix_by 147) 7 = .ok (.invokevirtual 249, 3) := by decide +kernel
theorem d147_10 : decode (ix_by 147) 10 = .ok (.ifCond .ne 5, 3) := by decide +kernel
theorem d147_13 : decode (ix_by 147) 13 = .ok (.iconst 0, 1) := by decide +kernel
theorem d147_14 : decode (ix_by 147) 14 = .ok (.ireturn, 1) := by decide +kernel
theorem d147_15 : decode (ix_by 147) 15 = .ok (.iconst 0, 1) := by decide +kernel
theorem d147_16 : decode (ix_by 147) 16 = .ok (.istore_n 2, 1) := by decide +kernel
theorem d147_17 : decode (ix_by 147) 17 = .ok (.iload_n 2, 1) := by decide +kernel
theorem d147_18 : decode (ix_by 147) 18 = .ok (.bipush 11, 2) := by decide +kernel
theorem d147_20 : decode (ix_by 147) 20 = .ok (.if_icmp .ge 26, 3) := by decide +kernel
theorem d147_23 : decode (ix_by 147) 23 = .ok (.aload_n 0, 1) := by decide +kernel
theorem d147_24 : decode (ix_by 147) 24 = .ok (.getfield 134, 3) := by decide +kernel
theorem d147_27 : decode (ix_by 147) 27 = .ok (.iload_n 2, 1) := by decide +kernel
theorem d147_28 : decode (ix_by 147) 28 = .ok (.aload_n 0, 1) := by decide +kernel
theorem d147_29 : decode (ix_by 147) 29 = .ok (.getfield 131, 3) := by decide +kernel
theorem d147_32 : decode (ix_by 147) 32 = .ok (.bipush 11, 2) := by decide +kernel
theorem d147_34 : decode (ix_by 147) 34 = .ok (.iload_n 1, 1) := by decide +kernel
theorem d147_35 : decode (ix_by 147) 35 = .ok (.imul, 1) := by decide +kernel
theorem d147_36 : decode (ix_by 147) 36 = .ok (.iload_n 2, 1) := by decide +kernel
theorem d147_37 : decode (ix_by 147) 37 = .ok (.iadd, 1) := by decide +kernel
theorem d147_38 : decode (ix_by 147) 38 = .ok (.iaload, 1) := by decide +kernel
theorem d147_39 : decode (ix_by 147) 39 = .ok (.iastore, 1) := by decide +kernel
theorem d147_40 : decode (ix_by 147) 40 = .ok (.iinc 2 1, 3) := by decide +kernel
theorem d147_43 : decode (ix_by 147) 43 = .ok (.goto (-26), 3) := by decide +kernel
theorem d147_46 : decode (ix_by 147) 46 = .ok (.aload_n 0, 1) := by decide +kernel
theorem d147_47 : decode (ix_by 147) 47 = .ok (.iload_n 1, 1) := by decide +kernel
theorem d147_48 : decode (ix_by 147) 48 = .ok (.invokevirtual 253, 3) := by decide +kernel
theorem d147_51 : decode (ix_by 147) 51 = .ok (.aload_n 0, 1) := by decide +kernel
theorem d147_52 : decode (ix_by 147) 52 = .ok (.aload_n 0, 1) := by decide +kernel
theorem d147_53 : decode (ix_by 147) 53 = .ok (.getfield 215, 3) := by decide +kernel
theorem d147_56 : decode (ix_by 147) 56 = .ok (.putfield 234, 3) := by decide +kernel
theorem d147_59 : decode (ix_by 147) 59 = .ok (.aload_n 0, 1) := by decide +kernel
theorem d147_60 : decode (ix_by 147) 60 = .ok (.getfield 134, 3) := by decide +kernel
theorem d147_63 : decode (ix_by 147) 63 = .ok (.iconst 1, 1) := by decide +kernel
theorem d147_64 : decode (ix_by 147) 64 = .ok (.iaload, 1) := by decide +kernel
theorem d147_65 : decode (ix_by 147) 65 = .ok (.istore_n 2, 1) := by decide +kernel
theorem d147_66 : decode (ix_by 147) 66 = .ok (.aload_n 0, 1) := by decide +kernel
theorem d147_67 : decode (ix_by 147) 67 = .ok (.getfield 134, 3) := by decide +kernel
theorem d147_70 : decode (ix_by 147) 70 = .ok (.iconst 2, 1) := by decide +kernel
theorem d147_71 : decode (ix_by 147) 71 = .ok (.iaload, 1) := by decide +kernel
theorem d147_72 : decode (ix_by 147) 72 = .ok (.istore_n 3, 1) := by decide +kernel
theorem d147_73 : decode (ix_by 147) 73 = .ok (.iload_n 3, 1) := by decide +kernel
theorem d147_74 : decode (ix_by 147) 74 = .ok (.sipush 320, 3) := by decide +kernel
theorem d147_77 : decode (ix_by 147) 77 = .ok (.idiv, 1) := by decide +kernel
theorem d147_78 : decode (ix_by 147) 78 = .ok (.iload_n 2, 1) := by decide +kernel
theorem d147_79 : decode (ix_by 147) 79 = .ok (.if_icmp .ne 11, 3) := by decide +kernel
theorem d147_82 : decode (ix_by 147) 82 = .ok (.aload_n 0, 1) := by decide +kernel
theorem d147_83 : decode (ix_by 147) 83 = .ok (.iload_n 3, 1) := by decide +kernel
theorem d147_84 : decode (ix_by 147) 84 = .ok (.invokevirtual 256, 3) := by decide +kernel
theorem d147_87 : decode (ix_by 147) 87 = .ok (.goto 9, 3) := by decide +kernel
theorem d147_90 : decode (ix_by 147) 90 = .ok (.aload_n 0, 1) := by decide +kernel
theorem d147_91 : decode (ix_by 147) 91 = .ok (.iload_n 2, 1) := by decide +kernel
theorem d147_92 : decode (ix_by 147) 92 = .ok (.iload_n 3, 1) := by decide +kernel
theorem d147_93 : decode (ix_by 147) 93 = .ok (.invokevirtual 259, 3) := by decide +kernel
theorem d147_96 : decode (ix_by 147) 96 = .ok (.iconst 1, 1) := by decide +kernel
theorem d147_97 : decode (ix_by 147) 97 = .ok (.ireturn, 1) := by decide +kernel
