/-! decode rows (written by wip/whole/gen4.py) -/
theorem d4_0 : decode (ix_by 4) 0 = .ok (.aload_n 0, 1) := by decide +kernel
theorem d4_1 : decode (ix_by 4) 1 = .ok (.invokespecial 1, 3) := by decide +kernel
theorem d4_4 : decode (ix_by 4) 4 = .ok (.aload_n 0, 1) := by decide +kernel
theorem d4_5 : decode (ix_by 4) 5 = .ok (.getstatic 39, 3) := by decide +kernel
theorem d4_8 : decode (ix_by 4) 8 = .ok (.putfield 9, 3) := by decide +kernel
theorem d4_11 : decode (ix_by 4) 11 = .ok (.return_, 1) := by decide +kernel
theorem d5_0 : decode (ix_by 5) 0 = .ok (.aload_n 0, 1) := by decide +kernel
theorem d5_1 : decode (ix_by 5) 1 = .ok (.invokespecial 1, 3) := by decide +kernel
theorem d5_4 : decode (ix_by 5) 4 = .ok (.aload_n 0, 1) := by decide +kernel
theorem d5_5 : decode (ix_by 5) 5 = .ok (.iconst 0, 1) := by decide +kernel
theorem d5_6 : decode (ix_by 5) 6 = .ok (.putfield 7, 3) := by decide +kernel
theorem d5_9 : decode (ix_by 5) 9 = .ok (.return_, 1) := by decide +kernel
theorem d6_0 : decode (ix_by 6) 0 = .ok (.aload_n 0, 1) := by decide +kernel
theorem d6_1 : decode (ix_by 6) 1 = .ok (.invokespecial 1, 3) := by decide +kernel
theorem d6_4 : decode (ix_by 6) 4 = .ok (.return_, 1) := by decide +kernel
theorem d7_0 : decode (ix_by 7) 0 = .ok (.aload_n 0, 1) := by decide +kernel
theorem d7_1 : decode (ix_by 7) 1 = .ok (.invokespecial 3, 3) := by decide +kernel
theorem d7_4 : decode (ix_by 7) 4 = .ok (.aload_n 0, 1) := by decide +kernel
theorem d7_5 : decode (ix_by 7) 5 = .ok (.bipush 24, 2) := by decide +kernel
theorem d7_7 : decode (ix_by 7) 7 = .ok (.anewarray 9, 3) := by decide +kernel
theorem d7_10 : decode (ix_by 7) 10 = .ok (.putfield 11, 3) := by decide +kernel
theorem d7_13 : decode (ix_by 7) 13 = .ok (.return_, 1) := by decide +kernel
theorem d8_0 : decode (ix_by 8) 0 = .ok (.iload_n 1, 1) := by decide +kernel
theorem d8_1 : decode (ix_by 8) 1 = .ok (.iload_n 2, 1) := by decide +kernel
theorem d8_2 : decode (ix_by 8) 2 = .ok (.invokestatic 30, 3) := by decide +kernel
theorem d8_5 : decode (ix_by 8) 5 = .ok (.ifCond .eq 19, 3) := by decide +kernel
theorem d8_8 : decode (ix_by 8) 8 = .ok (.aload_n 0, 1) := by decide +kernel
theorem d8_9 : decode (ix_by 8) 9 = .ok (.getfield 16, 3) := by decide +kernel
theorem d8_12 : decode (ix_by 8) 12 = .ok (.iload_n 1, 1) := by decide +kernel
theorem d8_13 : decode (ix_by 8) 13 = .ok (.aaload, 1) := by decide +kernel
theorem d8_14 : decode (ix_by 8) 14 = .ok (.getfield 34, 3) := by decide +kernel
theorem d8_17 : decode (ix_by 8) 17 = .ok (.iload_n 2, 1) := by decide +kernel
theorem d8_18 : decode (ix_by 8) 18 = .ok (.invokevirtual 38, 3) := by decide +kernel
theorem d8_21 : decode (ix_by 8) 21 = .ok (.ifCond .eq 5, 3) := by decide +kernel
theorem d8_24 : decode (ix_by 8) 24 = .ok (.iconst 0, 1) := by decide +kernel
theorem d8_25 : decode (ix_by 8) 25 = .ok (.ireturn, 1) := by decide +kernel
theorem d8_26 : decode (ix_by 8) 26 = .ok (.aload_n 0, 1) := by decide +kernel
theorem d8_27 : decode (ix_by 8) 27 = .ok (.getfield 16, 3) := by decide +kernel
theorem d8_30 : decode (ix_by 8) 30 = .ok (.iload_n 1, 1) := by decide +kernel
theorem d8_31 : decode (ix_by 8) 31 = .ok (.aaload, 1) := by decide +kernel
theorem d8_32 : decode (ix_by 8) 32 = .ok (.getfield 34, 3) := by decide +kernel
theorem d8_35 : decode (ix_by 8) 35 = .ok (.iload_n 2, 1) := by decide +kernel
theorem d8_36 : decode (ix_by 8) 36 = .ok (.invokevirtual 44, 3) := by decide +kernel
theorem d8_39 : decode (ix_by 8) 39 = .ok (.iconst 1, 1) := by decide +kernel
theorem d8_40 : decode (ix_by 8) 40 = .ok (.ireturn, 1) := by decide +kernel
theorem d9_0 : decode (ix_by 9) 0 = .ok (.iload_n 0, 1) := by decide +kernel
theorem d9_1 : decode (ix_by 9) 1 = .ok (.invokestatic 218, 3) := by decide +kernel
theorem d9_4 : decode (ix_by 9) 4 = .ok (.ifCond .eq 14, 3) := by decide +kernel
theorem d9_7 : decode (ix_by 9) 7 = .ok (.iload_n 1, 1) := by decide +kernel
theorem d9_8 : decode (ix_by 9) 8 = .ok (.invokestatic 93, 3) := by decide +kernel
theorem d9_11 : decode (ix_by 9) 11 = .ok (.ifCond .eq 7, 3) := by decide +kernel
theorem d9_14 : decode (ix_by 9) 14 = .ok (.iconst 1, 1) := by decide +kernel
theorem d9_15 : decode (ix_by 9) 15 = .ok (.goto 4, 3) := by decide +kernel
theorem d9_18 : decode (ix_by 9) 18 = .ok (.iconst 0, 1) := by decide +kernel
theorem d9_19 : decode (ix_by 9) 19 = .ok (.ireturn, 1) := by decide +kernel
theorem d10_0 : decode (ix_by 10) 0 = .ok (.iload_n 0, 1) := by decide +kernel
theorem d10_1 : decode (ix_by 10) 1 = .ok (.ifCond .lt 12, 3) := by decide +kernel
theorem d10_4 : decode (ix_by 10) 4 = .ok (.iload_n 0, 1) := by decide +kernel
theorem d10_5 : decode (ix_by 10) 5 = .ok (.iconst 2, 1) := by decide +kernel
theorem d10_6 : decode (ix_by 10) 6 = .ok (.if_icmp .ge 7, 3) := by decide +kernel
theorem d10_9 : decode (ix_by 10) 9 = .ok (.iconst 1, 1) := by decide +kernel
theorem d10_10 : decode (ix_by 10) 10 = .ok (.goto 4, 3) := by decide +kernel
theorem d10_13 : decode (ix_by 10) 13 = .ok (.iconst 0, 1) := by decide +kernel
theorem d10_14 : decode (ix_by 10) 14 = .ok (.ireturn, 1) := by decide +kernel
theorem d11_0 : decode (ix_by 11) 0 = .ok (.iload_n 0, 1) := by decide +kernel
theorem d11_1 : decode (ix_by 11) 1 = .ok (.ifCond .lt 13, 3) := by decide +kernel
theorem d11_4 : decode (ix_by 11) 4 = .ok (.iload_n 0, 1) := by decide +kernel
theorem d11_5 : decode (ix_by 11) 5 = .ok (.bipush 6, 2) := by decide +kernel
theorem d11_7 : decode (ix_by 11) 7 = .ok (.if_icmp .ge 7, 3) := by decide +kernel
theorem d11_10 : decode (ix_by 11) 10 = .ok (.iconst 1, 1) := by decide +kernel
theorem d11_11 : decode (ix_by 11) 11 = .ok (.goto 4, 3) := by decide +kernel
theorem d11_14 : decode (ix_by 11) 14 = .ok (.iconst 0, 1) := by decide +kernel
theorem d11_15 : decode (ix_by 11) 15 = .ok (.ireturn, 1) := by decide +kernel
theorem d12_0 : decode (ix_by 12) 0 = .ok (.aload_n 0, 1) := by decide +kernel
theorem d12_1 : decode (ix_by 12) 1 = .ok (.getfield 16, 3) := by decide +kernel
theorem d12_4 : decode (ix_by 12) 4 = .ok (.iload_n 1, 1) := by decide +kernel
theorem d12_5 : decode (ix_by 12) 5 = .ok (.iaload, 1) := by decide +kernel
theorem d12_6 : decode (ix_by 12) 6 = .ok (.iconst (-1), 1) := by decide +kernel
theorem d12_7 : decode (ix_by 12) 7 = .ok (.if_icmp .eq 7, 3) := by decide +kernel
theorem d12_10 : decode (ix_by 12) 10 = .ok (.iconst 1, 1) := by decide +kernel
theorem d12_11 : decode (ix_by 12) 11 = .ok (.goto 4, 3) := by decide +kernel
theorem d12_14 : decode (ix_by 12) 14 = .ok (.iconst 0, 1) := by decide +kernel
theorem d12_15 : decode (ix_by 12) 15 = .ok (.ireturn, 1) := by decide +kernel
theorem d13_0 : decode (ix_by 13) 0 = .ok (.aload_n 0, 1) := by decide +kernel
theorem d13_1 : decode (ix_by 13) 1 = .ok (.getfield 16, 3) := by decide +kernel
theorem d13_4 : decode (ix_by 13) 4 = .ok (.iload_n 1, 1) := by decide +kernel
theorem d13_5 : decode (ix_by 13) 5 = .ok (.iconst 0, 1) := by decide +kernel
theorem d13_6 : decode (ix_by 13) 6 = .ok (.iastore, 1) := by decide +kernel
theorem d13_7 : decode (ix_by 13) 7 = .ok (.return_, 1) := by decide +kernel
theorem d14_0 : decode (ix_by 14) 0 = .ok (.aload_n 0, 1) := by decide +kernel
theorem d14_1 : decode (ix_by 14) 1 = .ok (.iload_n 1, 1) := by decide +kernel
theorem d14_2 : decode (ix_by 14) 2 = .ok (.iload_n 2, 1) := by decide +kernel
theorem d14_3 : decode (ix_by 14) 3 = .ok (.invokevirtual 76, 3) := by decide +kernel
theorem d14_6 : decode (ix_by 14) 6 = .ok (.ifCond .eq 19, 3) := by decide +kernel
theorem d14_9 : decode (ix_by 14) 9 = .ok (.aload_n 0, 1) := by decide +kernel
theorem d14_10 : decode (ix_by 14) 10 = .ok (.getfield 16, 3) := by decide +kernel
theorem d14_13 : decode (ix_by 14) 13 = .ok (.iload_n 1, 1) := by decide +kernel
theorem d14_14 : decode (ix_by 14) 14 = .ok (.aaload, 1) := by decide +kernel
theorem d14_15 : decode (ix_by 14) 15 = .ok (.getfield 34, 3) := by decide +kernel
theorem d14_18 : decode (ix_by 14) 18 = .ok (.iload_n 2, 1) := by decide +kernel
theorem d14_19 : decode (ix_by 14) 19 = .ok (.invokevirtual 63, 3) := by decide +kernel
theorem d14_22 : decode (ix_by 14) 22 = .ok (.goto 4, 3) := by decide +kernel
theorem d14_25 : decode (ix_by 14) 25 = .ok (.iconst (-1), 1) := by decide +kernel
theorem d14_26 : decode (ix_by 14) 26 = .ok (.ireturn, 1) := by decide +kernel
theorem d15_0 : decode (ix_by 15) 0 = .ok (.iload_n 1, 1) := by decide +kernel
theorem d15_1 : decode (ix_by 15) 1 = .ok (.iload_n 2, 1) := by decide +kernel
theorem d15_2 : decode (ix_by 15) 2 = .ok (.invokestatic 30, 3) := by decide +kernel
theorem d15_5 : decode (ix_by 15) 5 = .ok (.ifCond .eq 23, 3) := by decide +kernel
theorem d15_8 : decode (ix_by 15) 8 = .ok (.aload_n 0, 1) := by decide +kernel
theorem d15_9 : decode (ix_by 15) 9 = .ok (.getfield 16, 3) := by decide +kernel
theorem d15_12 : decode (ix_by 15) 12 = .ok (.iload_n 1, 1) := by decide +kernel
theorem d15_13 : decode (ix_by 15) 13 = .ok (.aaload, 1) := by decide +kernel
theorem d15_14 : decode (ix_by 15) 14 = .ok (.getfield 34, 3) := by decide +kernel
theorem d15_17 : decode (ix_by 15) 17 = .ok (.iload_n 2, 1) := by decide +kernel
theorem d15_18 : decode (ix_by 15) 18 = .ok (.invokevirtual 38, 3) := by decide +kernel
theorem d15_21 : decode (ix_by 15) 21 = .ok (.ifCond .eq 7, 3) := by decide +kernel
theorem d15_24 : decode (ix_by 15) 24 = .ok (.iconst 1, 1) := by decide +kernel
theorem d15_25 : decode (ix_by 15) 25 = .ok (.goto 4, 3) := by decide +kernel
theorem d15_28 : decode (ix_by 15) 28 = .ok (.iconst 0, 1) := by decide +kernel
theorem d15_29 : decode (ix_by 15) 29 = .ok (.ireturn, 1) := by decide +kernel
theorem d16_0 : decode (ix_by 16) 0 = .ok (.aload_n 0, 1) := by decide +kernel
theorem d16_1 : decode (ix_by 16) 1 = .ok (.getfield 16, 3) := by decide +kernel
theorem d16_4 : decode (ix_by 16) 4 = .ok (.iload_n 1, 1) := by decide +kernel
theorem d16_5 : decode (ix_by 16) 5 = .ok (.iaload, 1) := by decide +kernel
theorem d16_6 : decode (ix_by 16) 6 = .ok (.ireturn, 1) := by decide +kernel
theorem d17_0 : decode (ix_by 17) 0 = .ok (.aload_n 0, 1) := by decide +kernel
theorem d17_1 : decode (ix_by 17) 1 = .ok (.iload_n 1, 1) := by decide +kernel
theorem d17_2 : decode (ix_by 17) 2 = .ok (.iload_n 2, 1) := by decide +kernel
theorem d17_3 : decode (ix_by 17) 3 = .ok (.invokevirtual 129, 3) := by decide +kernel
theorem d17_6 : decode (ix_by 17) 6 = .ok (.astore_n 3, 1) := by decide +kernel
theorem d17_7 : decode (ix_by 17) 7 = .ok (.aload_n 3, 1) := by decide +kernel
theorem d17_8 : decode (ix_by 17) 8 = .ok (.ifnull 14, 3) := by decide +kernel
theorem d17_11 : decode (ix_by 17) 11 = .ok (.aload_n 3, 1) := by decide +kernel
theorem d17_12 : decode (ix_by 17) 12 = .ok (.invokevirtual 133, 3) := by decide +kernel
theorem d17_15 : decode (ix_by 17) 15 = .ok (.ifCond .eq 7, 3) := by decide +kernel
theorem d17_18 : decode (ix_by 17) 18 = .ok (.iconst 1, 1) := by decide +kernel
theorem d17_19 : decode (ix_by 17) 19 = .ok (.goto 4, 3) := by decide +kernel
theorem d17_22 : decode (ix_by 17) 22 = .ok (.iconst 0, 1) := by decide +kernel
theorem d17_23 : decode (ix_by 17) 23 = .ok (.ireturn, 1) := by decide +kernel
theorem d18_0 : decode (ix_by 18) 0 = .ok (.iload_n 1, 1) := by decide +kernel
theorem d18_1 : decode (ix_by 18) 1 = .ok (.invokestatic 218, 3) := by decide +kernel
theorem d18_4 : decode (ix_by 18) 4 = .ok (.ifCond .eq 16, 3) := by decide +kernel
theorem d18_7 : decode (ix_by 18) 7 = .ok (.aload_n 0, 1) := by decide +kernel
theorem d18_8 : decode (ix_by 18) 8 = .ok (.getfield 16, 3) := by decide +kernel
theorem d18_11 : decode (ix_by 18) 11 = .ok (.iload_n 1, 1) := by decide +kernel
theorem d18_12 : decode (ix_by 18) 12 = .ok (.aaload, 1) := by decide +kernel
theorem d18_13 : decode (ix_by 18) 13 = .ok (.iload_n 2, 1) := by decide +kernel
theorem d18_14 : decode (ix_by 18) 14 = .ok (.invokevirtual 221, 3) := by decide +kernel
theorem d18_17 : decode (ix_by 18) 17 = .ok (.goto 4, 3) := by decide +kernel
theorem d18_20 : decode (ix_by 18) 20 = .ok (.aconst_null, 1) := by decide +kernel
theorem d18_21 : decode (ix_by 18) 21 = .ok (.areturn, 1) := by decide +kernel
theorem d19_0 : decode (ix_by 19) 0 = .ok (.iload_n 1, 1) := by decide +kernel
theorem d19_1 : decode (ix_by 19) 1 = .ok (.iconst 1, 1) := by decide +kernel
theorem d19_2 : decode (ix_by 19) 2 = .ok (.if_icmp .lt 30, 3) := by decide +kernel
theorem d19_5 : decode (ix_by 19) 5 = .ok (.iload_n 1, 1) := by decide +kernel
theorem d19_6 : decode (ix_by 19) 6 = .ok (.aload_n 0, 1) := by decide +kernel
theorem d19_7 : decode (ix_by 19) 7 = .ok (.getfield 19, 3) := by decide +kernel
theorem d19_10 : decode (ix_by 19) 10 = .ok (.invokevirtual 33, 3) := by decide +kernel
theorem d19_13 : decode (ix_by 19) 13 = .ok (.if_icmp .gt 19, 3) := by decide +kernel
theorem d19_16 : decode (ix_by 19) 16 = .ok (.aload_n 0, 1) := by decide +kernel
theorem d19_17 : decode (ix_by 19) 17 = .ok (.getfield 19, 3) := by decide +kernel
theorem d19_20 : decode (ix_by 19) 20 = .ok (.iload_n 1, 1) := by decide +kernel
theorem d19_21 : decode (ix_by 19) 21 = .ok (.iconst 1, 1) := by decide +kernel
theorem d19_22 : decode (ix_by 19) 22 = .ok (.isub, 1) := by decide +kernel
theorem d19_23 : decode (ix_by 19) 23 = .ok (.invokevirtual 37, 3) := by decide +kernel
theorem d19_26 : decode (ix_by 19) 26 = .ok (.checkcast 41, 3) := by decide +kernel
theorem d19_29 : decode (ix_by 19) 29 = .ok (.goto 4, 3) := by decide +kernel
theorem d19_32 : decode (ix_by 19) 32 = .ok (.aconst_null, 1) := by decide +kernel
theorem d19_33 : decode (ix_by 19) 33 = .ok (.areturn, 1) := by decide +kernel
theorem d20_0 : decode (ix_by 20) 0 = .ok (.aload_n 0, 1) := by decide +kernel
theorem d20_1 : decode (ix_by 20) 1 = .ok (.getfield 48, 3) := by decide +kernel
theorem d20_4 : decode (ix_by 20) 4 = .ok (.ireturn, 1) := by decide +kernel
theorem d21_0 : decode (ix_by 21) 0 = .ok (.iload_n 1, 1) := by decide +kernel
theorem d21_1 : decode (ix_by 21) 1 = .ok (.aload_n 0, 1) := by decide +kernel
theorem d21_2 : decode (ix_by 21) 2 = .ok (.getfield 48, 3) := by decide +kernel
theorem d21_5 : decode (ix_by 21) 5 = .ok (.invokestatic 118, 3) := by decide +kernel
theorem d21_8 : decode (ix_by 21) 8 = .ok (.pop, 1) := by decide +kernel
theorem d21_9 : decode (ix_by 21) 9 = .ok (.aload_n 0, 1) := by decide +kernel
theorem d21_10 : decode (ix_by 21) 10 = .ok (.iload_n 1, 1) := by decide +kernel
theorem d21_11 : decode (ix_by 21) 11 = .ok (.invokevirtual 123, 3) := by decide +kernel
theorem d21_14 : decode (ix_by 21) 14 = .ok (.areturn, 1) := by decide +kernel
theorem d22_0 : decode (ix_by 22) 0 = .ok (.iload_n 0, 1) := by decide +kernel
theorem d22_1 : decode (ix_by 22) 1 = .ok (.iload_n 1, 1) := by decide +kernel
theorem d22_2 : decode (ix_by 22) 2 = .ok (.aconst_null, 1) := by decide +kernel
theorem d22_3 : decode (ix_by 22) 3 = .ok (.invokestatic 105, 3) := by decide +kernel
theorem d22_6 : decode (ix_by 22) 6 = .ok (.ireturn, 1) := by decide +kernel
theorem d23_0 : decode (ix_by 23) 0 = .ok (.iload_n 0, 1) := by decide +kernel
theorem d23_1 : decode (ix_by 23) 1 = .ok (.ifCond .lt 8, 3) := by decide +kernel
theorem d23_4 : decode (ix_by 23) 4 = .ok (.iload_n 0, 1) := by decide +kernel
theorem d23_5 : decode (ix_by 23) 5 = .ok (.iload_n 1, 1) := by decide +kernel
theorem d23_6 : decode (ix_by 23) 6 = .ok (.if_icmp .lt 10, 3) := by decide +kernel
theorem d23_9 : decode (ix_by 23) 9 = .ok (.aload_n 2, 1) := by decide +kernel
theorem d23_10 : decode (ix_by 23) 10 = .ok (.iload_n 0, 1) := by decide +kernel
theorem d23_11 : decode (ix_by 23) 11 = .ok (.iload_n 1, 1) := by decide +kernel
theorem d23_12 : decode (ix_by 23) 12 = .ok (.invokestatic 95, 3) := by decide +kernel
theorem d23_15 : decode (ix_by 23) 15 = .ok (.athrow, 1) := by decide +kernel
theorem d23_16 : decode (ix_by 23) 16 = .ok (.iload_n 0, 1) := by decide +kernel
theorem d23_17 : decode (ix_by 23) 17 = .ok (.ireturn, 1) := by decide +kernel
theorem d24_0 : decode (ix_by 24) 0 = .ok (.aload_n 0, 1) := by decide +kernel
theorem d24_1 : decode (ix_by 24) 1 = .ok (.getfield 9, 3) := by decide +kernel
theorem d24_4 : decode (ix_by 24) 4 = .ok (.iload_n 1, 1) := by decide +kernel
theorem d24_5 : decode (ix_by 24) 5 = .ok (.aaload, 1) := by decide +kernel
theorem d24_6 : decode (ix_by 24) 6 = .ok (.areturn, 1) := by decide +kernel
theorem d25_0 : decode (ix_by 25) 0 = .ok (.aload_n 0, 1) := by decide +kernel
theorem d25_1 : decode (ix_by 25) 1 = .ok (.invokevirtual 50, 3) := by decide +kernel
theorem d25_4 : decode (ix_by 25) 4 = .ok (.ifCond .eq 10, 3) := by decide +kernel
theorem d25_7 : decode (ix_by 25) 7 = .ok (.aload_n 0, 1) := by decide +kernel
theorem d25_8 : decode (ix_by 25) 8 = .ok (.getfield 54, 3) := by decide +kernel
theorem d25_11 : decode (ix_by 25) 11 = .ok (.ifCond .eq 5, 3) := by decide +kernel
theorem d25_14 : decode (ix_by 25) 14 = .ok (.iconst 0, 1) := by decide +kernel
theorem d25_15 : decode (ix_by 25) 15 = .ok (.ireturn, 1) := by decide +kernel
theorem d25_16 : decode (ix_by 25) 16 = .ok (.aload_n 0, 1) := by decide +kernel
theorem d25_17 : decode (ix_by 25) 17 = .ok (.iconst 1, 1) := by decide +kernel
theorem d25_18 : decode (ix_by 25) 18 = .ok (.putfield 54, 3) := by decide +kernel
theorem d25_21 : decode (ix_by 25) 21 = .ok (.aload_n 0, 1) := by decide +kernel
theorem d25_22 : decode (ix_by 25) 22 = .ok (.aload_n 0, 1) := by decide +kernel
theorem d25_23 : decode (ix_by 25) 23 = .ok (.getfield 44, 3) := by decide +kernel
theorem d25_26 : decode (ix_by 25) 26 = .ok (.putfield 11, 3) := by decide +kernel
theorem d25_29 : decode (ix_by 25) 29 = .ok (.aload_n 0, 1) := by decide +kernel
theorem d25_30 : decode (ix_by 25) 30 = .ok (.iconst 0, 1) := by decide +kernel
theorem d25_31 : decode (ix_by 25) 31 = .ok (.putfield 58, 3) := by decide +kernel
theorem d25_34 : decode (ix_by 25) 34 = .ok (.aload_n 0, 1) := by decide +kernel
theorem d25_35 : decode (ix_by 25) 35 = .ok (.iconst 0, 1) := by decide +kernel
theorem d25_36 : decode (ix_by 25) 36 = .ok (.putfield 61, 3) := by decide +kernel
theorem d25_39 : decode (ix_by 25) 39 = .ok (.aload_n 0, 1) := by decide +kernel
theorem d25_40 : decode (ix_by 25) 40 = .ok (.iconst 0, 1) := by decide +kernel
theorem d25_41 : decode (ix_by 25) 41 = .ok (.putfield 64, 3) := by decide +kernel
theorem d25_44 : decode (ix_by 25) 44 = .ok (.aload_n 0, 1) := by decide +kernel
theorem d25_45 : decode (ix_by 25) 45 = .ok (.iconst 0, 1) := by decide +kernel
theorem d25_46 : decode (ix_by 25) 46 = .ok (.putfield 67, 3) := by decide +kernel
theorem d25_49 : decode (ix_by 25) 49 = .ok (.iconst 1, 1) := by decide +kernel
theorem d25_50 : decode (ix_by 25) 50 = .ok (.ireturn, 1) := by decide +kernel
theorem d26_0 : decode (ix_by 26) 0 = .ok (.aload_n 0, 1) := by decide +kernel
theorem d26_1 : decode (ix_by 26) 1 = .ok (.getfield 47, 3) := by decide +kernel
theorem d26_4 : decode (ix_by 26) 4 = .ok (.ifCond .ne 7, 3) := by decide +kernel
theorem d26_7 : decode (ix_by 26) 7 = .ok (.iconst 1, 1) := by decide +kernel
theorem d26_8 : decode (ix_by 26) 8 = .ok (.goto 4, 3) := by decide +kernel
theorem d26_11 : decode (ix_by 26) 11 = .ok (.iconst 0, 1) := by decide +kernel
theorem d26_12 : decode (ix_by 26) 12 = .ok (.ireturn, 1) := by decide +kernel
theorem d27_0 : decode (ix_by 27) 0 = .ok (.aload_n 0, 1) := by decide +kernel
theorem d27_1 : decode (ix_by 27) 1 = .ok (.iload_n 1, 1) := by decide +kernel
theorem d27_2 : decode (ix_by 27) 2 = .ok (.iload_n 2, 1) := by decide +kernel
theorem d27_3 : decode (ix_by 27) 3 = .ok (.invokevirtual 129, 3) := by decide +kernel
theorem d27_6 : decode (ix_by 27) 6 = .ok (.astore 4, 2) := by decide +kernel
theorem d27_8 : decode (ix_by 27) 8 = .ok (.aload 4, 2) := by decide +kernel
theorem d27_10 : decode (ix_by 27) 10 = .ok (.ifnull 16, 3) := by decide +kernel
theorem d27_13 : decode (ix_by 27) 13 = .ok (.aload 4, 2) := by decide +kernel
theorem d27_15 : decode (ix_by 27) 15 = .ok (.iload_n 3, 1) := by decide +kernel
theorem d27_16 : decode (ix_by 27) 16 = .ok (.invokevirtual 137, 3) := by decide +kernel
theorem d27_19 : decode (ix_by 27) 19 = .ok (.ifCond .eq 7, 3) := by decide +kernel
theorem d27_22 : decode (ix_by 27) 22 = .ok (.iconst 1, 1) := by decide +kernel
theorem d27_23 : decode (ix_by 27) 23 = .ok (.goto 4, 3) := by decide +kernel
theorem d27_26 : decode (ix_by 27) 26 = .ok (.iconst 0, 1) := by decide +kernel
theorem d27_27 : decode (ix_by 27) 27 = .ok (.ireturn, 1) := by decide +kernel
theorem d28_0 : decode (ix_by 28) 0 = .ok (.aload_n 0, 1) := by decide +kernel
theorem d28_1 : decode (ix_by 28) 1 = .ok (.invokevirtual 50, 3) := by decide +kernel
theorem d28_4 : decode (ix_by 28) 4 = .ok (.ifCond .eq 11, 3) := by decide +kernel
theorem d28_7 : decode (ix_by 28) 7 = .ok (.aload_n 0, 1) := by decide +kernel
theorem d28_8 : decode (ix_by 28) 8 = .ok (.getfield 70, 3) := by decide +kernel
theorem d28_11 : decode (ix_by 28) 11 = .ok (.iload_n 1, 1) := by decide +kernel
theorem d28_12 : decode (ix_by 28) 12 = .ok (.if_icmp .ne 5, 3) := by decide +kernel
theorem d28_15 : decode (ix_by 28) 15 = .ok (.iconst 0, 1) := by decide +kernel
theorem d28_16 : decode (ix_by 28) 16 = .ok (.ireturn, 1) := by decide +kernel
theorem d28_17 : decode (ix_by 28) 17 = .ok (.aload_n 0, 1) := by decide +kernel
theorem d28_18 : decode (ix_by 28) 18 = .ok (.iload_n 1, 1) := by decide +kernel
theorem d28_19 : decode (ix_by 28) 19 = .ok (.putfield 70, 3) := by decide +kernel
theorem d28_22 : decode (ix_by 28) 22 = .ok (.iconst 1, 1) := by decide +kernel
theorem d28_23 : decode (ix_by 28) 23 = .ok (.ireturn, 1) := by decide +kernel
theorem d29_0 : decode (ix_by 29) 0 = .ok (.aload_n 0, 1) := by decide +kernel
theorem d29_1 : decode (ix_by 29) 1 = .ok (.dup, 1) := by decide +kernel
theorem d29_2 : decode (ix_by 29) 2 = .ok (.getfield 27, 3) := by decide +kernel
theorem d29_5 : decode (ix_by 29) 5 = .ok (.iconst 1, 1) := by decide +kernel
theorem d29_6 : decode (ix_by 29) 6 = .ok (.iadd, 1) := by decide +kernel
theorem d29_7 : decode (ix_by 29) 7 = .ok (.putfield 27, 3) := by decide +kernel
theorem d29_10 : decode (ix_by 29) 10 = .ok (.iconst 0, 1) := by decide +kernel
theorem d29_11 : decode (ix_by 29) 11 = .ok (.istore_n 1, 1) := by decide +kernel
theorem d29_12 : decode (ix_by 29) 12 = .ok (.iload_n 1, 1) := by decide +kernel
theorem d29_13 : decode (ix_by 29) 13 = .ok (.iconst 2, 1) := by decide +kernel
theorem d29_14 : decode (ix_by 29) 14 = .ok (.if_icmp .ge 22, 3) := by decide +kernel
theorem d29_17 : decode (ix_by 29) 17 = .ok (.aload_n 0, 1) := by decide +kernel
theorem d29_18 : decode (ix_by 29) 18 = .ok (.getfield 16, 3) := by decide +kernel
theorem d29_21 : decode (ix_by 29) 21 = .ok (.iload_n 1, 1) := by decide +kernel
theorem d29_22 : decode (ix_by 29) 22 = .ok (.aaload, 1) := by decide +kernel
theorem d29_23 : decode (ix_by 29) 23 = .ok (.aload_n 0, 1) := by decide +kernel
theorem d29_24 : decode (ix_by 29) 24 = .ok (.getfield 27, 3) := by decide +kernel
theorem d29_27 : decode (ix_by 29) 27 = .ok (.invokevirtual 141, 3) := by decide +kernel
theorem d29_30 : decode (ix_by 29) 30 = .ok (.iinc 1 1, 3) := by decide +kernel
theorem d29_33 : decode (ix_by 29) 33 = .ok (.goto (-21), 3) := by decide +kernel
theorem d29_36 : decode (ix_by 29) 36 = .ok (.aload_n 0, 1) := by decide +kernel
theorem d29_37 : decode (ix_by 29) 37 = .ok (.getfield 27, 3) := by decide +kernel
theorem d29_40 : decode (ix_by 29) 40 = .ok (.ireturn, 1) := by decide +kernel
theorem d30_0 : decode (ix_by 30) 0 = .ok (.iconst 0, 1) := by decide +kernel
theorem d30_1 : decode (ix_by 30) 1 = .ok (.istore_n 2, 1) := by decide +kernel
theorem d30_2 : decode (ix_by 30) 2 = .ok (.iload_n 2, 1) := by decide +kernel
theorem d30_3 : decode (ix_by 30) 3 = .ok (.aload_n 0, 1) := by decide +kernel
theorem d30_4 : decode (ix_by 30) 4 = .ok (.getfield 23, 3) := by decide +kernel
theorem d30_7 : decode (ix_by 30) 7 = .ok (.invokevirtual 33, 3) := by decide +kernel
theorem d30_10 : decode (ix_by 30) 10 = .ok (.if_icmp .ge 23, 3) := by decide +kernel
theorem d30_13 : decode (ix_by 30) 13 = .ok (.aload_n 0, 1) := by decide +kernel
theorem d30_14 : decode (ix_by 30) 14 = .ok (.getfield 23, 3) := by decide +kernel
theorem d30_17 : decode (ix_by 30) 17 = .ok (.iload_n 2, 1) := by decide +kernel
theorem d30_18 : decode (ix_by 30) 18 = .ok (.invokevirtual 37, 3) := by decide +kernel
theorem d30_21 : decode (ix_by 30) 21 = .ok (.checkcast 41, 3) := by decide +kernel
theorem d30_24 : decode (ix_by 30) 24 = .ok (.invokevirtual 53, 3) := by decide +kernel
theorem d30_27 : decode (ix_by 30) 27 = .ok (.iinc 2 1, 3) := by decide +kernel
theorem d30_30 : decode (ix_by 30) 30 = .ok (.goto (-28), 3) := by decide +kernel
theorem d30_33 : decode (ix_by 30) 33 = .ok (.iconst 0, 1) := by decide +kernel
theorem d30_34 : decode (ix_by 30) 34 = .ok (.istore_n 2, 1) := by decide +kernel
theorem d30_35 : decode (ix_by 30) 35 = .ok (.iload_n 2, 1) := by decide +kernel
theorem d30_36 : decode (ix_by 30) 36 = .ok (.aload_n 0, 1) := by decide +kernel
theorem d30_37 : decode (ix_by 30) 37 = .ok (.getfield 26, 3) := by decide +kernel
theorem d30_40 : decode (ix_by 30) 40 = .ok (.invokevirtual 33, 3) := by decide +kernel
theorem d30_43 : decode (ix_by 30) 43 = .ok (.if_icmp .ge 24, 3) := by decide +kernel
theorem d30_46 : decode (ix_by 30) 46 = .ok (.aload_n 0, 1) := by decide +kernel
theorem d30_47 : decode (ix_by 30) 47 = .ok (.getfield 26, 3) := by decide +kernel
theorem d30_50 : decode (ix_by 30) 50 = .ok (.iload_n 2, 1) := by decide +kernel
theorem d30_51 : decode (ix_by 30) 51 = .ok (.invokevirtual 37, 3) := by decide +kernel
theorem d30_54 : decode (ix_by 30) 54 = .ok (.checkcast 56, 3) := by decide +kernel
theorem d30_57 : decode (ix_by 30) 57 = .ok (.iload_n 1, 1) := by decide +kernel
theorem d30_58 : decode (ix_by 30) 58 = .ok (.invokevirtual 58, 3) := by decide +kernel
theorem d30_61 : decode (ix_by 30) 61 = .ok (.iinc 2 1, 3) := by decide +kernel
theorem d30_64 : decode (ix_by 30) 64 = .ok (.goto (-29), 3) := by decide +kernel
theorem d30_67 : decode (ix_by 30) 67 = .ok (.aload_n 0, 1) := by decide +kernel
theorem d30_68 : decode (ix_by 30) 68 = .ok (.invokevirtual 61, 3) := by decide +kernel
theorem d30_71 : decode (ix_by 30) 71 = .ok (.return_, 1) := by decide +kernel
theorem d31_0 : decode (ix_by 31) 0 = .ok (.aload_n 0, 1) := by decide +kernel
theorem d31_1 : decode (ix_by 31) 1 = .ok (.invokevirtual 50, 3) := by decide +kernel
theorem d31_4 : decode (ix_by 31) 4 = .ok (.ifCond .eq 10, 3) := by decide +kernel
theorem d31_7 : decode (ix_by 31) 7 = .ok (.aload_n 0, 1) := by decide +kernel
theorem d31_8 : decode (ix_by 31) 8 = .ok (.getfield 70, 3) := by decide +kernel
theorem d31_11 : decode (ix_by 31) 11 = .ok (.ifCond .eq 4, 3) := by decide +kernel
theorem d31_14 : decode (ix_by 31) 14 = .ok (.return_, 1) := by decide +kernel
theorem d31_15 : decode (ix_by 31) 15 = .ok (.aload_n 0, 1) := by decide +kernel
theorem d31_16 : decode (ix_by 31) 16 = .ok (.dup, 1) := by decide +kernel
theorem d31_17 : decode (ix_by 31) 17 = .ok (.getfield 73, 3) := by decide +kernel
theorem d31_20 : decode (ix_by 31) 20 = .ok (.iconst 1, 1) := by decide +kernel
theorem d31_21 : decode (ix_by 31) 21 = .ok (.iadd, 1) := by decide +kernel
theorem d31_22 : decode (ix_by 31) 22 = .ok (.putfield 73, 3) := by decide +kernel
theorem d31_25 : decode (ix_by 31) 25 = .ok (.aload_n 0, 1) := by decide +kernel
theorem d31_26 : decode (ix_by 31) 26 = .ok (.getfield 11, 3) := by decide +kernel
theorem d31_29 : decode (ix_by 31) 29 = .ok (.aload_n 0, 1) := by decide +kernel
theorem d31_30 : decode (ix_by 31) 30 = .ok (.getfield 44, 3) := by decide +kernel
theorem d31_33 : decode (ix_by 31) 33 = .ok (.if_icmp .gt 10, 3) := by decide +kernel
theorem d31_36 : decode (ix_by 31) 36 = .ok (.aload_n 0, 1) := by decide +kernel
theorem d31_37 : decode (ix_by 31) 37 = .ok (.invokevirtual 76, 3) := by decide +kernel
theorem d31_40 : decode (ix_by 31) 40 = .ok (.goto 61, 3) := by decide +kernel
theorem d31_43 : decode (ix_by 31) 43 = .ok (.aload_n 0, 1) := by decide +kernel
theorem d31_44 : decode (ix_by 31) 44 = .ok (.getfield 58, 3) := by decide +kernel
theorem d31_47 : decode (ix_by 31) 47 = .ok (.ifCond .ne 10, 3) := by decide +kernel
theorem d31_50 : decode (ix_by 31) 50 = .ok (.aload_n 0, 1) := by decide +kernel
theorem d31_51 : decode (ix_by 31) 51 = .ok (.getfield 61, 3) := by decide +kernel
theorem d31_54 : decode (ix_by 31) 54 = .ok (.ifCond .eq 10, 3) := by decide +kernel
theorem d31_57 : decode (ix_by 31) 57 = .ok (.aload_n 0, 1) := by decide +kernel
theorem d31_58 : decode (ix_by 31) 58 = .ok (.invokevirtual 79, 3) := by decide +kernel
theorem d31_61 : decode (ix_by 31) 61 = .ok (.goto 40, 3) := by decide +kernel
theorem d31_64 : decode (ix_by 31) 64 = .ok (.aload_n 0, 1) := by decide +kernel
theorem d31_65 : decode (ix_by 31) 65 = .ok (.getfield 67, 3) := by decide +kernel
theorem d31_68 : decode (ix_by 31) 68 = .ok (.ifCond .ne 10, 3) := by decide +kernel
theorem d31_71 : decode (ix_by 31) 71 = .ok (.aload_n 0, 1) := by decide +kernel
theorem d31_72 : decode (ix_by 31) 72 = .ok (.invokevirtual 82, 3) := by decide +kernel
theorem d31_75 : decode (ix_by 31) 75 = .ok (.goto 26, 3) := by decide +kernel
theorem d31_78 : decode (ix_by 31) 78 = .ok (.aload_n 0, 1) := by decide +kernel
theorem d31_79 : decode (ix_by 31) 79 = .ok (.getfield 73, 3) := by decide +kernel
theorem d31_82 : decode (ix_by 31) 82 = .ok (.aload_n 0, 1) := by decide +kernel
theorem d31_83 : decode (ix_by 31) 83 = .ok (.getfield 85, 3) := by decide +kernel
theorem d31_86 : decode (ix_by 31) 86 = .ok (.isub, 1) := by decide +kernel
theorem d31_87 : decode (ix_by 31) 87 = .ok (.iconst 4, 1) := by decide +kernel
theorem d31_88 : decode (ix_by 31) 88 = .ok (.aload_n 0, 1) := by decide +kernel
theorem d31_89 : decode (ix_by 31) 89 = .ok (.getfield 27, 3) := by decide +kernel
theorem d31_92 : decode (ix_by 31) 92 = .ok (.imul, 1) := by decide +kernel
theorem d31_93 : decode (ix_by 31) 93 = .ok (.if_icmp .lt 8, 3) := by decide +kernel
theorem d31_96 : decode (ix_by 31) 96 = .ok (.aload_n 0, 1) := by decide +kernel
theorem d31_97 : decode (ix_by 31) 97 = .ok (.iconst 3, 1) := by decide +kernel
theorem d31_98 : decode (ix_by 31) 98 = .ok (.putfield 47, 3) := by decide +kernel
theorem d31_101 : decode (ix_by 31) 101 = .ok (.return_, 1) := by decide +kernel
theorem d32_0 : decode (ix_by 32) 0 = .ok (.aload_n 0, 1) := by decide +kernel
theorem d32_1 : decode (ix_by 32) 1 = .ok (.getfield 11, 3) := by decide +kernel
theorem d32_4 : decode (ix_by 32) 4 = .ok (.iconst (-1), 1) := by decide +kernel
theorem d32_5 : decode (ix_by 32) 5 = .ok (.if_icmp .ne 10, 3) := by decide +kernel
theorem d32_8 : decode (ix_by 32) 8 = .ok (.aload_n 0, 1) := by decide +kernel
theorem d32_9 : decode (ix_by 32) 9 = .ok (.invokevirtual 88, 3) := by decide +kernel
theorem d32_12 : decode (ix_by 32) 12 = .ok (.goto 55, 3) := by decide +kernel
theorem d32_15 : decode (ix_by 32) 15 = .ok (.aload_n 0, 1) := by decide +kernel
theorem d32_16 : decode (ix_by 32) 16 = .ok (.getfield 11, 3) := by decide +kernel
theorem d32_19 : decode (ix_by 32) 19 = .ok (.aload_n 0, 1) := by decide +kernel
theorem d32_20 : decode (ix_by 32) 20 = .ok (.getfield 44, 3) := by decide +kernel
theorem d32_23 : decode (ix_by 32) 23 = .ok (.if_icmp .ge 14, 3) := by decide +kernel
theorem d32_26 : decode (ix_by 32) 26 = .ok (.aload_n 0, 1) := by decide +kernel
theorem d32_27 : decode (ix_by 32) 27 = .ok (.aload_n 0, 1) := by decide +kernel
theorem d32_28 : decode (ix_by 32) 28 = .ok (.getfield 11, 3) := by decide +kernel
theorem d32_31 : decode (ix_by 32) 31 = .ok (.invokevirtual 91, 3) := by decide +kernel
theorem d32_34 : decode (ix_by 32) 34 = .ok (.goto 33, 3) := by decide +kernel
theorem d32_37 : decode (ix_by 32) 37 = .ok (.aload_n 0, 1) := by decide +kernel
theorem d32_38 : decode (ix_by 32) 38 = .ok (.invokevirtual 95, 3) := by decide +kernel
theorem d32_41 : decode (ix_by 32) 41 = .ok (.aload_n 0, 1) := by decide +kernel
theorem d32_42 : decode (ix_by 32) 42 = .ok (.getfield 15, 3) := by decide +kernel
theorem d32_45 : decode (ix_by 32) 45 = .ok (.invokevirtual 98, 3) := by decide +kernel
theorem d32_48 : decode (ix_by 32) 48 = .ok (.ifCond .ne 19, 3) := by decide +kernel
theorem d32_51 : decode (ix_by 32) 51 = .ok (.aload_n 0, 1) := by decide +kernel
theorem d32_52 : decode (ix_by 32) 52 = .ok (.aload_n 0, 1) := by decide +kernel
theorem d32_53 : decode (ix_by 32) 53 = .ok (.getfield 54, 3) := by decide +kernel
theorem d32_56 : decode (ix_by 32) 56 = .ok (.ifCond .eq 7, 3) := by decide +kernel
theorem d32_59 : decode (ix_by 32) 59 = .ok (.iconst 2, 1) := by decide +kernel
theorem d32_60 : decode (ix_by 32) 60 = .ok (.goto 4, 3) := by decide +kernel
theorem d32_63 : decode (ix_by 32) 63 = .ok (.iconst 1, 1) := by decide +kernel
theorem d32_64 : decode (ix_by 32) 64 = .ok (.putfield 47, 3) := by decide +kernel
theorem d32_67 : decode (ix_by 32) 67 = .ok (.aload_n 0, 1) := by decide +kernel
theorem d32_68 : decode (ix_by 32) 68 = .ok (.dup, 1) := by decide +kernel
theorem d32_69 : decode (ix_by 32) 69 = .ok (.getfield 11, 3) := by decide +kernel
theorem d32_72 : decode (ix_by 32) 72 = .ok (.iconst 1, 1) := by decide +kernel
theorem d32_73 : decode (ix_by 32) 73 = .ok (.iadd, 1) := by decide +kernel
theorem d32_74 : decode (ix_by 32) 74 = .ok (.putfield 11, 3) := by decide +kernel
theorem d32_77 : decode (ix_by 32) 77 = .ok (.return_, 1) := by decide +kernel
theorem d33_0 : decode (ix_by 33) 0 = .ok (.aload_n 0, 1) := by decide +kernel
theorem d33_1 : decode (ix_by 33) 1 = .ok (.iconst 1, 1) := by decide +kernel
theorem d33_2 : decode (ix_by 33) 2 = .ok (.aload_n 0, 1) := by decide +kernel
theorem d33_3 : decode (ix_by 33) 3 = .ok (.getfield 15, 3) := by decide +kernel
theorem d33_6 : decode (ix_by 33) 6 = .ok (.getfield 104, 3) := by decide +kernel
theorem d33_9 : decode (ix_by 33) 9 = .ok (.iconst 0, 1) := by decide +kernel
theorem d33_10 : decode (ix_by 33) 10 = .ok (.iconst 0, 1) := by decide +kernel
theorem d33_11 : decode (ix_by 33) 11 = .ok (.invokevirtual 107, 3) := by decide +kernel
theorem d33_14 : decode (ix_by 33) 14 = .ok (.return_, 1) := by decide +kernel
theorem d34_0 : decode (ix_by 34) 0 = .ok (.aload_n 0, 1) := by decide +kernel
theorem d34_1 : decode (ix_by 34) 1 = .ok (.getfield 23, 3) := by decide +kernel
theorem d34_4 : decode (ix_by 34) 4 = .ok (.new 121, 3) := by decide +kernel
theorem d34_7 : decode (ix_by 34) 7 = .ok (.dup, 1) := by decide +kernel
theorem d34_8 : decode (ix_by 34) 8 = .ok (.aload_n 0, 1) := by decide +kernel
theorem d34_9 : decode (ix_by 34) 9 = .ok (.getfield 15, 3) := by decide +kernel
theorem d34_12 : decode (ix_by 34) 12 = .ok (.iload_n 1, 1) := by decide +kernel
theorem d34_13 : decode (ix_by 34) 13 = .ok (.aload_n 0, 1) := by decide +kernel
theorem d34_14 : decode (ix_by 34) 14 = .ok (.getfield 15, 3) := by decide +kernel
theorem d34_17 : decode (ix_by 34) 17 = .ok (.invokevirtual 123, 3) := by decide +kernel
theorem d34_20 : decode (ix_by 34) 20 = .ok (.iload_n 2, 1) := by decide +kernel
theorem d34_21 : decode (ix_by 34) 21 = .ok (.iload_n 3, 1) := by decide +kernel
theorem d34_22 : decode (ix_by 34) 22 = .ok (.iload 4, 2) := by decide +kernel
theorem d34_24 : decode (ix_by 34) 24 = .ok (.invokespecial 127, 3) := by decide +kernel
theorem d34_27 : decode (ix_by 34) 27 = .ok (.invokevirtual 130, 3) := by decide +kernel
theorem d34_30 : decode (ix_by 34) 30 = .ok (.aload_n 0, 1) := by decide +kernel
theorem d34_31 : decode (ix_by 34) 31 = .ok (.aload_n 0, 1) := by decide +kernel
theorem d34_32 : decode (ix_by 34) 32 = .ok (.getfield 73, 3) := by decide +kernel
theorem d34_35 : decode (ix_by 34) 35 = .ok (.putfield 85, 3) := by decide +kernel
theorem d34_38 : decode (ix_by 34) 38 = .ok (.return_, 1) := by decide +kernel
theorem d35_0 : decode (ix_by 35) 0 = .ok (.iconst 1, 1) := by decide +kernel
theorem d35_1 : decode (ix_by 35) 1 = .ok (.aload_n 0, 1) := by decide +kernel
theorem d35_2 : decode (ix_by 35) 2 = .ok (.getfield 9, 3) := by decide +kernel
theorem d35_5 : decode (ix_by 35) 5 = .ok (.isub, 1) := by decide +kernel
theorem d35_6 : decode (ix_by 35) 6 = .ok (.ireturn, 1) := by decide +kernel
theorem d36_0 : decode (ix_by 36) 0 = .ok (.aload_n 0, 1) := by decide +kernel
theorem d36_1 : decode (ix_by 36) 1 = .ok (.invokespecial 1, 3) := by decide +kernel
theorem d36_4 : decode (ix_by 36) 4 = .ok (.aload_n 0, 1) := by decide +kernel
theorem d36_5 : decode (ix_by 36) 5 = .ok (.aload_n 1, 1) := by decide +kernel
theorem d36_6 : decode (ix_by 36) 6 = .ok (.putfield 7, 3) := by decide +kernel
theorem d36_9 : decode (ix_by 36) 9 = .ok (.aload_n 0, 1) := by decide +kernel
theorem d36_10 : decode (ix_by 36) 10 = .ok (.iload_n 2, 1) := by decide +kernel
theorem d36_11 : decode (ix_by 36) 11 = .ok (.putfield 13, 3) := by decide +kernel
theorem d36_14 : decode (ix_by 36) 14 = .ok (.aload_n 0, 1) := by decide +kernel
theorem d36_15 : decode (ix_by 36) 15 = .ok (.iload_n 3, 1) := by decide +kernel
theorem d36_16 : decode (ix_by 36) 16 = .ok (.putfield 17, 3) := by decide +kernel
theorem d36_19 : decode (ix_by 36) 19 = .ok (.aload_n 0, 1) := by decide +kernel
theorem d36_20 : decode (ix_by 36) 20 = .ok (.iload 4, 2) := by decide +kernel
theorem d36_22 : decode (ix_by 36) 22 = .ok (.putfield 20, 3) := by decide +kernel
theorem d36_25 : decode (ix_by 36) 25 = .ok (.aload_n 0, 1) := by decide +kernel
theorem d36_26 : decode (ix_by 36) 26 = .ok (.iload 5, 2) := by decide +kernel
theorem d36_28 : decode (ix_by 36) 28 = .ok (.putfield 23, 3) := by decide +kernel
theorem d36_31 : decode (ix_by 36) 31 = .ok (.aload_n 0, 1) := by decide +kernel
theorem d36_32 : decode (ix_by 36) 32 = .ok (.iload 6, 2) := by decide +kernel
theorem d36_34 : decode (ix_by 36) 34 = .ok (.putfield 26, 3) := by decide +kernel
theorem d36_37 : decode (ix_by 36) 37 = .ok (.return_, 1) := by decide +kernel
theorem d37_0 : decode (ix_by 37) 0 = .ok (.aload_n 0, 1) := by decide +kernel
theorem d37_1 : decode (ix_by 37) 1 = .ok (.getfield 17, 3) := by decide +kernel
theorem d37_4 : decode (ix_by 37) 4 = .ok (.bipush 24, 2) := by decide +kernel
theorem d37_6 : decode (ix_by 37) 6 = .ok (.if_icmp .ge 23, 3) := by decide +kernel
theorem d37_9 : decode (ix_by 37) 9 = .ok (.aload_n 0, 1) := by decide +kernel
theorem d37_10 : decode (ix_by 37) 10 = .ok (.getfield 11, 3) := by decide +kernel
theorem d37_13 : decode (ix_by 37) 13 = .ok (.aload_n 0, 1) := by decide +kernel
theorem d37_14 : decode (ix_by 37) 14 = .ok (.getfield 17, 3) := by decide +kernel
theorem d37_17 : decode (ix_by 37) 17 = .ok (.aload_n 1, 1) := by decide +kernel
theorem d37_18 : decode (ix_by 37) 18 = .ok (.aastore, 1) := by decide +kernel
theorem d37_19 : decode (ix_by 37) 19 = .ok (.aload_n 0, 1) := by decide +kernel
theorem d37_20 : decode (ix_by 37) 20 = .ok (.dup, 1) := by decide +kernel
theorem d37_21 : decode (ix_by 37) 21 = .ok (.getfield 17, 3) := by decide +kernel
theorem d37_24 : decode (ix_by 37) 24 = .ok (.iconst 1, 1) := by decide +kernel
theorem d37_25 : decode (ix_by 37) 25 = .ok (.iadd, 1) := by decide +kernel
theorem d37_26 : decode (ix_by 37) 26 = .ok (.putfield 17, 3) := by decide +kernel
theorem d37_29 : decode (ix_by 37) 29 = .ok (.return_, 1) := by decide +kernel
theorem d38_0 : decode (ix_by 38) 0 = .ok (.aload_n 0, 1) := by decide +kernel
theorem d38_1 : decode (ix_by 38) 1 = .ok (.getfield 19, 3) := by decide +kernel
theorem d38_4 : decode (ix_by 38) 4 = .ok (.aload_n 0, 1) := by decide +kernel
theorem d38_5 : decode (ix_by 38) 5 = .ok (.getfield 15, 3) := by decide +kernel
theorem d38_8 : decode (ix_by 38) 8 = .ok (.getfield 30, 3) := by decide +kernel
theorem d38_11 : decode (ix_by 38) 11 = .ok (.iload_n 1, 1) := by decide +kernel
theorem d38_12 : decode (ix_by 38) 12 = .ok (.invokevirtual 111, 3) := by decide +kernel
theorem d38_15 : decode (ix_by 38) 15 = .ok (.istore_n 2, 1) := by decide +kernel
theorem d38_16 : decode (ix_by 38) 16 = .ok (.aload_n 0, 1) := by decide +kernel
theorem d38_17 : decode (ix_by 38) 17 = .ok (.iconst 2, 1) := by decide +kernel
theorem d38_18 : decode (ix_by 38) 18 = .ok (.iload_n 1, 1) := by decide +kernel
theorem d38_19 : decode (ix_by 38) 19 = .ok (.iload_n 2, 1) := by decide +kernel
theorem d38_20 : decode (ix_by 38) 20 = .ok (.aload_n 0, 1) := by decide +kernel
theorem d38_21 : decode (ix_by 38) 21 = .ok (.getfield 19, 3) := by decide +kernel
theorem d38_24 : decode (ix_by 38) 24 = .ok (.aload_n 0, 1) := by decide +kernel
theorem d38_25 : decode (ix_by 38) 25 = .ok (.getfield 15, 3) := by decide +kernel
theorem d38_28 : decode (ix_by 38) 28 = .ok (.getfield 30, 3) := by decide +kernel
theorem d38_31 : decode (ix_by 38) 31 = .ok (.iload_n 1, 1) := by decide +kernel
theorem d38_32 : decode (ix_by 38) 32 = .ok (.invokevirtual 115, 3) := by decide +kernel
theorem d38_35 : decode (ix_by 38) 35 = .ok (.invokevirtual 107, 3) := by decide +kernel
theorem d38_38 : decode (ix_by 38) 38 = .ok (.return_, 1) := by decide +kernel
theorem d39_0 : decode (ix_by 39) 0 = .ok (.aload_n 0, 1) := by decide +kernel
theorem d39_1 : decode (ix_by 39) 1 = .ok (.getfield 16, 3) := by decide +kernel
theorem d39_4 : decode (ix_by 39) 4 = .ok (.iload_n 1, 1) := by decide +kernel
theorem d39_5 : decode (ix_by 39) 5 = .ok (.iaload, 1) := by decide +kernel
theorem d39_6 : decode (ix_by 39) 6 = .ok (.iload_n 2, 1) := by decide +kernel
theorem d39_7 : decode (ix_by 39) 7 = .ok (.iconst 4, 1) := by decide +kernel
theorem d39_8 : decode (ix_by 39) 8 = .ok (.imul, 1) := by decide +kernel
theorem d39_9 : decode (ix_by 39) 9 = .ok (.isub, 1) := by decide +kernel
theorem d39_10 : decode (ix_by 39) 10 = .ok (.istore_n 3, 1) := by decide +kernel
theorem d39_11 : decode (ix_by 39) 11 = .ok (.iload_n 3, 1) := by decide +kernel
theorem d39_12 : decode (ix_by 39) 12 = .ok (.iconst 4, 1) := by decide +kernel
theorem d39_13 : decode (ix_by 39) 13 = .ok (.if_icmp .ge 7, 3) := by decide +kernel
theorem d39_16 : decode (ix_by 39) 16 = .ok (.iload_n 3, 1) := by decide +kernel
theorem d39_17 : decode (ix_by 39) 17 = .ok (.goto 4, 3) := by decide +kernel
theorem d39_20 : decode (ix_by 39) 20 = .ok (.iconst 4, 1) := by decide +kernel
theorem d39_21 : decode (ix_by 39) 21 = .ok (.ireturn, 1) := by decide +kernel
theorem d40_0 : decode (ix_by 40) 0 = .ok (.iconst 0, 1) := by decide +kernel
theorem d40_1 : decode (ix_by 40) 1 = .ok (.istore_n 3, 1) := by decide +kernel
theorem d40_2 : decode (ix_by 40) 2 = .ok (.aload_n 0, 1) := by decide +kernel
theorem d40_3 : decode (ix_by 40) 3 = .ok (.iload_n 1, 1) := by decide +kernel
theorem d40_4 : decode (ix_by 40) 4 = .ok (.iload_n 2, 1) := by decide +kernel
theorem d40_5 : decode (ix_by 40) 5 = .ok (.invokevirtual 24, 3) := by decide +kernel
theorem d40_8 : decode (ix_by 40) 8 = .ok (.istore 4, 2) := by decide +kernel
theorem d40_10 : decode (ix_by 40) 10 = .ok (.iconst 0, 1) := by decide +kernel
theorem d40_11 : decode (ix_by 40) 11 = .ok (.istore 5, 2) := by decide +kernel
theorem d40_13 : decode (ix_by 40) 13 = .ok (.iload 5, 2) := by decide +kernel
theorem d40_15 : decode (ix_by 40) 15 = .ok (.iload 4, 2) := by decide +kernel
theorem d40_17 : decode (ix_by 40) 17 = .ok (.if_icmp .ge 29, 3) := by decide +kernel
theorem d40_20 : decode (ix_by 40) 20 = .ok (.iload_n 3, 1) := by decide +kernel
theorem d40_21 : decode (ix_by 40) 21 = .ok (.aload_n 0, 1) := by decide +kernel
theorem d40_22 : decode (ix_by 40) 22 = .ok (.iload_n 1, 1) := by decide +kernel
theorem d40_23 : decode (ix_by 40) 23 = .ok (.iload_n 2, 1) := by decide +kernel
theorem d40_24 : decode (ix_by 40) 24 = .ok (.iconst 4, 1) := by decide +kernel
theorem d40_25 : decode (ix_by 40) 25 = .ok (.imul, 1) := by decide +kernel
theorem d40_26 : decode (ix_by 40) 26 = .ok (.iload 5, 2) := by decide +kernel
theorem d40_28 : decode (ix_by 40) 28 = .ok (.iadd, 1) := by decide +kernel
theorem d40_29 : decode (ix_by 40) 29 = .ok (.invokevirtual 28, 3) := by decide +kernel
theorem d40_32 : decode (ix_by 40) 32 = .ok (.bipush 8, 2) := by decide +kernel
theorem d40_34 : decode (ix_by 40) 34 = .ok (.iload 5, 2) := by decide +kernel
theorem d40_36 : decode (ix_by 40) 36 = .ok (.imul, 1) := by decide +kernel
theorem d40_37 : decode (ix_by 40) 37 = .ok (.ishl, 1) := by decide +kernel
theorem d40_38 : decode (ix_by 40) 38 = .ok (.ior, 1) := by decide +kernel
theorem d40_39 : decode (ix_by 40) 39 = .ok (.istore_n 3, 1) := by decide +kernel
theorem d40_40 : decode (ix_by 40) 40 = .ok (.iinc 5 1, 3) := by decide +kernel
theorem d40_43 : decode (ix_by 40) 43 = .ok (.goto (-30), 3) := by decide +kernel
theorem d40_46 : decode (ix_by 40) 46 = .ok (.iload_n 3, 1) := by decide +kernel
theorem d40_47 : decode (ix_by 40) 47 = .ok (.ireturn, 1) := by decide +kernel
theorem d41_0 : decode (ix_by 41) 0 = .ok (.aload_n 0, 1) := by decide +kernel
theorem d41_1 : decode (ix_by 41) 1 = .ok (.getfield 11, 3) := by decide +kernel
theorem d41_4 : decode (ix_by 41) 4 = .ok (.iload_n 1, 1) := by decide +kernel
theorem d41_5 : decode (ix_by 41) 5 = .ok (.aaload, 1) := by decide +kernel
theorem d41_6 : decode (ix_by 41) 6 = .ok (.iload_n 2, 1) := by decide +kernel
theorem d41_7 : decode (ix_by 41) 7 = .ok (.baload, 1) := by decide +kernel
theorem d41_8 : decode (ix_by 41) 8 = .ok (.sipush 255, 3) := by decide +kernel
theorem d41_11 : decode (ix_by 41) 11 = .ok (.iand, 1) := by decide +kernel
theorem d41_12 : decode (ix_by 41) 12 = .ok (.ireturn, 1) := by decide +kernel
theorem d42_0 : decode (ix_by 42) 0 = .ok (.aload_n 0, 1) := by decide +kernel
theorem d42_1 : decode (ix_by 42) 1 = .ok (.dup, 1) := by decide +kernel
theorem d42_2 : decode (ix_by 42) 2 = .ok (.getfield 64, 3) := by decide +kernel
theorem d42_5 : decode (ix_by 42) 5 = .ok (.iconst 1, 1) := by decide +kernel
theorem d42_6 : decode (ix_by 42) 6 = .ok (.iadd, 1) := by decide +kernel
theorem d42_7 : decode (ix_by 42) 7 = .ok (.putfield 64, 3) := by decide +kernel
theorem d42_10 : decode (ix_by 42) 10 = .ok (.aload_n 0, 1) := by decide +kernel
theorem d42_11 : decode (ix_by 42) 11 = .ok (.aload_n 0, 1) := by decide +kernel
theorem d42_12 : decode (ix_by 42) 12 = .ok (.getfield 73, 3) := by decide +kernel
theorem d42_15 : decode (ix_by 42) 15 = .ok (.putfield 101, 3) := by decide +kernel
theorem d42_18 : decode (ix_by 42) 18 = .ok (.aload_n 0, 1) := by decide +kernel
theorem d42_19 : decode (ix_by 42) 19 = .ok (.getfield 54, 3) := by decide +kernel
theorem d42_22 : decode (ix_by 42) 22 = .ok (.ifCond .eq 14, 3) := by decide +kernel
theorem d42_25 : decode (ix_by 42) 25 = .ok (.aload_n 0, 1) := by decide +kernel
theorem d42_26 : decode (ix_by 42) 26 = .ok (.iconst 3, 1) := by decide +kernel
theorem d42_27 : decode (ix_by 42) 27 = .ok (.iconst (-1), 1) := by decide +kernel
theorem d42_28 : decode (ix_by 42) 28 = .ok (.iconst 0, 1) := by decide +kernel
theorem d42_29 : decode (ix_by 42) 29 = .ok (.iconst 0, 1) := by decide +kernel
theorem d42_30 : decode (ix_by 42) 30 = .ok (.invokevirtual 107, 3) := by decide +kernel
theorem d42_33 : decode (ix_by 42) 33 = .ok (.goto 37, 3) := by decide +kernel
theorem d42_36 : decode (ix_by 42) 36 = .ok (.aload_n 0, 1) := by decide +kernel
theorem d42_37 : decode (ix_by 42) 37 = .ok (.iconst 3, 1) := by decide +kernel
theorem d42_38 : decode (ix_by 42) 38 = .ok (.aload_n 0, 1) := by decide +kernel
theorem d42_39 : decode (ix_by 42) 39 = .ok (.getfield 19, 3) := by decide +kernel
theorem d42_42 : decode (ix_by 42) 42 = .ok (.aload_n 0, 1) := by decide +kernel
theorem d42_43 : decode (ix_by 42) 43 = .ok (.getfield 15, 3) := by decide +kernel
theorem d42_46 : decode (ix_by 42) 46 = .ok (.getfield 30, 3) := by decide +kernel
theorem d42_49 : decode (ix_by 42) 49 = .ok (.invokevirtual 35, 3) := by decide +kernel
theorem d42_52 : decode (ix_by 42) 52 = .ok (.iconst 0, 1) := by decide +kernel
theorem d42_53 : decode (ix_by 42) 53 = .ok (.aload_n 0, 1) := by decide +kernel
theorem d42_54 : decode (ix_by 42) 54 = .ok (.getfield 19, 3) := by decide +kernel
theorem d42_57 : decode (ix_by 42) 57 = .ok (.aload_n 0, 1) := by decide +kernel
theorem d42_58 : decode (ix_by 42) 58 = .ok (.getfield 15, 3) := by decide +kernel
theorem d42_61 : decode (ix_by 42) 61 = .ok (.getfield 30, 3) := by decide +kernel
theorem d42_64 : decode (ix_by 42) 64 = .ok (.invokevirtual 118, 3) := by decide +kernel
theorem d42_67 : decode (ix_by 42) 67 = .ok (.invokevirtual 107, 3) := by decide +kernel
theorem d42_70 : decode (ix_by 42) 70 = .ok (.return_, 1) := by decide +kernel
theorem d43_0 : decode (ix_by 43) 0 = .ok (.aload_n 0, 1) := by decide +kernel
theorem d43_1 : decode (ix_by 43) 1 = .ok (.getfield 11, 3) := by decide +kernel
theorem d43_4 : decode (ix_by 43) 4 = .ok (.iload_n 1, 1) := by decide +kernel
theorem d43_5 : decode (ix_by 43) 5 = .ok (.aaload, 1) := by decide +kernel
theorem d43_6 : decode (ix_by 43) 6 = .ok (.aload_n 0, 1) := by decide +kernel
theorem d43_7 : decode (ix_by 43) 7 = .ok (.getfield 16, 3) := by decide +kernel
theorem d43_10 : decode (ix_by 43) 10 = .ok (.iload_n 1, 1) := by decide +kernel
theorem d43_11 : decode (ix_by 43) 11 = .ok (.iaload, 1) := by decide +kernel
theorem d43_12 : decode (ix_by 43) 12 = .ok (.invokestatic 20, 3) := by decide +kernel
theorem d43_15 : decode (ix_by 43) 15 = .ok (.ireturn, 1) := by decide +kernel
theorem d44_0 : decode (ix_by 44) 0 = .ok (.iconst 0, 1) := by decide +kernel
theorem d44_1 : decode (ix_by 44) 1 = .ok (.istore_n 2, 1) := by decide +kernel
theorem d44_2 : decode (ix_by 44) 2 = .ok (.iconst 0, 1) := by decide +kernel
theorem d44_3 : decode (ix_by 44) 3 = .ok (.istore_n 3, 1) := by decide +kernel
theorem d44_4 : decode (ix_by 44) 4 = .ok (.iload_n 3, 1) := by decide +kernel
theorem d44_5 : decode (ix_by 44) 5 = .ok (.iload_n 1, 1) := by decide +kernel
theorem d44_6 : decode (ix_by 44) 6 = .ok (.if_icmp .ge 38, 3) := by decide +kernel
theorem d44_9 : decode (ix_by 44) 9 = .ok (.iload_n 3, 1) := by decide +kernel
theorem d44_10 : decode (ix_by 44) 10 = .ok (.aload_n 0, 1) := by decide +kernel
theorem d44_11 : decode (ix_by 44) 11 = .ok (.arraylength, 1) := by decide +kernel
theorem d44_12 : decode (ix_by 44) 12 = .ok (.if_icmp .ge 32, 3) := by decide +kernel
theorem d44_15 : decode (ix_by 44) 15 = .ok (.iconst 3, 1) := by decide +kernel
theorem d44_16 : decode (ix_by 44) 16 = .ok (.iload_n 3, 1) := by decide +kernel
theorem d44_17 : decode (ix_by 44) 17 = .ok (.iconst 4, 1) := by decide +kernel
theorem d44_18 : decode (ix_by 44) 18 = .ok (.irem, 1) := by decide +kernel
theorem d44_19 : decode (ix_by 44) 19 = .ok (.isub, 1) := by decide +kernel
theorem d44_20 : decode (ix_by 44) 20 = .ok (.istore 4, 2) := by decide +kernel
theorem d44_22 : decode (ix_by 44) 22 = .ok (.iload_n 2, 1) := by decide +kernel
theorem d44_23 : decode (ix_by 44) 23 = .ok (.aload_n 0, 1) := by decide +kernel
theorem d44_24 : decode (ix_by 44) 24 = .ok (.iload_n 3, 1) := by decide +kernel
theorem d44_25 : decode (ix_by 44) 25 = .ok (.baload, 1) := by decide +kernel
theorem d44_26 : decode (ix_by 44) 26 = .ok (.sipush 255, 3) := by decide +kernel
theorem d44_29 : decode (ix_by 44) 29 = .ok (.iand, 1) := by decide +kernel
theorem d44_30 : decode (ix_by 44) 30 = .ok (.bipush 8, 2) := by decide +kernel
theorem d44_32 : decode (ix_by 44) 32 = .ok (.iload 4, 2) := by decide +kernel
theorem d44_34 : decode (ix_by 44) 34 = .ok (.imul, 1) := by decide +kernel
theorem d44_35 : decode (ix_by 44) 35 = .ok (.ishl, 1) := by decide +kernel
theorem d44_36 : decode (ix_by 44) 36 = .ok (.iadd, 1) := by decide +kernel
theorem d44_37 : decode (ix_by 44) 37 = .ok (.istore_n 2, 1) := by decide +kernel
theorem d44_38 : decode (ix_by 44) 38 = .ok (.iinc 3 1, 3) := by decide +kernel
theorem d44_41 : decode (ix_by 44) 41 = .ok (.goto (-37), 3) := by decide +kernel
theorem d44_44 : decode (ix_by 44) 44 = .ok (.iload_n 2, 1) := by decide +kernel
theorem d44_45 : decode (ix_by 44) 45 = .ok (.ireturn, 1) := by decide +kernel
theorem d45_0 : decode (ix_by 45) 0 = .ok (.aload_n 0, 1) := by decide +kernel
theorem d45_1 : decode (ix_by 45) 1 = .ok (.getfield 24, 3) := by decide +kernel
theorem d45_4 : decode (ix_by 45) 4 = .ok (.iconst 2, 1) := by decide +kernel
theorem d45_5 : decode (ix_by 45) 5 = .ok (.if_icmp .ne 7, 3) := by decide +kernel
theorem d45_8 : decode (ix_by 45) 8 = .ok (.iconst 1, 1) := by decide +kernel
theorem d45_9 : decode (ix_by 45) 9 = .ok (.goto 4, 3) := by decide +kernel
theorem d45_12 : decode (ix_by 45) 12 = .ok (.iconst 0, 1) := by decide +kernel
theorem d45_13 : decode (ix_by 45) 13 = .ok (.ireturn, 1) := by decide +kernel
theorem d46_0 : decode (ix_by 46) 0 = .ok (.aload_n 0, 1) := by decide +kernel
theorem d46_1 : decode (ix_by 46) 1 = .ok (.getfield 58, 3) := by decide +kernel
theorem d46_4 : decode (ix_by 46) 4 = .ok (.ifCond .eq 13, 3) := by decide +kernel
theorem d46_7 : decode (ix_by 46) 7 = .ok (.aload_n 0, 1) := by decide +kernel
theorem d46_8 : decode (ix_by 46) 8 = .ok (.iconst 0, 1) := by decide +kernel
theorem d46_9 : decode (ix_by 46) 9 = .ok (.putfield 58, 3) := by decide +kernel
theorem d46_12 : decode (ix_by 46) 12 = .ok (.aload_n 0, 1) := by decide +kernel
theorem d46_13 : decode (ix_by 46) 13 = .ok (.invokevirtual 88, 3) := by decide +kernel
theorem d46_16 : decode (ix_by 46) 16 = .ok (.return_, 1) := by decide +kernel
theorem d46_17 : decode (ix_by 46) 17 = .ok (.iconst 0, 1) := by decide +kernel
theorem d46_18 : decode (ix_by 46) 18 = .ok (.istore_n 1, 1) := by decide +kernel
theorem d46_19 : decode (ix_by 46) 19 = .ok (.iload_n 1, 1) := by decide +kernel
theorem d46_20 : decode (ix_by 46) 20 = .ok (.aload_n 0, 1) := by decide +kernel
theorem d46_21 : decode (ix_by 46) 21 = .ok (.getfield 44, 3) := by decide +kernel
theorem d46_24 : decode (ix_by 46) 24 = .ok (.if_icmp .ge 40, 3) := by decide +kernel
theorem d46_27 : decode (ix_by 46) 27 = .ok (.iconst 1, 1) := by decide +kernel
theorem d46_28 : decode (ix_by 46) 28 = .ok (.iload_n 1, 1) := by decide +kernel
theorem d46_29 : decode (ix_by 46) 29 = .ok (.ishl, 1) := by decide +kernel
theorem d46_30 : decode (ix_by 46) 30 = .ok (.istore_n 2, 1) := by decide +kernel
theorem d46_31 : decode (ix_by 46) 31 = .ok (.aload_n 0, 1) := by decide +kernel
theorem d46_32 : decode (ix_by 46) 32 = .ok (.getfield 61, 3) := by decide +kernel
theorem d46_35 : decode (ix_by 46) 35 = .ok (.iload_n 2, 1) := by decide +kernel
theorem d46_36 : decode (ix_by 46) 36 = .ok (.iand, 1) := by decide +kernel
theorem d46_37 : decode (ix_by 46) 37 = .ok (.ifCond .eq 21, 3) := by decide +kernel
theorem d46_40 : decode (ix_by 46) 40 = .ok (.aload_n 0, 1) := by decide +kernel
theorem d46_41 : decode (ix_by 46) 41 = .ok (.dup, 1) := by decide +kernel
theorem d46_42 : decode (ix_by 46) 42 = .ok (.getfield 61, 3) := by decide +kernel
theorem d46_45 : decode (ix_by 46) 45 = .ok (.iload_n 2, 1) := by decide +kernel
theorem d46_46 : decode (ix_by 46) 46 = .ok (.iconst (-1), 1) := by decide +kernel
theorem d46_47 : decode (ix_by 46) 47 = .ok (.ixor, 1) := by decide +kernel
theorem d46_48 : decode (ix_by 46) 48 = .ok (.iand, 1) := by decide +kernel
theorem d46_49 : decode (ix_by 46) 49 = .ok (.putfield 61, 3) := by decide +kernel
theorem d46_52 : decode (ix_by 46) 52 = .ok (.aload_n 0, 1) := by decide +kernel
theorem d46_53 : decode (ix_by 46) 53 = .ok (.iload_n 1, 1) := by decide +kernel
theorem d46_54 : decode (ix_by 46) 54 = .ok (.invokevirtual 91, 3) := by decide +kernel
theorem d46_57 : decode (ix_by 46) 57 = .ok (.return_, 1) := by decide +kernel
theorem d46_58 : decode (ix_by 46) 58 = .ok (.iinc 1 1, 3) := by decide +kernel
theorem d46_61 : decode (ix_by 46) 61 = .ok (.goto (-42), 3) := by decide +kernel
theorem d46_64 : decode (ix_by 46) 64 = .ok (.return_, 1) := by decide +kernel
theorem d47_0 : decode (ix_by 47) 0 = .ok (.aload_n 0, 1) := by decide +kernel
theorem d47_1 : decode (ix_by 47) 1 = .ok (.getfield 73, 3) := by decide +kernel
theorem d47_4 : decode (ix_by 47) 4 = .ok (.aload_n 0, 1) := by decide +kernel
theorem d47_5 : decode (ix_by 47) 5 = .ok (.getfield 101, 3) := by decide +kernel
theorem d47_8 : decode (ix_by 47) 8 = .ok (.isub, 1) := by decide +kernel
theorem d47_9 : decode (ix_by 47) 9 = .ok (.aload_n 0, 1) := by decide +kernel
theorem d47_10 : decode (ix_by 47) 10 = .ok (.getfield 27, 3) := by decide +kernel
theorem d47_13 : decode (ix_by 47) 13 = .ok (.if_icmp .ge 4, 3) := by decide +kernel
theorem d47_16 : decode (ix_by 47) 16 = .ok (.return_, 1) := by decide +kernel
theorem d47_17 : decode (ix_by 47) 17 = .ok (.aload_n 0, 1) := by decide +kernel
theorem d47_18 : decode (ix_by 47) 18 = .ok (.getfield 64, 3) := by decide +kernel
theorem d47_21 : decode (ix_by 47) 21 = .ok (.iconst 3, 1) := by decide +kernel
theorem d47_22 : decode (ix_by 47) 22 = .ok (.if_icmp .lt 11, 3) := by decide +kernel
theorem d47_25 : decode (ix_by 47) 25 = .ok (.aload_n 0, 1) := by decide +kernel
theorem d47_26 : decode (ix_by 47) 26 = .ok (.iconst 3, 1) := by decide +kernel
theorem d47_27 : decode (ix_by 47) 27 = .ok (.putfield 47, 3) := by decide +kernel
theorem d47_30 : decode (ix_by 47) 30 = .ok (.goto 7, 3) := by decide +kernel
theorem d47_33 : decode (ix_by 47) 33 = .ok (.aload_n 0, 1) := by decide +kernel
theorem d47_34 : decode (ix_by 47) 34 = .ok (.invokevirtual 95, 3) := by decide +kernel
theorem d47_37 : decode (ix_by 47) 37 = .ok (.return_, 1) := by decide +kernel
