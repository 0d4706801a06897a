/-! DECODE ROWS -/
theorem d_C_closeGaps_0 : decode (mi_code n_C_closeGaps) 0 = .ok (.iconst 0, 1) := by decide +kernel
theorem d_C_closeGaps_1 : decode (mi_code n_C_closeGaps) 1 = .ok (.istore_n 1, 1) := by decide +kernel
theorem d_C_closeGaps_2 : decode (mi_code n_C_closeGaps) 2 = .ok (.iload_n 1, 1) := by decide +kernel
theorem d_C_closeGaps_3 : decode (mi_code n_C_closeGaps) 3 = .ok (.bipush 12, 2) := by decide +kernel
theorem d_C_closeGaps_5 : decode (mi_code n_C_closeGaps) 5 = .ok (.if_icmp .ge 97, 3) := by decide +kernel
theorem d_C_closeGaps_8 : decode (mi_code n_C_closeGaps) 8 = .ok (.iconst 0, 1) := by decide +kernel
theorem d_C_closeGaps_9 : decode (mi_code n_C_closeGaps) 9 = .ok (.istore_n 2, 1) := by decide +kernel
theorem d_C_closeGaps_10 : decode (mi_code n_C_closeGaps) 10 = .ok (.iload_n 2, 1) := by decide +kernel
theorem d_C_closeGaps_11 : decode (mi_code n_C_closeGaps) 11 = .ok (.bipush 16, 2) := by decide +kernel
theorem d_C_closeGaps_13 : decode (mi_code n_C_closeGaps) 13 = .ok (.if_icmp .ge 83, 3) := by decide +kernel
theorem d_C_closeGaps_16 : decode (mi_code n_C_closeGaps) 16 = .ok (.aload_n 0, 1) := by decide +kernel
theorem d_C_closeGaps_17 : decode (mi_code n_C_closeGaps) 17 = .ok (.iload_n 2, 1) := by decide +kernel
theorem d_C_closeGaps_18 : decode (mi_code n_C_closeGaps) 18 = .ok (.iconst 1, 1) := by decide +kernel
theorem d_C_closeGaps_19 : decode (mi_code n_C_closeGaps) 19 = .ok (.isub, 1) := by decide +kernel
theorem d_C_closeGaps_20 : decode (mi_code n_C_closeGaps) 20 = .ok (.iload_n 1, 1) := by decide +kernel
theorem d_C_closeGaps_21 : decode (mi_code n_C_closeGaps) 21 = .ok (.invokevirtual 81, 3) := by decide +kernel
theorem d_C_closeGaps_24 : decode (mi_code n_C_closeGaps) 24 = .ok (.ifCond .eq 14, 3) := by decide +kernel
theorem d_C_closeGaps_27 : decode (mi_code n_C_closeGaps) 27 = .ok (.aload_n 0, 1) := by decide +kernel
theorem d_C_closeGaps_28 : decode (mi_code n_C_closeGaps) 28 = .ok (.iload_n 2, 1) := by decide +kernel
theorem d_C_closeGaps_29 : decode (mi_code n_C_closeGaps) 29 = .ok (.iconst 1, 1) := by decide +kernel
theorem d_C_closeGaps_30 : decode (mi_code n_C_closeGaps) 30 = .ok (.iadd, 1) := by decide +kernel
theorem d_C_closeGaps_31 : decode (mi_code n_C_closeGaps) 31 = .ok (.iload_n 1, 1) := by decide +kernel
theorem d_C_closeGaps_32 : decode (mi_code n_C_closeGaps) 32 = .ok (.invokevirtual 81, 3) := by decide +kernel
theorem d_C_closeGaps_35 : decode (mi_code n_C_closeGaps) 35 = .ok (.ifCond .ne 25, 3) := by decide +kernel
theorem d_C_closeGaps_38 : decode (mi_code n_C_closeGaps) 38 = .ok (.aload_n 0, 1) := by decide +kernel
theorem d_C_closeGaps_39 : decode (mi_code n_C_closeGaps) 39 = .ok (.iload_n 2, 1) := by decide +kernel
theorem d_C_closeGaps_40 : decode (mi_code n_C_closeGaps) 40 = .ok (.iload_n 1, 1) := by decide +kernel
theorem d_C_closeGaps_41 : decode (mi_code n_C_closeGaps) 41 = .ok (.iconst 1, 1) := by decide +kernel
theorem d_C_closeGaps_42 : decode (mi_code n_C_closeGaps) 42 = .ok (.isub, 1) := by decide +kernel
theorem d_C_closeGaps_43 : decode (mi_code n_C_closeGaps) 43 = .ok (.invokevirtual 81, 3) := by decide +kernel
theorem d_C_closeGaps_46 : decode (mi_code n_C_closeGaps) 46 = .ok (.ifCond .eq 18, 3) := by decide +kernel
theorem d_C_closeGaps_49 : decode (mi_code n_C_closeGaps) 49 = .ok (.aload_n 0, 1) := by decide +kernel
theorem d_C_closeGaps_50 : decode (mi_code n_C_closeGaps) 50 = .ok (.iload_n 2, 1) := by decide +kernel
theorem d_C_closeGaps_51 : decode (mi_code n_C_closeGaps) 51 = .ok (.iload_n 1, 1) := by decide +kernel
theorem d_C_closeGaps_52 : decode (mi_code n_C_closeGaps) 52 = .ok (.iconst 1, 1) := by decide +kernel
theorem d_C_closeGaps_53 : decode (mi_code n_C_closeGaps) 53 = .ok (.iadd, 1) := by decide +kernel
theorem d_C_closeGaps_54 : decode (mi_code n_C_closeGaps) 54 = .ok (.invokevirtual 81, 3) := by decide +kernel
theorem d_C_closeGaps_57 : decode (mi_code n_C_closeGaps) 57 = .ok (.ifCond .eq 7, 3) := by decide +kernel
theorem d_C_closeGaps_60 : decode (mi_code n_C_closeGaps) 60 = .ok (.iconst 1, 1) := by decide +kernel
theorem d_C_closeGaps_61 : decode (mi_code n_C_closeGaps) 61 = .ok (.goto 4, 3) := by decide +kernel
theorem d_C_closeGaps_64 : decode (mi_code n_C_closeGaps) 64 = .ok (.iconst 0, 1) := by decide +kernel
theorem d_C_closeGaps_65 : decode (mi_code n_C_closeGaps) 65 = .ok (.istore_n 3, 1) := by decide +kernel
theorem d_C_closeGaps_66 : decode (mi_code n_C_closeGaps) 66 = .ok (.iload_n 3, 1) := by decide +kernel
theorem d_C_closeGaps_67 : decode (mi_code n_C_closeGaps) 67 = .ok (.ifCond .eq 23, 3) := by decide +kernel
theorem d_C_closeGaps_70 : decode (mi_code n_C_closeGaps) 70 = .ok (.aload_n 0, 1) := by decide +kernel
theorem d_C_closeGaps_71 : decode (mi_code n_C_closeGaps) 71 = .ok (.iload_n 2, 1) := by decide +kernel
theorem d_C_closeGaps_72 : decode (mi_code n_C_closeGaps) 72 = .ok (.iload_n 1, 1) := by decide +kernel
theorem d_C_closeGaps_73 : decode (mi_code n_C_closeGaps) 73 = .ok (.invokevirtual 81, 3) := by decide +kernel
theorem d_C_closeGaps_76 : decode (mi_code n_C_closeGaps) 76 = .ok (.ifCond .ne 14, 3) := by decide +kernel
theorem d_C_closeGaps_79 : decode (mi_code n_C_closeGaps) 79 = .ok (.aload_n 0, 1) := by decide +kernel
theorem d_C_closeGaps_80 : decode (mi_code n_C_closeGaps) 80 = .ok (.getfield 15, 3) := by decide +kernel
theorem d_C_closeGaps_83 : decode (mi_code n_C_closeGaps) 83 = .ok (.iload_n 2, 1) := by decide +kernel
theorem d_C_closeGaps_84 : decode (mi_code n_C_closeGaps) 84 = .ok (.iload_n 1, 1) := by decide +kernel
theorem d_C_closeGaps_85 : decode (mi_code n_C_closeGaps) 85 = .ok (.invokestatic 25, 3) := by decide +kernel
theorem d_C_closeGaps_88 : decode (mi_code n_C_closeGaps) 88 = .ok (.iconst 1, 1) := by decide +kernel
theorem d_C_closeGaps_89 : decode (mi_code n_C_closeGaps) 89 = .ok (.iastore, 1) := by decide +kernel
theorem d_C_closeGaps_90 : decode (mi_code n_C_closeGaps) 90 = .ok (.iinc 2 1, 3) := by decide +kernel
theorem d_C_closeGaps_93 : decode (mi_code n_C_closeGaps) 93 = .ok (.goto (-83), 3) := by decide +kernel
theorem d_C_closeGaps_96 : decode (mi_code n_C_closeGaps) 96 = .ok (.iinc 1 1, 3) := by decide +kernel
theorem d_C_closeGaps_99 : decode (mi_code n_C_closeGaps) 99 = .ok (.goto (-97), 3) := by decide +kernel
theorem d_C_closeGaps_102 : decode (mi_code n_C_closeGaps) 102 = .ok (.return_, 1) := by decide +kernel
theorem d_C_countLines_0 : decode (mi_code n_C_countLines) 0 = .ok (.iconst 0, 1) := by decide +kernel
theorem d_C_countLines_1 : decode (mi_code n_C_countLines) 1 = .ok (.istore_n 1, 1) := by decide +kernel
theorem d_C_countLines_2 : decode (mi_code n_C_countLines) 2 = .ok (.iconst 0, 1) := by decide +kernel
theorem d_C_countLines_3 : decode (mi_code n_C_countLines) 3 = .ok (.istore_n 2, 1) := by decide +kernel
theorem d_C_countLines_4 : decode (mi_code n_C_countLines) 4 = .ok (.iload_n 2, 1) := by decide +kernel
theorem d_C_countLines_5 : decode (mi_code n_C_countLines) 5 = .ok (.sipush 192, 3) := by decide +kernel
theorem d_C_countLines_8 : decode (mi_code n_C_countLines) 8 = .ok (.if_icmp .ge 27, 3) := by decide +kernel
theorem d_C_countLines_11 : decode (mi_code n_C_countLines) 11 = .ok (.iload_n 1, 1) := by decide +kernel
theorem d_C_countLines_12 : decode (mi_code n_C_countLines) 12 = .ok (.aload_n 0, 1) := by decide +kernel
theorem d_C_countLines_13 : decode (mi_code n_C_countLines) 13 = .ok (.getfield 9, 3) := by decide +kernel
theorem d_C_countLines_16 : decode (mi_code n_C_countLines) 16 = .ok (.iload_n 2, 1) := by decide +kernel
theorem d_C_countLines_17 : decode (mi_code n_C_countLines) 17 = .ok (.iaload, 1) := by decide +kernel
theorem d_C_countLines_18 : decode (mi_code n_C_countLines) 18 = .ok (.iconst (-1), 1) := by decide +kernel
theorem d_C_countLines_19 : decode (mi_code n_C_countLines) 19 = .ok (.if_icmp .ne 7, 3) := by decide +kernel
theorem d_C_countLines_22 : decode (mi_code n_C_countLines) 22 = .ok (.iconst 0, 1) := by decide +kernel
theorem d_C_countLines_23 : decode (mi_code n_C_countLines) 23 = .ok (.goto 4, 3) := by decide +kernel
theorem d_C_countLines_26 : decode (mi_code n_C_countLines) 26 = .ok (.iconst 1, 1) := by decide +kernel
theorem d_C_countLines_27 : decode (mi_code n_C_countLines) 27 = .ok (.iadd, 1) := by decide +kernel
theorem d_C_countLines_28 : decode (mi_code n_C_countLines) 28 = .ok (.istore_n 1, 1) := by decide +kernel
theorem d_C_countLines_29 : decode (mi_code n_C_countLines) 29 = .ok (.iinc 2 1, 3) := by decide +kernel
theorem d_C_countLines_32 : decode (mi_code n_C_countLines) 32 = .ok (.goto (-28), 3) := by decide +kernel
theorem d_C_countLines_35 : decode (mi_code n_C_countLines) 35 = .ok (.iload_n 1, 1) := by decide +kernel
theorem d_C_countLines_36 : decode (mi_code n_C_countLines) 36 = .ok (.ireturn, 1) := by decide +kernel
theorem d_C_countPainted_0 : decode (mi_code n_C_countPainted) 0 = .ok (.iconst 0, 1) := by decide +kernel
theorem d_C_countPainted_1 : decode (mi_code n_C_countPainted) 1 = .ok (.istore_n 1, 1) := by decide +kernel
theorem d_C_countPainted_2 : decode (mi_code n_C_countPainted) 2 = .ok (.iconst 0, 1) := by decide +kernel
theorem d_C_countPainted_3 : decode (mi_code n_C_countPainted) 3 = .ok (.istore_n 2, 1) := by decide +kernel
theorem d_C_countPainted_4 : decode (mi_code n_C_countPainted) 4 = .ok (.iload_n 2, 1) := by decide +kernel
theorem d_C_countPainted_5 : decode (mi_code n_C_countPainted) 5 = .ok (.sipush 192, 3) := by decide +kernel
theorem d_C_countPainted_8 : decode (mi_code n_C_countPainted) 8 = .ok (.if_icmp .ge 27, 3) := by decide +kernel
theorem d_C_countPainted_11 : decode (mi_code n_C_countPainted) 11 = .ok (.iload_n 1, 1) := by decide +kernel
theorem d_C_countPainted_12 : decode (mi_code n_C_countPainted) 12 = .ok (.aload_n 0, 1) := by decide +kernel
theorem d_C_countPainted_13 : decode (mi_code n_C_countPainted) 13 = .ok (.getfield 18, 3) := by decide +kernel
theorem d_C_countPainted_16 : decode (mi_code n_C_countPainted) 16 = .ok (.iload_n 2, 1) := by decide +kernel
theorem d_C_countPainted_17 : decode (mi_code n_C_countPainted) 17 = .ok (.iaload, 1) := by decide +kernel
theorem d_C_countPainted_18 : decode (mi_code n_C_countPainted) 18 = .ok (.iconst (-1), 1) := by decide +kernel
theorem d_C_countPainted_19 : decode (mi_code n_C_countPainted) 19 = .ok (.if_icmp .ne 7, 3) := by decide +kernel
theorem d_C_countPainted_22 : decode (mi_code n_C_countPainted) 22 = .ok (.iconst 0, 1) := by decide +kernel
theorem d_C_countPainted_23 : decode (mi_code n_C_countPainted) 23 = .ok (.goto 4, 3) := by decide +kernel
theorem d_C_countPainted_26 : decode (mi_code n_C_countPainted) 26 = .ok (.iconst 1, 1) := by decide +kernel
theorem d_C_countPainted_27 : decode (mi_code n_C_countPainted) 27 = .ok (.iadd, 1) := by decide +kernel
theorem d_C_countPainted_28 : decode (mi_code n_C_countPainted) 28 = .ok (.istore_n 1, 1) := by decide +kernel
theorem d_C_countPainted_29 : decode (mi_code n_C_countPainted) 29 = .ok (.iinc 2 1, 3) := by decide +kernel
theorem d_C_countPainted_32 : decode (mi_code n_C_countPainted) 32 = .ok (.goto (-28), 3) := by decide +kernel
theorem d_C_countPainted_35 : decode (mi_code n_C_countPainted) 35 = .ok (.iload_n 1, 1) := by decide +kernel
theorem d_C_countPainted_36 : decode (mi_code n_C_countPainted) 36 = .ok (.ireturn, 1) := by decide +kernel
theorem d_C_countWalls_0 : decode (mi_code n_C_countWalls) 0 = .ok (.iconst 0, 1) := by decide +kernel
theorem d_C_countWalls_1 : decode (mi_code n_C_countWalls) 1 = .ok (.istore_n 1, 1) := by decide +kernel
theorem d_C_countWalls_2 : decode (mi_code n_C_countWalls) 2 = .ok (.iconst 0, 1) := by decide +kernel
theorem d_C_countWalls_3 : decode (mi_code n_C_countWalls) 3 = .ok (.istore_n 2, 1) := by decide +kernel
theorem d_C_countWalls_4 : decode (mi_code n_C_countWalls) 4 = .ok (.iload_n 2, 1) := by decide +kernel
theorem d_C_countWalls_5 : decode (mi_code n_C_countWalls) 5 = .ok (.sipush 192, 3) := by decide +kernel
theorem d_C_countWalls_8 : decode (mi_code n_C_countWalls) 8 = .ok (.if_icmp .ge 18, 3) := by decide +kernel
theorem d_C_countWalls_11 : decode (mi_code n_C_countWalls) 11 = .ok (.iload_n 1, 1) := by decide +kernel
theorem d_C_countWalls_12 : decode (mi_code n_C_countWalls) 12 = .ok (.aload_n 0, 1) := by decide +kernel
theorem d_C_countWalls_13 : decode (mi_code n_C_countWalls) 13 = .ok (.getfield 15, 3) := by decide +kernel
theorem d_C_countWalls_16 : decode (mi_code n_C_countWalls) 16 = .ok (.iload_n 2, 1) := by decide +kernel
theorem d_C_countWalls_17 : decode (mi_code n_C_countWalls) 17 = .ok (.iaload, 1) := by decide +kernel
theorem d_C_countWalls_18 : decode (mi_code n_C_countWalls) 18 = .ok (.iadd, 1) := by decide +kernel
theorem d_C_countWalls_19 : decode (mi_code n_C_countWalls) 19 = .ok (.istore_n 1, 1) := by decide +kernel
theorem d_C_countWalls_20 : decode (mi_code n_C_countWalls) 20 = .ok (.iinc 2 1, 3) := by decide +kernel
theorem d_C_countWalls_23 : decode (mi_code n_C_countWalls) 23 = .ok (.goto (-19), 3) := by decide +kernel
theorem d_C_countWalls_26 : decode (mi_code n_C_countWalls) 26 = .ok (.iload_n 1, 1) := by decide +kernel
theorem d_C_countWalls_27 : decode (mi_code n_C_countWalls) 27 = .ok (.ireturn, 1) := by decide +kernel
theorem d_C_drawLine_0 : decode (mi_code n_C_drawLine) 0 = .ok (.aload_n 1, 1) := by decide +kernel
theorem d_C_drawLine_1 : decode (mi_code n_C_drawLine) 1 = .ok (.invokevirtual 56, 3) := by decide +kernel
theorem d_C_drawLine_4 : decode (mi_code n_C_drawLine) 4 = .ok (.istore_n 2, 1) := by decide +kernel
theorem d_C_drawLine_5 : decode (mi_code n_C_drawLine) 5 = .ok (.iconst 0, 1) := by decide +kernel
theorem d_C_drawLine_6 : decode (mi_code n_C_drawLine) 6 = .ok (.istore_n 3, 1) := by decide +kernel
theorem d_C_drawLine_7 : decode (mi_code n_C_drawLine) 7 = .ok (.iload_n 3, 1) := by decide +kernel
theorem d_C_drawLine_8 : decode (mi_code n_C_drawLine) 8 = .ok (.iload_n 2, 1) := by decide +kernel
theorem d_C_drawLine_9 : decode (mi_code n_C_drawLine) 9 = .ok (.if_icmp .gt 65, 3) := by decide +kernel
theorem d_C_drawLine_12 : decode (mi_code n_C_drawLine) 12 = .ok (.aload_n 1, 1) := by decide +kernel
theorem d_C_drawLine_13 : decode (mi_code n_C_drawLine) 13 = .ok (.getfield 62, 3) := by decide +kernel
theorem d_C_drawLine_16 : decode (mi_code n_C_drawLine) 16 = .ok (.aload_n 1, 1) := by decide +kernel
theorem d_C_drawLine_17 : decode (mi_code n_C_drawLine) 17 = .ok (.getfield 65, 3) := by decide +kernel
theorem d_C_drawLine_20 : decode (mi_code n_C_drawLine) 20 = .ok (.iload_n 3, 1) := by decide +kernel
theorem d_C_drawLine_21 : decode (mi_code n_C_drawLine) 21 = .ok (.iload_n 2, 1) := by decide +kernel
theorem d_C_drawLine_22 : decode (mi_code n_C_drawLine) 22 = .ok (.invokestatic 68, 3) := by decide +kernel
theorem d_C_drawLine_25 : decode (mi_code n_C_drawLine) 25 = .ok (.istore 4, 2) := by decide +kernel
theorem d_C_drawLine_27 : decode (mi_code n_C_drawLine) 27 = .ok (.aload_n 1, 1) := by decide +kernel
theorem d_C_drawLine_28 : decode (mi_code n_C_drawLine) 28 = .ok (.getfield 72, 3) := by decide +kernel
theorem d_C_drawLine_31 : decode (mi_code n_C_drawLine) 31 = .ok (.aload_n 1, 1) := by decide +kernel
theorem d_C_drawLine_32 : decode (mi_code n_C_drawLine) 32 = .ok (.getfield 75, 3) := by decide +kernel
theorem d_C_drawLine_35 : decode (mi_code n_C_drawLine) 35 = .ok (.iload_n 3, 1) := by decide +kernel
theorem d_C_drawLine_36 : decode (mi_code n_C_drawLine) 36 = .ok (.iload_n 2, 1) := by decide +kernel
theorem d_C_drawLine_37 : decode (mi_code n_C_drawLine) 37 = .ok (.invokestatic 68, 3) := by decide +kernel
theorem d_C_drawLine_40 : decode (mi_code n_C_drawLine) 40 = .ok (.istore 5, 2) := by decide +kernel
theorem d_C_drawLine_42 : decode (mi_code n_C_drawLine) 42 = .ok (.iload 4, 2) := by decide +kernel
theorem d_C_drawLine_44 : decode (mi_code n_C_drawLine) 44 = .ok (.iload 5, 2) := by decide +kernel
theorem d_C_drawLine_46 : decode (mi_code n_C_drawLine) 46 = .ok (.invokestatic 21, 3) := by decide +kernel
theorem d_C_drawLine_49 : decode (mi_code n_C_drawLine) 49 = .ok (.ifCond .eq 19, 3) := by decide +kernel
theorem d_C_drawLine_52 : decode (mi_code n_C_drawLine) 52 = .ok (.aload_n 0, 1) := by decide +kernel
theorem d_C_drawLine_53 : decode (mi_code n_C_drawLine) 53 = .ok (.getfield 9, 3) := by decide +kernel
theorem d_C_drawLine_56 : decode (mi_code n_C_drawLine) 56 = .ok (.iload 4, 2) := by decide +kernel
theorem d_C_drawLine_58 : decode (mi_code n_C_drawLine) 58 = .ok (.iload 5, 2) := by decide +kernel
theorem d_C_drawLine_60 : decode (mi_code n_C_drawLine) 60 = .ok (.invokestatic 25, 3) := by decide +kernel
theorem d_C_drawLine_63 : decode (mi_code n_C_drawLine) 63 = .ok (.aload_n 1, 1) := by decide +kernel
theorem d_C_drawLine_64 : decode (mi_code n_C_drawLine) 64 = .ok (.getfield 78, 3) := by decide +kernel
theorem d_C_drawLine_67 : decode (mi_code n_C_drawLine) 67 = .ok (.iastore, 1) := by decide +kernel
theorem d_C_drawLine_68 : decode (mi_code n_C_drawLine) 68 = .ok (.iinc 3 1, 3) := by decide +kernel
theorem d_C_drawLine_71 : decode (mi_code n_C_drawLine) 71 = .ok (.goto (-64), 3) := by decide +kernel
theorem d_C_drawLine_74 : decode (mi_code n_C_drawLine) 74 = .ok (.return_, 1) := by decide +kernel
theorem d_C_drawOutline_0 : decode (mi_code n_C_drawOutline) 0 = .ok (.aload_n 0, 1) := by decide +kernel
theorem d_C_drawOutline_1 : decode (mi_code n_C_drawOutline) 1 = .ok (.getfield 9, 3) := by decide +kernel
theorem d_C_drawOutline_4 : decode (mi_code n_C_drawOutline) 4 = .ok (.iconst (-1), 1) := by decide +kernel
theorem d_C_drawOutline_5 : decode (mi_code n_C_drawOutline) 5 = .ok (.invokestatic 29, 3) := by decide +kernel
theorem d_C_drawOutline_8 : decode (mi_code n_C_drawOutline) 8 = .ok (.iconst 0, 1) := by decide +kernel
theorem d_C_drawOutline_9 : decode (mi_code n_C_drawOutline) 9 = .ok (.istore_n 2, 1) := by decide +kernel
theorem d_C_drawOutline_10 : decode (mi_code n_C_drawOutline) 10 = .ok (.iload_n 2, 1) := by decide +kernel
theorem d_C_drawOutline_11 : decode (mi_code n_C_drawOutline) 11 = .ok (.aload_n 1, 1) := by decide +kernel
theorem d_C_drawOutline_12 : decode (mi_code n_C_drawOutline) 12 = .ok (.getfield 35, 3) := by decide +kernel
theorem d_C_drawOutline_15 : decode (mi_code n_C_drawOutline) 15 = .ok (.if_icmp .ge 19, 3) := by decide +kernel
theorem d_C_drawOutline_18 : decode (mi_code n_C_drawOutline) 18 = .ok (.aload_n 0, 1) := by decide +kernel
theorem d_C_drawOutline_19 : decode (mi_code n_C_drawOutline) 19 = .ok (.aload_n 1, 1) := by decide +kernel
theorem d_C_drawOutline_20 : decode (mi_code n_C_drawOutline) 20 = .ok (.getfield 41, 3) := by decide +kernel
theorem d_C_drawOutline_23 : decode (mi_code n_C_drawOutline) 23 = .ok (.iload_n 2, 1) := by decide +kernel
theorem d_C_drawOutline_24 : decode (mi_code n_C_drawOutline) 24 = .ok (.aaload, 1) := by decide +kernel
theorem d_C_drawOutline_25 : decode (mi_code n_C_drawOutline) 25 = .ok (.invokevirtual 45, 3) := by decide +kernel
theorem d_C_drawOutline_28 : decode (mi_code n_C_drawOutline) 28 = .ok (.iinc 2 1, 3) := by decide +kernel
theorem d_C_drawOutline_31 : decode (mi_code n_C_drawOutline) 31 = .ok (.goto (-21), 3) := by decide +kernel
theorem d_C_drawOutline_34 : decode (mi_code n_C_drawOutline) 34 = .ok (.aload_n 0, 1) := by decide +kernel
theorem d_C_drawOutline_35 : decode (mi_code n_C_drawOutline) 35 = .ok (.getfield 15, 3) := by decide +kernel
theorem d_C_drawOutline_38 : decode (mi_code n_C_drawOutline) 38 = .ok (.iconst 0, 1) := by decide +kernel
theorem d_C_drawOutline_39 : decode (mi_code n_C_drawOutline) 39 = .ok (.invokestatic 29, 3) := by decide +kernel
theorem d_C_drawOutline_42 : decode (mi_code n_C_drawOutline) 42 = .ok (.aload_n 1, 1) := by decide +kernel
theorem d_C_drawOutline_43 : decode (mi_code n_C_drawOutline) 43 = .ok (.getfield 49, 3) := by decide +kernel
theorem d_C_drawOutline_46 : decode (mi_code n_C_drawOutline) 46 = .ok (.ifCond .eq 7, 3) := by decide +kernel
theorem d_C_drawOutline_49 : decode (mi_code n_C_drawOutline) 49 = .ok (.aload_n 0, 1) := by decide +kernel
theorem d_C_drawOutline_50 : decode (mi_code n_C_drawOutline) 50 = .ok (.invokevirtual 53, 3) := by decide +kernel
theorem d_C_drawOutline_53 : decode (mi_code n_C_drawOutline) 53 = .ok (.return_, 1) := by decide +kernel
theorem d_C_init_0 : decode (mi_code n_C_init) 0 = .ok (.aload_n 0, 1) := by decide +kernel
theorem d_C_init_1 : decode (mi_code n_C_init) 1 = .ok (.invokespecial 3, 3) := by decide +kernel
theorem d_C_init_4 : decode (mi_code n_C_init) 4 = .ok (.aload_n 0, 1) := by decide +kernel
theorem d_C_init_5 : decode (mi_code n_C_init) 5 = .ok (.sipush 192, 3) := by decide +kernel
theorem d_C_init_8 : decode (mi_code n_C_init) 8 = .ok (.newarray .int, 2) := by decide +kernel
theorem d_C_init_10 : decode (mi_code n_C_init) 10 = .ok (.putfield 9, 3) := by decide +kernel
theorem d_C_init_13 : decode (mi_code n_C_init) 13 = .ok (.aload_n 0, 1) := by decide +kernel
theorem d_C_init_14 : decode (mi_code n_C_init) 14 = .ok (.sipush 192, 3) := by decide +kernel
theorem d_C_init_17 : decode (mi_code n_C_init) 17 = .ok (.newarray .int, 2) := by decide +kernel
theorem d_C_init_19 : decode (mi_code n_C_init) 19 = .ok (.putfield 15, 3) := by decide +kernel
theorem d_C_init_22 : decode (mi_code n_C_init) 22 = .ok (.aload_n 0, 1) := by decide +kernel
theorem d_C_init_23 : decode (mi_code n_C_init) 23 = .ok (.sipush 192, 3) := by decide +kernel
theorem d_C_init_26 : decode (mi_code n_C_init) 26 = .ok (.newarray .int, 2) := by decide +kernel
theorem d_C_init_28 : decode (mi_code n_C_init) 28 = .ok (.putfield 18, 3) := by decide +kernel
theorem d_C_init_31 : decode (mi_code n_C_init) 31 = .ok (.return_, 1) := by decide +kernel
theorem d_C_isLine_0 : decode (mi_code n_C_isLine) 0 = .ok (.iload_n 1, 1) := by decide +kernel
theorem d_C_isLine_1 : decode (mi_code n_C_isLine) 1 = .ok (.iload_n 2, 1) := by decide +kernel
theorem d_C_isLine_2 : decode (mi_code n_C_isLine) 2 = .ok (.invokestatic 21, 3) := by decide +kernel
theorem d_C_isLine_5 : decode (mi_code n_C_isLine) 5 = .ok (.ifCond .eq 21, 3) := by decide +kernel
theorem d_C_isLine_8 : decode (mi_code n_C_isLine) 8 = .ok (.aload_n 0, 1) := by decide +kernel
theorem d_C_isLine_9 : decode (mi_code n_C_isLine) 9 = .ok (.getfield 9, 3) := by decide +kernel
theorem d_C_isLine_12 : decode (mi_code n_C_isLine) 12 = .ok (.iload_n 1, 1) := by decide +kernel
theorem d_C_isLine_13 : decode (mi_code n_C_isLine) 13 = .ok (.iload_n 2, 1) := by decide +kernel
theorem d_C_isLine_14 : decode (mi_code n_C_isLine) 14 = .ok (.invokestatic 25, 3) := by decide +kernel
theorem d_C_isLine_17 : decode (mi_code n_C_isLine) 17 = .ok (.iaload, 1) := by decide +kernel
theorem d_C_isLine_18 : decode (mi_code n_C_isLine) 18 = .ok (.iconst (-1), 1) := by decide +kernel
theorem d_C_isLine_19 : decode (mi_code n_C_isLine) 19 = .ok (.if_icmp .eq 7, 3) := by decide +kernel
theorem d_C_isLine_22 : decode (mi_code n_C_isLine) 22 = .ok (.iconst 1, 1) := by decide +kernel
theorem d_C_isLine_23 : decode (mi_code n_C_isLine) 23 = .ok (.goto 4, 3) := by decide +kernel
theorem d_C_isLine_26 : decode (mi_code n_C_isLine) 26 = .ok (.iconst 0, 1) := by decide +kernel
theorem d_C_isLine_27 : decode (mi_code n_C_isLine) 27 = .ok (.ireturn, 1) := by decide +kernel
theorem d_C_isOpen_0 : decode (mi_code n_C_isOpen) 0 = .ok (.aload_n 0, 1) := by decide +kernel
theorem d_C_isOpen_1 : decode (mi_code n_C_isOpen) 1 = .ok (.getfield 9, 3) := by decide +kernel
theorem d_C_isOpen_4 : decode (mi_code n_C_isOpen) 4 = .ok (.iload_n 1, 1) := by decide +kernel
theorem d_C_isOpen_5 : decode (mi_code n_C_isOpen) 5 = .ok (.iaload, 1) := by decide +kernel
theorem d_C_isOpen_6 : decode (mi_code n_C_isOpen) 6 = .ok (.iconst (-1), 1) := by decide +kernel
theorem d_C_isOpen_7 : decode (mi_code n_C_isOpen) 7 = .ok (.if_icmp .ne 16, 3) := by decide +kernel
theorem d_C_isOpen_10 : decode (mi_code n_C_isOpen) 10 = .ok (.aload_n 0, 1) := by decide +kernel
theorem d_C_isOpen_11 : decode (mi_code n_C_isOpen) 11 = .ok (.getfield 15, 3) := by decide +kernel
theorem d_C_isOpen_14 : decode (mi_code n_C_isOpen) 14 = .ok (.iload_n 1, 1) := by decide +kernel
theorem d_C_isOpen_15 : decode (mi_code n_C_isOpen) 15 = .ok (.iaload, 1) := by decide +kernel
theorem d_C_isOpen_16 : decode (mi_code n_C_isOpen) 16 = .ok (.ifCond .ne 7, 3) := by decide +kernel
theorem d_C_isOpen_19 : decode (mi_code n_C_isOpen) 19 = .ok (.iconst 1, 1) := by decide +kernel
theorem d_C_isOpen_20 : decode (mi_code n_C_isOpen) 20 = .ok (.goto 4, 3) := by decide +kernel
theorem d_C_isOpen_23 : decode (mi_code n_C_isOpen) 23 = .ok (.iconst 0, 1) := by decide +kernel
theorem d_C_isOpen_24 : decode (mi_code n_C_isOpen) 24 = .ok (.ireturn, 1) := by decide +kernel
theorem d_C_paintAll_0 : decode (mi_code n_C_paintAll) 0 = .ok (.aload_n 0, 1) := by decide +kernel
theorem d_C_paintAll_1 : decode (mi_code n_C_paintAll) 1 = .ok (.getfield 9, 3) := by decide +kernel
theorem d_C_paintAll_4 : decode (mi_code n_C_paintAll) 4 = .ok (.iconst 0, 1) := by decide +kernel
theorem d_C_paintAll_5 : decode (mi_code n_C_paintAll) 5 = .ok (.aload_n 0, 1) := by decide +kernel
theorem d_C_paintAll_6 : decode (mi_code n_C_paintAll) 6 = .ok (.getfield 18, 3) := by decide +kernel
theorem d_C_paintAll_9 : decode (mi_code n_C_paintAll) 9 = .ok (.iconst 0, 1) := by decide +kernel
theorem d_C_paintAll_10 : decode (mi_code n_C_paintAll) 10 = .ok (.sipush 192, 3) := by decide +kernel
theorem d_C_paintAll_13 : decode (mi_code n_C_paintAll) 13 = .ok (.invokestatic 84, 3) := by decide +kernel
theorem d_C_paintAll_16 : decode (mi_code n_C_paintAll) 16 = .ok (.aload_n 1, 1) := by decide +kernel
theorem d_C_paintAll_17 : decode (mi_code n_C_paintAll) 17 = .ok (.getfield 90, 3) := by decide +kernel
theorem d_C_paintAll_20 : decode (mi_code n_C_paintAll) 20 = .ok (.iconst 1, 1) := by decide +kernel
theorem d_C_paintAll_21 : decode (mi_code n_C_paintAll) 21 = .ok (.isub, 1) := by decide +kernel
theorem d_C_paintAll_22 : decode (mi_code n_C_paintAll) 22 = .ok (.istore_n 3, 1) := by decide +kernel
theorem d_C_paintAll_23 : decode (mi_code n_C_paintAll) 23 = .ok (.iload_n 3, 1) := by decide +kernel
theorem d_C_paintAll_24 : decode (mi_code n_C_paintAll) 24 = .ok (.ifCond .lt 71, 3) := by decide +kernel
theorem d_C_paintAll_27 : decode (mi_code n_C_paintAll) 27 = .ok (.aload_n 0, 1) := by decide +kernel
theorem d_C_paintAll_28 : decode (mi_code n_C_paintAll) 28 = .ok (.getfield 18, 3) := by decide +kernel
theorem d_C_paintAll_31 : decode (mi_code n_C_paintAll) 31 = .ok (.aload_n 1, 1) := by decide +kernel
theorem d_C_paintAll_32 : decode (mi_code n_C_paintAll) 32 = .ok (.getfield 93, 3) := by decide +kernel
theorem d_C_paintAll_35 : decode (mi_code n_C_paintAll) 35 = .ok (.iload_n 3, 1) := by decide +kernel
theorem d_C_paintAll_36 : decode (mi_code n_C_paintAll) 36 = .ok (.iaload, 1) := by decide +kernel
theorem d_C_paintAll_37 : decode (mi_code n_C_paintAll) 37 = .ok (.iaload, 1) := by decide +kernel
theorem d_C_paintAll_38 : decode (mi_code n_C_paintAll) 38 = .ok (.iconst (-1), 1) := by decide +kernel
theorem d_C_paintAll_39 : decode (mi_code n_C_paintAll) 39 = .ok (.if_icmp .ne 50, 3) := by decide +kernel
theorem d_C_paintAll_42 : decode (mi_code n_C_paintAll) 42 = .ok (.aload_n 2, 1) := by decide +kernel
theorem d_C_paintAll_43 : decode (mi_code n_C_paintAll) 43 = .ok (.aload_n 0, 1) := by decide +kernel
theorem d_C_paintAll_44 : decode (mi_code n_C_paintAll) 44 = .ok (.aload_n 1, 1) := by decide +kernel
theorem d_C_paintAll_45 : decode (mi_code n_C_paintAll) 45 = .ok (.getfield 93, 3) := by decide +kernel
theorem d_C_paintAll_48 : decode (mi_code n_C_paintAll) 48 = .ok (.iload_n 3, 1) := by decide +kernel
theorem d_C_paintAll_49 : decode (mi_code n_C_paintAll) 49 = .ok (.iaload, 1) := by decide +kernel
theorem d_C_paintAll_50 : decode (mi_code n_C_paintAll) 50 = .ok (.invokevirtual 96, 3) := by decide +kernel
theorem d_C_paintAll_53 : decode (mi_code n_C_paintAll) 53 = .ok (.iconst 0, 1) := by decide +kernel
theorem d_C_paintAll_54 : decode (mi_code n_C_paintAll) 54 = .ok (.istore 4, 2) := by decide +kernel
theorem d_C_paintAll_56 : decode (mi_code n_C_paintAll) 56 = .ok (.iload 4, 2) := by decide +kernel
theorem d_C_paintAll_58 : decode (mi_code n_C_paintAll) 58 = .ok (.aload_n 2, 1) := by decide +kernel
theorem d_C_paintAll_59 : decode (mi_code n_C_paintAll) 59 = .ok (.getfield 102, 3) := by decide +kernel
theorem d_C_paintAll_62 : decode (mi_code n_C_paintAll) 62 = .ok (.if_icmp .ge 27, 3) := by decide +kernel
theorem d_C_paintAll_65 : decode (mi_code n_C_paintAll) 65 = .ok (.aload_n 0, 1) := by decide +kernel
theorem d_C_paintAll_66 : decode (mi_code n_C_paintAll) 66 = .ok (.getfield 18, 3) := by decide +kernel
theorem d_C_paintAll_69 : decode (mi_code n_C_paintAll) 69 = .ok (.aload_n 2, 1) := by decide +kernel
theorem d_C_paintAll_70 : decode (mi_code n_C_paintAll) 70 = .ok (.getfield 105, 3) := by decide +kernel
theorem d_C_paintAll_73 : decode (mi_code n_C_paintAll) 73 = .ok (.iload 4, 2) := by decide +kernel
theorem d_C_paintAll_75 : decode (mi_code n_C_paintAll) 75 = .ok (.iaload, 1) := by decide +kernel
theorem d_C_paintAll_76 : decode (mi_code n_C_paintAll) 76 = .ok (.aload_n 1, 1) := by decide +kernel
theorem d_C_paintAll_77 : decode (mi_code n_C_paintAll) 77 = .ok (.getfield 108, 3) := by decide +kernel
theorem d_C_paintAll_80 : decode (mi_code n_C_paintAll) 80 = .ok (.iload_n 3, 1) := by decide +kernel
theorem d_C_paintAll_81 : decode (mi_code n_C_paintAll) 81 = .ok (.iaload, 1) := by decide +kernel
theorem d_C_paintAll_82 : decode (mi_code n_C_paintAll) 82 = .ok (.iastore, 1) := by decide +kernel
theorem d_C_paintAll_83 : decode (mi_code n_C_paintAll) 83 = .ok (.iinc 4 1, 3) := by decide +kernel
theorem d_C_paintAll_86 : decode (mi_code n_C_paintAll) 86 = .ok (.goto (-30), 3) := by decide +kernel
theorem d_C_paintAll_89 : decode (mi_code n_C_paintAll) 89 = .ok (.iinc 3 (-1), 3) := by decide +kernel
theorem d_C_paintAll_92 : decode (mi_code n_C_paintAll) 92 = .ok (.goto (-69), 3) := by decide +kernel
theorem d_C_paintAll_95 : decode (mi_code n_C_paintAll) 95 = .ok (.return_, 1) := by decide +kernel
theorem d_D_addPaint_0 : decode (mi_code n_D_addPaint) 0 = .ok (.aload_n 0, 1) := by decide +kernel
theorem d_D_addPaint_1 : decode (mi_code n_D_addPaint) 1 = .ok (.getfield 65, 3) := by decide +kernel
theorem d_D_addPaint_4 : decode (mi_code n_D_addPaint) 4 = .ok (.bipush 6, 2) := by decide +kernel
theorem d_D_addPaint_6 : decode (mi_code n_D_addPaint) 6 = .ok (.if_icmp .ge 33, 3) := by decide +kernel
theorem d_D_addPaint_9 : decode (mi_code n_D_addPaint) 9 = .ok (.aload_n 0, 1) := by decide +kernel
theorem d_D_addPaint_10 : decode (mi_code n_D_addPaint) 10 = .ok (.getfield 35, 3) := by decide +kernel
theorem d_D_addPaint_13 : decode (mi_code n_D_addPaint) 13 = .ok (.aload_n 0, 1) := by decide +kernel
theorem d_D_addPaint_14 : decode (mi_code n_D_addPaint) 14 = .ok (.getfield 65, 3) := by decide +kernel
theorem d_D_addPaint_17 : decode (mi_code n_D_addPaint) 17 = .ok (.iload_n 1, 1) := by decide +kernel
theorem d_D_addPaint_18 : decode (mi_code n_D_addPaint) 18 = .ok (.iastore, 1) := by decide +kernel
theorem d_D_addPaint_19 : decode (mi_code n_D_addPaint) 19 = .ok (.aload_n 0, 1) := by decide +kernel
theorem d_D_addPaint_20 : decode (mi_code n_D_addPaint) 20 = .ok (.getfield 39, 3) := by decide +kernel
theorem d_D_addPaint_23 : decode (mi_code n_D_addPaint) 23 = .ok (.aload_n 0, 1) := by decide +kernel
theorem d_D_addPaint_24 : decode (mi_code n_D_addPaint) 24 = .ok (.getfield 65, 3) := by decide +kernel
theorem d_D_addPaint_27 : decode (mi_code n_D_addPaint) 27 = .ok (.iload_n 2, 1) := by decide +kernel
theorem d_D_addPaint_28 : decode (mi_code n_D_addPaint) 28 = .ok (.iastore, 1) := by decide +kernel
theorem d_D_addPaint_29 : decode (mi_code n_D_addPaint) 29 = .ok (.aload_n 0, 1) := by decide +kernel
theorem d_D_addPaint_30 : decode (mi_code n_D_addPaint) 30 = .ok (.dup, 1) := by decide +kernel
theorem d_D_addPaint_31 : decode (mi_code n_D_addPaint) 31 = .ok (.getfield 65, 3) := by decide +kernel
theorem d_D_addPaint_34 : decode (mi_code n_D_addPaint) 34 = .ok (.iconst 1, 1) := by decide +kernel
theorem d_D_addPaint_35 : decode (mi_code n_D_addPaint) 35 = .ok (.iadd, 1) := by decide +kernel
theorem d_D_addPaint_36 : decode (mi_code n_D_addPaint) 36 = .ok (.putfield 65, 3) := by decide +kernel
theorem d_D_addPaint_39 : decode (mi_code n_D_addPaint) 39 = .ok (.return_, 1) := by decide +kernel
theorem d_D_follow_0 : decode (mi_code n_D_follow) 0 = .ok (.aload_n 0, 1) := by decide +kernel
theorem d_D_follow_1 : decode (mi_code n_D_follow) 1 = .ok (.iconst 0, 1) := by decide +kernel
theorem d_D_follow_2 : decode (mi_code n_D_follow) 2 = .ok (.putfield 68, 3) := by decide +kernel
theorem d_D_follow_5 : decode (mi_code n_D_follow) 5 = .ok (.aload_n 0, 1) := by decide +kernel
theorem d_D_follow_6 : decode (mi_code n_D_follow) 6 = .ok (.getfield 9, 3) := by decide +kernel
theorem d_D_follow_9 : decode (mi_code n_D_follow) 9 = .ok (.ifnull 10, 3) := by decide +kernel
theorem d_D_follow_12 : decode (mi_code n_D_follow) 12 = .ok (.aload_n 0, 1) := by decide +kernel
theorem d_D_follow_13 : decode (mi_code n_D_follow) 13 = .ok (.getfield 15, 3) := by decide +kernel
theorem d_D_follow_16 : decode (mi_code n_D_follow) 16 = .ok (.ifnonnull 4, 3) := by decide +kernel
theorem d_D_follow_19 : decode (mi_code n_D_follow) 19 = .ok (.return_, 1) := by decide +kernel
theorem d_D_follow_20 : decode (mi_code n_D_follow) 20 = .ok (.aload_n 0, 1) := by decide +kernel
theorem d_D_follow_21 : decode (mi_code n_D_follow) 21 = .ok (.iconst 0, 1) := by decide +kernel
theorem d_D_follow_22 : decode (mi_code n_D_follow) 22 = .ok (.putfield 49, 3) := by decide +kernel
theorem d_D_follow_25 : decode (mi_code n_D_follow) 25 = .ok (.iconst 0, 1) := by decide +kernel
theorem d_D_follow_26 : decode (mi_code n_D_follow) 26 = .ok (.istore_n 1, 1) := by decide +kernel
theorem d_D_follow_27 : decode (mi_code n_D_follow) 27 = .ok (.iload_n 1, 1) := by decide +kernel
theorem d_D_follow_28 : decode (mi_code n_D_follow) 28 = .ok (.bipush 8, 2) := by decide +kernel
theorem d_D_follow_30 : decode (mi_code n_D_follow) 30 = .ok (.if_icmp .ge 71, 3) := by decide +kernel
theorem d_D_follow_33 : decode (mi_code n_D_follow) 33 = .ok (.aload_n 0, 1) := by decide +kernel
theorem d_D_follow_34 : decode (mi_code n_D_follow) 34 = .ok (.getfield 9, 3) := by decide +kernel
theorem d_D_follow_37 : decode (mi_code n_D_follow) 37 = .ok (.iload_n 1, 1) := by decide +kernel
theorem d_D_follow_38 : decode (mi_code n_D_follow) 38 = .ok (.invokevirtual 55, 3) := by decide +kernel
theorem d_D_follow_41 : decode (mi_code n_D_follow) 41 = .ok (.istore_n 2, 1) := by decide +kernel
theorem d_D_follow_42 : decode (mi_code n_D_follow) 42 = .ok (.aload_n 0, 1) := by decide +kernel
theorem d_D_follow_43 : decode (mi_code n_D_follow) 43 = .ok (.getfield 15, 3) := by decide +kernel
theorem d_D_follow_46 : decode (mi_code n_D_follow) 46 = .ok (.iload_n 1, 1) := by decide +kernel
theorem d_D_follow_47 : decode (mi_code n_D_follow) 47 = .ok (.invokevirtual 55, 3) := by decide +kernel
theorem d_D_follow_50 : decode (mi_code n_D_follow) 50 = .ok (.istore_n 3, 1) := by decide +kernel
theorem d_D_follow_51 : decode (mi_code n_D_follow) 51 = .ok (.iload_n 2, 1) := by decide +kernel
theorem d_D_follow_52 : decode (mi_code n_D_follow) 52 = .ok (.iconst (-1), 1) := by decide +kernel
theorem d_D_follow_53 : decode (mi_code n_D_follow) 53 = .ok (.if_icmp .eq 42, 3) := by decide +kernel
theorem d_D_follow_56 : decode (mi_code n_D_follow) 56 = .ok (.iload_n 3, 1) := by decide +kernel
theorem d_D_follow_57 : decode (mi_code n_D_follow) 57 = .ok (.iconst (-1), 1) := by decide +kernel
theorem d_D_follow_58 : decode (mi_code n_D_follow) 58 = .ok (.if_icmp .eq 37, 3) := by decide +kernel
theorem d_D_follow_61 : decode (mi_code n_D_follow) 61 = .ok (.aload_n 0, 1) := by decide +kernel
theorem d_D_follow_62 : decode (mi_code n_D_follow) 62 = .ok (.iload_n 1, 1) := by decide +kernel
theorem d_D_follow_63 : decode (mi_code n_D_follow) 63 = .ok (.invokevirtual 72, 3) := by decide +kernel
theorem d_D_follow_66 : decode (mi_code n_D_follow) 66 = .ok (.aload_n 0, 1) := by decide +kernel
theorem d_D_follow_67 : decode (mi_code n_D_follow) 67 = .ok (.getfield 9, 3) := by decide +kernel
theorem d_D_follow_70 : decode (mi_code n_D_follow) 70 = .ok (.getfield 30, 3) := by decide +kernel
theorem d_D_follow_73 : decode (mi_code n_D_follow) 73 = .ok (.iload_n 2, 1) := by decide +kernel
theorem d_D_follow_74 : decode (mi_code n_D_follow) 74 = .ok (.aaload, 1) := by decide +kernel
theorem d_D_follow_75 : decode (mi_code n_D_follow) 75 = .ok (.aload_n 0, 1) := by decide +kernel
theorem d_D_follow_76 : decode (mi_code n_D_follow) 76 = .ok (.getfield 15, 3) := by decide +kernel
theorem d_D_follow_79 : decode (mi_code n_D_follow) 79 = .ok (.getfield 30, 3) := by decide +kernel
theorem d_D_follow_82 : decode (mi_code n_D_follow) 82 = .ok (.iload_n 3, 1) := by decide +kernel
theorem d_D_follow_83 : decode (mi_code n_D_follow) 83 = .ok (.aaload, 1) := by decide +kernel
theorem d_D_follow_84 : decode (mi_code n_D_follow) 84 = .ok (.aload_n 0, 1) := by decide +kernel
theorem d_D_follow_85 : decode (mi_code n_D_follow) 85 = .ok (.getfield 18, 3) := by decide +kernel
theorem d_D_follow_88 : decode (mi_code n_D_follow) 88 = .ok (.aload_n 0, 1) := by decide +kernel
theorem d_D_follow_89 : decode (mi_code n_D_follow) 89 = .ok (.getfield 22, 3) := by decide +kernel
theorem d_D_follow_92 : decode (mi_code n_D_follow) 92 = .ok (.invokevirtual 76, 3) := by decide +kernel
theorem d_D_follow_95 : decode (mi_code n_D_follow) 95 = .ok (.iinc 1 1, 3) := by decide +kernel
theorem d_D_follow_98 : decode (mi_code n_D_follow) 98 = .ok (.goto (-71), 3) := by decide +kernel
theorem d_D_follow_101 : decode (mi_code n_D_follow) 101 = .ok (.aload_n 0, 1) := by decide +kernel
theorem d_D_follow_102 : decode (mi_code n_D_follow) 102 = .ok (.iconst 0, 1) := by decide +kernel
theorem d_D_follow_103 : decode (mi_code n_D_follow) 103 = .ok (.putfield 65, 3) := by decide +kernel
theorem d_D_follow_106 : decode (mi_code n_D_follow) 106 = .ok (.iconst 0, 1) := by decide +kernel
theorem d_D_follow_107 : decode (mi_code n_D_follow) 107 = .ok (.istore_n 1, 1) := by decide +kernel
theorem d_D_follow_108 : decode (mi_code n_D_follow) 108 = .ok (.iload_n 1, 1) := by decide +kernel
theorem d_D_follow_109 : decode (mi_code n_D_follow) 109 = .ok (.aload_n 0, 1) := by decide +kernel
theorem d_D_follow_110 : decode (mi_code n_D_follow) 110 = .ok (.getfield 9, 3) := by decide +kernel
theorem d_D_follow_113 : decode (mi_code n_D_follow) 113 = .ok (.getfield 65, 3) := by decide +kernel
theorem d_D_follow_116 : decode (mi_code n_D_follow) 116 = .ok (.if_icmp .ge 31, 3) := by decide +kernel
theorem d_D_follow_119 : decode (mi_code n_D_follow) 119 = .ok (.aload_n 0, 1) := by decide +kernel
theorem d_D_follow_120 : decode (mi_code n_D_follow) 120 = .ok (.aload_n 0, 1) := by decide +kernel
theorem d_D_follow_121 : decode (mi_code n_D_follow) 121 = .ok (.getfield 9, 3) := by decide +kernel
theorem d_D_follow_124 : decode (mi_code n_D_follow) 124 = .ok (.getfield 35, 3) := by decide +kernel
theorem d_D_follow_127 : decode (mi_code n_D_follow) 127 = .ok (.iload_n 1, 1) := by decide +kernel
theorem d_D_follow_128 : decode (mi_code n_D_follow) 128 = .ok (.iaload, 1) := by decide +kernel
theorem d_D_follow_129 : decode (mi_code n_D_follow) 129 = .ok (.aload_n 0, 1) := by decide +kernel
theorem d_D_follow_130 : decode (mi_code n_D_follow) 130 = .ok (.getfield 9, 3) := by decide +kernel
theorem d_D_follow_133 : decode (mi_code n_D_follow) 133 = .ok (.getfield 39, 3) := by decide +kernel
theorem d_D_follow_136 : decode (mi_code n_D_follow) 136 = .ok (.iload_n 1, 1) := by decide +kernel
theorem d_D_follow_137 : decode (mi_code n_D_follow) 137 = .ok (.iaload, 1) := by decide +kernel
theorem d_D_follow_138 : decode (mi_code n_D_follow) 138 = .ok (.invokevirtual 80, 3) := by decide +kernel
theorem d_D_follow_141 : decode (mi_code n_D_follow) 141 = .ok (.iinc 1 1, 3) := by decide +kernel
theorem d_D_follow_144 : decode (mi_code n_D_follow) 144 = .ok (.goto (-36), 3) := by decide +kernel
theorem d_D_follow_147 : decode (mi_code n_D_follow) 147 = .ok (.aload_n 0, 1) := by decide +kernel
theorem d_D_follow_148 : decode (mi_code n_D_follow) 148 = .ok (.aload_n 0, 1) := by decide +kernel
theorem d_D_follow_149 : decode (mi_code n_D_follow) 149 = .ok (.getfield 9, 3) := by decide +kernel
theorem d_D_follow_152 : decode (mi_code n_D_follow) 152 = .ok (.getfield 84, 3) := by decide +kernel
theorem d_D_follow_155 : decode (mi_code n_D_follow) 155 = .ok (.putfield 84, 3) := by decide +kernel
theorem d_D_follow_158 : decode (mi_code n_D_follow) 158 = .ok (.return_, 1) := by decide +kernel
theorem d_D_hangsOnNumber_0 : decode (mi_code n_D_hangsOnNumber) 0 = .ok (.aload_n 0, 1) := by decide +kernel
theorem d_D_hangsOnNumber_1 : decode (mi_code n_D_hangsOnNumber) 1 = .ok (.getfield 25, 3) := by decide +kernel
theorem d_D_hangsOnNumber_4 : decode (mi_code n_D_hangsOnNumber) 4 = .ok (.iload_n 1, 1) := by decide +kernel
theorem d_D_hangsOnNumber_5 : decode (mi_code n_D_hangsOnNumber) 5 = .ok (.ishr, 1) := by decide +kernel
theorem d_D_hangsOnNumber_6 : decode (mi_code n_D_hangsOnNumber) 6 = .ok (.iconst 1, 1) := by decide +kernel
theorem d_D_hangsOnNumber_7 : decode (mi_code n_D_hangsOnNumber) 7 = .ok (.iand, 1) := by decide +kernel
theorem d_D_hangsOnNumber_8 : decode (mi_code n_D_hangsOnNumber) 8 = .ok (.iconst 1, 1) := by decide +kernel
theorem d_D_hangsOnNumber_9 : decode (mi_code n_D_hangsOnNumber) 9 = .ok (.if_icmp .ne 7, 3) := by decide +kernel
theorem d_D_hangsOnNumber_12 : decode (mi_code n_D_hangsOnNumber) 12 = .ok (.iconst 1, 1) := by decide +kernel
theorem d_D_hangsOnNumber_13 : decode (mi_code n_D_hangsOnNumber) 13 = .ok (.goto 4, 3) := by decide +kernel
theorem d_D_hangsOnNumber_16 : decode (mi_code n_D_hangsOnNumber) 16 = .ok (.iconst 0, 1) := by decide +kernel
theorem d_D_hangsOnNumber_17 : decode (mi_code n_D_hangsOnNumber) 17 = .ok (.ireturn, 1) := by decide +kernel
theorem d_D_init_0 : decode (mi_code n_D_init) 0 = .ok (.aload_n 0, 1) := by decide +kernel
theorem d_D_init_1 : decode (mi_code n_D_init) 1 = .ok (.invokespecial 3, 3) := by decide +kernel
theorem d_D_init_4 : decode (mi_code n_D_init) 4 = .ok (.aload_n 0, 1) := by decide +kernel
theorem d_D_init_5 : decode (mi_code n_D_init) 5 = .ok (.aload_n 1, 1) := by decide +kernel
theorem d_D_init_6 : decode (mi_code n_D_init) 6 = .ok (.putfield 9, 3) := by decide +kernel
theorem d_D_init_9 : decode (mi_code n_D_init) 9 = .ok (.aload_n 0, 1) := by decide +kernel
theorem d_D_init_10 : decode (mi_code n_D_init) 10 = .ok (.aload_n 2, 1) := by decide +kernel
theorem d_D_init_11 : decode (mi_code n_D_init) 11 = .ok (.putfield 15, 3) := by decide +kernel
theorem d_D_init_14 : decode (mi_code n_D_init) 14 = .ok (.aload_n 0, 1) := by decide +kernel
theorem d_D_init_15 : decode (mi_code n_D_init) 15 = .ok (.iload_n 3, 1) := by decide +kernel
theorem d_D_init_16 : decode (mi_code n_D_init) 16 = .ok (.putfield 18, 3) := by decide +kernel
theorem d_D_init_19 : decode (mi_code n_D_init) 19 = .ok (.aload_n 0, 1) := by decide +kernel
theorem d_D_init_20 : decode (mi_code n_D_init) 20 = .ok (.iload 4, 2) := by decide +kernel
theorem d_D_init_22 : decode (mi_code n_D_init) 22 = .ok (.putfield 22, 3) := by decide +kernel
theorem d_D_init_25 : decode (mi_code n_D_init) 25 = .ok (.aload_n 0, 1) := by decide +kernel
theorem d_D_init_26 : decode (mi_code n_D_init) 26 = .ok (.iload 5, 2) := by decide +kernel
theorem d_D_init_28 : decode (mi_code n_D_init) 28 = .ok (.putfield 25, 3) := by decide +kernel
theorem d_D_init_31 : decode (mi_code n_D_init) 31 = .ok (.aload_n 0, 1) := by decide +kernel
theorem d_D_init_32 : decode (mi_code n_D_init) 32 = .ok (.bipush 8, 2) := by decide +kernel
theorem d_D_init_34 : decode (mi_code n_D_init) 34 = .ok (.anewarray 28, 3) := by decide +kernel
theorem d_D_init_37 : decode (mi_code n_D_init) 37 = .ok (.putfield 30, 3) := by decide +kernel
theorem d_D_init_40 : decode (mi_code n_D_init) 40 = .ok (.iconst 0, 1) := by decide +kernel
theorem d_D_init_41 : decode (mi_code n_D_init) 41 = .ok (.istore 6, 2) := by decide +kernel
theorem d_D_init_43 : decode (mi_code n_D_init) 43 = .ok (.iload 6, 2) := by decide +kernel
theorem d_D_init_45 : decode (mi_code n_D_init) 45 = .ok (.bipush 8, 2) := by decide +kernel
theorem d_D_init_47 : decode (mi_code n_D_init) 47 = .ok (.if_icmp .ge 23, 3) := by decide +kernel
theorem d_D_init_50 : decode (mi_code n_D_init) 50 = .ok (.aload_n 0, 1) := by decide +kernel
theorem d_D_init_51 : decode (mi_code n_D_init) 51 = .ok (.getfield 30, 3) := by decide +kernel
theorem d_D_init_54 : decode (mi_code n_D_init) 54 = .ok (.iload 6, 2) := by decide +kernel
theorem d_D_init_56 : decode (mi_code n_D_init) 56 = .ok (.new 28, 3) := by decide +kernel
theorem d_D_init_59 : decode (mi_code n_D_init) 59 = .ok (.dup, 1) := by decide +kernel
theorem d_D_init_60 : decode (mi_code n_D_init) 60 = .ok (.invokespecial 34, 3) := by decide +kernel
theorem d_D_init_63 : decode (mi_code n_D_init) 63 = .ok (.aastore, 1) := by decide +kernel
theorem d_D_init_64 : decode (mi_code n_D_init) 64 = .ok (.iinc 6 1, 3) := by decide +kernel
theorem d_D_init_67 : decode (mi_code n_D_init) 67 = .ok (.goto (-24), 3) := by decide +kernel
theorem d_D_init_70 : decode (mi_code n_D_init) 70 = .ok (.aload_n 0, 1) := by decide +kernel
theorem d_D_init_71 : decode (mi_code n_D_init) 71 = .ok (.bipush 6, 2) := by decide +kernel
theorem d_D_init_73 : decode (mi_code n_D_init) 73 = .ok (.newarray .int, 2) := by decide +kernel
theorem d_D_init_75 : decode (mi_code n_D_init) 75 = .ok (.putfield 35, 3) := by decide +kernel
theorem d_D_init_78 : decode (mi_code n_D_init) 78 = .ok (.aload_n 0, 1) := by decide +kernel
theorem d_D_init_79 : decode (mi_code n_D_init) 79 = .ok (.bipush 6, 2) := by decide +kernel
theorem d_D_init_81 : decode (mi_code n_D_init) 81 = .ok (.newarray .int, 2) := by decide +kernel
theorem d_D_init_83 : decode (mi_code n_D_init) 83 = .ok (.putfield 39, 3) := by decide +kernel
theorem d_D_init_86 : decode (mi_code n_D_init) 86 = .ok (.aload_n 0, 1) := by decide +kernel
theorem d_D_init_87 : decode (mi_code n_D_init) 87 = .ok (.new 42, 3) := by decide +kernel
theorem d_D_init_90 : decode (mi_code n_D_init) 90 = .ok (.dup, 1) := by decide +kernel
theorem d_D_init_91 : decode (mi_code n_D_init) 91 = .ok (.invokespecial 44, 3) := by decide +kernel
theorem d_D_init_94 : decode (mi_code n_D_init) 94 = .ok (.putfield 45, 3) := by decide +kernel
theorem d_D_init_97 : decode (mi_code n_D_init) 97 = .ok (.return_, 1) := by decide +kernel
theorem d_D_isKey_0 : decode (mi_code n_D_isKey) 0 = .ok (.aload_n 0, 1) := by decide +kernel
theorem d_D_isKey_1 : decode (mi_code n_D_isKey) 1 = .ok (.getfield 9, 3) := by decide +kernel
theorem d_D_isKey_4 : decode (mi_code n_D_isKey) 4 = .ok (.ifnonnull 7, 3) := by decide +kernel
theorem d_D_isKey_7 : decode (mi_code n_D_isKey) 7 = .ok (.iconst 1, 1) := by decide +kernel
theorem d_D_isKey_8 : decode (mi_code n_D_isKey) 8 = .ok (.goto 4, 3) := by decide +kernel
theorem d_D_isKey_11 : decode (mi_code n_D_isKey) 11 = .ok (.iconst 0, 1) := by decide +kernel
theorem d_D_isKey_12 : decode (mi_code n_D_isKey) 12 = .ok (.ireturn, 1) := by decide +kernel
theorem d_D_placeOfStroke_0 : decode (mi_code n_D_placeOfStroke) 0 = .ok (.iconst 0, 1) := by decide +kernel
theorem d_D_placeOfStroke_1 : decode (mi_code n_D_placeOfStroke) 1 = .ok (.istore_n 2, 1) := by decide +kernel
theorem d_D_placeOfStroke_2 : decode (mi_code n_D_placeOfStroke) 2 = .ok (.iload_n 2, 1) := by decide +kernel
theorem d_D_placeOfStroke_3 : decode (mi_code n_D_placeOfStroke) 3 = .ok (.aload_n 0, 1) := by decide +kernel
theorem d_D_placeOfStroke_4 : decode (mi_code n_D_placeOfStroke) 4 = .ok (.getfield 49, 3) := by decide +kernel
theorem d_D_placeOfStroke_7 : decode (mi_code n_D_placeOfStroke) 7 = .ok (.if_icmp .ge 24, 3) := by decide +kernel
theorem d_D_placeOfStroke_10 : decode (mi_code n_D_placeOfStroke) 10 = .ok (.aload_n 0, 1) := by decide +kernel
theorem d_D_placeOfStroke_11 : decode (mi_code n_D_placeOfStroke) 11 = .ok (.getfield 30, 3) := by decide +kernel
theorem d_D_placeOfStroke_14 : decode (mi_code n_D_placeOfStroke) 14 = .ok (.iload_n 2, 1) := by decide +kernel
theorem d_D_placeOfStroke_15 : decode (mi_code n_D_placeOfStroke) 15 = .ok (.aaload, 1) := by decide +kernel
theorem d_D_placeOfStroke_16 : decode (mi_code n_D_placeOfStroke) 16 = .ok (.getfield 52, 3) := by decide +kernel
theorem d_D_placeOfStroke_19 : decode (mi_code n_D_placeOfStroke) 19 = .ok (.iload_n 1, 1) := by decide +kernel
theorem d_D_placeOfStroke_20 : decode (mi_code n_D_placeOfStroke) 20 = .ok (.if_icmp .ne 5, 3) := by decide +kernel
theorem d_D_placeOfStroke_23 : decode (mi_code n_D_placeOfStroke) 23 = .ok (.iload_n 2, 1) := by decide +kernel
theorem d_D_placeOfStroke_24 : decode (mi_code n_D_placeOfStroke) 24 = .ok (.ireturn, 1) := by decide +kernel
theorem d_D_placeOfStroke_25 : decode (mi_code n_D_placeOfStroke) 25 = .ok (.iinc 2 1, 3) := by decide +kernel
theorem d_D_placeOfStroke_28 : decode (mi_code n_D_placeOfStroke) 28 = .ok (.goto (-26), 3) := by decide +kernel
theorem d_D_placeOfStroke_31 : decode (mi_code n_D_placeOfStroke) 31 = .ok (.iconst (-1), 1) := by decide +kernel
theorem d_D_placeOfStroke_32 : decode (mi_code n_D_placeOfStroke) 32 = .ok (.ireturn, 1) := by decide +kernel
theorem d_D_strokeToDraw_0 : decode (mi_code n_D_strokeToDraw) 0 = .ok (.aload_n 0, 1) := by decide +kernel
theorem d_D_strokeToDraw_1 : decode (mi_code n_D_strokeToDraw) 1 = .ok (.iload_n 1, 1) := by decide +kernel
theorem d_D_strokeToDraw_2 : decode (mi_code n_D_strokeToDraw) 2 = .ok (.invokevirtual 55, 3) := by decide +kernel
theorem d_D_strokeToDraw_5 : decode (mi_code n_D_strokeToDraw) 5 = .ok (.istore_n 2, 1) := by decide +kernel
theorem d_D_strokeToDraw_6 : decode (mi_code n_D_strokeToDraw) 6 = .ok (.iload_n 2, 1) := by decide +kernel
theorem d_D_strokeToDraw_7 : decode (mi_code n_D_strokeToDraw) 7 = .ok (.iconst (-1), 1) := by decide +kernel
theorem d_D_strokeToDraw_8 : decode (mi_code n_D_strokeToDraw) 8 = .ok (.if_icmp .ne 30, 3) := by decide +kernel
theorem d_D_strokeToDraw_11 : decode (mi_code n_D_strokeToDraw) 11 = .ok (.aload_n 0, 1) := by decide +kernel
theorem d_D_strokeToDraw_12 : decode (mi_code n_D_strokeToDraw) 12 = .ok (.getfield 49, 3) := by decide +kernel
theorem d_D_strokeToDraw_15 : decode (mi_code n_D_strokeToDraw) 15 = .ok (.bipush 7, 2) := by decide +kernel
theorem d_D_strokeToDraw_17 : decode (mi_code n_D_strokeToDraw) 17 = .ok (.invokestatic 59, 3) := by decide +kernel
theorem d_D_strokeToDraw_20 : decode (mi_code n_D_strokeToDraw) 20 = .ok (.istore_n 2, 1) := by decide +kernel
theorem d_D_strokeToDraw_21 : decode (mi_code n_D_strokeToDraw) 21 = .ok (.aload_n 0, 1) := by decide +kernel
theorem d_D_strokeToDraw_22 : decode (mi_code n_D_strokeToDraw) 22 = .ok (.getfield 30, 3) := by decide +kernel
theorem d_D_strokeToDraw_25 : decode (mi_code n_D_strokeToDraw) 25 = .ok (.iload_n 2, 1) := by decide +kernel
theorem d_D_strokeToDraw_26 : decode (mi_code n_D_strokeToDraw) 26 = .ok (.aaload, 1) := by decide +kernel
theorem d_D_strokeToDraw_27 : decode (mi_code n_D_strokeToDraw) 27 = .ok (.iload_n 1, 1) := by decide +kernel
theorem d_D_strokeToDraw_28 : decode (mi_code n_D_strokeToDraw) 28 = .ok (.putfield 52, 3) := by decide +kernel
theorem d_D_strokeToDraw_31 : decode (mi_code n_D_strokeToDraw) 31 = .ok (.aload_n 0, 1) := by decide +kernel
theorem d_D_strokeToDraw_32 : decode (mi_code n_D_strokeToDraw) 32 = .ok (.iload_n 2, 1) := by decide +kernel
theorem d_D_strokeToDraw_33 : decode (mi_code n_D_strokeToDraw) 33 = .ok (.iconst 1, 1) := by decide +kernel
theorem d_D_strokeToDraw_34 : decode (mi_code n_D_strokeToDraw) 34 = .ok (.iadd, 1) := by decide +kernel
theorem d_D_strokeToDraw_35 : decode (mi_code n_D_strokeToDraw) 35 = .ok (.putfield 49, 3) := by decide +kernel
theorem d_D_strokeToDraw_38 : decode (mi_code n_D_strokeToDraw) 38 = .ok (.aload_n 0, 1) := by decide +kernel
theorem d_D_strokeToDraw_39 : decode (mi_code n_D_strokeToDraw) 39 = .ok (.getfield 30, 3) := by decide +kernel
theorem d_D_strokeToDraw_42 : decode (mi_code n_D_strokeToDraw) 42 = .ok (.iload_n 2, 1) := by decide +kernel
theorem d_D_strokeToDraw_43 : decode (mi_code n_D_strokeToDraw) 43 = .ok (.aaload, 1) := by decide +kernel
theorem d_D_strokeToDraw_44 : decode (mi_code n_D_strokeToDraw) 44 = .ok (.areturn, 1) := by decide +kernel
theorem d_D_takeStroke_0 : decode (mi_code n_D_takeStroke) 0 = .ok (.aload_n 0, 1) := by decide +kernel
theorem d_D_takeStroke_1 : decode (mi_code n_D_takeStroke) 1 = .ok (.iload_n 1, 1) := by decide +kernel
theorem d_D_takeStroke_2 : decode (mi_code n_D_takeStroke) 2 = .ok (.invokevirtual 55, 3) := by decide +kernel
theorem d_D_takeStroke_5 : decode (mi_code n_D_takeStroke) 5 = .ok (.istore_n 2, 1) := by decide +kernel
theorem d_D_takeStroke_6 : decode (mi_code n_D_takeStroke) 6 = .ok (.iload_n 2, 1) := by decide +kernel
theorem d_D_takeStroke_7 : decode (mi_code n_D_takeStroke) 7 = .ok (.iconst (-1), 1) := by decide +kernel
theorem d_D_takeStroke_8 : decode (mi_code n_D_takeStroke) 8 = .ok (.if_icmp .ne 5, 3) := by decide +kernel
theorem d_D_takeStroke_11 : decode (mi_code n_D_takeStroke) 11 = .ok (.iconst 0, 1) := by decide +kernel
theorem d_D_takeStroke_12 : decode (mi_code n_D_takeStroke) 12 = .ok (.ireturn, 1) := by decide +kernel
theorem d_D_takeStroke_13 : decode (mi_code n_D_takeStroke) 13 = .ok (.aload_n 0, 1) := by decide +kernel
theorem d_D_takeStroke_14 : decode (mi_code n_D_takeStroke) 14 = .ok (.getfield 30, 3) := by decide +kernel
theorem d_D_takeStroke_17 : decode (mi_code n_D_takeStroke) 17 = .ok (.iload_n 2, 1) := by decide +kernel
theorem d_D_takeStroke_18 : decode (mi_code n_D_takeStroke) 18 = .ok (.aaload, 1) := by decide +kernel
theorem d_D_takeStroke_19 : decode (mi_code n_D_takeStroke) 19 = .ok (.astore_n 3, 1) := by decide +kernel
theorem d_D_takeStroke_20 : decode (mi_code n_D_takeStroke) 20 = .ok (.aload_n 0, 1) := by decide +kernel
theorem d_D_takeStroke_21 : decode (mi_code n_D_takeStroke) 21 = .ok (.dup, 1) := by decide +kernel
theorem d_D_takeStroke_22 : decode (mi_code n_D_takeStroke) 22 = .ok (.getfield 49, 3) := by decide +kernel
theorem d_D_takeStroke_25 : decode (mi_code n_D_takeStroke) 25 = .ok (.iconst 1, 1) := by decide +kernel
theorem d_D_takeStroke_26 : decode (mi_code n_D_takeStroke) 26 = .ok (.isub, 1) := by decide +kernel
theorem d_D_takeStroke_27 : decode (mi_code n_D_takeStroke) 27 = .ok (.putfield 49, 3) := by decide +kernel
theorem d_D_takeStroke_30 : decode (mi_code n_D_takeStroke) 30 = .ok (.iload_n 2, 1) := by decide +kernel
theorem d_D_takeStroke_31 : decode (mi_code n_D_takeStroke) 31 = .ok (.istore 4, 2) := by decide +kernel
theorem d_D_takeStroke_33 : decode (mi_code n_D_takeStroke) 33 = .ok (.iload 4, 2) := by decide +kernel
theorem d_D_takeStroke_35 : decode (mi_code n_D_takeStroke) 35 = .ok (.aload_n 0, 1) := by decide +kernel
theorem d_D_takeStroke_36 : decode (mi_code n_D_takeStroke) 36 = .ok (.getfield 49, 3) := by decide +kernel
theorem d_D_takeStroke_39 : decode (mi_code n_D_takeStroke) 39 = .ok (.if_icmp .ge 25, 3) := by decide +kernel
theorem d_D_takeStroke_42 : decode (mi_code n_D_takeStroke) 42 = .ok (.aload_n 0, 1) := by decide +kernel
theorem d_D_takeStroke_43 : decode (mi_code n_D_takeStroke) 43 = .ok (.getfield 30, 3) := by decide +kernel
theorem d_D_takeStroke_46 : decode (mi_code n_D_takeStroke) 46 = .ok (.iload 4, 2) := by decide +kernel
theorem d_D_takeStroke_48 : decode (mi_code n_D_takeStroke) 48 = .ok (.aload_n 0, 1) := by decide +kernel
theorem d_D_takeStroke_49 : decode (mi_code n_D_takeStroke) 49 = .ok (.getfield 30, 3) := by decide +kernel
theorem d_D_takeStroke_52 : decode (mi_code n_D_takeStroke) 52 = .ok (.iload 4, 2) := by decide +kernel
theorem d_D_takeStroke_54 : decode (mi_code n_D_takeStroke) 54 = .ok (.iconst 1, 1) := by decide +kernel
theorem d_D_takeStroke_55 : decode (mi_code n_D_takeStroke) 55 = .ok (.iadd, 1) := by decide +kernel
theorem d_D_takeStroke_56 : decode (mi_code n_D_takeStroke) 56 = .ok (.aaload, 1) := by decide +kernel
theorem d_D_takeStroke_57 : decode (mi_code n_D_takeStroke) 57 = .ok (.aastore, 1) := by decide +kernel
theorem d_D_takeStroke_58 : decode (mi_code n_D_takeStroke) 58 = .ok (.iinc 4 1, 3) := by decide +kernel
theorem d_D_takeStroke_61 : decode (mi_code n_D_takeStroke) 61 = .ok (.goto (-28), 3) := by decide +kernel
theorem d_D_takeStroke_64 : decode (mi_code n_D_takeStroke) 64 = .ok (.aload_n 0, 1) := by decide +kernel
theorem d_D_takeStroke_65 : decode (mi_code n_D_takeStroke) 65 = .ok (.getfield 30, 3) := by decide +kernel
theorem d_D_takeStroke_68 : decode (mi_code n_D_takeStroke) 68 = .ok (.aload_n 0, 1) := by decide +kernel
theorem d_D_takeStroke_69 : decode (mi_code n_D_takeStroke) 69 = .ok (.getfield 49, 3) := by decide +kernel
theorem d_D_takeStroke_72 : decode (mi_code n_D_takeStroke) 72 = .ok (.aload_n 3, 1) := by decide +kernel
theorem d_D_takeStroke_73 : decode (mi_code n_D_takeStroke) 73 = .ok (.aastore, 1) := by decide +kernel
theorem d_D_takeStroke_74 : decode (mi_code n_D_takeStroke) 74 = .ok (.iconst 1, 1) := by decide +kernel
theorem d_D_takeStroke_75 : decode (mi_code n_D_takeStroke) 75 = .ok (.ireturn, 1) := by decide +kernel
theorem d_F_init_0 : decode (mi_code n_F_init) 0 = .ok (.aload_n 0, 1) := by decide +kernel
theorem d_F_init_1 : decode (mi_code n_F_init) 1 = .ok (.invokespecial 3, 3) := by decide +kernel
theorem d_F_init_4 : decode (mi_code n_F_init) 4 = .ok (.aload_n 0, 1) := by decide +kernel
theorem d_F_init_5 : decode (mi_code n_F_init) 5 = .ok (.sipush 192, 3) := by decide +kernel
theorem d_F_init_8 : decode (mi_code n_F_init) 8 = .ok (.newarray .int, 2) := by decide +kernel
theorem d_F_init_10 : decode (mi_code n_F_init) 10 = .ok (.putfield 9, 3) := by decide +kernel
theorem d_F_init_13 : decode (mi_code n_F_init) 13 = .ok (.aload_n 0, 1) := by decide +kernel
theorem d_F_init_14 : decode (mi_code n_F_init) 14 = .ok (.sipush 192, 3) := by decide +kernel
theorem d_F_init_17 : decode (mi_code n_F_init) 17 = .ok (.newarray .int, 2) := by decide +kernel
theorem d_F_init_19 : decode (mi_code n_F_init) 19 = .ok (.putfield 15, 3) := by decide +kernel
theorem d_F_init_22 : decode (mi_code n_F_init) 22 = .ok (.return_, 1) := by decide +kernel
theorem d_F_reach_0 : decode (mi_code n_F_reach) 0 = .ok (.aload_n 0, 1) := by decide +kernel
theorem d_F_reach_1 : decode (mi_code n_F_reach) 1 = .ok (.getfield 15, 3) := by decide +kernel
theorem d_F_reach_4 : decode (mi_code n_F_reach) 4 = .ok (.iload_n 2, 1) := by decide +kernel
theorem d_F_reach_5 : decode (mi_code n_F_reach) 5 = .ok (.iaload, 1) := by decide +kernel
theorem d_F_reach_6 : decode (mi_code n_F_reach) 6 = .ok (.ifCond .ne 48, 3) := by decide +kernel
theorem d_F_reach_9 : decode (mi_code n_F_reach) 9 = .ok (.aload_n 1, 1) := by decide +kernel
theorem d_F_reach_10 : decode (mi_code n_F_reach) 10 = .ok (.iload_n 2, 1) := by decide +kernel
theorem d_F_reach_11 : decode (mi_code n_F_reach) 11 = .ok (.invokevirtual 32, 3) := by decide +kernel
theorem d_F_reach_14 : decode (mi_code n_F_reach) 14 = .ok (.ifCond .eq 40, 3) := by decide +kernel
theorem d_F_reach_17 : decode (mi_code n_F_reach) 17 = .ok (.aload_n 0, 1) := by decide +kernel
theorem d_F_reach_18 : decode (mi_code n_F_reach) 18 = .ok (.getfield 24, 3) := by decide +kernel
theorem d_F_reach_21 : decode (mi_code n_F_reach) 21 = .ok (.sipush 192, 3) := by decide +kernel
theorem d_F_reach_24 : decode (mi_code n_F_reach) 24 = .ok (.if_icmp .ge 30, 3) := by decide +kernel
theorem d_F_reach_27 : decode (mi_code n_F_reach) 27 = .ok (.aload_n 0, 1) := by decide +kernel
theorem d_F_reach_28 : decode (mi_code n_F_reach) 28 = .ok (.getfield 15, 3) := by decide +kernel
theorem d_F_reach_31 : decode (mi_code n_F_reach) 31 = .ok (.iload_n 2, 1) := by decide +kernel
theorem d_F_reach_32 : decode (mi_code n_F_reach) 32 = .ok (.iconst 1, 1) := by decide +kernel
theorem d_F_reach_33 : decode (mi_code n_F_reach) 33 = .ok (.iastore, 1) := by decide +kernel
theorem d_F_reach_34 : decode (mi_code n_F_reach) 34 = .ok (.aload_n 0, 1) := by decide +kernel
theorem d_F_reach_35 : decode (mi_code n_F_reach) 35 = .ok (.getfield 9, 3) := by decide +kernel
theorem d_F_reach_38 : decode (mi_code n_F_reach) 38 = .ok (.aload_n 0, 1) := by decide +kernel
theorem d_F_reach_39 : decode (mi_code n_F_reach) 39 = .ok (.getfield 24, 3) := by decide +kernel
theorem d_F_reach_42 : decode (mi_code n_F_reach) 42 = .ok (.iload_n 2, 1) := by decide +kernel
theorem d_F_reach_43 : decode (mi_code n_F_reach) 43 = .ok (.iastore, 1) := by decide +kernel
theorem d_F_reach_44 : decode (mi_code n_F_reach) 44 = .ok (.aload_n 0, 1) := by decide +kernel
theorem d_F_reach_45 : decode (mi_code n_F_reach) 45 = .ok (.dup, 1) := by decide +kernel
theorem d_F_reach_46 : decode (mi_code n_F_reach) 46 = .ok (.getfield 24, 3) := by decide +kernel
theorem d_F_reach_49 : decode (mi_code n_F_reach) 49 = .ok (.iconst 1, 1) := by decide +kernel
theorem d_F_reach_50 : decode (mi_code n_F_reach) 50 = .ok (.iadd, 1) := by decide +kernel
theorem d_F_reach_51 : decode (mi_code n_F_reach) 51 = .ok (.putfield 24, 3) := by decide +kernel
theorem d_F_reach_54 : decode (mi_code n_F_reach) 54 = .ok (.return_, 1) := by decide +kernel
theorem d_F_spread_0 : decode (mi_code n_F_spread) 0 = .ok (.aload_n 0, 1) := by decide +kernel
theorem d_F_spread_1 : decode (mi_code n_F_spread) 1 = .ok (.getfield 15, 3) := by decide +kernel
theorem d_F_spread_4 : decode (mi_code n_F_spread) 4 = .ok (.iconst 0, 1) := by decide +kernel
theorem d_F_spread_5 : decode (mi_code n_F_spread) 5 = .ok (.invokestatic 18, 3) := by decide +kernel
theorem d_F_spread_8 : decode (mi_code n_F_spread) 8 = .ok (.aload_n 0, 1) := by decide +kernel
theorem d_F_spread_9 : decode (mi_code n_F_spread) 9 = .ok (.iconst 0, 1) := by decide +kernel
theorem d_F_spread_10 : decode (mi_code n_F_spread) 10 = .ok (.putfield 24, 3) := by decide +kernel
theorem d_F_spread_13 : decode (mi_code n_F_spread) 13 = .ok (.aload_n 0, 1) := by decide +kernel
theorem d_F_spread_14 : decode (mi_code n_F_spread) 14 = .ok (.aload_n 1, 1) := by decide +kernel
theorem d_F_spread_15 : decode (mi_code n_F_spread) 15 = .ok (.iload_n 2, 1) := by decide +kernel
theorem d_F_spread_16 : decode (mi_code n_F_spread) 16 = .ok (.invokevirtual 28, 3) := by decide +kernel
theorem d_F_spread_19 : decode (mi_code n_F_spread) 19 = .ok (.iconst 0, 1) := by decide +kernel
theorem d_F_spread_20 : decode (mi_code n_F_spread) 20 = .ok (.istore_n 3, 1) := by decide +kernel
theorem d_F_spread_21 : decode (mi_code n_F_spread) 21 = .ok (.iload_n 3, 1) := by decide +kernel
theorem d_F_spread_22 : decode (mi_code n_F_spread) 22 = .ok (.aload_n 0, 1) := by decide +kernel
theorem d_F_spread_23 : decode (mi_code n_F_spread) 23 = .ok (.getfield 24, 3) := by decide +kernel
theorem d_F_spread_26 : decode (mi_code n_F_spread) 26 = .ok (.if_icmp .ge 100, 3) := by decide +kernel
theorem d_F_spread_29 : decode (mi_code n_F_spread) 29 = .ok (.iload_n 3, 1) := by decide +kernel
theorem d_F_spread_30 : decode (mi_code n_F_spread) 30 = .ok (.sipush 192, 3) := by decide +kernel
theorem d_F_spread_33 : decode (mi_code n_F_spread) 33 = .ok (.if_icmp .ge 93, 3) := by decide +kernel
theorem d_F_spread_36 : decode (mi_code n_F_spread) 36 = .ok (.aload_n 0, 1) := by decide +kernel
theorem d_F_spread_37 : decode (mi_code n_F_spread) 37 = .ok (.getfield 9, 3) := by decide +kernel
theorem d_F_spread_40 : decode (mi_code n_F_spread) 40 = .ok (.iload_n 3, 1) := by decide +kernel
theorem d_F_spread_41 : decode (mi_code n_F_spread) 41 = .ok (.iaload, 1) := by decide +kernel
theorem d_F_spread_42 : decode (mi_code n_F_spread) 42 = .ok (.istore 4, 2) := by decide +kernel
theorem d_F_spread_44 : decode (mi_code n_F_spread) 44 = .ok (.iload 4, 2) := by decide +kernel
theorem d_F_spread_46 : decode (mi_code n_F_spread) 46 = .ok (.bipush 16, 2) := by decide +kernel
theorem d_F_spread_48 : decode (mi_code n_F_spread) 48 = .ok (.irem, 1) := by decide +kernel
theorem d_F_spread_49 : decode (mi_code n_F_spread) 49 = .ok (.istore 5, 2) := by decide +kernel
theorem d_F_spread_51 : decode (mi_code n_F_spread) 51 = .ok (.iload 4, 2) := by decide +kernel
theorem d_F_spread_53 : decode (mi_code n_F_spread) 53 = .ok (.bipush 16, 2) := by decide +kernel
theorem d_F_spread_55 : decode (mi_code n_F_spread) 55 = .ok (.idiv, 1) := by decide +kernel
theorem d_F_spread_56 : decode (mi_code n_F_spread) 56 = .ok (.istore 6, 2) := by decide +kernel
theorem d_F_spread_58 : decode (mi_code n_F_spread) 58 = .ok (.iload 5, 2) := by decide +kernel
theorem d_F_spread_60 : decode (mi_code n_F_spread) 60 = .ok (.ifCond .le 12, 3) := by decide +kernel
theorem d_F_spread_63 : decode (mi_code n_F_spread) 63 = .ok (.aload_n 0, 1) := by decide +kernel
theorem d_F_spread_64 : decode (mi_code n_F_spread) 64 = .ok (.aload_n 1, 1) := by decide +kernel
theorem d_F_spread_65 : decode (mi_code n_F_spread) 65 = .ok (.iload 4, 2) := by decide +kernel
theorem d_F_spread_67 : decode (mi_code n_F_spread) 67 = .ok (.iconst 1, 1) := by decide +kernel
theorem d_F_spread_68 : decode (mi_code n_F_spread) 68 = .ok (.isub, 1) := by decide +kernel
theorem d_F_spread_69 : decode (mi_code n_F_spread) 69 = .ok (.invokevirtual 28, 3) := by decide +kernel
theorem d_F_spread_72 : decode (mi_code n_F_spread) 72 = .ok (.iload 5, 2) := by decide +kernel
theorem d_F_spread_74 : decode (mi_code n_F_spread) 74 = .ok (.bipush 15, 2) := by decide +kernel
theorem d_F_spread_76 : decode (mi_code n_F_spread) 76 = .ok (.if_icmp .ge 12, 3) := by decide +kernel
theorem d_F_spread_79 : decode (mi_code n_F_spread) 79 = .ok (.aload_n 0, 1) := by decide +kernel
theorem d_F_spread_80 : decode (mi_code n_F_spread) 80 = .ok (.aload_n 1, 1) := by decide +kernel
theorem d_F_spread_81 : decode (mi_code n_F_spread) 81 = .ok (.iload 4, 2) := by decide +kernel
theorem d_F_spread_83 : decode (mi_code n_F_spread) 83 = .ok (.iconst 1, 1) := by decide +kernel
theorem d_F_spread_84 : decode (mi_code n_F_spread) 84 = .ok (.iadd, 1) := by decide +kernel
theorem d_F_spread_85 : decode (mi_code n_F_spread) 85 = .ok (.invokevirtual 28, 3) := by decide +kernel
theorem d_F_spread_88 : decode (mi_code n_F_spread) 88 = .ok (.iload 6, 2) := by decide +kernel
theorem d_F_spread_90 : decode (mi_code n_F_spread) 90 = .ok (.ifCond .le 13, 3) := by decide +kernel
theorem d_F_spread_93 : decode (mi_code n_F_spread) 93 = .ok (.aload_n 0, 1) := by decide +kernel
theorem d_F_spread_94 : decode (mi_code n_F_spread) 94 = .ok (.aload_n 1, 1) := by decide +kernel
theorem d_F_spread_95 : decode (mi_code n_F_spread) 95 = .ok (.iload 4, 2) := by decide +kernel
theorem d_F_spread_97 : decode (mi_code n_F_spread) 97 = .ok (.bipush 16, 2) := by decide +kernel
theorem d_F_spread_99 : decode (mi_code n_F_spread) 99 = .ok (.isub, 1) := by decide +kernel
theorem d_F_spread_100 : decode (mi_code n_F_spread) 100 = .ok (.invokevirtual 28, 3) := by decide +kernel
theorem d_F_spread_103 : decode (mi_code n_F_spread) 103 = .ok (.iload 6, 2) := by decide +kernel
theorem d_F_spread_105 : decode (mi_code n_F_spread) 105 = .ok (.bipush 11, 2) := by decide +kernel
theorem d_F_spread_107 : decode (mi_code n_F_spread) 107 = .ok (.if_icmp .ge 13, 3) := by decide +kernel
theorem d_F_spread_110 : decode (mi_code n_F_spread) 110 = .ok (.aload_n 0, 1) := by decide +kernel
theorem d_F_spread_111 : decode (mi_code n_F_spread) 111 = .ok (.aload_n 1, 1) := by decide +kernel
theorem d_F_spread_112 : decode (mi_code n_F_spread) 112 = .ok (.iload 4, 2) := by decide +kernel
theorem d_F_spread_114 : decode (mi_code n_F_spread) 114 = .ok (.bipush 16, 2) := by decide +kernel
theorem d_F_spread_116 : decode (mi_code n_F_spread) 116 = .ok (.iadd, 1) := by decide +kernel
theorem d_F_spread_117 : decode (mi_code n_F_spread) 117 = .ok (.invokevirtual 28, 3) := by decide +kernel
theorem d_F_spread_120 : decode (mi_code n_F_spread) 120 = .ok (.iinc 3 1, 3) := by decide +kernel
theorem d_F_spread_123 : decode (mi_code n_F_spread) 123 = .ok (.goto (-102), 3) := by decide +kernel
theorem d_F_spread_126 : decode (mi_code n_F_spread) 126 = .ok (.return_, 1) := by decide +kernel
theorem d_H_approve_0 : decode (mi_code n_H_approve) 0 = .ok (.aload_n 0, 1) := by decide +kernel
theorem d_H_approve_1 : decode (mi_code n_H_approve) 1 = .ok (.iload_n 1, 1) := by decide +kernel
theorem d_H_approve_2 : decode (mi_code n_H_approve) 2 = .ok (.invokevirtual 75, 3) := by decide +kernel
theorem d_H_approve_5 : decode (mi_code n_H_approve) 5 = .ok (.aload_n 0, 1) := by decide +kernel
theorem d_H_approve_6 : decode (mi_code n_H_approve) 6 = .ok (.getfield 11, 3) := by decide +kernel
theorem d_H_approve_9 : decode (mi_code n_H_approve) 9 = .ok (.iload_n 1, 1) := by decide +kernel
theorem d_H_approve_10 : decode (mi_code n_H_approve) 10 = .ok (.aaload, 1) := by decide +kernel
theorem d_H_approve_11 : decode (mi_code n_H_approve) 11 = .ok (.getfield 150, 3) := by decide +kernel
theorem d_H_approve_14 : decode (mi_code n_H_approve) 14 = .ok (.iload_n 2, 1) := by decide +kernel
theorem d_H_approve_15 : decode (mi_code n_H_approve) 15 = .ok (.if_icmp .ne 13, 3) := by decide +kernel
theorem d_H_approve_18 : decode (mi_code n_H_approve) 18 = .ok (.new 134, 3) := by decide +kernel
theorem d_H_approve_21 : decode (mi_code n_H_approve) 21 = .ok (.dup, 1) := by decide +kernel
theorem d_H_approve_22 : decode (mi_code n_H_approve) 22 = .ok (.ldc 153, 2) := by decide +kernel
theorem d_H_approve_24 : decode (mi_code n_H_approve) 24 = .ok (.invokespecial 138, 3) := by decide +kernel
theorem d_H_approve_27 : decode (mi_code n_H_approve) 27 = .ok (.athrow, 1) := by decide +kernel
theorem d_H_approve_28 : decode (mi_code n_H_approve) 28 = .ok (.aload_n 0, 1) := by decide +kernel
theorem d_H_approve_29 : decode (mi_code n_H_approve) 29 = .ok (.getfield 11, 3) := by decide +kernel
theorem d_H_approve_32 : decode (mi_code n_H_approve) 32 = .ok (.iload_n 1, 1) := by decide +kernel
theorem d_H_approve_33 : decode (mi_code n_H_approve) 33 = .ok (.aaload, 1) := by decide +kernel
theorem d_H_approve_34 : decode (mi_code n_H_approve) 34 = .ok (.iload_n 2, 1) := by decide +kernel
theorem d_H_approve_35 : decode (mi_code n_H_approve) 35 = .ok (.putfield 150, 3) := by decide +kernel
theorem d_H_approve_38 : decode (mi_code n_H_approve) 38 = .ok (.aload_n 0, 1) := by decide +kernel
theorem d_H_approve_39 : decode (mi_code n_H_approve) 39 = .ok (.iload_n 1, 1) := by decide +kernel
theorem d_H_approve_40 : decode (mi_code n_H_approve) 40 = .ok (.invokevirtual 155, 3) := by decide +kernel
theorem d_H_approve_43 : decode (mi_code n_H_approve) 43 = .ok (.ireturn, 1) := by decide +kernel
theorem d_H_between_0 : decode (mi_code n_H_between) 0 = .ok (.aload_n 0, 1) := by decide +kernel
theorem d_H_between_1 : decode (mi_code n_H_between) 1 = .ok (.iload_n 1, 1) := by decide +kernel
theorem d_H_between_2 : decode (mi_code n_H_between) 2 = .ok (.invokevirtual 75, 3) := by decide +kernel
theorem d_H_between_5 : decode (mi_code n_H_between) 5 = .ok (.aload_n 0, 1) := by decide +kernel
theorem d_H_between_6 : decode (mi_code n_H_between) 6 = .ok (.iload_n 2, 1) := by decide +kernel
theorem d_H_between_7 : decode (mi_code n_H_between) 7 = .ok (.invokevirtual 75, 3) := by decide +kernel
theorem d_H_between_10 : decode (mi_code n_H_between) 10 = .ok (.iload 4, 2) := by decide +kernel
theorem d_H_between_12 : decode (mi_code n_H_between) 12 = .ok (.iconst 1, 1) := by decide +kernel
theorem d_H_between_13 : decode (mi_code n_H_between) 13 = .ok (.if_icmp .lt 20, 3) := by decide +kernel
theorem d_H_between_16 : decode (mi_code n_H_between) 16 = .ok (.iload 4, 2) := by decide +kernel
theorem d_H_between_18 : decode (mi_code n_H_between) 18 = .ok (.bipush 24, 2) := by decide +kernel
theorem d_H_between_20 : decode (mi_code n_H_between) 20 = .ok (.if_icmp .gt 13, 3) := by decide +kernel
theorem d_H_between_23 : decode (mi_code n_H_between) 23 = .ok (.iload_n 3, 1) := by decide +kernel
theorem d_H_between_24 : decode (mi_code n_H_between) 24 = .ok (.ifCond .lt 9, 3) := by decide +kernel
theorem d_H_between_27 : decode (mi_code n_H_between) 27 = .ok (.iload_n 3, 1) := by decide +kernel
theorem d_H_between_28 : decode (mi_code n_H_between) 28 = .ok (.iload 4, 2) := by decide +kernel
theorem d_H_between_30 : decode (mi_code n_H_between) 30 = .ok (.if_icmp .le 13, 3) := by decide +kernel
theorem d_H_between_33 : decode (mi_code n_H_between) 33 = .ok (.new 79, 3) := by decide +kernel
theorem d_H_between_36 : decode (mi_code n_H_between) 36 = .ok (.dup, 1) := by decide +kernel
theorem d_H_between_37 : decode (mi_code n_H_between) 37 = .ok (.ldc 81, 2) := by decide +kernel
theorem d_H_between_39 : decode (mi_code n_H_between) 39 = .ok (.invokespecial 83, 3) := by decide +kernel
theorem d_H_between_42 : decode (mi_code n_H_between) 42 = .ok (.athrow, 1) := by decide +kernel
theorem d_H_between_43 : decode (mi_code n_H_between) 43 = .ok (.aload_n 0, 1) := by decide +kernel
theorem d_H_between_44 : decode (mi_code n_H_between) 44 = .ok (.invokevirtual 65, 3) := by decide +kernel
theorem d_H_between_47 : decode (mi_code n_H_between) 47 = .ok (.aload_n 0, 1) := by decide +kernel
theorem d_H_between_48 : decode (mi_code n_H_between) 48 = .ok (.getfield 11, 3) := by decide +kernel
theorem d_H_between_51 : decode (mi_code n_H_between) 51 = .ok (.iload_n 1, 1) := by decide +kernel
theorem d_H_between_52 : decode (mi_code n_H_between) 52 = .ok (.aaload, 1) := by decide +kernel
theorem d_H_between_53 : decode (mi_code n_H_between) 53 = .ok (.astore 5, 2) := by decide +kernel
theorem d_H_between_55 : decode (mi_code n_H_between) 55 = .ok (.aload_n 0, 1) := by decide +kernel
theorem d_H_between_56 : decode (mi_code n_H_between) 56 = .ok (.getfield 11, 3) := by decide +kernel
theorem d_H_between_59 : decode (mi_code n_H_between) 59 = .ok (.iload_n 2, 1) := by decide +kernel
theorem d_H_between_60 : decode (mi_code n_H_between) 60 = .ok (.aaload, 1) := by decide +kernel
theorem d_H_between_61 : decode (mi_code n_H_between) 61 = .ok (.astore 6, 2) := by decide +kernel
theorem d_H_between_63 : decode (mi_code n_H_between) 63 = .ok (.iconst 1, 1) := by decide +kernel
theorem d_H_between_64 : decode (mi_code n_H_between) 64 = .ok (.iload_n 1, 1) := by decide +kernel
theorem d_H_between_65 : decode (mi_code n_H_between) 65 = .ok (.ishl, 1) := by decide +kernel
theorem d_H_between_66 : decode (mi_code n_H_between) 66 = .ok (.iconst 1, 1) := by decide +kernel
theorem d_H_between_67 : decode (mi_code n_H_between) 67 = .ok (.iload_n 2, 1) := by decide +kernel
theorem d_H_between_68 : decode (mi_code n_H_between) 68 = .ok (.ishl, 1) := by decide +kernel
theorem d_H_between_69 : decode (mi_code n_H_between) 69 = .ok (.ior, 1) := by decide +kernel
theorem d_H_between_70 : decode (mi_code n_H_between) 70 = .ok (.aload 5, 2) := by decide +kernel
theorem d_H_between_72 : decode (mi_code n_H_between) 72 = .ok (.getfield 86, 3) := by decide +kernel
theorem d_H_between_75 : decode (mi_code n_H_between) 75 = .ok (.ior, 1) := by decide +kernel
theorem d_H_between_76 : decode (mi_code n_H_between) 76 = .ok (.aload 6, 2) := by decide +kernel
theorem d_H_between_78 : decode (mi_code n_H_between) 78 = .ok (.getfield 86, 3) := by decide +kernel
theorem d_H_between_81 : decode (mi_code n_H_between) 81 = .ok (.ior, 1) := by decide +kernel
theorem d_H_between_82 : decode (mi_code n_H_between) 82 = .ok (.istore 7, 2) := by decide +kernel
theorem d_H_between_84 : decode (mi_code n_H_between) 84 = .ok (.new 9, 3) := by decide +kernel
theorem d_H_between_87 : decode (mi_code n_H_between) 87 = .ok (.dup, 1) := by decide +kernel
theorem d_H_between_88 : decode (mi_code n_H_between) 88 = .ok (.aload 5, 2) := by decide +kernel
theorem d_H_between_90 : decode (mi_code n_H_between) 90 = .ok (.aload 6, 2) := by decide +kernel
theorem d_H_between_92 : decode (mi_code n_H_between) 92 = .ok (.iload_n 3, 1) := by decide +kernel
theorem d_H_between_93 : decode (mi_code n_H_between) 93 = .ok (.iload 4, 2) := by decide +kernel
theorem d_H_between_95 : decode (mi_code n_H_between) 95 = .ok (.iload 7, 2) := by decide +kernel
theorem d_H_between_97 : decode (mi_code n_H_between) 97 = .ok (.invokespecial 72, 3) := by decide +kernel
theorem d_H_between_100 : decode (mi_code n_H_between) 100 = .ok (.astore 8, 2) := by decide +kernel
theorem d_H_between_102 : decode (mi_code n_H_between) 102 = .ok (.aload 8, 2) := by decide +kernel
theorem d_H_between_104 : decode (mi_code n_H_between) 104 = .ok (.invokevirtual 89, 3) := by decide +kernel
theorem d_H_between_107 : decode (mi_code n_H_between) 107 = .ok (.aload_n 0, 1) := by decide +kernel
theorem d_H_between_108 : decode (mi_code n_H_between) 108 = .ok (.getfield 11, 3) := by decide +kernel
theorem d_H_between_111 : decode (mi_code n_H_between) 111 = .ok (.aload_n 0, 1) := by decide +kernel
theorem d_H_between_112 : decode (mi_code n_H_between) 112 = .ok (.getfield 68, 3) := by decide +kernel
theorem d_H_between_115 : decode (mi_code n_H_between) 115 = .ok (.aload 8, 2) := by decide +kernel
theorem d_H_between_117 : decode (mi_code n_H_between) 117 = .ok (.aastore, 1) := by decide +kernel
theorem d_H_between_118 : decode (mi_code n_H_between) 118 = .ok (.aload_n 0, 1) := by decide +kernel
theorem d_H_between_119 : decode (mi_code n_H_between) 119 = .ok (.dup, 1) := by decide +kernel
theorem d_H_between_120 : decode (mi_code n_H_between) 120 = .ok (.getfield 68, 3) := by decide +kernel
theorem d_H_between_123 : decode (mi_code n_H_between) 123 = .ok (.dup_x1, 1) := by decide +kernel
theorem d_H_between_124 : decode (mi_code n_H_between) 124 = .ok (.iconst 1, 1) := by decide +kernel
theorem d_H_between_125 : decode (mi_code n_H_between) 125 = .ok (.iadd, 1) := by decide +kernel
theorem d_H_between_126 : decode (mi_code n_H_between) 126 = .ok (.putfield 68, 3) := by decide +kernel
theorem d_H_between_129 : decode (mi_code n_H_between) 129 = .ok (.ireturn, 1) := by decide +kernel
theorem d_H_colour_0 : decode (mi_code n_H_colour) 0 = .ok (.iload_n 1, 1) := by decide +kernel
theorem d_H_colour_1 : decode (mi_code n_H_colour) 1 = .ok (.invokestatic 159, 3) := by decide +kernel
theorem d_H_colour_4 : decode (mi_code n_H_colour) 4 = .ok (.iload_n 2, 1) := by decide +kernel
theorem d_H_colour_5 : decode (mi_code n_H_colour) 5 = .ok (.invokestatic 96, 3) := by decide +kernel
theorem d_H_colour_8 : decode (mi_code n_H_colour) 8 = .ok (.iload_n 3, 1) := by decide +kernel
theorem d_H_colour_9 : decode (mi_code n_H_colour) 9 = .ok (.iconst 1, 1) := by decide +kernel
theorem d_H_colour_10 : decode (mi_code n_H_colour) 10 = .ok (.if_icmp .lt 9, 3) := by decide +kernel
theorem d_H_colour_13 : decode (mi_code n_H_colour) 13 = .ok (.iload_n 3, 1) := by decide +kernel
theorem d_H_colour_14 : decode (mi_code n_H_colour) 14 = .ok (.bipush 99, 2) := by decide +kernel
theorem d_H_colour_16 : decode (mi_code n_H_colour) 16 = .ok (.if_icmp .le 13, 3) := by decide +kernel
theorem d_H_colour_19 : decode (mi_code n_H_colour) 19 = .ok (.new 79, 3) := by decide +kernel
theorem d_H_colour_22 : decode (mi_code n_H_colour) 22 = .ok (.dup, 1) := by decide +kernel
theorem d_H_colour_23 : decode (mi_code n_H_colour) 23 = .ok (.ldc 162, 2) := by decide +kernel
theorem d_H_colour_25 : decode (mi_code n_H_colour) 25 = .ok (.invokespecial 83, 3) := by decide +kernel
theorem d_H_colour_28 : decode (mi_code n_H_colour) 28 = .ok (.athrow, 1) := by decide +kernel
theorem d_H_colour_29 : decode (mi_code n_H_colour) 29 = .ok (.iload_n 1, 1) := by decide +kernel
theorem d_H_colour_30 : decode (mi_code n_H_colour) 30 = .ok (.bipush 8, 2) := by decide +kernel
theorem d_H_colour_32 : decode (mi_code n_H_colour) 32 = .ok (.imul, 1) := by decide +kernel
theorem d_H_colour_33 : decode (mi_code n_H_colour) 33 = .ok (.iload_n 2, 1) := by decide +kernel
theorem d_H_colour_34 : decode (mi_code n_H_colour) 34 = .ok (.iadd, 1) := by decide +kernel
theorem d_H_colour_35 : decode (mi_code n_H_colour) 35 = .ok (.istore 4, 2) := by decide +kernel
theorem d_H_colour_37 : decode (mi_code n_H_colour) 37 = .ok (.aload_n 0, 1) := by decide +kernel
theorem d_H_colour_38 : decode (mi_code n_H_colour) 38 = .ok (.getfield 15, 3) := by decide +kernel
theorem d_H_colour_41 : decode (mi_code n_H_colour) 41 = .ok (.iload 4, 2) := by decide +kernel
theorem d_H_colour_43 : decode (mi_code n_H_colour) 43 = .ok (.iaload, 1) := by decide +kernel
theorem d_H_colour_44 : decode (mi_code n_H_colour) 44 = .ok (.istore 5, 2) := by decide +kernel
theorem d_H_colour_46 : decode (mi_code n_H_colour) 46 = .ok (.aload_n 0, 1) := by decide +kernel
theorem d_H_colour_47 : decode (mi_code n_H_colour) 47 = .ok (.getfield 15, 3) := by decide +kernel
theorem d_H_colour_50 : decode (mi_code n_H_colour) 50 = .ok (.iload 4, 2) := by decide +kernel
theorem d_H_colour_52 : decode (mi_code n_H_colour) 52 = .ok (.iload_n 3, 1) := by decide +kernel
theorem d_H_colour_53 : decode (mi_code n_H_colour) 53 = .ok (.iastore, 1) := by decide +kernel
theorem d_H_colour_54 : decode (mi_code n_H_colour) 54 = .ok (.iload 5, 2) := by decide +kernel
theorem d_H_colour_56 : decode (mi_code n_H_colour) 56 = .ok (.ireturn, 1) := by decide +kernel
theorem d_H_compose_0 : decode (mi_code n_H_compose) 0 = .ok (.aload_n 0, 1) := by decide +kernel
theorem d_H_compose_1 : decode (mi_code n_H_compose) 1 = .ok (.getfield 49, 3) := by decide +kernel
theorem d_H_compose_4 : decode (mi_code n_H_compose) 4 = .ok (.iconst 0, 1) := by decide +kernel
theorem d_H_compose_5 : decode (mi_code n_H_compose) 5 = .ok (.invokestatic 28, 3) := by decide +kernel
theorem d_H_compose_8 : decode (mi_code n_H_compose) 8 = .ok (.iconst 0, 1) := by decide +kernel
theorem d_H_compose_9 : decode (mi_code n_H_compose) 9 = .ok (.istore_n 3, 1) := by decide +kernel
theorem d_H_compose_10 : decode (mi_code n_H_compose) 10 = .ok (.iload_n 3, 1) := by decide +kernel
theorem d_H_compose_11 : decode (mi_code n_H_compose) 11 = .ok (.iconst 4, 1) := by decide +kernel
theorem d_H_compose_12 : decode (mi_code n_H_compose) 12 = .ok (.if_icmp .ge 65, 3) := by decide +kernel
theorem d_H_compose_15 : decode (mi_code n_H_compose) 15 = .ok (.aload_n 0, 1) := by decide +kernel
theorem d_H_compose_16 : decode (mi_code n_H_compose) 16 = .ok (.aload_n 1, 1) := by decide +kernel
theorem d_H_compose_17 : decode (mi_code n_H_compose) 17 = .ok (.iload_n 3, 1) := by decide +kernel
theorem d_H_compose_18 : decode (mi_code n_H_compose) 18 = .ok (.iload_n 2, 1) := by decide +kernel
theorem d_H_compose_19 : decode (mi_code n_H_compose) 19 = .ok (.invokevirtual 286, 3) := by decide +kernel
theorem d_H_compose_22 : decode (mi_code n_H_compose) 22 = .ok (.istore 4, 2) := by decide +kernel
theorem d_H_compose_24 : decode (mi_code n_H_compose) 24 = .ok (.iload 4, 2) := by decide +kernel
theorem d_H_compose_26 : decode (mi_code n_H_compose) 26 = .ok (.iconst (-1), 1) := by decide +kernel
theorem d_H_compose_27 : decode (mi_code n_H_compose) 27 = .ok (.if_icmp .eq 44, 3) := by decide +kernel
theorem d_H_compose_30 : decode (mi_code n_H_compose) 30 = .ok (.aload_n 1, 1) := by decide +kernel
theorem d_H_compose_31 : decode (mi_code n_H_compose) 31 = .ok (.iload_n 3, 1) := by decide +kernel
theorem d_H_compose_32 : decode (mi_code n_H_compose) 32 = .ok (.iload_n 2, 1) := by decide +kernel
theorem d_H_compose_33 : decode (mi_code n_H_compose) 33 = .ok (.iconst 1, 1) := by decide +kernel
theorem d_H_compose_34 : decode (mi_code n_H_compose) 34 = .ok (.invokevirtual 290, 3) := by decide +kernel
theorem d_H_compose_37 : decode (mi_code n_H_compose) 37 = .ok (.istore 5, 2) := by decide +kernel
theorem d_H_compose_39 : decode (mi_code n_H_compose) 39 = .ok (.aload_n 1, 1) := by decide +kernel
theorem d_H_compose_40 : decode (mi_code n_H_compose) 40 = .ok (.iload_n 3, 1) := by decide +kernel
theorem d_H_compose_41 : decode (mi_code n_H_compose) 41 = .ok (.iload_n 2, 1) := by decide +kernel
theorem d_H_compose_42 : decode (mi_code n_H_compose) 42 = .ok (.iconst 0, 1) := by decide +kernel
theorem d_H_compose_43 : decode (mi_code n_H_compose) 43 = .ok (.invokevirtual 290, 3) := by decide +kernel
theorem d_H_compose_46 : decode (mi_code n_H_compose) 46 = .ok (.istore 6, 2) := by decide +kernel
theorem d_H_compose_48 : decode (mi_code n_H_compose) 48 = .ok (.aload_n 0, 1) := by decide +kernel
theorem d_H_compose_49 : decode (mi_code n_H_compose) 49 = .ok (.aload_n 0, 1) := by decide +kernel
theorem d_H_compose_50 : decode (mi_code n_H_compose) 50 = .ok (.aload_n 0, 1) := by decide +kernel
theorem d_H_compose_51 : decode (mi_code n_H_compose) 51 = .ok (.getfield 11, 3) := by decide +kernel
theorem d_H_compose_54 : decode (mi_code n_H_compose) 54 = .ok (.iload 4, 2) := by decide +kernel
theorem d_H_compose_56 : decode (mi_code n_H_compose) 56 = .ok (.aaload, 1) := by decide +kernel
theorem d_H_compose_57 : decode (mi_code n_H_compose) 57 = .ok (.invokevirtual 268, 3) := by decide +kernel
theorem d_H_compose_60 : decode (mi_code n_H_compose) 60 = .ok (.iload 5, 2) := by decide +kernel
theorem d_H_compose_62 : decode (mi_code n_H_compose) 62 = .ok (.iload 6, 2) := by decide +kernel
theorem d_H_compose_64 : decode (mi_code n_H_compose) 64 = .ok (.aload_n 1, 1) := by decide +kernel
theorem d_H_compose_65 : decode (mi_code n_H_compose) 65 = .ok (.getfield 298, 3) := by decide +kernel
theorem d_H_compose_68 : decode (mi_code n_H_compose) 68 = .ok (.invokevirtual 411, 3) := by decide +kernel
theorem d_H_compose_71 : decode (mi_code n_H_compose) 71 = .ok (.iinc 3 1, 3) := by decide +kernel
theorem d_H_compose_74 : decode (mi_code n_H_compose) 74 = .ok (.goto (-64), 3) := by decide +kernel
theorem d_H_compose_77 : decode (mi_code n_H_compose) 77 = .ok (.return_, 1) := by decide +kernel
theorem d_H_cut_0 : decode (mi_code n_H_cut) 0 = .ok (.aload_n 0, 1) := by decide +kernel
theorem d_H_cut_1 : decode (mi_code n_H_cut) 1 = .ok (.invokevirtual 264, 3) := by decide +kernel
theorem d_H_cut_4 : decode (mi_code n_H_cut) 4 = .ok (.istore_n 1, 1) := by decide +kernel
theorem d_H_cut_5 : decode (mi_code n_H_cut) 5 = .ok (.aload_n 0, 1) := by decide +kernel
theorem d_H_cut_6 : decode (mi_code n_H_cut) 6 = .ok (.iconst 0, 1) := by decide +kernel
theorem d_H_cut_7 : decode (mi_code n_H_cut) 7 = .ok (.putfield 259, 3) := by decide +kernel
theorem d_H_cut_10 : decode (mi_code n_H_cut) 10 = .ok (.iload_n 1, 1) := by decide +kernel
theorem d_H_cut_11 : decode (mi_code n_H_cut) 11 = .ok (.ireturn, 1) := by decide +kernel
theorem d_H_drawingAt_0 : decode (mi_code n_H_drawingAt) 0 = .ok (.aload_n 1, 1) := by decide +kernel
theorem d_H_drawingAt_1 : decode (mi_code n_H_drawingAt) 1 = .ok (.getfield 199, 3) := by decide +kernel
theorem d_H_drawingAt_4 : decode (mi_code n_H_drawingAt) 4 = .ok (.iload_n 2, 1) := by decide +kernel
theorem d_H_drawingAt_5 : decode (mi_code n_H_drawingAt) 5 = .ok (.baload, 1) := by decide +kernel
theorem d_H_drawingAt_6 : decode (mi_code n_H_drawingAt) 6 = .ok (.ifCond .ne 10, 3) := by decide +kernel
theorem d_H_drawingAt_9 : decode (mi_code n_H_drawingAt) 9 = .ok (.aload_n 1, 1) := by decide +kernel
theorem d_H_drawingAt_10 : decode (mi_code n_H_drawingAt) 10 = .ok (.iload_n 2, 1) := by decide +kernel
theorem d_H_drawingAt_11 : decode (mi_code n_H_drawingAt) 11 = .ok (.iload_n 3, 1) := by decide +kernel
theorem d_H_drawingAt_12 : decode (mi_code n_H_drawingAt) 12 = .ok (.invokevirtual 405, 3) := by decide +kernel
theorem d_H_drawingAt_15 : decode (mi_code n_H_drawingAt) 15 = .ok (.ireturn, 1) := by decide +kernel
theorem d_H_drawingAt_16 : decode (mi_code n_H_drawingAt) 16 = .ok (.aload_n 1, 1) := by decide +kernel
theorem d_H_drawingAt_17 : decode (mi_code n_H_drawingAt) 17 = .ok (.iload_n 3, 1) := by decide +kernel
theorem d_H_drawingAt_18 : decode (mi_code n_H_drawingAt) 18 = .ok (.iconst 1, 1) := by decide +kernel
theorem d_H_drawingAt_19 : decode (mi_code n_H_drawingAt) 19 = .ok (.iadd, 1) := by decide +kernel
theorem d_H_drawingAt_20 : decode (mi_code n_H_drawingAt) 20 = .ok (.aload_n 1, 1) := by decide +kernel
theorem d_H_drawingAt_21 : decode (mi_code n_H_drawingAt) 21 = .ok (.getfield 184, 3) := by decide +kernel
theorem d_H_drawingAt_24 : decode (mi_code n_H_drawingAt) 24 = .ok (.iconst 1, 1) := by decide +kernel
theorem d_H_drawingAt_25 : decode (mi_code n_H_drawingAt) 25 = .ok (.isub, 1) := by decide +kernel
theorem d_H_drawingAt_26 : decode (mi_code n_H_drawingAt) 26 = .ok (.invokestatic 408, 3) := by decide +kernel
theorem d_H_drawingAt_29 : decode (mi_code n_H_drawingAt) 29 = .ok (.invokevirtual 193, 3) := by decide +kernel
theorem d_H_drawingAt_32 : decode (mi_code n_H_drawingAt) 32 = .ok (.istore 4, 2) := by decide +kernel
theorem d_H_drawingAt_34 : decode (mi_code n_H_drawingAt) 34 = .ok (.iload 4, 2) := by decide +kernel
theorem d_H_drawingAt_36 : decode (mi_code n_H_drawingAt) 36 = .ok (.iconst (-1), 1) := by decide +kernel
theorem d_H_drawingAt_37 : decode (mi_code n_H_drawingAt) 37 = .ok (.if_icmp .ne 7, 3) := by decide +kernel
theorem d_H_drawingAt_40 : decode (mi_code n_H_drawingAt) 40 = .ok (.iconst (-1), 1) := by decide +kernel
theorem d_H_drawingAt_41 : decode (mi_code n_H_drawingAt) 41 = .ok (.goto 10, 3) := by decide +kernel
theorem d_H_drawingAt_44 : decode (mi_code n_H_drawingAt) 44 = .ok (.aload_n 0, 1) := by decide +kernel
theorem d_H_drawingAt_45 : decode (mi_code n_H_drawingAt) 45 = .ok (.getfield 25, 3) := by decide +kernel
theorem d_H_drawingAt_48 : decode (mi_code n_H_drawingAt) 48 = .ok (.iload 4, 2) := by decide +kernel
theorem d_H_drawingAt_50 : decode (mi_code n_H_drawingAt) 50 = .ok (.iaload, 1) := by decide +kernel
theorem d_H_drawingAt_51 : decode (mi_code n_H_drawingAt) 51 = .ok (.ireturn, 1) := by decide +kernel
theorem d_H_erase_0 : decode (mi_code n_H_erase) 0 = .ok (.aload_n 0, 1) := by decide +kernel
theorem d_H_erase_1 : decode (mi_code n_H_erase) 1 = .ok (.iload_n 1, 1) := by decide +kernel
theorem d_H_erase_2 : decode (mi_code n_H_erase) 2 = .ok (.invokevirtual 75, 3) := by decide +kernel
theorem d_H_erase_5 : decode (mi_code n_H_erase) 5 = .ok (.iload_n 2, 1) := by decide +kernel
theorem d_H_erase_6 : decode (mi_code n_H_erase) 6 = .ok (.invokestatic 99, 3) := by decide +kernel
theorem d_H_erase_9 : decode (mi_code n_H_erase) 9 = .ok (.aload_n 0, 1) := by decide +kernel
theorem d_H_erase_10 : decode (mi_code n_H_erase) 10 = .ok (.iload_n 1, 1) := by decide +kernel
theorem d_H_erase_11 : decode (mi_code n_H_erase) 11 = .ok (.invokevirtual 102, 3) := by decide +kernel
theorem d_H_erase_14 : decode (mi_code n_H_erase) 14 = .ok (.aload_n 0, 1) := by decide +kernel
theorem d_H_erase_15 : decode (mi_code n_H_erase) 15 = .ok (.getfield 11, 3) := by decide +kernel
theorem d_H_erase_18 : decode (mi_code n_H_erase) 18 = .ok (.iload_n 1, 1) := by decide +kernel
theorem d_H_erase_19 : decode (mi_code n_H_erase) 19 = .ok (.aaload, 1) := by decide +kernel
theorem d_H_erase_20 : decode (mi_code n_H_erase) 20 = .ok (.iload_n 2, 1) := by decide +kernel
theorem d_H_erase_21 : decode (mi_code n_H_erase) 21 = .ok (.invokevirtual 127, 3) := by decide +kernel
theorem d_H_erase_24 : decode (mi_code n_H_erase) 24 = .ok (.istore_n 3, 1) := by decide +kernel
theorem d_H_erase_25 : decode (mi_code n_H_erase) 25 = .ok (.aload_n 0, 1) := by decide +kernel
theorem d_H_erase_26 : decode (mi_code n_H_erase) 26 = .ok (.iload_n 1, 1) := by decide +kernel
theorem d_H_erase_27 : decode (mi_code n_H_erase) 27 = .ok (.invokevirtual 121, 3) := by decide +kernel
theorem d_H_erase_30 : decode (mi_code n_H_erase) 30 = .ok (.iload_n 3, 1) := by decide +kernel
theorem d_H_erase_31 : decode (mi_code n_H_erase) 31 = .ok (.ireturn, 1) := by decide +kernel
theorem d_H_expose_0 : decode (mi_code n_H_expose) 0 = .ok (.aload_n 0, 1) := by decide +kernel
theorem d_H_expose_1 : decode (mi_code n_H_expose) 1 = .ok (.iload_n 1, 1) := by decide +kernel
theorem d_H_expose_2 : decode (mi_code n_H_expose) 2 = .ok (.invokevirtual 173, 3) := by decide +kernel
theorem d_H_expose_5 : decode (mi_code n_H_expose) 5 = .ok (.iload_n 2, 1) := by decide +kernel
theorem d_H_expose_6 : decode (mi_code n_H_expose) 6 = .ok (.invokestatic 176, 3) := by decide +kernel
theorem d_H_expose_9 : decode (mi_code n_H_expose) 9 = .ok (.aload_n 0, 1) := by decide +kernel
theorem d_H_expose_10 : decode (mi_code n_H_expose) 10 = .ok (.iload_n 1, 1) := by decide +kernel
theorem d_H_expose_11 : decode (mi_code n_H_expose) 11 = .ok (.iload_n 3, 1) := by decide +kernel
theorem d_H_expose_12 : decode (mi_code n_H_expose) 12 = .ok (.invokevirtual 179, 3) := by decide +kernel
theorem d_H_expose_15 : decode (mi_code n_H_expose) 15 = .ok (.iload 4, 2) := by decide +kernel
theorem d_H_expose_17 : decode (mi_code n_H_expose) 17 = .ok (.ifCond .lt 19, 3) := by decide +kernel
theorem d_H_expose_20 : decode (mi_code n_H_expose) 20 = .ok (.iload 4, 2) := by decide +kernel
theorem d_H_expose_22 : decode (mi_code n_H_expose) 22 = .ok (.bipush 16, 2) := by decide +kernel
theorem d_H_expose_24 : decode (mi_code n_H_expose) 24 = .ok (.if_icmp .ge 12, 3) := by decide +kernel
theorem d_H_expose_27 : decode (mi_code n_H_expose) 27 = .ok (.aload_n 0, 1) := by decide +kernel
theorem d_H_expose_28 : decode (mi_code n_H_expose) 28 = .ok (.iload 4, 2) := by decide +kernel
theorem d_H_expose_30 : decode (mi_code n_H_expose) 30 = .ok (.invokevirtual 75, 3) := by decide +kernel
theorem d_H_expose_33 : decode (mi_code n_H_expose) 33 = .ok (.goto 40, 3) := by decide +kernel
theorem d_H_expose_36 : decode (mi_code n_H_expose) 36 = .ok (.iload 4, 2) := by decide +kernel
theorem d_H_expose_38 : decode (mi_code n_H_expose) 38 = .ok (.iconst (-1), 1) := by decide +kernel
theorem d_H_expose_39 : decode (mi_code n_H_expose) 39 = .ok (.if_icmp .eq 34, 3) := by decide +kernel
theorem d_H_expose_42 : decode (mi_code n_H_expose) 42 = .ok (.iload 4, 2) := by decide +kernel
theorem d_H_expose_44 : decode (mi_code n_H_expose) 44 = .ok (.bipush (-2), 2) := by decide +kernel
theorem d_H_expose_46 : decode (mi_code n_H_expose) 46 = .ok (.if_icmp .eq 27, 3) := by decide +kernel
theorem d_H_expose_49 : decode (mi_code n_H_expose) 49 = .ok (.iload 4, 2) := by decide +kernel
theorem d_H_expose_51 : decode (mi_code n_H_expose) 51 = .ok (.bipush 99, 2) := by decide +kernel
theorem d_H_expose_53 : decode (mi_code n_H_expose) 53 = .ok (.if_icmp .le 10, 3) := by decide +kernel
theorem d_H_expose_56 : decode (mi_code n_H_expose) 56 = .ok (.iload 4, 2) := by decide +kernel
theorem d_H_expose_58 : decode (mi_code n_H_expose) 58 = .ok (.bipush 123, 2) := by decide +kernel
theorem d_H_expose_60 : decode (mi_code n_H_expose) 60 = .ok (.if_icmp .le 13, 3) := by decide +kernel
theorem d_H_expose_63 : decode (mi_code n_H_expose) 63 = .ok (.new 79, 3) := by decide +kernel
theorem d_H_expose_66 : decode (mi_code n_H_expose) 66 = .ok (.dup, 1) := by decide +kernel
theorem d_H_expose_67 : decode (mi_code n_H_expose) 67 = .ok (.ldc 182, 2) := by decide +kernel
theorem d_H_expose_69 : decode (mi_code n_H_expose) 69 = .ok (.invokespecial 83, 3) := by decide +kernel
theorem d_H_expose_72 : decode (mi_code n_H_expose) 72 = .ok (.athrow, 1) := by decide +kernel
theorem d_H_expose_73 : decode (mi_code n_H_expose) 73 = .ok (.aload_n 0, 1) := by decide +kernel
theorem d_H_expose_74 : decode (mi_code n_H_expose) 74 = .ok (.getfield 21, 3) := by decide +kernel
theorem d_H_expose_77 : decode (mi_code n_H_expose) 77 = .ok (.iload_n 1, 1) := by decide +kernel
theorem d_H_expose_78 : decode (mi_code n_H_expose) 78 = .ok (.aaload, 1) := by decide +kernel
theorem d_H_expose_79 : decode (mi_code n_H_expose) 79 = .ok (.astore 5, 2) := by decide +kernel
theorem d_H_expose_81 : decode (mi_code n_H_expose) 81 = .ok (.iload_n 2, 1) := by decide +kernel
theorem d_H_expose_82 : decode (mi_code n_H_expose) 82 = .ok (.aload 5, 2) := by decide +kernel
theorem d_H_expose_84 : decode (mi_code n_H_expose) 84 = .ok (.getfield 184, 3) := by decide +kernel
theorem d_H_expose_87 : decode (mi_code n_H_expose) 87 = .ok (.imul, 1) := by decide +kernel
theorem d_H_expose_88 : decode (mi_code n_H_expose) 88 = .ok (.iload_n 3, 1) := by decide +kernel
theorem d_H_expose_89 : decode (mi_code n_H_expose) 89 = .ok (.iadd, 1) := by decide +kernel
theorem d_H_expose_90 : decode (mi_code n_H_expose) 90 = .ok (.istore 6, 2) := by decide +kernel
theorem d_H_expose_92 : decode (mi_code n_H_expose) 92 = .ok (.aload 5, 2) := by decide +kernel
theorem d_H_expose_94 : decode (mi_code n_H_expose) 94 = .ok (.getfield 187, 3) := by decide +kernel
theorem d_H_expose_97 : decode (mi_code n_H_expose) 97 = .ok (.iload 6, 2) := by decide +kernel
theorem d_H_expose_99 : decode (mi_code n_H_expose) 99 = .ok (.iaload, 1) := by decide +kernel
theorem d_H_expose_100 : decode (mi_code n_H_expose) 100 = .ok (.istore 7, 2) := by decide +kernel
theorem d_H_expose_102 : decode (mi_code n_H_expose) 102 = .ok (.aload 5, 2) := by decide +kernel
theorem d_H_expose_104 : decode (mi_code n_H_expose) 104 = .ok (.getfield 187, 3) := by decide +kernel
theorem d_H_expose_107 : decode (mi_code n_H_expose) 107 = .ok (.iload 6, 2) := by decide +kernel
theorem d_H_expose_109 : decode (mi_code n_H_expose) 109 = .ok (.iload 4, 2) := by decide +kernel
theorem d_H_expose_111 : decode (mi_code n_H_expose) 111 = .ok (.iastore, 1) := by decide +kernel
theorem d_H_expose_112 : decode (mi_code n_H_expose) 112 = .ok (.iload 7, 2) := by decide +kernel
theorem d_H_expose_114 : decode (mi_code n_H_expose) 114 = .ok (.ireturn, 1) := by decide +kernel
theorem d_H_faults_0 : decode (mi_code n_H_faults) 0 = .ok (.aload_n 0, 1) := by decide +kernel
theorem d_H_faults_1 : decode (mi_code n_H_faults) 1 = .ok (.iload_n 1, 1) := by decide +kernel
theorem d_H_faults_2 : decode (mi_code n_H_faults) 2 = .ok (.invokevirtual 173, 3) := by decide +kernel
theorem d_H_faults_5 : decode (mi_code n_H_faults) 5 = .ok (.aload_n 0, 1) := by decide +kernel
theorem d_H_faults_6 : decode (mi_code n_H_faults) 6 = .ok (.iload_n 1, 1) := by decide +kernel
theorem d_H_faults_7 : decode (mi_code n_H_faults) 7 = .ok (.iload_n 2, 1) := by decide +kernel
theorem d_H_faults_8 : decode (mi_code n_H_faults) 8 = .ok (.invokevirtual 179, 3) := by decide +kernel
theorem d_H_faults_11 : decode (mi_code n_H_faults) 11 = .ok (.aload_n 0, 1) := by decide +kernel
theorem d_H_faults_12 : decode (mi_code n_H_faults) 12 = .ok (.getfield 21, 3) := by decide +kernel
theorem d_H_faults_15 : decode (mi_code n_H_faults) 15 = .ok (.iload_n 1, 1) := by decide +kernel
theorem d_H_faults_16 : decode (mi_code n_H_faults) 16 = .ok (.aaload, 1) := by decide +kernel
theorem d_H_faults_17 : decode (mi_code n_H_faults) 17 = .ok (.astore_n 3, 1) := by decide +kernel
theorem d_H_faults_18 : decode (mi_code n_H_faults) 18 = .ok (.iconst 0, 1) := by decide +kernel
theorem d_H_faults_19 : decode (mi_code n_H_faults) 19 = .ok (.istore 4, 2) := by decide +kernel
theorem d_H_faults_21 : decode (mi_code n_H_faults) 21 = .ok (.aload_n 0, 1) := by decide +kernel
theorem d_H_faults_22 : decode (mi_code n_H_faults) 22 = .ok (.aload_n 3, 1) := by decide +kernel
theorem d_H_faults_23 : decode (mi_code n_H_faults) 23 = .ok (.iload_n 2, 1) := by decide +kernel
theorem d_H_faults_24 : decode (mi_code n_H_faults) 24 = .ok (.invokevirtual 308, 3) := by decide +kernel
theorem d_H_faults_27 : decode (mi_code n_H_faults) 27 = .ok (.ifCond .eq 6, 3) := by decide +kernel
theorem d_H_faults_30 : decode (mi_code n_H_faults) 30 = .ok (.iinc 4 1, 3) := by decide +kernel
theorem d_H_faults_33 : decode (mi_code n_H_faults) 33 = .ok (.aload_n 0, 1) := by decide +kernel
theorem d_H_faults_34 : decode (mi_code n_H_faults) 34 = .ok (.aload_n 3, 1) := by decide +kernel
theorem d_H_faults_35 : decode (mi_code n_H_faults) 35 = .ok (.iload_n 2, 1) := by decide +kernel
theorem d_H_faults_36 : decode (mi_code n_H_faults) 36 = .ok (.invokevirtual 312, 3) := by decide +kernel
theorem d_H_faults_39 : decode (mi_code n_H_faults) 39 = .ok (.ifCond .eq 6, 3) := by decide +kernel
theorem d_H_faults_42 : decode (mi_code n_H_faults) 42 = .ok (.iinc 4 2, 3) := by decide +kernel
theorem d_H_faults_45 : decode (mi_code n_H_faults) 45 = .ok (.aload_n 0, 1) := by decide +kernel
theorem d_H_faults_46 : decode (mi_code n_H_faults) 46 = .ok (.aload_n 3, 1) := by decide +kernel
theorem d_H_faults_47 : decode (mi_code n_H_faults) 47 = .ok (.iload_n 2, 1) := by decide +kernel
theorem d_H_faults_48 : decode (mi_code n_H_faults) 48 = .ok (.invokevirtual 240, 3) := by decide +kernel
theorem d_H_faults_51 : decode (mi_code n_H_faults) 51 = .ok (.aload_n 0, 1) := by decide +kernel
theorem d_H_faults_52 : decode (mi_code n_H_faults) 52 = .ok (.invokevirtual 315, 3) := by decide +kernel
theorem d_H_faults_55 : decode (mi_code n_H_faults) 55 = .ok (.ifCond .eq 6, 3) := by decide +kernel
theorem d_H_faults_58 : decode (mi_code n_H_faults) 58 = .ok (.iinc 4 4, 3) := by decide +kernel
theorem d_H_faults_61 : decode (mi_code n_H_faults) 61 = .ok (.iload 4, 2) := by decide +kernel
theorem d_H_faults_63 : decode (mi_code n_H_faults) 63 = .ok (.ireturn, 1) := by decide +kernel
theorem d_H_film_0 : decode (mi_code n_H_film) 0 = .ok (.iload_n 1, 1) := by decide +kernel
theorem d_H_film_1 : decode (mi_code n_H_film) 1 = .ok (.ifCond .lt 11, 3) := by decide +kernel
theorem d_H_film_4 : decode (mi_code n_H_film) 4 = .ok (.iload_n 1, 1) := by decide +kernel
theorem d_H_film_5 : decode (mi_code n_H_film) 5 = .ok (.aload_n 0, 1) := by decide +kernel
theorem d_H_film_6 : decode (mi_code n_H_film) 6 = .ok (.invokevirtual 264, 3) := by decide +kernel
theorem d_H_film_9 : decode (mi_code n_H_film) 9 = .ok (.if_icmp .lt 14, 3) := by decide +kernel
theorem d_H_film_12 : decode (mi_code n_H_film) 12 = .ok (.new 319, 3) := by decide +kernel
theorem d_H_film_15 : decode (mi_code n_H_film) 15 = .ok (.dup, 1) := by decide +kernel
theorem d_H_film_16 : decode (mi_code n_H_film) 16 = .ok (.ldc_w 335, 3) := by decide +kernel
theorem d_H_film_19 : decode (mi_code n_H_film) 19 = .ok (.invokespecial 323, 3) := by decide +kernel
theorem d_H_film_22 : decode (mi_code n_H_film) 22 = .ok (.athrow, 1) := by decide +kernel
theorem d_H_film_23 : decode (mi_code n_H_film) 23 = .ok (.iload_n 1, 1) := by decide +kernel
theorem d_H_film_24 : decode (mi_code n_H_film) 24 = .ok (.istore_n 2, 1) := by decide +kernel
theorem d_H_film_25 : decode (mi_code n_H_film) 25 = .ok (.iconst 0, 1) := by decide +kernel
theorem d_H_film_26 : decode (mi_code n_H_film) 26 = .ok (.istore_n 3, 1) := by decide +kernel
theorem d_H_film_27 : decode (mi_code n_H_film) 27 = .ok (.iload_n 3, 1) := by decide +kernel
theorem d_H_film_28 : decode (mi_code n_H_film) 28 = .ok (.aload_n 0, 1) := by decide +kernel
theorem d_H_film_29 : decode (mi_code n_H_film) 29 = .ok (.getfield 259, 3) := by decide +kernel
theorem d_H_film_32 : decode (mi_code n_H_film) 32 = .ok (.iconst 1, 1) := by decide +kernel
theorem d_H_film_33 : decode (mi_code n_H_film) 33 = .ok (.isub, 1) := by decide +kernel
theorem d_H_film_34 : decode (mi_code n_H_film) 34 = .ok (.if_icmp .ge 44, 3) := by decide +kernel
theorem d_H_film_37 : decode (mi_code n_H_film) 37 = .ok (.iload_n 2, 1) := by decide +kernel
theorem d_H_film_38 : decode (mi_code n_H_film) 38 = .ok (.aload_n 0, 1) := by decide +kernel
theorem d_H_film_39 : decode (mi_code n_H_film) 39 = .ok (.getfield 21, 3) := by decide +kernel
theorem d_H_film_42 : decode (mi_code n_H_film) 42 = .ok (.aload_n 0, 1) := by decide +kernel
theorem d_H_film_43 : decode (mi_code n_H_film) 43 = .ok (.getfield 46, 3) := by decide +kernel
theorem d_H_film_46 : decode (mi_code n_H_film) 46 = .ok (.iload_n 3, 1) := by decide +kernel
theorem d_H_film_47 : decode (mi_code n_H_film) 47 = .ok (.iaload, 1) := by decide +kernel
theorem d_H_film_48 : decode (mi_code n_H_film) 48 = .ok (.aaload, 1) := by decide +kernel
theorem d_H_film_49 : decode (mi_code n_H_film) 49 = .ok (.getfield 184, 3) := by decide +kernel
theorem d_H_film_52 : decode (mi_code n_H_film) 52 = .ok (.if_icmp .lt 26, 3) := by decide +kernel
theorem d_H_film_55 : decode (mi_code n_H_film) 55 = .ok (.iload_n 2, 1) := by decide +kernel
theorem d_H_film_56 : decode (mi_code n_H_film) 56 = .ok (.aload_n 0, 1) := by decide +kernel
theorem d_H_film_57 : decode (mi_code n_H_film) 57 = .ok (.getfield 21, 3) := by decide +kernel
theorem d_H_film_60 : decode (mi_code n_H_film) 60 = .ok (.aload_n 0, 1) := by decide +kernel
theorem d_H_film_61 : decode (mi_code n_H_film) 61 = .ok (.getfield 46, 3) := by decide +kernel
theorem d_H_film_64 : decode (mi_code n_H_film) 64 = .ok (.iload_n 3, 1) := by decide +kernel
theorem d_H_film_65 : decode (mi_code n_H_film) 65 = .ok (.iaload, 1) := by decide +kernel
theorem d_H_film_66 : decode (mi_code n_H_film) 66 = .ok (.aaload, 1) := by decide +kernel
theorem d_H_film_67 : decode (mi_code n_H_film) 67 = .ok (.getfield 184, 3) := by decide +kernel
theorem d_H_film_70 : decode (mi_code n_H_film) 70 = .ok (.isub, 1) := by decide +kernel
theorem d_H_film_71 : decode (mi_code n_H_film) 71 = .ok (.istore_n 2, 1) := by decide +kernel
theorem d_H_film_72 : decode (mi_code n_H_film) 72 = .ok (.iinc 3 1, 3) := by decide +kernel
theorem d_H_film_75 : decode (mi_code n_H_film) 75 = .ok (.goto (-48), 3) := by decide +kernel
theorem d_H_film_78 : decode (mi_code n_H_film) 78 = .ok (.bipush 100, 2) := by decide +kernel
theorem d_H_film_80 : decode (mi_code n_H_film) 80 = .ok (.aload_n 0, 1) := by decide +kernel
theorem d_H_film_81 : decode (mi_code n_H_film) 81 = .ok (.getfield 46, 3) := by decide +kernel
theorem d_H_film_84 : decode (mi_code n_H_film) 84 = .ok (.iload_n 3, 1) := by decide +kernel
theorem d_H_film_85 : decode (mi_code n_H_film) 85 = .ok (.iaload, 1) := by decide +kernel
theorem d_H_film_86 : decode (mi_code n_H_film) 86 = .ok (.imul, 1) := by decide +kernel
theorem d_H_film_87 : decode (mi_code n_H_film) 87 = .ok (.iload_n 2, 1) := by decide +kernel
theorem d_H_film_88 : decode (mi_code n_H_film) 88 = .ok (.iadd, 1) := by decide +kernel
theorem d_H_film_89 : decode (mi_code n_H_film) 89 = .ok (.ireturn, 1) := by decide +kernel
theorem d_H_filmLength_0 : decode (mi_code n_H_filmLength) 0 = .ok (.iconst 0, 1) := by decide +kernel
theorem d_H_filmLength_1 : decode (mi_code n_H_filmLength) 1 = .ok (.istore_n 1, 1) := by decide +kernel
theorem d_H_filmLength_2 : decode (mi_code n_H_filmLength) 2 = .ok (.iconst 0, 1) := by decide +kernel
theorem d_H_filmLength_3 : decode (mi_code n_H_filmLength) 3 = .ok (.istore_n 2, 1) := by decide +kernel
theorem d_H_filmLength_4 : decode (mi_code n_H_filmLength) 4 = .ok (.iload_n 2, 1) := by decide +kernel
theorem d_H_filmLength_5 : decode (mi_code n_H_filmLength) 5 = .ok (.aload_n 0, 1) := by decide +kernel
theorem d_H_filmLength_6 : decode (mi_code n_H_filmLength) 6 = .ok (.getfield 259, 3) := by decide +kernel
theorem d_H_filmLength_9 : decode (mi_code n_H_filmLength) 9 = .ok (.if_icmp .ge 26, 3) := by decide +kernel
theorem d_H_filmLength_12 : decode (mi_code n_H_filmLength) 12 = .ok (.iload_n 1, 1) := by decide +kernel
theorem d_H_filmLength_13 : decode (mi_code n_H_filmLength) 13 = .ok (.aload_n 0, 1) := by decide +kernel
theorem d_H_filmLength_14 : decode (mi_code n_H_filmLength) 14 = .ok (.getfield 21, 3) := by decide +kernel
theorem d_H_filmLength_17 : decode (mi_code n_H_filmLength) 17 = .ok (.aload_n 0, 1) := by decide +kernel
theorem d_H_filmLength_18 : decode (mi_code n_H_filmLength) 18 = .ok (.getfield 46, 3) := by decide +kernel
theorem d_H_filmLength_21 : decode (mi_code n_H_filmLength) 21 = .ok (.iload_n 2, 1) := by decide +kernel
theorem d_H_filmLength_22 : decode (mi_code n_H_filmLength) 22 = .ok (.iaload, 1) := by decide +kernel
theorem d_H_filmLength_23 : decode (mi_code n_H_filmLength) 23 = .ok (.aaload, 1) := by decide +kernel
theorem d_H_filmLength_24 : decode (mi_code n_H_filmLength) 24 = .ok (.getfield 184, 3) := by decide +kernel
theorem d_H_filmLength_27 : decode (mi_code n_H_filmLength) 27 = .ok (.iadd, 1) := by decide +kernel
theorem d_H_filmLength_28 : decode (mi_code n_H_filmLength) 28 = .ok (.istore_n 1, 1) := by decide +kernel
theorem d_H_filmLength_29 : decode (mi_code n_H_filmLength) 29 = .ok (.iinc 2 1, 3) := by decide +kernel
theorem d_H_filmLength_32 : decode (mi_code n_H_filmLength) 32 = .ok (.goto (-28), 3) := by decide +kernel
theorem d_H_filmLength_35 : decode (mi_code n_H_filmLength) 35 = .ok (.iload_n 1, 1) := by decide +kernel
theorem d_H_filmLength_36 : decode (mi_code n_H_filmLength) 36 = .ok (.ireturn, 1) := by decide +kernel
theorem d_H_firstFree_0 : decode (mi_code n_H_firstFree) 0 = .ok (.iconst 0, 1) := by decide +kernel
theorem d_H_firstFree_1 : decode (mi_code n_H_firstFree) 1 = .ok (.istore_n 1, 1) := by decide +kernel
theorem d_H_firstFree_2 : decode (mi_code n_H_firstFree) 2 = .ok (.iconst 1, 1) := by decide +kernel
theorem d_H_firstFree_3 : decode (mi_code n_H_firstFree) 3 = .ok (.istore_n 2, 1) := by decide +kernel
theorem d_H_firstFree_4 : decode (mi_code n_H_firstFree) 4 = .ok (.iload_n 2, 1) := by decide +kernel
theorem d_H_firstFree_5 : decode (mi_code n_H_firstFree) 5 = .ok (.aload_n 0, 1) := by decide +kernel
theorem d_H_firstFree_6 : decode (mi_code n_H_firstFree) 6 = .ok (.getfield 254, 3) := by decide +kernel
theorem d_H_firstFree_9 : decode (mi_code n_H_firstFree) 9 = .ok (.if_icmp .ge 26, 3) := by decide +kernel
theorem d_H_firstFree_12 : decode (mi_code n_H_firstFree) 12 = .ok (.aload_n 0, 1) := by decide +kernel
theorem d_H_firstFree_13 : decode (mi_code n_H_firstFree) 13 = .ok (.getfield 43, 3) := by decide +kernel
theorem d_H_firstFree_16 : decode (mi_code n_H_firstFree) 16 = .ok (.iload_n 2, 1) := by decide +kernel
theorem d_H_firstFree_17 : decode (mi_code n_H_firstFree) 17 = .ok (.iaload, 1) := by decide +kernel
theorem d_H_firstFree_18 : decode (mi_code n_H_firstFree) 18 = .ok (.aload_n 0, 1) := by decide +kernel
theorem d_H_firstFree_19 : decode (mi_code n_H_firstFree) 19 = .ok (.getfield 43, 3) := by decide +kernel
theorem d_H_firstFree_22 : decode (mi_code n_H_firstFree) 22 = .ok (.iload_n 1, 1) := by decide +kernel
theorem d_H_firstFree_23 : decode (mi_code n_H_firstFree) 23 = .ok (.iaload, 1) := by decide +kernel
theorem d_H_firstFree_24 : decode (mi_code n_H_firstFree) 24 = .ok (.if_icmp .ge 5, 3) := by decide +kernel
theorem d_H_firstFree_27 : decode (mi_code n_H_firstFree) 27 = .ok (.iload_n 2, 1) := by decide +kernel
theorem d_H_firstFree_28 : decode (mi_code n_H_firstFree) 28 = .ok (.istore_n 1, 1) := by decide +kernel
theorem d_H_firstFree_29 : decode (mi_code n_H_firstFree) 29 = .ok (.iinc 2 1, 3) := by decide +kernel
theorem d_H_firstFree_32 : decode (mi_code n_H_firstFree) 32 = .ok (.goto (-28), 3) := by decide +kernel
theorem d_H_firstFree_35 : decode (mi_code n_H_firstFree) 35 = .ok (.iload_n 1, 1) := by decide +kernel
theorem d_H_firstFree_36 : decode (mi_code n_H_firstFree) 36 = .ok (.ireturn, 1) := by decide +kernel
theorem d_H_frameHangsOn_0 : decode (mi_code n_H_frameHangsOn) 0 = .ok (.iconst 0, 1) := by decide +kernel
theorem d_H_frameHangsOn_1 : decode (mi_code n_H_frameHangsOn) 1 = .ok (.istore 4, 2) := by decide +kernel
theorem d_H_frameHangsOn_3 : decode (mi_code n_H_frameHangsOn) 3 = .ok (.iload 4, 2) := by decide +kernel
theorem d_H_frameHangsOn_5 : decode (mi_code n_H_frameHangsOn) 5 = .ok (.iconst 4, 1) := by decide +kernel
theorem d_H_frameHangsOn_6 : decode (mi_code n_H_frameHangsOn) 6 = .ok (.if_icmp .ge 47, 3) := by decide +kernel
theorem d_H_frameHangsOn_9 : decode (mi_code n_H_frameHangsOn) 9 = .ok (.aload_n 0, 1) := by decide +kernel
theorem d_H_frameHangsOn_10 : decode (mi_code n_H_frameHangsOn) 10 = .ok (.aload_n 1, 1) := by decide +kernel
theorem d_H_frameHangsOn_11 : decode (mi_code n_H_frameHangsOn) 11 = .ok (.iload 4, 2) := by decide +kernel
theorem d_H_frameHangsOn_13 : decode (mi_code n_H_frameHangsOn) 13 = .ok (.iload_n 2, 1) := by decide +kernel
theorem d_H_frameHangsOn_14 : decode (mi_code n_H_frameHangsOn) 14 = .ok (.invokevirtual 286, 3) := by decide +kernel
theorem d_H_frameHangsOn_17 : decode (mi_code n_H_frameHangsOn) 17 = .ok (.istore 5, 2) := by decide +kernel
theorem d_H_frameHangsOn_19 : decode (mi_code n_H_frameHangsOn) 19 = .ok (.iload 5, 2) := by decide +kernel
theorem d_H_frameHangsOn_21 : decode (mi_code n_H_frameHangsOn) 21 = .ok (.iconst (-1), 1) := by decide +kernel
theorem d_H_frameHangsOn_22 : decode (mi_code n_H_frameHangsOn) 22 = .ok (.if_icmp .eq 25, 3) := by decide +kernel
theorem d_H_frameHangsOn_25 : decode (mi_code n_H_frameHangsOn) 25 = .ok (.iload 5, 2) := by decide +kernel
theorem d_H_frameHangsOn_27 : decode (mi_code n_H_frameHangsOn) 27 = .ok (.iload_n 3, 1) := by decide +kernel
theorem d_H_frameHangsOn_28 : decode (mi_code n_H_frameHangsOn) 28 = .ok (.if_icmp .eq 17, 3) := by decide +kernel
theorem d_H_frameHangsOn_31 : decode (mi_code n_H_frameHangsOn) 31 = .ok (.aload_n 0, 1) := by decide +kernel
theorem d_H_frameHangsOn_32 : decode (mi_code n_H_frameHangsOn) 32 = .ok (.getfield 11, 3) := by decide +kernel
theorem d_H_frameHangsOn_35 : decode (mi_code n_H_frameHangsOn) 35 = .ok (.iload 5, 2) := by decide +kernel
theorem d_H_frameHangsOn_37 : decode (mi_code n_H_frameHangsOn) 37 = .ok (.aaload, 1) := by decide +kernel
theorem d_H_frameHangsOn_38 : decode (mi_code n_H_frameHangsOn) 38 = .ok (.iload_n 3, 1) := by decide +kernel
theorem d_H_frameHangsOn_39 : decode (mi_code n_H_frameHangsOn) 39 = .ok (.invokevirtual 368, 3) := by decide +kernel
theorem d_H_frameHangsOn_42 : decode (mi_code n_H_frameHangsOn) 42 = .ok (.ifCond .eq 5, 3) := by decide +kernel
theorem d_H_frameHangsOn_45 : decode (mi_code n_H_frameHangsOn) 45 = .ok (.iconst 1, 1) := by decide +kernel
theorem d_H_frameHangsOn_46 : decode (mi_code n_H_frameHangsOn) 46 = .ok (.ireturn, 1) := by decide +kernel
theorem d_H_frameHangsOn_47 : decode (mi_code n_H_frameHangsOn) 47 = .ok (.iinc 4 1, 3) := by decide +kernel
theorem d_H_frameHangsOn_50 : decode (mi_code n_H_frameHangsOn) 50 = .ok (.goto (-47), 3) := by decide +kernel
theorem d_H_frameHangsOn_53 : decode (mi_code n_H_frameHangsOn) 53 = .ok (.iconst 0, 1) := by decide +kernel
theorem d_H_frameHangsOn_54 : decode (mi_code n_H_frameHangsOn) 54 = .ok (.ireturn, 1) := by decide +kernel
theorem d_H_framesHangingOn_0 : decode (mi_code n_H_framesHangingOn) 0 = .ok (.iconst 0, 1) := by decide +kernel
theorem d_H_framesHangingOn_1 : decode (mi_code n_H_framesHangingOn) 1 = .ok (.istore_n 2, 1) := by decide +kernel
theorem d_H_framesHangingOn_2 : decode (mi_code n_H_framesHangingOn) 2 = .ok (.iconst 0, 1) := by decide +kernel
theorem d_H_framesHangingOn_3 : decode (mi_code n_H_framesHangingOn) 3 = .ok (.istore_n 3, 1) := by decide +kernel
theorem d_H_framesHangingOn_4 : decode (mi_code n_H_framesHangingOn) 4 = .ok (.iload_n 3, 1) := by decide +kernel
theorem d_H_framesHangingOn_5 : decode (mi_code n_H_framesHangingOn) 5 = .ok (.aload_n 0, 1) := by decide +kernel
theorem d_H_framesHangingOn_6 : decode (mi_code n_H_framesHangingOn) 6 = .ok (.getfield 166, 3) := by decide +kernel
theorem d_H_framesHangingOn_9 : decode (mi_code n_H_framesHangingOn) 9 = .ok (.if_icmp .ge 51, 3) := by decide +kernel
theorem d_H_framesHangingOn_12 : decode (mi_code n_H_framesHangingOn) 12 = .ok (.iconst 0, 1) := by decide +kernel
theorem d_H_framesHangingOn_13 : decode (mi_code n_H_framesHangingOn) 13 = .ok (.istore 4, 2) := by decide +kernel
theorem d_H_framesHangingOn_15 : decode (mi_code n_H_framesHangingOn) 15 = .ok (.iload 4, 2) := by decide +kernel
theorem d_H_framesHangingOn_17 : decode (mi_code n_H_framesHangingOn) 17 = .ok (.aload_n 0, 1) := by decide +kernel
theorem d_H_framesHangingOn_18 : decode (mi_code n_H_framesHangingOn) 18 = .ok (.getfield 21, 3) := by decide +kernel
theorem d_H_framesHangingOn_21 : decode (mi_code n_H_framesHangingOn) 21 = .ok (.iload_n 3, 1) := by decide +kernel
theorem d_H_framesHangingOn_22 : decode (mi_code n_H_framesHangingOn) 22 = .ok (.aaload, 1) := by decide +kernel
theorem d_H_framesHangingOn_23 : decode (mi_code n_H_framesHangingOn) 23 = .ok (.getfield 184, 3) := by decide +kernel
theorem d_H_framesHangingOn_26 : decode (mi_code n_H_framesHangingOn) 26 = .ok (.if_icmp .ge 28, 3) := by decide +kernel
theorem d_H_framesHangingOn_29 : decode (mi_code n_H_framesHangingOn) 29 = .ok (.aload_n 0, 1) := by decide +kernel
theorem d_H_framesHangingOn_30 : decode (mi_code n_H_framesHangingOn) 30 = .ok (.aload_n 0, 1) := by decide +kernel
theorem d_H_framesHangingOn_31 : decode (mi_code n_H_framesHangingOn) 31 = .ok (.getfield 21, 3) := by decide +kernel
theorem d_H_framesHangingOn_34 : decode (mi_code n_H_framesHangingOn) 34 = .ok (.iload_n 3, 1) := by decide +kernel
theorem d_H_framesHangingOn_35 : decode (mi_code n_H_framesHangingOn) 35 = .ok (.aaload, 1) := by decide +kernel
theorem d_H_framesHangingOn_36 : decode (mi_code n_H_framesHangingOn) 36 = .ok (.iload 4, 2) := by decide +kernel
theorem d_H_framesHangingOn_38 : decode (mi_code n_H_framesHangingOn) 38 = .ok (.iload_n 1, 1) := by decide +kernel
theorem d_H_framesHangingOn_39 : decode (mi_code n_H_framesHangingOn) 39 = .ok (.invokevirtual 304, 3) := by decide +kernel
theorem d_H_framesHangingOn_42 : decode (mi_code n_H_framesHangingOn) 42 = .ok (.ifCond .eq 6, 3) := by decide +kernel
theorem d_H_framesHangingOn_45 : decode (mi_code n_H_framesHangingOn) 45 = .ok (.iinc 2 1, 3) := by decide +kernel
theorem d_H_framesHangingOn_48 : decode (mi_code n_H_framesHangingOn) 48 = .ok (.iinc 4 1, 3) := by decide +kernel
theorem d_H_framesHangingOn_51 : decode (mi_code n_H_framesHangingOn) 51 = .ok (.goto (-36), 3) := by decide +kernel
theorem d_H_framesHangingOn_54 : decode (mi_code n_H_framesHangingOn) 54 = .ok (.iinc 3 1, 3) := by decide +kernel
theorem d_H_framesHangingOn_57 : decode (mi_code n_H_framesHangingOn) 57 = .ok (.goto (-53), 3) := by decide +kernel
theorem d_H_framesHangingOn_60 : decode (mi_code n_H_framesHangingOn) 60 = .ok (.iload_n 2, 1) := by decide +kernel
theorem d_H_framesHangingOn_61 : decode (mi_code n_H_framesHangingOn) 61 = .ok (.ireturn, 1) := by decide +kernel
theorem d_H_gaps_0 : decode (mi_code n_H_gaps) 0 = .ok (.aload_n 0, 1) := by decide +kernel
theorem d_H_gaps_1 : decode (mi_code n_H_gaps) 1 = .ok (.iload_n 1, 1) := by decide +kernel
theorem d_H_gaps_2 : decode (mi_code n_H_gaps) 2 = .ok (.invokevirtual 75, 3) := by decide +kernel
theorem d_H_gaps_5 : decode (mi_code n_H_gaps) 5 = .ok (.aload_n 0, 1) := by decide +kernel
theorem d_H_gaps_6 : decode (mi_code n_H_gaps) 6 = .ok (.iload_n 1, 1) := by decide +kernel
theorem d_H_gaps_7 : decode (mi_code n_H_gaps) 7 = .ok (.invokevirtual 102, 3) := by decide +kernel
theorem d_H_gaps_10 : decode (mi_code n_H_gaps) 10 = .ok (.aload_n 0, 1) := by decide +kernel
theorem d_H_gaps_11 : decode (mi_code n_H_gaps) 11 = .ok (.getfield 11, 3) := by decide +kernel
theorem d_H_gaps_14 : decode (mi_code n_H_gaps) 14 = .ok (.iload_n 1, 1) := by decide +kernel
theorem d_H_gaps_15 : decode (mi_code n_H_gaps) 15 = .ok (.aaload, 1) := by decide +kernel
theorem d_H_gaps_16 : decode (mi_code n_H_gaps) 16 = .ok (.astore_n 2, 1) := by decide +kernel
theorem d_H_gaps_17 : decode (mi_code n_H_gaps) 17 = .ok (.aload_n 2, 1) := by decide +kernel
theorem d_H_gaps_18 : decode (mi_code n_H_gaps) 18 = .ok (.aload_n 2, 1) := by decide +kernel
theorem d_H_gaps_19 : decode (mi_code n_H_gaps) 19 = .ok (.getfield 146, 3) := by decide +kernel
theorem d_H_gaps_22 : decode (mi_code n_H_gaps) 22 = .ok (.ifCond .ne 7, 3) := by decide +kernel
theorem d_H_gaps_25 : decode (mi_code n_H_gaps) 25 = .ok (.iconst 1, 1) := by decide +kernel
theorem d_H_gaps_26 : decode (mi_code n_H_gaps) 26 = .ok (.goto 4, 3) := by decide +kernel
theorem d_H_gaps_29 : decode (mi_code n_H_gaps) 29 = .ok (.iconst 0, 1) := by decide +kernel
theorem d_H_gaps_30 : decode (mi_code n_H_gaps) 30 = .ok (.putfield 146, 3) := by decide +kernel
theorem d_H_gaps_33 : decode (mi_code n_H_gaps) 33 = .ok (.aload_n 0, 1) := by decide +kernel
theorem d_H_gaps_34 : decode (mi_code n_H_gaps) 34 = .ok (.iload_n 1, 1) := by decide +kernel
theorem d_H_gaps_35 : decode (mi_code n_H_gaps) 35 = .ok (.invokevirtual 121, 3) := by decide +kernel
theorem d_H_gaps_38 : decode (mi_code n_H_gaps) 38 = .ok (.aload_n 2, 1) := by decide +kernel
theorem d_H_gaps_39 : decode (mi_code n_H_gaps) 39 = .ok (.getfield 146, 3) := by decide +kernel
theorem d_H_gaps_42 : decode (mi_code n_H_gaps) 42 = .ok (.ireturn, 1) := by decide +kernel
theorem d_H_hand_0 : decode (mi_code n_H_hand) 0 = .ok (.iload_n 1, 1) := by decide +kernel
theorem d_H_hand_1 : decode (mi_code n_H_hand) 1 = .ok (.iconst 1, 1) := by decide +kernel
theorem d_H_hand_2 : decode (mi_code n_H_hand) 2 = .ok (.if_icmp .lt 9, 3) := by decide +kernel
theorem d_H_hand_5 : decode (mi_code n_H_hand) 5 = .ok (.iload_n 1, 1) := by decide +kernel
theorem d_H_hand_6 : decode (mi_code n_H_hand) 6 = .ok (.bipush 9, 2) := by decide +kernel
theorem d_H_hand_8 : decode (mi_code n_H_hand) 8 = .ok (.if_icmp .le 13, 3) := by decide +kernel
theorem d_H_hand_11 : decode (mi_code n_H_hand) 11 = .ok (.new 79, 3) := by decide +kernel
theorem d_H_hand_14 : decode (mi_code n_H_hand) 14 = .ok (.dup, 1) := by decide +kernel
theorem d_H_hand_15 : decode (mi_code n_H_hand) 15 = .ok (.ldc 252, 2) := by decide +kernel
theorem d_H_hand_17 : decode (mi_code n_H_hand) 17 = .ok (.invokespecial 83, 3) := by decide +kernel
theorem d_H_hand_20 : decode (mi_code n_H_hand) 20 = .ok (.athrow, 1) := by decide +kernel
theorem d_H_hand_21 : decode (mi_code n_H_hand) 21 = .ok (.aload_n 0, 1) := by decide +kernel
theorem d_H_hand_22 : decode (mi_code n_H_hand) 22 = .ok (.getfield 254, 3) := by decide +kernel
theorem d_H_hand_25 : decode (mi_code n_H_hand) 25 = .ok (.iconst 4, 1) := by decide +kernel
theorem d_H_hand_26 : decode (mi_code n_H_hand) 26 = .ok (.if_icmp .lt 14, 3) := by decide +kernel
theorem d_H_hand_29 : decode (mi_code n_H_hand) 29 = .ok (.new 134, 3) := by decide +kernel
theorem d_H_hand_32 : decode (mi_code n_H_hand) 32 = .ok (.dup, 1) := by decide +kernel
theorem d_H_hand_33 : decode (mi_code n_H_hand) 33 = .ok (.ldc_w 257, 3) := by decide +kernel
theorem d_H_hand_36 : decode (mi_code n_H_hand) 36 = .ok (.invokespecial 138, 3) := by decide +kernel
theorem d_H_hand_39 : decode (mi_code n_H_hand) 39 = .ok (.athrow, 1) := by decide +kernel
theorem d_H_hand_40 : decode (mi_code n_H_hand) 40 = .ok (.aload_n 0, 1) := by decide +kernel
theorem d_H_hand_41 : decode (mi_code n_H_hand) 41 = .ok (.getfield 40, 3) := by decide +kernel
theorem d_H_hand_44 : decode (mi_code n_H_hand) 44 = .ok (.aload_n 0, 1) := by decide +kernel
theorem d_H_hand_45 : decode (mi_code n_H_hand) 45 = .ok (.getfield 254, 3) := by decide +kernel
theorem d_H_hand_48 : decode (mi_code n_H_hand) 48 = .ok (.iload_n 1, 1) := by decide +kernel
theorem d_H_hand_49 : decode (mi_code n_H_hand) 49 = .ok (.iastore, 1) := by decide +kernel
theorem d_H_hand_50 : decode (mi_code n_H_hand) 50 = .ok (.aload_n 0, 1) := by decide +kernel
theorem d_H_hand_51 : decode (mi_code n_H_hand) 51 = .ok (.dup, 1) := by decide +kernel
theorem d_H_hand_52 : decode (mi_code n_H_hand) 52 = .ok (.getfield 254, 3) := by decide +kernel
theorem d_H_hand_55 : decode (mi_code n_H_hand) 55 = .ok (.dup_x1, 1) := by decide +kernel
theorem d_H_hand_56 : decode (mi_code n_H_hand) 56 = .ok (.iconst 1, 1) := by decide +kernel
theorem d_H_hand_57 : decode (mi_code n_H_hand) 57 = .ok (.iadd, 1) := by decide +kernel
theorem d_H_hand_58 : decode (mi_code n_H_hand) 58 = .ok (.putfield 254, 3) := by decide +kernel
theorem d_H_hand_61 : decode (mi_code n_H_hand) 61 = .ok (.ireturn, 1) := by decide +kernel
theorem d_H_hang_0 : decode (mi_code n_H_hang) 0 = .ok (.aload_n 0, 1) := by decide +kernel
theorem d_H_hang_1 : decode (mi_code n_H_hang) 1 = .ok (.iload_n 1, 1) := by decide +kernel
theorem d_H_hang_2 : decode (mi_code n_H_hang) 2 = .ok (.invokevirtual 173, 3) := by decide +kernel
theorem d_H_hang_5 : decode (mi_code n_H_hang) 5 = .ok (.iload_n 2, 1) := by decide +kernel
theorem d_H_hang_6 : decode (mi_code n_H_hang) 6 = .ok (.iconst 4, 1) := by decide +kernel
theorem d_H_hang_7 : decode (mi_code n_H_hang) 7 = .ok (.if_icmp .eq 7, 3) := by decide +kernel
theorem d_H_hang_10 : decode (mi_code n_H_hang) 10 = .ok (.iload_n 2, 1) := by decide +kernel
theorem d_H_hang_11 : decode (mi_code n_H_hang) 11 = .ok (.invokestatic 176, 3) := by decide +kernel
theorem d_H_hang_14 : decode (mi_code n_H_hang) 14 = .ok (.iload_n 3, 1) := by decide +kernel
theorem d_H_hang_15 : decode (mi_code n_H_hang) 15 = .ok (.iconst (-1), 1) := by decide +kernel
theorem d_H_hang_16 : decode (mi_code n_H_hang) 16 = .ok (.if_icmp .eq 8, 3) := by decide +kernel
theorem d_H_hang_19 : decode (mi_code n_H_hang) 19 = .ok (.aload_n 0, 1) := by decide +kernel
theorem d_H_hang_20 : decode (mi_code n_H_hang) 20 = .ok (.iload_n 3, 1) := by decide +kernel
theorem d_H_hang_21 : decode (mi_code n_H_hang) 21 = .ok (.invokevirtual 203, 3) := by decide +kernel
theorem d_H_hang_24 : decode (mi_code n_H_hang) 24 = .ok (.iload_n 2, 1) := by decide +kernel
theorem d_H_hang_25 : decode (mi_code n_H_hang) 25 = .ok (.iconst 4, 1) := by decide +kernel
theorem d_H_hang_26 : decode (mi_code n_H_hang) 26 = .ok (.if_icmp .eq 25, 3) := by decide +kernel
theorem d_H_hang_29 : decode (mi_code n_H_hang) 29 = .ok (.iload 4, 2) := by decide +kernel
theorem d_H_hang_31 : decode (mi_code n_H_hang) 31 = .ok (.iconst 1, 1) := by decide +kernel
theorem d_H_hang_32 : decode (mi_code n_H_hang) 32 = .ok (.if_icmp .lt 9, 3) := by decide +kernel
theorem d_H_hang_35 : decode (mi_code n_H_hang) 35 = .ok (.iload 4, 2) := by decide +kernel
theorem d_H_hang_37 : decode (mi_code n_H_hang) 37 = .ok (.iconst 4, 1) := by decide +kernel
theorem d_H_hang_38 : decode (mi_code n_H_hang) 38 = .ok (.if_icmp .le 13, 3) := by decide +kernel
theorem d_H_hang_41 : decode (mi_code n_H_hang) 41 = .ok (.new 79, 3) := by decide +kernel
theorem d_H_hang_44 : decode (mi_code n_H_hang) 44 = .ok (.dup, 1) := by decide +kernel
theorem d_H_hang_45 : decode (mi_code n_H_hang) 45 = .ok (.ldc 230, 2) := by decide +kernel
theorem d_H_hang_47 : decode (mi_code n_H_hang) 47 = .ok (.invokespecial 83, 3) := by decide +kernel
theorem d_H_hang_50 : decode (mi_code n_H_hang) 50 = .ok (.athrow, 1) := by decide +kernel
theorem d_H_hang_51 : decode (mi_code n_H_hang) 51 = .ok (.iload_n 3, 1) := by decide +kernel
theorem d_H_hang_52 : decode (mi_code n_H_hang) 52 = .ok (.iconst (-1), 1) := by decide +kernel
theorem d_H_hang_53 : decode (mi_code n_H_hang) 53 = .ok (.if_icmp .ne 7, 3) := by decide +kernel
theorem d_H_hang_56 : decode (mi_code n_H_hang) 56 = .ok (.aconst_null, 1) := by decide +kernel
theorem d_H_hang_57 : decode (mi_code n_H_hang) 57 = .ok (.goto 9, 3) := by decide +kernel
theorem d_H_hang_60 : decode (mi_code n_H_hang) 60 = .ok (.aload_n 0, 1) := by decide +kernel
theorem d_H_hang_61 : decode (mi_code n_H_hang) 61 = .ok (.getfield 36, 3) := by decide +kernel
theorem d_H_hang_64 : decode (mi_code n_H_hang) 64 = .ok (.iload_n 3, 1) := by decide +kernel
theorem d_H_hang_65 : decode (mi_code n_H_hang) 65 = .ok (.aaload, 1) := by decide +kernel
theorem d_H_hang_66 : decode (mi_code n_H_hang) 66 = .ok (.astore 5, 2) := by decide +kernel
theorem d_H_hang_68 : decode (mi_code n_H_hang) 68 = .ok (.iload_n 2, 1) := by decide +kernel
theorem d_H_hang_69 : decode (mi_code n_H_hang) 69 = .ok (.iconst 4, 1) := by decide +kernel
theorem d_H_hang_70 : decode (mi_code n_H_hang) 70 = .ok (.if_icmp .ne 17, 3) := by decide +kernel
theorem d_H_hang_73 : decode (mi_code n_H_hang) 73 = .ok (.aload_n 0, 1) := by decide +kernel
theorem d_H_hang_74 : decode (mi_code n_H_hang) 74 = .ok (.getfield 21, 3) := by decide +kernel
theorem d_H_hang_77 : decode (mi_code n_H_hang) 77 = .ok (.iload_n 1, 1) := by decide +kernel
theorem d_H_hang_78 : decode (mi_code n_H_hang) 78 = .ok (.aaload, 1) := by decide +kernel
theorem d_H_hang_79 : decode (mi_code n_H_hang) 79 = .ok (.aload 5, 2) := by decide +kernel
theorem d_H_hang_81 : decode (mi_code n_H_hang) 81 = .ok (.putfield 232, 3) := by decide +kernel
theorem d_H_hang_84 : decode (mi_code n_H_hang) 84 = .ok (.goto 29, 3) := by decide +kernel
theorem d_H_hang_87 : decode (mi_code n_H_hang) 87 = .ok (.aload_n 0, 1) := by decide +kernel
theorem d_H_hang_88 : decode (mi_code n_H_hang) 88 = .ok (.getfield 21, 3) := by decide +kernel
theorem d_H_hang_91 : decode (mi_code n_H_hang) 91 = .ok (.iload_n 1, 1) := by decide +kernel
theorem d_H_hang_92 : decode (mi_code n_H_hang) 92 = .ok (.aaload, 1) := by decide +kernel
theorem d_H_hang_93 : decode (mi_code n_H_hang) 93 = .ok (.getfield 236, 3) := by decide +kernel
theorem d_H_hang_96 : decode (mi_code n_H_hang) 96 = .ok (.iload_n 2, 1) := by decide +kernel
theorem d_H_hang_97 : decode (mi_code n_H_hang) 97 = .ok (.aload 5, 2) := by decide +kernel
theorem d_H_hang_99 : decode (mi_code n_H_hang) 99 = .ok (.aastore, 1) := by decide +kernel
theorem d_H_hang_100 : decode (mi_code n_H_hang) 100 = .ok (.aload_n 0, 1) := by decide +kernel
theorem d_H_hang_101 : decode (mi_code n_H_hang) 101 = .ok (.getfield 21, 3) := by decide +kernel
theorem d_H_hang_104 : decode (mi_code n_H_hang) 104 = .ok (.iload_n 1, 1) := by decide +kernel
theorem d_H_hang_105 : decode (mi_code n_H_hang) 105 = .ok (.aaload, 1) := by decide +kernel
theorem d_H_hang_106 : decode (mi_code n_H_hang) 106 = .ok (.getfield 237, 3) := by decide +kernel
theorem d_H_hang_109 : decode (mi_code n_H_hang) 109 = .ok (.iload_n 2, 1) := by decide +kernel
theorem d_H_hang_110 : decode (mi_code n_H_hang) 110 = .ok (.iload 4, 2) := by decide +kernel
theorem d_H_hang_112 : decode (mi_code n_H_hang) 112 = .ok (.iastore, 1) := by decide +kernel
theorem d_H_hang_113 : decode (mi_code n_H_hang) 113 = .ok (.return_, 1) := by decide +kernel
theorem d_H_hangs_0 : decode (mi_code n_H_hangs) 0 = .ok (.aload_n 0, 1) := by decide +kernel
theorem d_H_hangs_1 : decode (mi_code n_H_hangs) 1 = .ok (.iload_n 1, 1) := by decide +kernel
theorem d_H_hangs_2 : decode (mi_code n_H_hangs) 2 = .ok (.invokevirtual 173, 3) := by decide +kernel
theorem d_H_hangs_5 : decode (mi_code n_H_hangs) 5 = .ok (.aload_n 0, 1) := by decide +kernel
theorem d_H_hangs_6 : decode (mi_code n_H_hangs) 6 = .ok (.iload_n 1, 1) := by decide +kernel
theorem d_H_hangs_7 : decode (mi_code n_H_hangs) 7 = .ok (.iload_n 2, 1) := by decide +kernel
theorem d_H_hangs_8 : decode (mi_code n_H_hangs) 8 = .ok (.invokevirtual 179, 3) := by decide +kernel
theorem d_H_hangs_11 : decode (mi_code n_H_hangs) 11 = .ok (.aload_n 0, 1) := by decide +kernel
theorem d_H_hangs_12 : decode (mi_code n_H_hangs) 12 = .ok (.iload_n 3, 1) := by decide +kernel
theorem d_H_hangs_13 : decode (mi_code n_H_hangs) 13 = .ok (.invokevirtual 75, 3) := by decide +kernel
theorem d_H_hangs_16 : decode (mi_code n_H_hangs) 16 = .ok (.aload_n 0, 1) := by decide +kernel
theorem d_H_hangs_17 : decode (mi_code n_H_hangs) 17 = .ok (.aload_n 0, 1) := by decide +kernel
theorem d_H_hangs_18 : decode (mi_code n_H_hangs) 18 = .ok (.getfield 21, 3) := by decide +kernel
theorem d_H_hangs_21 : decode (mi_code n_H_hangs) 21 = .ok (.iload_n 1, 1) := by decide +kernel
theorem d_H_hangs_22 : decode (mi_code n_H_hangs) 22 = .ok (.aaload, 1) := by decide +kernel
theorem d_H_hangs_23 : decode (mi_code n_H_hangs) 23 = .ok (.iload_n 2, 1) := by decide +kernel
theorem d_H_hangs_24 : decode (mi_code n_H_hangs) 24 = .ok (.iload_n 3, 1) := by decide +kernel
theorem d_H_hangs_25 : decode (mi_code n_H_hangs) 25 = .ok (.invokevirtual 304, 3) := by decide +kernel
theorem d_H_hangs_28 : decode (mi_code n_H_hangs) 28 = .ok (.ireturn, 1) := by decide +kernel
theorem d_H_has_0 : decode (mi_code n_H_has) 0 = .ok (.aload_n 0, 1) := by decide +kernel
theorem d_H_has_1 : decode (mi_code n_H_has) 1 = .ok (.iload_n 1, 1) := by decide +kernel
theorem d_H_has_2 : decode (mi_code n_H_has) 2 = .ok (.invokevirtual 173, 3) := by decide +kernel
theorem d_H_has_5 : decode (mi_code n_H_has) 5 = .ok (.iload_n 2, 1) := by decide +kernel
theorem d_H_has_6 : decode (mi_code n_H_has) 6 = .ok (.invokestatic 176, 3) := by decide +kernel
theorem d_H_has_9 : decode (mi_code n_H_has) 9 = .ok (.aload_n 0, 1) := by decide +kernel
theorem d_H_has_10 : decode (mi_code n_H_has) 10 = .ok (.iload_n 1, 1) := by decide +kernel
theorem d_H_has_11 : decode (mi_code n_H_has) 11 = .ok (.iload_n 3, 1) := by decide +kernel
theorem d_H_has_12 : decode (mi_code n_H_has) 12 = .ok (.invokevirtual 179, 3) := by decide +kernel
theorem d_H_has_15 : decode (mi_code n_H_has) 15 = .ok (.aload_n 0, 1) := by decide +kernel
theorem d_H_has_16 : decode (mi_code n_H_has) 16 = .ok (.aload_n 0, 1) := by decide +kernel
theorem d_H_has_17 : decode (mi_code n_H_has) 17 = .ok (.getfield 21, 3) := by decide +kernel
theorem d_H_has_20 : decode (mi_code n_H_has) 20 = .ok (.iload_n 1, 1) := by decide +kernel
theorem d_H_has_21 : decode (mi_code n_H_has) 21 = .ok (.aaload, 1) := by decide +kernel
theorem d_H_has_22 : decode (mi_code n_H_has) 22 = .ok (.iload_n 2, 1) := by decide +kernel
theorem d_H_has_23 : decode (mi_code n_H_has) 23 = .ok (.iload_n 3, 1) := by decide +kernel
theorem d_H_has_24 : decode (mi_code n_H_has) 24 = .ok (.invokevirtual 286, 3) := by decide +kernel
theorem d_H_has_27 : decode (mi_code n_H_has) 27 = .ok (.ireturn, 1) := by decide +kernel
theorem d_H_hasEmptyDrawing_0 : decode (mi_code n_H_hasEmptyDrawing) 0 = .ok (.iconst 0, 1) := by decide +kernel
theorem d_H_hasEmptyDrawing_1 : decode (mi_code n_H_hasEmptyDrawing) 1 = .ok (.istore_n 3, 1) := by decide +kernel
theorem d_H_hasEmptyDrawing_2 : decode (mi_code n_H_hasEmptyDrawing) 2 = .ok (.iload_n 3, 1) := by decide +kernel
theorem d_H_hasEmptyDrawing_3 : decode (mi_code n_H_hasEmptyDrawing) 3 = .ok (.iconst 4, 1) := by decide +kernel
theorem d_H_hasEmptyDrawing_4 : decode (mi_code n_H_hasEmptyDrawing) 4 = .ok (.if_icmp .ge 39, 3) := by decide +kernel
theorem d_H_hasEmptyDrawing_7 : decode (mi_code n_H_hasEmptyDrawing) 7 = .ok (.aload_n 0, 1) := by decide +kernel
theorem d_H_hasEmptyDrawing_8 : decode (mi_code n_H_hasEmptyDrawing) 8 = .ok (.aload_n 1, 1) := by decide +kernel
theorem d_H_hasEmptyDrawing_9 : decode (mi_code n_H_hasEmptyDrawing) 9 = .ok (.iload_n 3, 1) := by decide +kernel
theorem d_H_hasEmptyDrawing_10 : decode (mi_code n_H_hasEmptyDrawing) 10 = .ok (.iload_n 2, 1) := by decide +kernel
theorem d_H_hasEmptyDrawing_11 : decode (mi_code n_H_hasEmptyDrawing) 11 = .ok (.invokevirtual 286, 3) := by decide +kernel
theorem d_H_hasEmptyDrawing_14 : decode (mi_code n_H_hasEmptyDrawing) 14 = .ok (.istore 4, 2) := by decide +kernel
theorem d_H_hasEmptyDrawing_16 : decode (mi_code n_H_hasEmptyDrawing) 16 = .ok (.iload 4, 2) := by decide +kernel
theorem d_H_hasEmptyDrawing_18 : decode (mi_code n_H_hasEmptyDrawing) 18 = .ok (.iconst (-1), 1) := by decide +kernel
theorem d_H_hasEmptyDrawing_19 : decode (mi_code n_H_hasEmptyDrawing) 19 = .ok (.if_icmp .eq 18, 3) := by decide +kernel
theorem d_H_hasEmptyDrawing_22 : decode (mi_code n_H_hasEmptyDrawing) 22 = .ok (.aload_n 0, 1) := by decide +kernel
theorem d_H_hasEmptyDrawing_23 : decode (mi_code n_H_hasEmptyDrawing) 23 = .ok (.getfield 11, 3) := by decide +kernel
theorem d_H_hasEmptyDrawing_26 : decode (mi_code n_H_hasEmptyDrawing) 26 = .ok (.iload 4, 2) := by decide +kernel
theorem d_H_hasEmptyDrawing_28 : decode (mi_code n_H_hasEmptyDrawing) 28 = .ok (.aaload, 1) := by decide +kernel
theorem d_H_hasEmptyDrawing_29 : decode (mi_code n_H_hasEmptyDrawing) 29 = .ok (.getfield 124, 3) := by decide +kernel
theorem d_H_hasEmptyDrawing_32 : decode (mi_code n_H_hasEmptyDrawing) 32 = .ok (.ifCond .ne 5, 3) := by decide +kernel
theorem d_H_hasEmptyDrawing_35 : decode (mi_code n_H_hasEmptyDrawing) 35 = .ok (.iconst 1, 1) := by decide +kernel
theorem d_H_hasEmptyDrawing_36 : decode (mi_code n_H_hasEmptyDrawing) 36 = .ok (.ireturn, 1) := by decide +kernel
theorem d_H_hasEmptyDrawing_37 : decode (mi_code n_H_hasEmptyDrawing) 37 = .ok (.iinc 3 1, 3) := by decide +kernel
theorem d_H_hasEmptyDrawing_40 : decode (mi_code n_H_hasEmptyDrawing) 40 = .ok (.goto (-38), 3) := by decide +kernel
theorem d_H_hasEmptyDrawing_43 : decode (mi_code n_H_hasEmptyDrawing) 43 = .ok (.iconst 0, 1) := by decide +kernel
theorem d_H_hasEmptyDrawing_44 : decode (mi_code n_H_hasEmptyDrawing) 44 = .ok (.ireturn, 1) := by decide +kernel
theorem d_H_hasFlash_0 : decode (mi_code n_H_hasFlash) 0 = .ok (.iload_n 2, 1) := by decide +kernel
theorem d_H_hasFlash_1 : decode (mi_code n_H_hasFlash) 1 = .ok (.ifCond .eq 13, 3) := by decide +kernel
theorem d_H_hasFlash_4 : decode (mi_code n_H_hasFlash) 4 = .ok (.iload_n 2, 1) := by decide +kernel
theorem d_H_hasFlash_5 : decode (mi_code n_H_hasFlash) 5 = .ok (.aload_n 1, 1) := by decide +kernel
theorem d_H_hasFlash_6 : decode (mi_code n_H_hasFlash) 6 = .ok (.getfield 184, 3) := by decide +kernel
theorem d_H_hasFlash_9 : decode (mi_code n_H_hasFlash) 9 = .ok (.iconst 1, 1) := by decide +kernel
theorem d_H_hasFlash_10 : decode (mi_code n_H_hasFlash) 10 = .ok (.isub, 1) := by decide +kernel
theorem d_H_hasFlash_11 : decode (mi_code n_H_hasFlash) 11 = .ok (.if_icmp .ne 5, 3) := by decide +kernel
theorem d_H_hasFlash_14 : decode (mi_code n_H_hasFlash) 14 = .ok (.iconst 0, 1) := by decide +kernel
theorem d_H_hasFlash_15 : decode (mi_code n_H_hasFlash) 15 = .ok (.ireturn, 1) := by decide +kernel
theorem d_H_hasFlash_16 : decode (mi_code n_H_hasFlash) 16 = .ok (.iconst 0, 1) := by decide +kernel
theorem d_H_hasFlash_17 : decode (mi_code n_H_hasFlash) 17 = .ok (.istore_n 3, 1) := by decide +kernel
theorem d_H_hasFlash_18 : decode (mi_code n_H_hasFlash) 18 = .ok (.iload_n 3, 1) := by decide +kernel
theorem d_H_hasFlash_19 : decode (mi_code n_H_hasFlash) 19 = .ok (.iconst 4, 1) := by decide +kernel
theorem d_H_hasFlash_20 : decode (mi_code n_H_hasFlash) 20 = .ok (.if_icmp .ge 54, 3) := by decide +kernel
theorem d_H_hasFlash_23 : decode (mi_code n_H_hasFlash) 23 = .ok (.aload_n 0, 1) := by decide +kernel
theorem d_H_hasFlash_24 : decode (mi_code n_H_hasFlash) 24 = .ok (.aload_n 1, 1) := by decide +kernel
theorem d_H_hasFlash_25 : decode (mi_code n_H_hasFlash) 25 = .ok (.iload_n 3, 1) := by decide +kernel
theorem d_H_hasFlash_26 : decode (mi_code n_H_hasFlash) 26 = .ok (.iload_n 2, 1) := by decide +kernel
theorem d_H_hasFlash_27 : decode (mi_code n_H_hasFlash) 27 = .ok (.iconst 1, 1) := by decide +kernel
theorem d_H_hasFlash_28 : decode (mi_code n_H_hasFlash) 28 = .ok (.isub, 1) := by decide +kernel
theorem d_H_hasFlash_29 : decode (mi_code n_H_hasFlash) 29 = .ok (.invokevirtual 286, 3) := by decide +kernel
theorem d_H_hasFlash_32 : decode (mi_code n_H_hasFlash) 32 = .ok (.istore 4, 2) := by decide +kernel
theorem d_H_hasFlash_34 : decode (mi_code n_H_hasFlash) 34 = .ok (.iload 4, 2) := by decide +kernel
theorem d_H_hasFlash_36 : decode (mi_code n_H_hasFlash) 36 = .ok (.iconst (-1), 1) := by decide +kernel
theorem d_H_hasFlash_37 : decode (mi_code n_H_hasFlash) 37 = .ok (.if_icmp .eq 31, 3) := by decide +kernel
theorem d_H_hasFlash_40 : decode (mi_code n_H_hasFlash) 40 = .ok (.iload 4, 2) := by decide +kernel
theorem d_H_hasFlash_42 : decode (mi_code n_H_hasFlash) 42 = .ok (.aload_n 0, 1) := by decide +kernel
theorem d_H_hasFlash_43 : decode (mi_code n_H_hasFlash) 43 = .ok (.aload_n 1, 1) := by decide +kernel
theorem d_H_hasFlash_44 : decode (mi_code n_H_hasFlash) 44 = .ok (.iload_n 3, 1) := by decide +kernel
theorem d_H_hasFlash_45 : decode (mi_code n_H_hasFlash) 45 = .ok (.iload_n 2, 1) := by decide +kernel
theorem d_H_hasFlash_46 : decode (mi_code n_H_hasFlash) 46 = .ok (.iconst 1, 1) := by decide +kernel
theorem d_H_hasFlash_47 : decode (mi_code n_H_hasFlash) 47 = .ok (.iadd, 1) := by decide +kernel
theorem d_H_hasFlash_48 : decode (mi_code n_H_hasFlash) 48 = .ok (.invokevirtual 286, 3) := by decide +kernel
theorem d_H_hasFlash_51 : decode (mi_code n_H_hasFlash) 51 = .ok (.if_icmp .ne 17, 3) := by decide +kernel
theorem d_H_hasFlash_54 : decode (mi_code n_H_hasFlash) 54 = .ok (.iload 4, 2) := by decide +kernel
theorem d_H_hasFlash_56 : decode (mi_code n_H_hasFlash) 56 = .ok (.aload_n 0, 1) := by decide +kernel
theorem d_H_hasFlash_57 : decode (mi_code n_H_hasFlash) 57 = .ok (.aload_n 1, 1) := by decide +kernel
theorem d_H_hasFlash_58 : decode (mi_code n_H_hasFlash) 58 = .ok (.iload_n 3, 1) := by decide +kernel
theorem d_H_hasFlash_59 : decode (mi_code n_H_hasFlash) 59 = .ok (.iload_n 2, 1) := by decide +kernel
theorem d_H_hasFlash_60 : decode (mi_code n_H_hasFlash) 60 = .ok (.invokevirtual 286, 3) := by decide +kernel
theorem d_H_hasFlash_63 : decode (mi_code n_H_hasFlash) 63 = .ok (.if_icmp .eq 5, 3) := by decide +kernel
theorem d_H_hasFlash_66 : decode (mi_code n_H_hasFlash) 66 = .ok (.iconst 1, 1) := by decide +kernel
theorem d_H_hasFlash_67 : decode (mi_code n_H_hasFlash) 67 = .ok (.ireturn, 1) := by decide +kernel
theorem d_H_hasFlash_68 : decode (mi_code n_H_hasFlash) 68 = .ok (.iinc 3 1, 3) := by decide +kernel
theorem d_H_hasFlash_71 : decode (mi_code n_H_hasFlash) 71 = .ok (.goto (-53), 3) := by decide +kernel
theorem d_H_hasFlash_74 : decode (mi_code n_H_hasFlash) 74 = .ok (.iconst 0, 1) := by decide +kernel
theorem d_H_hasFlash_75 : decode (mi_code n_H_hasFlash) 75 = .ok (.ireturn, 1) := by decide +kernel
theorem d_H_hours_0 : decode (mi_code n_H_hours) 0 = .ok (.iload_n 1, 1) := by decide +kernel
theorem d_H_hours_1 : decode (mi_code n_H_hours) 1 = .ok (.ifCond .lt 11, 3) := by decide +kernel
theorem d_H_hours_4 : decode (mi_code n_H_hours) 4 = .ok (.iload_n 1, 1) := by decide +kernel
theorem d_H_hours_5 : decode (mi_code n_H_hours) 5 = .ok (.aload_n 0, 1) := by decide +kernel
theorem d_H_hours_6 : decode (mi_code n_H_hours) 6 = .ok (.getfield 254, 3) := by decide +kernel
theorem d_H_hours_9 : decode (mi_code n_H_hours) 9 = .ok (.if_icmp .lt 14, 3) := by decide +kernel
theorem d_H_hours_12 : decode (mi_code n_H_hours) 12 = .ok (.new 319, 3) := by decide +kernel
theorem d_H_hours_15 : decode (mi_code n_H_hours) 15 = .ok (.dup, 1) := by decide +kernel
theorem d_H_hours_16 : decode (mi_code n_H_hours) 16 = .ok (.ldc_w 321, 3) := by decide +kernel
theorem d_H_hours_19 : decode (mi_code n_H_hours) 19 = .ok (.invokespecial 323, 3) := by decide +kernel
theorem d_H_hours_22 : decode (mi_code n_H_hours) 22 = .ok (.athrow, 1) := by decide +kernel
theorem d_H_hours_23 : decode (mi_code n_H_hours) 23 = .ok (.aload_n 0, 1) := by decide +kernel
theorem d_H_hours_24 : decode (mi_code n_H_hours) 24 = .ok (.getfield 43, 3) := by decide +kernel
theorem d_H_hours_27 : decode (mi_code n_H_hours) 27 = .ok (.iconst 0, 1) := by decide +kernel
theorem d_H_hours_28 : decode (mi_code n_H_hours) 28 = .ok (.invokestatic 28, 3) := by decide +kernel
theorem d_H_hours_31 : decode (mi_code n_H_hours) 31 = .ok (.iconst 0, 1) := by decide +kernel
theorem d_H_hours_32 : decode (mi_code n_H_hours) 32 = .ok (.istore_n 2, 1) := by decide +kernel
theorem d_H_hours_33 : decode (mi_code n_H_hours) 33 = .ok (.iload_n 2, 1) := by decide +kernel
theorem d_H_hours_34 : decode (mi_code n_H_hours) 34 = .ok (.aload_n 0, 1) := by decide +kernel
theorem d_H_hours_35 : decode (mi_code n_H_hours) 35 = .ok (.getfield 68, 3) := by decide +kernel
theorem d_H_hours_38 : decode (mi_code n_H_hours) 38 = .ok (.if_icmp .ge 73, 3) := by decide +kernel
theorem d_H_hours_41 : decode (mi_code n_H_hours) 41 = .ok (.aload_n 0, 1) := by decide +kernel
theorem d_H_hours_42 : decode (mi_code n_H_hours) 42 = .ok (.getfield 11, 3) := by decide +kernel
theorem d_H_hours_45 : decode (mi_code n_H_hours) 45 = .ok (.iload_n 2, 1) := by decide +kernel
theorem d_H_hours_46 : decode (mi_code n_H_hours) 46 = .ok (.aaload, 1) := by decide +kernel
theorem d_H_hours_47 : decode (mi_code n_H_hours) 47 = .ok (.getfield 124, 3) := by decide +kernel
theorem d_H_hours_50 : decode (mi_code n_H_hours) 50 = .ok (.istore_n 3, 1) := by decide +kernel
theorem d_H_hours_51 : decode (mi_code n_H_hours) 51 = .ok (.aload_n 0, 1) := by decide +kernel
theorem d_H_hours_52 : decode (mi_code n_H_hours) 52 = .ok (.getfield 11, 3) := by decide +kernel
theorem d_H_hours_55 : decode (mi_code n_H_hours) 55 = .ok (.iload_n 2, 1) := by decide +kernel
theorem d_H_hours_56 : decode (mi_code n_H_hours) 56 = .ok (.aaload, 1) := by decide +kernel
theorem d_H_hours_57 : decode (mi_code n_H_hours) 57 = .ok (.invokevirtual 324, 3) := by decide +kernel
theorem d_H_hours_60 : decode (mi_code n_H_hours) 60 = .ok (.ifCond .eq 45, 3) := by decide +kernel
theorem d_H_hours_63 : decode (mi_code n_H_hours) 63 = .ok (.iload_n 3, 1) := by decide +kernel
theorem d_H_hours_64 : decode (mi_code n_H_hours) 64 = .ok (.ifCond .le 41, 3) := by decide +kernel
theorem d_H_hours_67 : decode (mi_code n_H_hours) 67 = .ok (.aload_n 0, 1) := by decide +kernel
theorem d_H_hours_68 : decode (mi_code n_H_hours) 68 = .ok (.invokevirtual 327, 3) := by decide +kernel
theorem d_H_hours_71 : decode (mi_code n_H_hours) 71 = .ok (.istore 4, 2) := by decide +kernel
theorem d_H_hours_73 : decode (mi_code n_H_hours) 73 = .ok (.iconst 1, 1) := by decide +kernel
theorem d_H_hours_74 : decode (mi_code n_H_hours) 74 = .ok (.aload_n 0, 1) := by decide +kernel
theorem d_H_hours_75 : decode (mi_code n_H_hours) 75 = .ok (.getfield 40, 3) := by decide +kernel
theorem d_H_hours_78 : decode (mi_code n_H_hours) 78 = .ok (.iload 4, 2) := by decide +kernel
theorem d_H_hours_80 : decode (mi_code n_H_hours) 80 = .ok (.iaload, 1) := by decide +kernel
theorem d_H_hours_81 : decode (mi_code n_H_hours) 81 = .ok (.invokestatic 330, 3) := by decide +kernel
theorem d_H_hours_84 : decode (mi_code n_H_hours) 84 = .ok (.istore 5, 2) := by decide +kernel
theorem d_H_hours_86 : decode (mi_code n_H_hours) 86 = .ok (.aload_n 0, 1) := by decide +kernel
theorem d_H_hours_87 : decode (mi_code n_H_hours) 87 = .ok (.getfield 43, 3) := by decide +kernel
theorem d_H_hours_90 : decode (mi_code n_H_hours) 90 = .ok (.iload 4, 2) := by decide +kernel
theorem d_H_hours_92 : decode (mi_code n_H_hours) 92 = .ok (.dup2, 1) := by decide +kernel
theorem d_H_hours_93 : decode (mi_code n_H_hours) 93 = .ok (.iaload, 1) := by decide +kernel
theorem d_H_hours_94 : decode (mi_code n_H_hours) 94 = .ok (.iload_n 3, 1) := by decide +kernel
theorem d_H_hours_95 : decode (mi_code n_H_hours) 95 = .ok (.iload 5, 2) := by decide +kernel
theorem d_H_hours_97 : decode (mi_code n_H_hours) 97 = .ok (.iadd, 1) := by decide +kernel
theorem d_H_hours_98 : decode (mi_code n_H_hours) 98 = .ok (.iconst 1, 1) := by decide +kernel
theorem d_H_hours_99 : decode (mi_code n_H_hours) 99 = .ok (.isub, 1) := by decide +kernel
theorem d_H_hours_100 : decode (mi_code n_H_hours) 100 = .ok (.iload 5, 2) := by decide +kernel
theorem d_H_hours_102 : decode (mi_code n_H_hours) 102 = .ok (.idiv, 1) := by decide +kernel
theorem d_H_hours_103 : decode (mi_code n_H_hours) 103 = .ok (.iadd, 1) := by decide +kernel
theorem d_H_hours_104 : decode (mi_code n_H_hours) 104 = .ok (.iastore, 1) := by decide +kernel
theorem d_H_hours_105 : decode (mi_code n_H_hours) 105 = .ok (.iinc 2 1, 3) := by decide +kernel
theorem d_H_hours_108 : decode (mi_code n_H_hours) 108 = .ok (.goto (-75), 3) := by decide +kernel
theorem d_H_hours_111 : decode (mi_code n_H_hours) 111 = .ok (.aload_n 0, 1) := by decide +kernel
theorem d_H_hours_112 : decode (mi_code n_H_hours) 112 = .ok (.getfield 43, 3) := by decide +kernel
theorem d_H_hours_115 : decode (mi_code n_H_hours) 115 = .ok (.iload_n 1, 1) := by decide +kernel
theorem d_H_hours_116 : decode (mi_code n_H_hours) 116 = .ok (.iaload, 1) := by decide +kernel
theorem d_H_hours_117 : decode (mi_code n_H_hours) 117 = .ok (.ireturn, 1) := by decide +kernel
theorem d_H_init_0 : decode (mi_code n_H_init) 0 = .ok (.aload_n 0, 1) := by decide +kernel
theorem d_H_init_1 : decode (mi_code n_H_init) 1 = .ok (.invokespecial 3, 3) := by decide +kernel
theorem d_H_init_4 : decode (mi_code n_H_init) 4 = .ok (.aload_n 0, 1) := by decide +kernel
theorem d_H_init_5 : decode (mi_code n_H_init) 5 = .ok (.bipush 16, 2) := by decide +kernel
theorem d_H_init_7 : decode (mi_code n_H_init) 7 = .ok (.anewarray 9, 3) := by decide +kernel
theorem d_H_init_10 : decode (mi_code n_H_init) 10 = .ok (.putfield 11, 3) := by decide +kernel
theorem d_H_init_13 : decode (mi_code n_H_init) 13 = .ok (.aload_n 0, 1) := by decide +kernel
theorem d_H_init_14 : decode (mi_code n_H_init) 14 = .ok (.bipush 32, 2) := by decide +kernel
theorem d_H_init_16 : decode (mi_code n_H_init) 16 = .ok (.newarray .int, 2) := by decide +kernel
theorem d_H_init_18 : decode (mi_code n_H_init) 18 = .ok (.putfield 15, 3) := by decide +kernel
theorem d_H_init_21 : decode (mi_code n_H_init) 21 = .ok (.iconst 0, 1) := by decide +kernel
theorem d_H_init_22 : decode (mi_code n_H_init) 22 = .ok (.istore_n 1, 1) := by decide +kernel
theorem d_H_init_23 : decode (mi_code n_H_init) 23 = .ok (.iload_n 1, 1) := by decide +kernel
theorem d_H_init_24 : decode (mi_code n_H_init) 24 = .ok (.aload_n 0, 1) := by decide +kernel
theorem d_H_init_25 : decode (mi_code n_H_init) 25 = .ok (.getfield 15, 3) := by decide +kernel
theorem d_H_init_28 : decode (mi_code n_H_init) 28 = .ok (.arraylength, 1) := by decide +kernel
theorem d_H_init_29 : decode (mi_code n_H_init) 29 = .ok (.if_icmp .ge 21, 3) := by decide +kernel
theorem d_H_init_32 : decode (mi_code n_H_init) 32 = .ok (.aload_n 0, 1) := by decide +kernel
theorem d_H_init_33 : decode (mi_code n_H_init) 33 = .ok (.getfield 15, 3) := by decide +kernel
theorem d_H_init_36 : decode (mi_code n_H_init) 36 = .ok (.iload_n 1, 1) := by decide +kernel
theorem d_H_init_37 : decode (mi_code n_H_init) 37 = .ok (.iload_n 1, 1) := by decide +kernel
theorem d_H_init_38 : decode (mi_code n_H_init) 38 = .ok (.bipush 8, 2) := by decide +kernel
theorem d_H_init_40 : decode (mi_code n_H_init) 40 = .ok (.irem, 1) := by decide +kernel
theorem d_H_init_41 : decode (mi_code n_H_init) 41 = .ok (.iconst 1, 1) := by decide +kernel
theorem d_H_init_42 : decode (mi_code n_H_init) 42 = .ok (.iadd, 1) := by decide +kernel
theorem d_H_init_43 : decode (mi_code n_H_init) 43 = .ok (.iastore, 1) := by decide +kernel
theorem d_H_init_44 : decode (mi_code n_H_init) 44 = .ok (.iinc 1 1, 3) := by decide +kernel
theorem d_H_init_47 : decode (mi_code n_H_init) 47 = .ok (.goto (-24), 3) := by decide +kernel
theorem d_H_init_50 : decode (mi_code n_H_init) 50 = .ok (.aload_n 0, 1) := by decide +kernel
theorem d_H_init_51 : decode (mi_code n_H_init) 51 = .ok (.bipush 6, 2) := by decide +kernel
theorem d_H_init_53 : decode (mi_code n_H_init) 53 = .ok (.anewarray 19, 3) := by decide +kernel
theorem d_H_init_56 : decode (mi_code n_H_init) 56 = .ok (.putfield 21, 3) := by decide +kernel
theorem d_H_init_59 : decode (mi_code n_H_init) 59 = .ok (.aload_n 0, 1) := by decide +kernel
theorem d_H_init_60 : decode (mi_code n_H_init) 60 = .ok (.bipush 8, 2) := by decide +kernel
theorem d_H_init_62 : decode (mi_code n_H_init) 62 = .ok (.newarray .int, 2) := by decide +kernel
theorem d_H_init_64 : decode (mi_code n_H_init) 64 = .ok (.putfield 25, 3) := by decide +kernel
theorem d_H_init_67 : decode (mi_code n_H_init) 67 = .ok (.aload_n 0, 1) := by decide +kernel
theorem d_H_init_68 : decode (mi_code n_H_init) 68 = .ok (.getfield 25, 3) := by decide +kernel
theorem d_H_init_71 : decode (mi_code n_H_init) 71 = .ok (.iconst (-1), 1) := by decide +kernel
theorem d_H_init_72 : decode (mi_code n_H_init) 72 = .ok (.invokestatic 28, 3) := by decide +kernel
theorem d_H_init_75 : decode (mi_code n_H_init) 75 = .ok (.aload_n 0, 1) := by decide +kernel
theorem d_H_init_76 : decode (mi_code n_H_init) 76 = .ok (.bipush 6, 2) := by decide +kernel
theorem d_H_init_78 : decode (mi_code n_H_init) 78 = .ok (.anewarray 34, 3) := by decide +kernel
theorem d_H_init_81 : decode (mi_code n_H_init) 81 = .ok (.putfield 36, 3) := by decide +kernel
theorem d_H_init_84 : decode (mi_code n_H_init) 84 = .ok (.aload_n 0, 1) := by decide +kernel
theorem d_H_init_85 : decode (mi_code n_H_init) 85 = .ok (.iconst 4, 1) := by decide +kernel
theorem d_H_init_86 : decode (mi_code n_H_init) 86 = .ok (.newarray .int, 2) := by decide +kernel
theorem d_H_init_88 : decode (mi_code n_H_init) 88 = .ok (.putfield 40, 3) := by decide +kernel
theorem d_H_init_91 : decode (mi_code n_H_init) 91 = .ok (.aload_n 0, 1) := by decide +kernel
theorem d_H_init_92 : decode (mi_code n_H_init) 92 = .ok (.iconst 4, 1) := by decide +kernel
theorem d_H_init_93 : decode (mi_code n_H_init) 93 = .ok (.newarray .int, 2) := by decide +kernel
theorem d_H_init_95 : decode (mi_code n_H_init) 95 = .ok (.putfield 43, 3) := by decide +kernel
theorem d_H_init_98 : decode (mi_code n_H_init) 98 = .ok (.aload_n 0, 1) := by decide +kernel
theorem d_H_init_99 : decode (mi_code n_H_init) 99 = .ok (.bipush 10, 2) := by decide +kernel
theorem d_H_init_101 : decode (mi_code n_H_init) 101 = .ok (.newarray .int, 2) := by decide +kernel
theorem d_H_init_103 : decode (mi_code n_H_init) 103 = .ok (.putfield 46, 3) := by decide +kernel
theorem d_H_init_106 : decode (mi_code n_H_init) 106 = .ok (.aload_n 0, 1) := by decide +kernel
theorem d_H_init_107 : decode (mi_code n_H_init) 107 = .ok (.sipush 192, 3) := by decide +kernel
theorem d_H_init_110 : decode (mi_code n_H_init) 110 = .ok (.newarray .int, 2) := by decide +kernel
theorem d_H_init_112 : decode (mi_code n_H_init) 112 = .ok (.putfield 49, 3) := by decide +kernel
theorem d_H_init_115 : decode (mi_code n_H_init) 115 = .ok (.aload_n 0, 1) := by decide +kernel
theorem d_H_init_116 : decode (mi_code n_H_init) 116 = .ok (.new 52, 3) := by decide +kernel
theorem d_H_init_119 : decode (mi_code n_H_init) 119 = .ok (.dup, 1) := by decide +kernel
theorem d_H_init_120 : decode (mi_code n_H_init) 120 = .ok (.invokespecial 54, 3) := by decide +kernel
theorem d_H_init_123 : decode (mi_code n_H_init) 123 = .ok (.putfield 55, 3) := by decide +kernel
theorem d_H_init_126 : decode (mi_code n_H_init) 126 = .ok (.aload_n 0, 1) := by decide +kernel
theorem d_H_init_127 : decode (mi_code n_H_init) 127 = .ok (.new 59, 3) := by decide +kernel
theorem d_H_init_130 : decode (mi_code n_H_init) 130 = .ok (.dup, 1) := by decide +kernel
theorem d_H_init_131 : decode (mi_code n_H_init) 131 = .ok (.invokespecial 61, 3) := by decide +kernel
theorem d_H_init_134 : decode (mi_code n_H_init) 134 = .ok (.putfield 62, 3) := by decide +kernel
theorem d_H_init_137 : decode (mi_code n_H_init) 137 = .ok (.return_, 1) := by decide +kernel
theorem d_H_isComposedEmpty_0 : decode (mi_code n_H_isComposedEmpty) 0 = .ok (.iconst 0, 1) := by decide +kernel
theorem d_H_isComposedEmpty_1 : decode (mi_code n_H_isComposedEmpty) 1 = .ok (.istore_n 1, 1) := by decide +kernel
theorem d_H_isComposedEmpty_2 : decode (mi_code n_H_isComposedEmpty) 2 = .ok (.iload_n 1, 1) := by decide +kernel
theorem d_H_isComposedEmpty_3 : decode (mi_code n_H_isComposedEmpty) 3 = .ok (.sipush 192, 3) := by decide +kernel
theorem d_H_isComposedEmpty_6 : decode (mi_code n_H_isComposedEmpty) 6 = .ok (.if_icmp .ge 20, 3) := by decide +kernel
theorem d_H_isComposedEmpty_9 : decode (mi_code n_H_isComposedEmpty) 9 = .ok (.aload_n 0, 1) := by decide +kernel
theorem d_H_isComposedEmpty_10 : decode (mi_code n_H_isComposedEmpty) 10 = .ok (.getfield 49, 3) := by decide +kernel
theorem d_H_isComposedEmpty_13 : decode (mi_code n_H_isComposedEmpty) 13 = .ok (.iload_n 1, 1) := by decide +kernel
theorem d_H_isComposedEmpty_14 : decode (mi_code n_H_isComposedEmpty) 14 = .ok (.iaload, 1) := by decide +kernel
theorem d_H_isComposedEmpty_15 : decode (mi_code n_H_isComposedEmpty) 15 = .ok (.ifCond .eq 5, 3) := by decide +kernel
theorem d_H_isComposedEmpty_18 : decode (mi_code n_H_isComposedEmpty) 18 = .ok (.iconst 0, 1) := by decide +kernel
theorem d_H_isComposedEmpty_19 : decode (mi_code n_H_isComposedEmpty) 19 = .ok (.ireturn, 1) := by decide +kernel
theorem d_H_isComposedEmpty_20 : decode (mi_code n_H_isComposedEmpty) 20 = .ok (.iinc 1 1, 3) := by decide +kernel
theorem d_H_isComposedEmpty_23 : decode (mi_code n_H_isComposedEmpty) 23 = .ok (.goto (-21), 3) := by decide +kernel
theorem d_H_isComposedEmpty_26 : decode (mi_code n_H_isComposedEmpty) 26 = .ok (.iconst 1, 1) := by decide +kernel
theorem d_H_isComposedEmpty_27 : decode (mi_code n_H_isComposedEmpty) 27 = .ok (.ireturn, 1) := by decide +kernel
theorem d_H_isPoint_0 : decode (mi_code n_H_isPoint) 0 = .ok (.iload_n 0, 1) := by decide +kernel
theorem d_H_isPoint_1 : decode (mi_code n_H_isPoint) 1 = .ok (.ifCond .lt 23, 3) := by decide +kernel
theorem d_H_isPoint_4 : decode (mi_code n_H_isPoint) 4 = .ok (.iload_n 0, 1) := by decide +kernel
theorem d_H_isPoint_5 : decode (mi_code n_H_isPoint) 5 = .ok (.bipush 16, 2) := by decide +kernel
theorem d_H_isPoint_7 : decode (mi_code n_H_isPoint) 7 = .ok (.if_icmp .ge 17, 3) := by decide +kernel
theorem d_H_isPoint_10 : decode (mi_code n_H_isPoint) 10 = .ok (.iload_n 1, 1) := by decide +kernel
theorem d_H_isPoint_11 : decode (mi_code n_H_isPoint) 11 = .ok (.ifCond .lt 13, 3) := by decide +kernel
theorem d_H_isPoint_14 : decode (mi_code n_H_isPoint) 14 = .ok (.iload_n 1, 1) := by decide +kernel
theorem d_H_isPoint_15 : decode (mi_code n_H_isPoint) 15 = .ok (.bipush 12, 2) := by decide +kernel
theorem d_H_isPoint_17 : decode (mi_code n_H_isPoint) 17 = .ok (.if_icmp .ge 7, 3) := by decide +kernel
theorem d_H_isPoint_20 : decode (mi_code n_H_isPoint) 20 = .ok (.iconst 1, 1) := by decide +kernel
theorem d_H_isPoint_21 : decode (mi_code n_H_isPoint) 21 = .ok (.goto 4, 3) := by decide +kernel
theorem d_H_isPoint_24 : decode (mi_code n_H_isPoint) 24 = .ok (.iconst 0, 1) := by decide +kernel
theorem d_H_isPoint_25 : decode (mi_code n_H_isPoint) 25 = .ok (.ireturn, 1) := by decide +kernel
theorem d_H_key_0 : decode (mi_code n_H_key) 0 = .ok (.aload_n 0, 1) := by decide +kernel
theorem d_H_key_1 : decode (mi_code n_H_key) 1 = .ok (.invokevirtual 65, 3) := by decide +kernel
theorem d_H_key_4 : decode (mi_code n_H_key) 4 = .ok (.aload_n 0, 1) := by decide +kernel
theorem d_H_key_5 : decode (mi_code n_H_key) 5 = .ok (.getfield 11, 3) := by decide +kernel
theorem d_H_key_8 : decode (mi_code n_H_key) 8 = .ok (.aload_n 0, 1) := by decide +kernel
theorem d_H_key_9 : decode (mi_code n_H_key) 9 = .ok (.getfield 68, 3) := by decide +kernel
theorem d_H_key_12 : decode (mi_code n_H_key) 12 = .ok (.new 9, 3) := by decide +kernel
theorem d_H_key_15 : decode (mi_code n_H_key) 15 = .ok (.dup, 1) := by decide +kernel
theorem d_H_key_16 : decode (mi_code n_H_key) 16 = .ok (.aconst_null, 1) := by decide +kernel
theorem d_H_key_17 : decode (mi_code n_H_key) 17 = .ok (.aconst_null, 1) := by decide +kernel
theorem d_H_key_18 : decode (mi_code n_H_key) 18 = .ok (.iconst 0, 1) := by decide +kernel
theorem d_H_key_19 : decode (mi_code n_H_key) 19 = .ok (.iconst 1, 1) := by decide +kernel
theorem d_H_key_20 : decode (mi_code n_H_key) 20 = .ok (.iconst 0, 1) := by decide +kernel
theorem d_H_key_21 : decode (mi_code n_H_key) 21 = .ok (.invokespecial 72, 3) := by decide +kernel
theorem d_H_key_24 : decode (mi_code n_H_key) 24 = .ok (.aastore, 1) := by decide +kernel
theorem d_H_key_25 : decode (mi_code n_H_key) 25 = .ok (.aload_n 0, 1) := by decide +kernel
theorem d_H_key_26 : decode (mi_code n_H_key) 26 = .ok (.dup, 1) := by decide +kernel
theorem d_H_key_27 : decode (mi_code n_H_key) 27 = .ok (.getfield 68, 3) := by decide +kernel
theorem d_H_key_30 : decode (mi_code n_H_key) 30 = .ok (.dup_x1, 1) := by decide +kernel
theorem d_H_key_31 : decode (mi_code n_H_key) 31 = .ok (.iconst 1, 1) := by decide +kernel
theorem d_H_key_32 : decode (mi_code n_H_key) 32 = .ok (.iadd, 1) := by decide +kernel
theorem d_H_key_33 : decode (mi_code n_H_key) 33 = .ok (.putfield 68, 3) := by decide +kernel
theorem d_H_key_36 : decode (mi_code n_H_key) 36 = .ok (.ireturn, 1) := by decide +kernel
theorem d_H_layOver_0 : decode (mi_code n_H_layOver) 0 = .ok (.iconst 0, 1) := by decide +kernel
theorem d_H_layOver_1 : decode (mi_code n_H_layOver) 1 = .ok (.istore 5, 2) := by decide +kernel
theorem d_H_layOver_3 : decode (mi_code n_H_layOver) 3 = .ok (.iconst 0, 1) := by decide +kernel
theorem d_H_layOver_4 : decode (mi_code n_H_layOver) 4 = .ok (.istore 6, 2) := by decide +kernel
theorem d_H_layOver_6 : decode (mi_code n_H_layOver) 6 = .ok (.iload 6, 2) := by decide +kernel
theorem d_H_layOver_8 : decode (mi_code n_H_layOver) 8 = .ok (.bipush 12, 2) := by decide +kernel
theorem d_H_layOver_10 : decode (mi_code n_H_layOver) 10 = .ok (.if_icmp .ge 86, 3) := by decide +kernel
theorem d_H_layOver_13 : decode (mi_code n_H_layOver) 13 = .ok (.iconst 0, 1) := by decide +kernel
theorem d_H_layOver_14 : decode (mi_code n_H_layOver) 14 = .ok (.istore 7, 2) := by decide +kernel
theorem d_H_layOver_16 : decode (mi_code n_H_layOver) 16 = .ok (.iload 7, 2) := by decide +kernel
theorem d_H_layOver_18 : decode (mi_code n_H_layOver) 18 = .ok (.bipush 16, 2) := by decide +kernel
theorem d_H_layOver_20 : decode (mi_code n_H_layOver) 20 = .ok (.if_icmp .ge 70, 3) := by decide +kernel
theorem d_H_layOver_23 : decode (mi_code n_H_layOver) 23 = .ok (.aload_n 1, 1) := by decide +kernel
theorem d_H_layOver_24 : decode (mi_code n_H_layOver) 24 = .ok (.getfield 283, 3) := by decide +kernel
theorem d_H_layOver_27 : decode (mi_code n_H_layOver) 27 = .ok (.iload 5, 2) := by decide +kernel
theorem d_H_layOver_29 : decode (mi_code n_H_layOver) 29 = .ok (.iaload, 1) := by decide +kernel
theorem d_H_layOver_30 : decode (mi_code n_H_layOver) 30 = .ok (.istore 8, 2) := by decide +kernel
theorem d_H_layOver_32 : decode (mi_code n_H_layOver) 32 = .ok (.iload 8, 2) := by decide +kernel
theorem d_H_layOver_34 : decode (mi_code n_H_layOver) 34 = .ok (.iconst (-1), 1) := by decide +kernel
theorem d_H_layOver_35 : decode (mi_code n_H_layOver) 35 = .ok (.if_icmp .eq 46, 3) := by decide +kernel
theorem d_H_layOver_38 : decode (mi_code n_H_layOver) 38 = .ok (.iload 7, 2) := by decide +kernel
theorem d_H_layOver_40 : decode (mi_code n_H_layOver) 40 = .ok (.iload_n 2, 1) := by decide +kernel
theorem d_H_layOver_41 : decode (mi_code n_H_layOver) 41 = .ok (.iadd, 1) := by decide +kernel
theorem d_H_layOver_42 : decode (mi_code n_H_layOver) 42 = .ok (.iload 6, 2) := by decide +kernel
theorem d_H_layOver_44 : decode (mi_code n_H_layOver) 44 = .ok (.iload_n 3, 1) := by decide +kernel
theorem d_H_layOver_45 : decode (mi_code n_H_layOver) 45 = .ok (.iadd, 1) := by decide +kernel
theorem d_H_layOver_46 : decode (mi_code n_H_layOver) 46 = .ok (.invokestatic 343, 3) := by decide +kernel
theorem d_H_layOver_49 : decode (mi_code n_H_layOver) 49 = .ok (.ifCond .eq 32, 3) := by decide +kernel
theorem d_H_layOver_52 : decode (mi_code n_H_layOver) 52 = .ok (.aload_n 0, 1) := by decide +kernel
theorem d_H_layOver_53 : decode (mi_code n_H_layOver) 53 = .ok (.getfield 49, 3) := by decide +kernel
theorem d_H_layOver_56 : decode (mi_code n_H_layOver) 56 = .ok (.iload 7, 2) := by decide +kernel
theorem d_H_layOver_58 : decode (mi_code n_H_layOver) 58 = .ok (.iload_n 2, 1) := by decide +kernel
theorem d_H_layOver_59 : decode (mi_code n_H_layOver) 59 = .ok (.iadd, 1) := by decide +kernel
theorem d_H_layOver_60 : decode (mi_code n_H_layOver) 60 = .ok (.iload 6, 2) := by decide +kernel
theorem d_H_layOver_62 : decode (mi_code n_H_layOver) 62 = .ok (.iload_n 3, 1) := by decide +kernel
theorem d_H_layOver_63 : decode (mi_code n_H_layOver) 63 = .ok (.iadd, 1) := by decide +kernel
theorem d_H_layOver_64 : decode (mi_code n_H_layOver) 64 = .ok (.invokestatic 139, 3) := by decide +kernel
theorem d_H_layOver_67 : decode (mi_code n_H_layOver) 67 = .ok (.aload_n 0, 1) := by decide +kernel
theorem d_H_layOver_68 : decode (mi_code n_H_layOver) 68 = .ok (.getfield 15, 3) := by decide +kernel
theorem d_H_layOver_71 : decode (mi_code n_H_layOver) 71 = .ok (.iload 4, 2) := by decide +kernel
theorem d_H_layOver_73 : decode (mi_code n_H_layOver) 73 = .ok (.bipush 8, 2) := by decide +kernel
theorem d_H_layOver_75 : decode (mi_code n_H_layOver) 75 = .ok (.imul, 1) := by decide +kernel
theorem d_H_layOver_76 : decode (mi_code n_H_layOver) 76 = .ok (.iload 8, 2) := by decide +kernel
theorem d_H_layOver_78 : decode (mi_code n_H_layOver) 78 = .ok (.iadd, 1) := by decide +kernel
theorem d_H_layOver_79 : decode (mi_code n_H_layOver) 79 = .ok (.iaload, 1) := by decide +kernel
theorem d_H_layOver_80 : decode (mi_code n_H_layOver) 80 = .ok (.iastore, 1) := by decide +kernel
theorem d_H_layOver_81 : decode (mi_code n_H_layOver) 81 = .ok (.iinc 5 1, 3) := by decide +kernel
theorem d_H_layOver_84 : decode (mi_code n_H_layOver) 84 = .ok (.iinc 7 1, 3) := by decide +kernel
theorem d_H_layOver_87 : decode (mi_code n_H_layOver) 87 = .ok (.goto (-71), 3) := by decide +kernel
theorem d_H_layOver_90 : decode (mi_code n_H_layOver) 90 = .ok (.iinc 6 1, 3) := by decide +kernel
theorem d_H_layOver_93 : decode (mi_code n_H_layOver) 93 = .ok (.goto (-87), 3) := by decide +kernel
theorem d_H_layOver_96 : decode (mi_code n_H_layOver) 96 = .ok (.return_, 1) := by decide +kernel
theorem d_H_letAllFollow_0 : decode (mi_code n_H_letAllFollow) 0 = .ok (.aload_n 0, 1) := by decide +kernel
theorem d_H_letAllFollow_1 : decode (mi_code n_H_letAllFollow) 1 = .ok (.getfield 11, 3) := by decide +kernel
theorem d_H_letAllFollow_4 : decode (mi_code n_H_letAllFollow) 4 = .ok (.iload_n 1, 1) := by decide +kernel
theorem d_H_letAllFollow_5 : decode (mi_code n_H_letAllFollow) 5 = .ok (.aaload, 1) := by decide +kernel
theorem d_H_letAllFollow_6 : decode (mi_code n_H_letAllFollow) 6 = .ok (.iconst 0, 1) := by decide +kernel
theorem d_H_letAllFollow_7 : decode (mi_code n_H_letAllFollow) 7 = .ok (.putfield 365, 3) := by decide +kernel
theorem d_H_letAllFollow_10 : decode (mi_code n_H_letAllFollow) 10 = .ok (.iload_n 1, 1) := by decide +kernel
theorem d_H_letAllFollow_11 : decode (mi_code n_H_letAllFollow) 11 = .ok (.iconst 1, 1) := by decide +kernel
theorem d_H_letAllFollow_12 : decode (mi_code n_H_letAllFollow) 12 = .ok (.iadd, 1) := by decide +kernel
theorem d_H_letAllFollow_13 : decode (mi_code n_H_letAllFollow) 13 = .ok (.istore_n 2, 1) := by decide +kernel
theorem d_H_letAllFollow_14 : decode (mi_code n_H_letAllFollow) 14 = .ok (.iload_n 2, 1) := by decide +kernel
theorem d_H_letAllFollow_15 : decode (mi_code n_H_letAllFollow) 15 = .ok (.aload_n 0, 1) := by decide +kernel
theorem d_H_letAllFollow_16 : decode (mi_code n_H_letAllFollow) 16 = .ok (.getfield 68, 3) := by decide +kernel
theorem d_H_letAllFollow_19 : decode (mi_code n_H_letAllFollow) 19 = .ok (.if_icmp .ge 31, 3) := by decide +kernel
theorem d_H_letAllFollow_22 : decode (mi_code n_H_letAllFollow) 22 = .ok (.aload_n 0, 1) := by decide +kernel
theorem d_H_letAllFollow_23 : decode (mi_code n_H_letAllFollow) 23 = .ok (.getfield 11, 3) := by decide +kernel
theorem d_H_letAllFollow_26 : decode (mi_code n_H_letAllFollow) 26 = .ok (.iload_n 2, 1) := by decide +kernel
theorem d_H_letAllFollow_27 : decode (mi_code n_H_letAllFollow) 27 = .ok (.aaload, 1) := by decide +kernel
theorem d_H_letAllFollow_28 : decode (mi_code n_H_letAllFollow) 28 = .ok (.iload_n 1, 1) := by decide +kernel
theorem d_H_letAllFollow_29 : decode (mi_code n_H_letAllFollow) 29 = .ok (.invokevirtual 368, 3) := by decide +kernel
theorem d_H_letAllFollow_32 : decode (mi_code n_H_letAllFollow) 32 = .ok (.ifCond .eq 12, 3) := by decide +kernel
theorem d_H_letAllFollow_35 : decode (mi_code n_H_letAllFollow) 35 = .ok (.aload_n 0, 1) := by decide +kernel
theorem d_H_letAllFollow_36 : decode (mi_code n_H_letAllFollow) 36 = .ok (.getfield 11, 3) := by decide +kernel
theorem d_H_letAllFollow_39 : decode (mi_code n_H_letAllFollow) 39 = .ok (.iload_n 2, 1) := by decide +kernel
theorem d_H_letAllFollow_40 : decode (mi_code n_H_letAllFollow) 40 = .ok (.aaload, 1) := by decide +kernel
theorem d_H_letAllFollow_41 : decode (mi_code n_H_letAllFollow) 41 = .ok (.invokevirtual 89, 3) := by decide +kernel
theorem d_H_letAllFollow_44 : decode (mi_code n_H_letAllFollow) 44 = .ok (.iinc 2 1, 3) := by decide +kernel
theorem d_H_letAllFollow_47 : decode (mi_code n_H_letAllFollow) 47 = .ok (.goto (-33), 3) := by decide +kernel
theorem d_H_letAllFollow_50 : decode (mi_code n_H_letAllFollow) 50 = .ok (.return_, 1) := by decide +kernel
theorem d_H_mouth_0 : decode (mi_code n_H_mouth) 0 = .ok (.iload_n 1, 1) := by decide +kernel
theorem d_H_mouth_1 : decode (mi_code n_H_mouth) 1 = .ok (.invokestatic 190, 3) := by decide +kernel
theorem d_H_mouth_4 : decode (mi_code n_H_mouth) 4 = .ok (.iload_n 2, 1) := by decide +kernel
theorem d_H_mouth_5 : decode (mi_code n_H_mouth) 5 = .ok (.iconst (-1), 1) := by decide +kernel
theorem d_H_mouth_6 : decode (mi_code n_H_mouth) 6 = .ok (.if_icmp .eq 8, 3) := by decide +kernel
theorem d_H_mouth_9 : decode (mi_code n_H_mouth) 9 = .ok (.aload_n 0, 1) := by decide +kernel
theorem d_H_mouth_10 : decode (mi_code n_H_mouth) 10 = .ok (.iload_n 2, 1) := by decide +kernel
theorem d_H_mouth_11 : decode (mi_code n_H_mouth) 11 = .ok (.invokevirtual 75, 3) := by decide +kernel
theorem d_H_mouth_14 : decode (mi_code n_H_mouth) 14 = .ok (.aload_n 0, 1) := by decide +kernel
theorem d_H_mouth_15 : decode (mi_code n_H_mouth) 15 = .ok (.getfield 25, 3) := by decide +kernel
theorem d_H_mouth_18 : decode (mi_code n_H_mouth) 18 = .ok (.iload_n 1, 1) := by decide +kernel
theorem d_H_mouth_19 : decode (mi_code n_H_mouth) 19 = .ok (.iaload, 1) := by decide +kernel
theorem d_H_mouth_20 : decode (mi_code n_H_mouth) 20 = .ok (.istore_n 3, 1) := by decide +kernel
theorem d_H_mouth_21 : decode (mi_code n_H_mouth) 21 = .ok (.aload_n 0, 1) := by decide +kernel
theorem d_H_mouth_22 : decode (mi_code n_H_mouth) 22 = .ok (.getfield 25, 3) := by decide +kernel
theorem d_H_mouth_25 : decode (mi_code n_H_mouth) 25 = .ok (.iload_n 1, 1) := by decide +kernel
theorem d_H_mouth_26 : decode (mi_code n_H_mouth) 26 = .ok (.iload_n 2, 1) := by decide +kernel
theorem d_H_mouth_27 : decode (mi_code n_H_mouth) 27 = .ok (.iastore, 1) := by decide +kernel
theorem d_H_mouth_28 : decode (mi_code n_H_mouth) 28 = .ok (.iload_n 3, 1) := by decide +kernel
theorem d_H_mouth_29 : decode (mi_code n_H_mouth) 29 = .ok (.ireturn, 1) := by decide +kernel
theorem d_H_move_0 : decode (mi_code n_H_move) 0 = .ok (.aload_n 0, 1) := by decide +kernel
theorem d_H_move_1 : decode (mi_code n_H_move) 1 = .ok (.iload_n 1, 1) := by decide +kernel
theorem d_H_move_2 : decode (mi_code n_H_move) 2 = .ok (.invokevirtual 203, 3) := by decide +kernel
theorem d_H_move_5 : decode (mi_code n_H_move) 5 = .ok (.iload_n 2, 1) := by decide +kernel
theorem d_H_move_6 : decode (mi_code n_H_move) 6 = .ok (.ifCond .lt 9, 3) := by decide +kernel
theorem d_H_move_9 : decode (mi_code n_H_move) 9 = .ok (.iload_n 2, 1) := by decide +kernel
theorem d_H_move_10 : decode (mi_code n_H_move) 10 = .ok (.bipush 24, 2) := by decide +kernel
theorem d_H_move_12 : decode (mi_code n_H_move) 12 = .ok (.if_icmp .lt 13, 3) := by decide +kernel
theorem d_H_move_15 : decode (mi_code n_H_move) 15 = .ok (.new 79, 3) := by decide +kernel
theorem d_H_move_18 : decode (mi_code n_H_move) 18 = .ok (.dup, 1) := by decide +kernel
theorem d_H_move_19 : decode (mi_code n_H_move) 19 = .ok (.ldc 214, 2) := by decide +kernel
theorem d_H_move_21 : decode (mi_code n_H_move) 21 = .ok (.invokespecial 83, 3) := by decide +kernel
theorem d_H_move_24 : decode (mi_code n_H_move) 24 = .ok (.athrow, 1) := by decide +kernel
theorem d_H_move_25 : decode (mi_code n_H_move) 25 = .ok (.iload_n 3, 1) := by decide +kernel
theorem d_H_move_26 : decode (mi_code n_H_move) 26 = .ok (.bipush (-20), 2) := by decide +kernel
theorem d_H_move_28 : decode (mi_code n_H_move) 28 = .ok (.if_icmp .lt 23, 3) := by decide +kernel
theorem d_H_move_31 : decode (mi_code n_H_move) 31 = .ok (.iload_n 3, 1) := by decide +kernel
theorem d_H_move_32 : decode (mi_code n_H_move) 32 = .ok (.bipush 20, 2) := by decide +kernel
theorem d_H_move_34 : decode (mi_code n_H_move) 34 = .ok (.if_icmp .gt 17, 3) := by decide +kernel
theorem d_H_move_37 : decode (mi_code n_H_move) 37 = .ok (.iload 4, 2) := by decide +kernel
theorem d_H_move_39 : decode (mi_code n_H_move) 39 = .ok (.bipush (-20), 2) := by decide +kernel
theorem d_H_move_41 : decode (mi_code n_H_move) 41 = .ok (.if_icmp .lt 10, 3) := by decide +kernel
theorem d_H_move_44 : decode (mi_code n_H_move) 44 = .ok (.iload 4, 2) := by decide +kernel
theorem d_H_move_46 : decode (mi_code n_H_move) 46 = .ok (.bipush 20, 2) := by decide +kernel
theorem d_H_move_48 : decode (mi_code n_H_move) 48 = .ok (.if_icmp .le 13, 3) := by decide +kernel
theorem d_H_move_51 : decode (mi_code n_H_move) 51 = .ok (.new 79, 3) := by decide +kernel
theorem d_H_move_54 : decode (mi_code n_H_move) 54 = .ok (.dup, 1) := by decide +kernel
theorem d_H_move_55 : decode (mi_code n_H_move) 55 = .ok (.ldc 216, 2) := by decide +kernel
theorem d_H_move_57 : decode (mi_code n_H_move) 57 = .ok (.invokespecial 83, 3) := by decide +kernel
theorem d_H_move_60 : decode (mi_code n_H_move) 60 = .ok (.athrow, 1) := by decide +kernel
theorem d_H_move_61 : decode (mi_code n_H_move) 61 = .ok (.aload_n 0, 1) := by decide +kernel
theorem d_H_move_62 : decode (mi_code n_H_move) 62 = .ok (.getfield 36, 3) := by decide +kernel
theorem d_H_move_65 : decode (mi_code n_H_move) 65 = .ok (.iload_n 1, 1) := by decide +kernel
theorem d_H_move_66 : decode (mi_code n_H_move) 66 = .ok (.aaload, 1) := by decide +kernel
theorem d_H_move_67 : decode (mi_code n_H_move) 67 = .ok (.astore 5, 2) := by decide +kernel
theorem d_H_move_69 : decode (mi_code n_H_move) 69 = .ok (.aload 5, 2) := by decide +kernel
theorem d_H_move_71 : decode (mi_code n_H_move) 71 = .ok (.getfield 218, 3) := by decide +kernel
theorem d_H_move_74 : decode (mi_code n_H_move) 74 = .ok (.iload_n 2, 1) := by decide +kernel
theorem d_H_move_75 : decode (mi_code n_H_move) 75 = .ok (.baload, 1) := by decide +kernel
theorem d_H_move_76 : decode (mi_code n_H_move) 76 = .ok (.ifCond .ne 23, 3) := by decide +kernel
theorem d_H_move_79 : decode (mi_code n_H_move) 79 = .ok (.aload 5, 2) := by decide +kernel
theorem d_H_move_81 : decode (mi_code n_H_move) 81 = .ok (.getfield 221, 3) := by decide +kernel
theorem d_H_move_84 : decode (mi_code n_H_move) 84 = .ok (.bipush 6, 2) := by decide +kernel
theorem d_H_move_86 : decode (mi_code n_H_move) 86 = .ok (.if_icmp .lt 13, 3) := by decide +kernel
theorem d_H_move_89 : decode (mi_code n_H_move) 89 = .ok (.new 134, 3) := by decide +kernel
theorem d_H_move_92 : decode (mi_code n_H_move) 92 = .ok (.dup, 1) := by decide +kernel
theorem d_H_move_93 : decode (mi_code n_H_move) 93 = .ok (.ldc 224, 2) := by decide +kernel
theorem d_H_move_95 : decode (mi_code n_H_move) 95 = .ok (.invokespecial 138, 3) := by decide +kernel
theorem d_H_move_98 : decode (mi_code n_H_move) 98 = .ok (.athrow, 1) := by decide +kernel
theorem d_H_move_99 : decode (mi_code n_H_move) 99 = .ok (.aload 5, 2) := by decide +kernel
theorem d_H_move_101 : decode (mi_code n_H_move) 101 = .ok (.iload_n 2, 1) := by decide +kernel
theorem d_H_move_102 : decode (mi_code n_H_move) 102 = .ok (.iload_n 3, 1) := by decide +kernel
theorem d_H_move_103 : decode (mi_code n_H_move) 103 = .ok (.iload 4, 2) := by decide +kernel
theorem d_H_move_105 : decode (mi_code n_H_move) 105 = .ok (.invokevirtual 226, 3) := by decide +kernel
theorem d_H_move_108 : decode (mi_code n_H_move) 108 = .ok (.aload 5, 2) := by decide +kernel
theorem d_H_move_110 : decode (mi_code n_H_move) 110 = .ok (.getfield 221, 3) := by decide +kernel
theorem d_H_move_113 : decode (mi_code n_H_move) 113 = .ok (.ireturn, 1) := by decide +kernel
theorem d_H_moved_0 : decode (mi_code n_H_moved) 0 = .ok (.aload_n 0, 1) := by decide +kernel
theorem d_H_moved_1 : decode (mi_code n_H_moved) 1 = .ok (.iload_n 1, 1) := by decide +kernel
theorem d_H_moved_2 : decode (mi_code n_H_moved) 2 = .ok (.invokevirtual 173, 3) := by decide +kernel
theorem d_H_moved_5 : decode (mi_code n_H_moved) 5 = .ok (.iload_n 2, 1) := by decide +kernel
theorem d_H_moved_6 : decode (mi_code n_H_moved) 6 = .ok (.invokestatic 176, 3) := by decide +kernel
theorem d_H_moved_9 : decode (mi_code n_H_moved) 9 = .ok (.aload_n 0, 1) := by decide +kernel
theorem d_H_moved_10 : decode (mi_code n_H_moved) 10 = .ok (.iload_n 1, 1) := by decide +kernel
theorem d_H_moved_11 : decode (mi_code n_H_moved) 11 = .ok (.iload_n 3, 1) := by decide +kernel
theorem d_H_moved_12 : decode (mi_code n_H_moved) 12 = .ok (.invokevirtual 179, 3) := by decide +kernel
theorem d_H_moved_15 : decode (mi_code n_H_moved) 15 = .ok (.aload_n 0, 1) := by decide +kernel
theorem d_H_moved_16 : decode (mi_code n_H_moved) 16 = .ok (.getfield 21, 3) := by decide +kernel
theorem d_H_moved_19 : decode (mi_code n_H_moved) 19 = .ok (.iload_n 1, 1) := by decide +kernel
theorem d_H_moved_20 : decode (mi_code n_H_moved) 20 = .ok (.aaload, 1) := by decide +kernel
theorem d_H_moved_21 : decode (mi_code n_H_moved) 21 = .ok (.iload_n 2, 1) := by decide +kernel
theorem d_H_moved_22 : decode (mi_code n_H_moved) 22 = .ok (.iload_n 3, 1) := by decide +kernel
theorem d_H_moved_23 : decode (mi_code n_H_moved) 23 = .ok (.iload 4, 2) := by decide +kernel
theorem d_H_moved_25 : decode (mi_code n_H_moved) 25 = .ok (.invokevirtual 290, 3) := by decide +kernel
theorem d_H_moved_28 : decode (mi_code n_H_moved) 28 = .ok (.ireturn, 1) := by decide +kernel
theorem d_H_needChangeable_0 : decode (mi_code n_H_needChangeable) 0 = .ok (.aload_n 0, 1) := by decide +kernel
theorem d_H_needChangeable_1 : decode (mi_code n_H_needChangeable) 1 = .ok (.getfield 11, 3) := by decide +kernel
theorem d_H_needChangeable_4 : decode (mi_code n_H_needChangeable) 4 = .ok (.iload_n 1, 1) := by decide +kernel
theorem d_H_needChangeable_5 : decode (mi_code n_H_needChangeable) 5 = .ok (.aaload, 1) := by decide +kernel
theorem d_H_needChangeable_6 : decode (mi_code n_H_needChangeable) 6 = .ok (.invokevirtual 324, 3) := by decide +kernel
theorem d_H_needChangeable_9 : decode (mi_code n_H_needChangeable) 9 = .ok (.ifCond .eq 15, 3) := by decide +kernel
theorem d_H_needChangeable_12 : decode (mi_code n_H_needChangeable) 12 = .ok (.aload_n 0, 1) := by decide +kernel
theorem d_H_needChangeable_13 : decode (mi_code n_H_needChangeable) 13 = .ok (.getfield 11, 3) := by decide +kernel
theorem d_H_needChangeable_16 : decode (mi_code n_H_needChangeable) 16 = .ok (.iload_n 1, 1) := by decide +kernel
theorem d_H_needChangeable_17 : decode (mi_code n_H_needChangeable) 17 = .ok (.aaload, 1) := by decide +kernel
theorem d_H_needChangeable_18 : decode (mi_code n_H_needChangeable) 18 = .ok (.getfield 150, 3) := by decide +kernel
theorem d_H_needChangeable_21 : decode (mi_code n_H_needChangeable) 21 = .ok (.ifCond .eq 14, 3) := by decide +kernel
theorem d_H_needChangeable_24 : decode (mi_code n_H_needChangeable) 24 = .ok (.new 134, 3) := by decide +kernel
theorem d_H_needChangeable_27 : decode (mi_code n_H_needChangeable) 27 = .ok (.dup, 1) := by decide +kernel
theorem d_H_needChangeable_28 : decode (mi_code n_H_needChangeable) 28 = .ok (.ldc_w 341, 3) := by decide +kernel
theorem d_H_needChangeable_31 : decode (mi_code n_H_needChangeable) 31 = .ok (.invokespecial 138, 3) := by decide +kernel
theorem d_H_needChangeable_34 : decode (mi_code n_H_needChangeable) 34 = .ok (.athrow, 1) := by decide +kernel
theorem d_H_needChangeable_35 : decode (mi_code n_H_needChangeable) 35 = .ok (.return_, 1) := by decide +kernel
theorem d_H_needColourName_0 : decode (mi_code n_H_needColourName) 0 = .ok (.iload_n 0, 1) := by decide +kernel
theorem d_H_needColourName_1 : decode (mi_code n_H_needColourName) 1 = .ok (.ifCond .lt 9, 3) := by decide +kernel
theorem d_H_needColourName_4 : decode (mi_code n_H_needColourName) 4 = .ok (.iload_n 0, 1) := by decide +kernel
theorem d_H_needColourName_5 : decode (mi_code n_H_needColourName) 5 = .ok (.bipush 8, 2) := by decide +kernel
theorem d_H_needColourName_7 : decode (mi_code n_H_needColourName) 7 = .ok (.if_icmp .lt 14, 3) := by decide +kernel
theorem d_H_needColourName_10 : decode (mi_code n_H_needColourName) 10 = .ok (.new 319, 3) := by decide +kernel
theorem d_H_needColourName_13 : decode (mi_code n_H_needColourName) 13 = .ok (.dup, 1) := by decide +kernel
theorem d_H_needColourName_14 : decode (mi_code n_H_needColourName) 14 = .ok (.ldc_w 349, 3) := by decide +kernel
theorem d_H_needColourName_17 : decode (mi_code n_H_needColourName) 17 = .ok (.invokespecial 323, 3) := by decide +kernel
theorem d_H_needColourName_20 : decode (mi_code n_H_needColourName) 20 = .ok (.athrow, 1) := by decide +kernel
theorem d_H_needColourName_21 : decode (mi_code n_H_needColourName) 21 = .ok (.return_, 1) := by decide +kernel
theorem d_H_needDrawing_0 : decode (mi_code n_H_needDrawing) 0 = .ok (.iload_n 1, 1) := by decide +kernel
theorem d_H_needDrawing_1 : decode (mi_code n_H_needDrawing) 1 = .ok (.ifCond .lt 11, 3) := by decide +kernel
theorem d_H_needDrawing_4 : decode (mi_code n_H_needDrawing) 4 = .ok (.iload_n 1, 1) := by decide +kernel
theorem d_H_needDrawing_5 : decode (mi_code n_H_needDrawing) 5 = .ok (.aload_n 0, 1) := by decide +kernel
theorem d_H_needDrawing_6 : decode (mi_code n_H_needDrawing) 6 = .ok (.getfield 68, 3) := by decide +kernel
theorem d_H_needDrawing_9 : decode (mi_code n_H_needDrawing) 9 = .ok (.if_icmp .lt 14, 3) := by decide +kernel
theorem d_H_needDrawing_12 : decode (mi_code n_H_needDrawing) 12 = .ok (.new 319, 3) := by decide +kernel
theorem d_H_needDrawing_15 : decode (mi_code n_H_needDrawing) 15 = .ok (.dup, 1) := by decide +kernel
theorem d_H_needDrawing_16 : decode (mi_code n_H_needDrawing) 16 = .ok (.ldc_w 339, 3) := by decide +kernel
theorem d_H_needDrawing_19 : decode (mi_code n_H_needDrawing) 19 = .ok (.invokespecial 323, 3) := by decide +kernel
theorem d_H_needDrawing_22 : decode (mi_code n_H_needDrawing) 22 = .ok (.athrow, 1) := by decide +kernel
theorem d_H_needDrawing_23 : decode (mi_code n_H_needDrawing) 23 = .ok (.return_, 1) := by decide +kernel
theorem d_H_needFrame_0 : decode (mi_code n_H_needFrame) 0 = .ok (.iload_n 2, 1) := by decide +kernel
theorem d_H_needFrame_1 : decode (mi_code n_H_needFrame) 1 = .ok (.ifCond .lt 16, 3) := by decide +kernel
theorem d_H_needFrame_4 : decode (mi_code n_H_needFrame) 4 = .ok (.iload_n 2, 1) := by decide +kernel
theorem d_H_needFrame_5 : decode (mi_code n_H_needFrame) 5 = .ok (.aload_n 0, 1) := by decide +kernel
theorem d_H_needFrame_6 : decode (mi_code n_H_needFrame) 6 = .ok (.getfield 21, 3) := by decide +kernel
theorem d_H_needFrame_9 : decode (mi_code n_H_needFrame) 9 = .ok (.iload_n 1, 1) := by decide +kernel
theorem d_H_needFrame_10 : decode (mi_code n_H_needFrame) 10 = .ok (.aaload, 1) := by decide +kernel
theorem d_H_needFrame_11 : decode (mi_code n_H_needFrame) 11 = .ok (.getfield 184, 3) := by decide +kernel
theorem d_H_needFrame_14 : decode (mi_code n_H_needFrame) 14 = .ok (.if_icmp .lt 14, 3) := by decide +kernel
theorem d_H_needFrame_17 : decode (mi_code n_H_needFrame) 17 = .ok (.new 319, 3) := by decide +kernel
theorem d_H_needFrame_20 : decode (mi_code n_H_needFrame) 20 = .ok (.dup, 1) := by decide +kernel
theorem d_H_needFrame_21 : decode (mi_code n_H_needFrame) 21 = .ok (.ldc_w 359, 3) := by decide +kernel
theorem d_H_needFrame_24 : decode (mi_code n_H_needFrame) 24 = .ok (.invokespecial 323, 3) := by decide +kernel
theorem d_H_needFrame_27 : decode (mi_code n_H_needFrame) 27 = .ok (.athrow, 1) := by decide +kernel
theorem d_H_needFrame_28 : decode (mi_code n_H_needFrame) 28 = .ok (.return_, 1) := by decide +kernel
theorem d_H_needLevel_0 : decode (mi_code n_H_needLevel) 0 = .ok (.iload_n 0, 1) := by decide +kernel
theorem d_H_needLevel_1 : decode (mi_code n_H_needLevel) 1 = .ok (.ifCond .lt 8, 3) := by decide +kernel
theorem d_H_needLevel_4 : decode (mi_code n_H_needLevel) 4 = .ok (.iload_n 0, 1) := by decide +kernel
theorem d_H_needLevel_5 : decode (mi_code n_H_needLevel) 5 = .ok (.iconst 4, 1) := by decide +kernel
theorem d_H_needLevel_6 : decode (mi_code n_H_needLevel) 6 = .ok (.if_icmp .lt 14, 3) := by decide +kernel
theorem d_H_needLevel_9 : decode (mi_code n_H_needLevel) 9 = .ok (.new 319, 3) := by decide +kernel
theorem d_H_needLevel_12 : decode (mi_code n_H_needLevel) 12 = .ok (.dup, 1) := by decide +kernel
theorem d_H_needLevel_13 : decode (mi_code n_H_needLevel) 13 = .ok (.ldc_w 357, 3) := by decide +kernel
theorem d_H_needLevel_16 : decode (mi_code n_H_needLevel) 16 = .ok (.invokespecial 323, 3) := by decide +kernel
theorem d_H_needLevel_19 : decode (mi_code n_H_needLevel) 19 = .ok (.athrow, 1) := by decide +kernel
theorem d_H_needLevel_20 : decode (mi_code n_H_needLevel) 20 = .ok (.return_, 1) := by decide +kernel
theorem d_H_needPalette_0 : decode (mi_code n_H_needPalette) 0 = .ok (.iload_n 0, 1) := by decide +kernel
theorem d_H_needPalette_1 : decode (mi_code n_H_needPalette) 1 = .ok (.ifCond .lt 8, 3) := by decide +kernel
theorem d_H_needPalette_4 : decode (mi_code n_H_needPalette) 4 = .ok (.iload_n 0, 1) := by decide +kernel
theorem d_H_needPalette_5 : decode (mi_code n_H_needPalette) 5 = .ok (.iconst 4, 1) := by decide +kernel
theorem d_H_needPalette_6 : decode (mi_code n_H_needPalette) 6 = .ok (.if_icmp .lt 14, 3) := by decide +kernel
theorem d_H_needPalette_9 : decode (mi_code n_H_needPalette) 9 = .ok (.new 319, 3) := by decide +kernel
theorem d_H_needPalette_12 : decode (mi_code n_H_needPalette) 12 = .ok (.dup, 1) := by decide +kernel
theorem d_H_needPalette_13 : decode (mi_code n_H_needPalette) 13 = .ok (.ldc_w 353, 3) := by decide +kernel
theorem d_H_needPalette_16 : decode (mi_code n_H_needPalette) 16 = .ok (.invokespecial 323, 3) := by decide +kernel
theorem d_H_needPalette_19 : decode (mi_code n_H_needPalette) 19 = .ok (.athrow, 1) := by decide +kernel
theorem d_H_needPalette_20 : decode (mi_code n_H_needPalette) 20 = .ok (.return_, 1) := by decide +kernel
theorem d_H_needPeg_0 : decode (mi_code n_H_needPeg) 0 = .ok (.iload_n 1, 1) := by decide +kernel
theorem d_H_needPeg_1 : decode (mi_code n_H_needPeg) 1 = .ok (.ifCond .lt 11, 3) := by decide +kernel
theorem d_H_needPeg_4 : decode (mi_code n_H_needPeg) 4 = .ok (.iload_n 1, 1) := by decide +kernel
theorem d_H_needPeg_5 : decode (mi_code n_H_needPeg) 5 = .ok (.aload_n 0, 1) := by decide +kernel
theorem d_H_needPeg_6 : decode (mi_code n_H_needPeg) 6 = .ok (.getfield 206, 3) := by decide +kernel
theorem d_H_needPeg_9 : decode (mi_code n_H_needPeg) 9 = .ok (.if_icmp .lt 14, 3) := by decide +kernel
theorem d_H_needPeg_12 : decode (mi_code n_H_needPeg) 12 = .ok (.new 319, 3) := by decide +kernel
theorem d_H_needPeg_15 : decode (mi_code n_H_needPeg) 15 = .ok (.dup, 1) := by decide +kernel
theorem d_H_needPeg_16 : decode (mi_code n_H_needPeg) 16 = .ok (.ldc_w 363, 3) := by decide +kernel
theorem d_H_needPeg_19 : decode (mi_code n_H_needPeg) 19 = .ok (.invokespecial 323, 3) := by decide +kernel
theorem d_H_needPeg_22 : decode (mi_code n_H_needPeg) 22 = .ok (.athrow, 1) := by decide +kernel
theorem d_H_needPeg_23 : decode (mi_code n_H_needPeg) 23 = .ok (.return_, 1) := by decide +kernel
theorem d_H_needPoint_0 : decode (mi_code n_H_needPoint) 0 = .ok (.iload_n 0, 1) := by decide +kernel
theorem d_H_needPoint_1 : decode (mi_code n_H_needPoint) 1 = .ok (.iload_n 1, 1) := by decide +kernel
theorem d_H_needPoint_2 : decode (mi_code n_H_needPoint) 2 = .ok (.invokestatic 343, 3) := by decide +kernel
theorem d_H_needPoint_5 : decode (mi_code n_H_needPoint) 5 = .ok (.ifCond .ne 14, 3) := by decide +kernel
theorem d_H_needPoint_8 : decode (mi_code n_H_needPoint) 8 = .ok (.new 319, 3) := by decide +kernel
theorem d_H_needPoint_11 : decode (mi_code n_H_needPoint) 11 = .ok (.dup, 1) := by decide +kernel
theorem d_H_needPoint_12 : decode (mi_code n_H_needPoint) 12 = .ok (.ldc_w 347, 3) := by decide +kernel
theorem d_H_needPoint_15 : decode (mi_code n_H_needPoint) 15 = .ok (.invokespecial 323, 3) := by decide +kernel
theorem d_H_needPoint_18 : decode (mi_code n_H_needPoint) 18 = .ok (.athrow, 1) := by decide +kernel
theorem d_H_needPoint_19 : decode (mi_code n_H_needPoint) 19 = .ok (.return_, 1) := by decide +kernel
theorem d_H_needRoomForDrawing_0 : decode (mi_code n_H_needRoomForDrawing) 0 = .ok (.aload_n 0, 1) := by decide +kernel
theorem d_H_needRoomForDrawing_1 : decode (mi_code n_H_needRoomForDrawing) 1 = .ok (.getfield 68, 3) := by decide +kernel
theorem d_H_needRoomForDrawing_4 : decode (mi_code n_H_needRoomForDrawing) 4 = .ok (.bipush 16, 2) := by decide +kernel
theorem d_H_needRoomForDrawing_6 : decode (mi_code n_H_needRoomForDrawing) 6 = .ok (.if_icmp .lt 14, 3) := by decide +kernel
theorem d_H_needRoomForDrawing_9 : decode (mi_code n_H_needRoomForDrawing) 9 = .ok (.new 134, 3) := by decide +kernel
theorem d_H_needRoomForDrawing_12 : decode (mi_code n_H_needRoomForDrawing) 12 = .ok (.dup, 1) := by decide +kernel
theorem d_H_needRoomForDrawing_13 : decode (mi_code n_H_needRoomForDrawing) 13 = .ok (.ldc_w 337, 3) := by decide +kernel
theorem d_H_needRoomForDrawing_16 : decode (mi_code n_H_needRoomForDrawing) 16 = .ok (.invokespecial 138, 3) := by decide +kernel
theorem d_H_needRoomForDrawing_19 : decode (mi_code n_H_needRoomForDrawing) 19 = .ok (.athrow, 1) := by decide +kernel
theorem d_H_needRoomForDrawing_20 : decode (mi_code n_H_needRoomForDrawing) 20 = .ok (.return_, 1) := by decide +kernel
theorem d_H_needScene_0 : decode (mi_code n_H_needScene) 0 = .ok (.iload_n 1, 1) := by decide +kernel
theorem d_H_needScene_1 : decode (mi_code n_H_needScene) 1 = .ok (.ifCond .lt 11, 3) := by decide +kernel
theorem d_H_needScene_4 : decode (mi_code n_H_needScene) 4 = .ok (.iload_n 1, 1) := by decide +kernel
theorem d_H_needScene_5 : decode (mi_code n_H_needScene) 5 = .ok (.aload_n 0, 1) := by decide +kernel
theorem d_H_needScene_6 : decode (mi_code n_H_needScene) 6 = .ok (.getfield 166, 3) := by decide +kernel
theorem d_H_needScene_9 : decode (mi_code n_H_needScene) 9 = .ok (.if_icmp .lt 14, 3) := by decide +kernel
theorem d_H_needScene_12 : decode (mi_code n_H_needScene) 12 = .ok (.new 319, 3) := by decide +kernel
theorem d_H_needScene_15 : decode (mi_code n_H_needScene) 15 = .ok (.dup, 1) := by decide +kernel
theorem d_H_needScene_16 : decode (mi_code n_H_needScene) 16 = .ok (.ldc_w 355, 3) := by decide +kernel
theorem d_H_needScene_19 : decode (mi_code n_H_needScene) 19 = .ok (.invokespecial 323, 3) := by decide +kernel
theorem d_H_needScene_22 : decode (mi_code n_H_needScene) 22 = .ok (.athrow, 1) := by decide +kernel
theorem d_H_needScene_23 : decode (mi_code n_H_needScene) 23 = .ok (.return_, 1) := by decide +kernel
theorem d_H_needSound_0 : decode (mi_code n_H_needSound) 0 = .ok (.iload_n 0, 1) := by decide +kernel
theorem d_H_needSound_1 : decode (mi_code n_H_needSound) 1 = .ok (.ifCond .lt 9, 3) := by decide +kernel
theorem d_H_needSound_4 : decode (mi_code n_H_needSound) 4 = .ok (.iload_n 0, 1) := by decide +kernel
theorem d_H_needSound_5 : decode (mi_code n_H_needSound) 5 = .ok (.bipush 8, 2) := by decide +kernel
theorem d_H_needSound_7 : decode (mi_code n_H_needSound) 7 = .ok (.if_icmp .lt 14, 3) := by decide +kernel
theorem d_H_needSound_10 : decode (mi_code n_H_needSound) 10 = .ok (.new 319, 3) := by decide +kernel
theorem d_H_needSound_13 : decode (mi_code n_H_needSound) 13 = .ok (.dup, 1) := by decide +kernel
theorem d_H_needSound_14 : decode (mi_code n_H_needSound) 14 = .ok (.ldc_w 361, 3) := by decide +kernel
theorem d_H_needSound_17 : decode (mi_code n_H_needSound) 17 = .ok (.invokespecial 323, 3) := by decide +kernel
theorem d_H_needSound_20 : decode (mi_code n_H_needSound) 20 = .ok (.athrow, 1) := by decide +kernel
theorem d_H_needSound_21 : decode (mi_code n_H_needSound) 21 = .ok (.return_, 1) := by decide +kernel
theorem d_H_needStrokeName_0 : decode (mi_code n_H_needStrokeName) 0 = .ok (.iload_n 0, 1) := by decide +kernel
theorem d_H_needStrokeName_1 : decode (mi_code n_H_needStrokeName) 1 = .ok (.ifCond .lt 9, 3) := by decide +kernel
theorem d_H_needStrokeName_4 : decode (mi_code n_H_needStrokeName) 4 = .ok (.iload_n 0, 1) := by decide +kernel
theorem d_H_needStrokeName_5 : decode (mi_code n_H_needStrokeName) 5 = .ok (.bipush 8, 2) := by decide +kernel
theorem d_H_needStrokeName_7 : decode (mi_code n_H_needStrokeName) 7 = .ok (.if_icmp .lt 14, 3) := by decide +kernel
theorem d_H_needStrokeName_10 : decode (mi_code n_H_needStrokeName) 10 = .ok (.new 79, 3) := by decide +kernel
theorem d_H_needStrokeName_13 : decode (mi_code n_H_needStrokeName) 13 = .ok (.dup, 1) := by decide +kernel
theorem d_H_needStrokeName_14 : decode (mi_code n_H_needStrokeName) 14 = .ok (.ldc_w 351, 3) := by decide +kernel
theorem d_H_needStrokeName_17 : decode (mi_code n_H_needStrokeName) 17 = .ok (.invokespecial 83, 3) := by decide +kernel
theorem d_H_needStrokeName_20 : decode (mi_code n_H_needStrokeName) 20 = .ok (.athrow, 1) := by decide +kernel
theorem d_H_needStrokeName_21 : decode (mi_code n_H_needStrokeName) 21 = .ok (.return_, 1) := by decide +kernel
theorem d_H_of_0 : decode (mi_code n_H_of) 0 = .ok (.aload_n 0, 1) := by decide +kernel
theorem d_H_of_1 : decode (mi_code n_H_of) 1 = .ok (.iload_n 1, 1) := by decide +kernel
theorem d_H_of_2 : decode (mi_code n_H_of) 2 = .ok (.invokevirtual 75, 3) := by decide +kernel
theorem d_H_of_5 : decode (mi_code n_H_of) 5 = .ok (.aload_n 0, 1) := by decide +kernel
theorem d_H_of_6 : decode (mi_code n_H_of) 6 = .ok (.getfield 11, 3) := by decide +kernel
theorem d_H_of_9 : decode (mi_code n_H_of) 9 = .ok (.iload_n 1, 1) := by decide +kernel
theorem d_H_of_10 : decode (mi_code n_H_of) 10 = .ok (.aaload, 1) := by decide +kernel
theorem d_H_of_11 : decode (mi_code n_H_of) 11 = .ok (.astore_n 3, 1) := by decide +kernel
theorem d_H_of_12 : decode (mi_code n_H_of) 12 = .ok (.iload_n 2, 1) := by decide +kernel
theorem d_H_of_13 : decode (mi_code n_H_of) 13 = .ok (.tableswitch 89 0 5 #[39, 44, 49, 62, 71, 80], 39) := by decide +kernel
theorem d_H_of_52 : decode (mi_code n_H_of) 52 = .ok (.aload_n 3, 1) := by decide +kernel
theorem d_H_of_53 : decode (mi_code n_H_of) 53 = .ok (.getfield 124, 3) := by decide +kernel
theorem d_H_of_56 : decode (mi_code n_H_of) 56 = .ok (.ireturn, 1) := by decide +kernel
theorem d_H_of_57 : decode (mi_code n_H_of) 57 = .ok (.aload_n 3, 1) := by decide +kernel
theorem d_H_of_58 : decode (mi_code n_H_of) 58 = .ok (.getfield 131, 3) := by decide +kernel
theorem d_H_of_61 : decode (mi_code n_H_of) 61 = .ok (.ireturn, 1) := by decide +kernel
theorem d_H_of_62 : decode (mi_code n_H_of) 62 = .ok (.aload_n 3, 1) := by decide +kernel
theorem d_H_of_63 : decode (mi_code n_H_of) 63 = .ok (.getfield 150, 3) := by decide +kernel
theorem d_H_of_66 : decode (mi_code n_H_of) 66 = .ok (.ifCond .eq 7, 3) := by decide +kernel
theorem d_H_of_69 : decode (mi_code n_H_of) 69 = .ok (.iconst 1, 1) := by decide +kernel
theorem d_H_of_70 : decode (mi_code n_H_of) 70 = .ok (.goto 4, 3) := by decide +kernel
theorem d_H_of_73 : decode (mi_code n_H_of) 73 = .ok (.iconst 0, 1) := by decide +kernel
theorem d_H_of_74 : decode (mi_code n_H_of) 74 = .ok (.ireturn, 1) := by decide +kernel
theorem d_H_of_75 : decode (mi_code n_H_of) 75 = .ok (.aload_n 0, 1) := by decide +kernel
theorem d_H_of_76 : decode (mi_code n_H_of) 76 = .ok (.aload_n 3, 1) := by decide +kernel
theorem d_H_of_77 : decode (mi_code n_H_of) 77 = .ok (.invokevirtual 268, 3) := by decide +kernel
theorem d_H_of_80 : decode (mi_code n_H_of) 80 = .ok (.invokevirtual 272, 3) := by decide +kernel
theorem d_H_of_83 : decode (mi_code n_H_of) 83 = .ok (.ireturn, 1) := by decide +kernel
theorem d_H_of_84 : decode (mi_code n_H_of) 84 = .ok (.aload_n 0, 1) := by decide +kernel
theorem d_H_of_85 : decode (mi_code n_H_of) 85 = .ok (.aload_n 3, 1) := by decide +kernel
theorem d_H_of_86 : decode (mi_code n_H_of) 86 = .ok (.invokevirtual 268, 3) := by decide +kernel
theorem d_H_of_89 : decode (mi_code n_H_of) 89 = .ok (.invokevirtual 275, 3) := by decide +kernel
theorem d_H_of_92 : decode (mi_code n_H_of) 92 = .ok (.ireturn, 1) := by decide +kernel
theorem d_H_of_93 : decode (mi_code n_H_of) 93 = .ok (.aload_n 0, 1) := by decide +kernel
theorem d_H_of_94 : decode (mi_code n_H_of) 94 = .ok (.aload_n 3, 1) := by decide +kernel
theorem d_H_of_95 : decode (mi_code n_H_of) 95 = .ok (.invokevirtual 268, 3) := by decide +kernel
theorem d_H_of_98 : decode (mi_code n_H_of) 98 = .ok (.invokevirtual 278, 3) := by decide +kernel
theorem d_H_of_101 : decode (mi_code n_H_of) 101 = .ok (.ireturn, 1) := by decide +kernel
theorem d_H_of_102 : decode (mi_code n_H_of) 102 = .ok (.new 79, 3) := by decide +kernel
theorem d_H_of_105 : decode (mi_code n_H_of) 105 = .ok (.dup, 1) := by decide +kernel
theorem d_H_of_106 : decode (mi_code n_H_of) 106 = .ok (.ldc_w 281, 3) := by decide +kernel
theorem d_H_of_109 : decode (mi_code n_H_of) 109 = .ok (.invokespecial 83, 3) := by decide +kernel
theorem d_H_of_112 : decode (mi_code n_H_of) 112 = .ok (.athrow, 1) := by decide +kernel
theorem d_H_paint_0 : decode (mi_code n_H_paint) 0 = .ok (.aload_n 0, 1) := by decide +kernel
theorem d_H_paint_1 : decode (mi_code n_H_paint) 1 = .ok (.iload_n 1, 1) := by decide +kernel
theorem d_H_paint_2 : decode (mi_code n_H_paint) 2 = .ok (.invokevirtual 75, 3) := by decide +kernel
theorem d_H_paint_5 : decode (mi_code n_H_paint) 5 = .ok (.iload_n 2, 1) := by decide +kernel
theorem d_H_paint_6 : decode (mi_code n_H_paint) 6 = .ok (.invokestatic 96, 3) := by decide +kernel
theorem d_H_paint_9 : decode (mi_code n_H_paint) 9 = .ok (.aload_n 0, 1) := by decide +kernel
theorem d_H_paint_10 : decode (mi_code n_H_paint) 10 = .ok (.iload_n 1, 1) := by decide +kernel
theorem d_H_paint_11 : decode (mi_code n_H_paint) 11 = .ok (.invokevirtual 102, 3) := by decide +kernel
theorem d_H_paint_14 : decode (mi_code n_H_paint) 14 = .ok (.aload_n 0, 1) := by decide +kernel
theorem d_H_paint_15 : decode (mi_code n_H_paint) 15 = .ok (.getfield 11, 3) := by decide +kernel
theorem d_H_paint_18 : decode (mi_code n_H_paint) 18 = .ok (.iload_n 1, 1) := by decide +kernel
theorem d_H_paint_19 : decode (mi_code n_H_paint) 19 = .ok (.aaload, 1) := by decide +kernel
theorem d_H_paint_20 : decode (mi_code n_H_paint) 20 = .ok (.astore_n 3, 1) := by decide +kernel
theorem d_H_paint_21 : decode (mi_code n_H_paint) 21 = .ok (.aload_n 3, 1) := by decide +kernel
theorem d_H_paint_22 : decode (mi_code n_H_paint) 22 = .ok (.getfield 131, 3) := by decide +kernel
theorem d_H_paint_25 : decode (mi_code n_H_paint) 25 = .ok (.bipush 6, 2) := by decide +kernel
theorem d_H_paint_27 : decode (mi_code n_H_paint) 27 = .ok (.if_icmp .lt 13, 3) := by decide +kernel
theorem d_H_paint_30 : decode (mi_code n_H_paint) 30 = .ok (.new 134, 3) := by decide +kernel
theorem d_H_paint_33 : decode (mi_code n_H_paint) 33 = .ok (.dup, 1) := by decide +kernel
theorem d_H_paint_34 : decode (mi_code n_H_paint) 34 = .ok (.ldc 136, 2) := by decide +kernel
theorem d_H_paint_36 : decode (mi_code n_H_paint) 36 = .ok (.invokespecial 138, 3) := by decide +kernel
theorem d_H_paint_39 : decode (mi_code n_H_paint) 39 = .ok (.athrow, 1) := by decide +kernel
theorem d_H_paint_40 : decode (mi_code n_H_paint) 40 = .ok (.aload_n 3, 1) := by decide +kernel
theorem d_H_paint_41 : decode (mi_code n_H_paint) 41 = .ok (.aload_n 0, 1) := by decide +kernel
theorem d_H_paint_42 : decode (mi_code n_H_paint) 42 = .ok (.getfield 109, 3) := by decide +kernel
theorem d_H_paint_45 : decode (mi_code n_H_paint) 45 = .ok (.aload_n 0, 1) := by decide +kernel
theorem d_H_paint_46 : decode (mi_code n_H_paint) 46 = .ok (.getfield 112, 3) := by decide +kernel
theorem d_H_paint_49 : decode (mi_code n_H_paint) 49 = .ok (.invokestatic 139, 3) := by decide +kernel
theorem d_H_paint_52 : decode (mi_code n_H_paint) 52 = .ok (.iload_n 2, 1) := by decide +kernel
theorem d_H_paint_53 : decode (mi_code n_H_paint) 53 = .ok (.invokevirtual 143, 3) := by decide +kernel
theorem d_H_paint_56 : decode (mi_code n_H_paint) 56 = .ok (.aload_n 0, 1) := by decide +kernel
theorem d_H_paint_57 : decode (mi_code n_H_paint) 57 = .ok (.iload_n 1, 1) := by decide +kernel
theorem d_H_paint_58 : decode (mi_code n_H_paint) 58 = .ok (.invokevirtual 121, 3) := by decide +kernel
theorem d_H_paint_61 : decode (mi_code n_H_paint) 61 = .ok (.aload_n 3, 1) := by decide +kernel
theorem d_H_paint_62 : decode (mi_code n_H_paint) 62 = .ok (.getfield 131, 3) := by decide +kernel
theorem d_H_paint_65 : decode (mi_code n_H_paint) 65 = .ok (.ireturn, 1) := by decide +kernel
theorem d_H_partWay_0 : decode (mi_code n_H_partWay) 0 = .ok (.iload_n 3, 1) := by decide +kernel
theorem d_H_partWay_1 : decode (mi_code n_H_partWay) 1 = .ok (.ifCond .ne 7, 3) := by decide +kernel
theorem d_H_partWay_4 : decode (mi_code n_H_partWay) 4 = .ok (.iload_n 0, 1) := by decide +kernel
theorem d_H_partWay_5 : decode (mi_code n_H_partWay) 5 = .ok (.goto 12, 3) := by decide +kernel
theorem d_H_partWay_8 : decode (mi_code n_H_partWay) 8 = .ok (.iload_n 0, 1) := by decide +kernel
theorem d_H_partWay_9 : decode (mi_code n_H_partWay) 9 = .ok (.iload_n 2, 1) := by decide +kernel
theorem d_H_partWay_10 : decode (mi_code n_H_partWay) 10 = .ok (.iload_n 1, 1) := by decide +kernel
theorem d_H_partWay_11 : decode (mi_code n_H_partWay) 11 = .ok (.iload_n 0, 1) := by decide +kernel
theorem d_H_partWay_12 : decode (mi_code n_H_partWay) 12 = .ok (.isub, 1) := by decide +kernel
theorem d_H_partWay_13 : decode (mi_code n_H_partWay) 13 = .ok (.imul, 1) := by decide +kernel
theorem d_H_partWay_14 : decode (mi_code n_H_partWay) 14 = .ok (.iload_n 3, 1) := by decide +kernel
theorem d_H_partWay_15 : decode (mi_code n_H_partWay) 15 = .ok (.idiv, 1) := by decide +kernel
theorem d_H_partWay_16 : decode (mi_code n_H_partWay) 16 = .ok (.iadd, 1) := by decide +kernel
theorem d_H_partWay_17 : decode (mi_code n_H_partWay) 17 = .ok (.ireturn, 1) := by decide +kernel
theorem d_H_peg_0 : decode (mi_code n_H_peg) 0 = .ok (.iload_n 1, 1) := by decide +kernel
theorem d_H_peg_1 : decode (mi_code n_H_peg) 1 = .ok (.iconst (-1), 1) := by decide +kernel
theorem d_H_peg_2 : decode (mi_code n_H_peg) 2 = .ok (.if_icmp .eq 8, 3) := by decide +kernel
theorem d_H_peg_5 : decode (mi_code n_H_peg) 5 = .ok (.aload_n 0, 1) := by decide +kernel
theorem d_H_peg_6 : decode (mi_code n_H_peg) 6 = .ok (.iload_n 1, 1) := by decide +kernel
theorem d_H_peg_7 : decode (mi_code n_H_peg) 7 = .ok (.invokevirtual 203, 3) := by decide +kernel
theorem d_H_peg_10 : decode (mi_code n_H_peg) 10 = .ok (.aload_n 0, 1) := by decide +kernel
theorem d_H_peg_11 : decode (mi_code n_H_peg) 11 = .ok (.getfield 206, 3) := by decide +kernel
theorem d_H_peg_14 : decode (mi_code n_H_peg) 14 = .ok (.bipush 6, 2) := by decide +kernel
theorem d_H_peg_16 : decode (mi_code n_H_peg) 16 = .ok (.if_icmp .lt 13, 3) := by decide +kernel
theorem d_H_peg_19 : decode (mi_code n_H_peg) 19 = .ok (.new 134, 3) := by decide +kernel
theorem d_H_peg_22 : decode (mi_code n_H_peg) 22 = .ok (.dup, 1) := by decide +kernel
theorem d_H_peg_23 : decode (mi_code n_H_peg) 23 = .ok (.ldc 209, 2) := by decide +kernel
theorem d_H_peg_25 : decode (mi_code n_H_peg) 25 = .ok (.invokespecial 138, 3) := by decide +kernel
theorem d_H_peg_28 : decode (mi_code n_H_peg) 28 = .ok (.athrow, 1) := by decide +kernel
theorem d_H_peg_29 : decode (mi_code n_H_peg) 29 = .ok (.aload_n 0, 1) := by decide +kernel
theorem d_H_peg_30 : decode (mi_code n_H_peg) 30 = .ok (.getfield 36, 3) := by decide +kernel
theorem d_H_peg_33 : decode (mi_code n_H_peg) 33 = .ok (.aload_n 0, 1) := by decide +kernel
theorem d_H_peg_34 : decode (mi_code n_H_peg) 34 = .ok (.getfield 206, 3) := by decide +kernel
theorem d_H_peg_37 : decode (mi_code n_H_peg) 37 = .ok (.new 34, 3) := by decide +kernel
theorem d_H_peg_40 : decode (mi_code n_H_peg) 40 = .ok (.dup, 1) := by decide +kernel
theorem d_H_peg_41 : decode (mi_code n_H_peg) 41 = .ok (.iload_n 1, 1) := by decide +kernel
theorem d_H_peg_42 : decode (mi_code n_H_peg) 42 = .ok (.iconst (-1), 1) := by decide +kernel
theorem d_H_peg_43 : decode (mi_code n_H_peg) 43 = .ok (.if_icmp .ne 7, 3) := by decide +kernel
theorem d_H_peg_46 : decode (mi_code n_H_peg) 46 = .ok (.aconst_null, 1) := by decide +kernel
theorem d_H_peg_47 : decode (mi_code n_H_peg) 47 = .ok (.goto 9, 3) := by decide +kernel
theorem d_H_peg_50 : decode (mi_code n_H_peg) 50 = .ok (.aload_n 0, 1) := by decide +kernel
theorem d_H_peg_51 : decode (mi_code n_H_peg) 51 = .ok (.getfield 36, 3) := by decide +kernel
theorem d_H_peg_54 : decode (mi_code n_H_peg) 54 = .ok (.iload_n 1, 1) := by decide +kernel
theorem d_H_peg_55 : decode (mi_code n_H_peg) 55 = .ok (.aaload, 1) := by decide +kernel
theorem d_H_peg_56 : decode (mi_code n_H_peg) 56 = .ok (.invokespecial 211, 3) := by decide +kernel
theorem d_H_peg_59 : decode (mi_code n_H_peg) 59 = .ok (.aastore, 1) := by decide +kernel
theorem d_H_peg_60 : decode (mi_code n_H_peg) 60 = .ok (.aload_n 0, 1) := by decide +kernel
theorem d_H_peg_61 : decode (mi_code n_H_peg) 61 = .ok (.dup, 1) := by decide +kernel
theorem d_H_peg_62 : decode (mi_code n_H_peg) 62 = .ok (.getfield 206, 3) := by decide +kernel
theorem d_H_peg_65 : decode (mi_code n_H_peg) 65 = .ok (.dup_x1, 1) := by decide +kernel
theorem d_H_peg_66 : decode (mi_code n_H_peg) 66 = .ok (.iconst 1, 1) := by decide +kernel
theorem d_H_peg_67 : decode (mi_code n_H_peg) 67 = .ok (.iadd, 1) := by decide +kernel
theorem d_H_peg_68 : decode (mi_code n_H_peg) 68 = .ok (.putfield 206, 3) := by decide +kernel
theorem d_H_peg_71 : decode (mi_code n_H_peg) 71 = .ok (.ireturn, 1) := by decide +kernel
theorem d_H_pen_0 : decode (mi_code n_H_pen) 0 = .ok (.iload_n 1, 1) := by decide +kernel
theorem d_H_pen_1 : decode (mi_code n_H_pen) 1 = .ok (.iload_n 2, 1) := by decide +kernel
theorem d_H_pen_2 : decode (mi_code n_H_pen) 2 = .ok (.invokestatic 92, 3) := by decide +kernel
theorem d_H_pen_5 : decode (mi_code n_H_pen) 5 = .ok (.aload_n 0, 1) := by decide +kernel
theorem d_H_pen_6 : decode (mi_code n_H_pen) 6 = .ok (.iload_n 1, 1) := by decide +kernel
theorem d_H_pen_7 : decode (mi_code n_H_pen) 7 = .ok (.putfield 109, 3) := by decide +kernel
theorem d_H_pen_10 : decode (mi_code n_H_pen) 10 = .ok (.aload_n 0, 1) := by decide +kernel
theorem d_H_pen_11 : decode (mi_code n_H_pen) 11 = .ok (.iload_n 2, 1) := by decide +kernel
theorem d_H_pen_12 : decode (mi_code n_H_pen) 12 = .ok (.putfield 112, 3) := by decide +kernel
theorem d_H_pen_15 : decode (mi_code n_H_pen) 15 = .ok (.return_, 1) := by decide +kernel
theorem d_H_pictureOf_0 : decode (mi_code n_H_pictureOf) 0 = .ok (.aload_n 1, 1) := by decide +kernel
theorem d_H_pictureOf_1 : decode (mi_code n_H_pictureOf) 1 = .ok (.getfield 365, 3) := by decide +kernel
theorem d_H_pictureOf_4 : decode (mi_code n_H_pictureOf) 4 = .ok (.ifCond .ne 28, 3) := by decide +kernel
theorem d_H_pictureOf_7 : decode (mi_code n_H_pictureOf) 7 = .ok (.aload_n 1, 1) := by decide +kernel
theorem d_H_pictureOf_8 : decode (mi_code n_H_pictureOf) 8 = .ok (.getfield 371, 3) := by decide +kernel
theorem d_H_pictureOf_11 : decode (mi_code n_H_pictureOf) 11 = .ok (.aload_n 1, 1) := by decide +kernel
theorem d_H_pictureOf_12 : decode (mi_code n_H_pictureOf) 12 = .ok (.invokevirtual 374, 3) := by decide +kernel
theorem d_H_pictureOf_15 : decode (mi_code n_H_pictureOf) 15 = .ok (.aload_n 1, 1) := by decide +kernel
theorem d_H_pictureOf_16 : decode (mi_code n_H_pictureOf) 16 = .ok (.getfield 371, 3) := by decide +kernel
theorem d_H_pictureOf_19 : decode (mi_code n_H_pictureOf) 19 = .ok (.aload_n 1, 1) := by decide +kernel
theorem d_H_pictureOf_20 : decode (mi_code n_H_pictureOf) 20 = .ok (.aload_n 0, 1) := by decide +kernel
theorem d_H_pictureOf_21 : decode (mi_code n_H_pictureOf) 21 = .ok (.getfield 62, 3) := by decide +kernel
theorem d_H_pictureOf_24 : decode (mi_code n_H_pictureOf) 24 = .ok (.invokevirtual 378, 3) := by decide +kernel
theorem d_H_pictureOf_27 : decode (mi_code n_H_pictureOf) 27 = .ok (.aload_n 1, 1) := by decide +kernel
theorem d_H_pictureOf_28 : decode (mi_code n_H_pictureOf) 28 = .ok (.iconst 1, 1) := by decide +kernel
theorem d_H_pictureOf_29 : decode (mi_code n_H_pictureOf) 29 = .ok (.putfield 365, 3) := by decide +kernel
theorem d_H_pictureOf_32 : decode (mi_code n_H_pictureOf) 32 = .ok (.aload_n 1, 1) := by decide +kernel
theorem d_H_pictureOf_33 : decode (mi_code n_H_pictureOf) 33 = .ok (.getfield 371, 3) := by decide +kernel
theorem d_H_pictureOf_36 : decode (mi_code n_H_pictureOf) 36 = .ok (.areturn, 1) := by decide +kernel
theorem d_H_placeOf_0 : decode (mi_code n_H_placeOf) 0 = .ok (.iload_n 1, 1) := by decide +kernel
theorem d_H_placeOf_1 : decode (mi_code n_H_placeOf) 1 = .ok (.bipush 16, 2) := by decide +kernel
theorem d_H_placeOf_3 : decode (mi_code n_H_placeOf) 3 = .ok (.imul, 1) := by decide +kernel
theorem d_H_placeOf_4 : decode (mi_code n_H_placeOf) 4 = .ok (.iload_n 0, 1) := by decide +kernel
theorem d_H_placeOf_5 : decode (mi_code n_H_placeOf) 5 = .ok (.iadd, 1) := by decide +kernel
theorem d_H_placeOf_6 : decode (mi_code n_H_placeOf) 6 = .ok (.ireturn, 1) := by decide +kernel
theorem d_H_plainPoint_0 : decode (mi_code n_H_plainPoint) 0 = .ok (.iload_n 2, 1) := by decide +kernel
theorem d_H_plainPoint_1 : decode (mi_code n_H_plainPoint) 1 = .ok (.iload_n 3, 1) := by decide +kernel
theorem d_H_plainPoint_2 : decode (mi_code n_H_plainPoint) 2 = .ok (.invokestatic 343, 3) := by decide +kernel
theorem d_H_plainPoint_5 : decode (mi_code n_H_plainPoint) 5 = .ok (.ifCond .ne 5, 3) := by decide +kernel
theorem d_H_plainPoint_8 : decode (mi_code n_H_plainPoint) 8 = .ok (.iconst (-1), 1) := by decide +kernel
theorem d_H_plainPoint_9 : decode (mi_code n_H_plainPoint) 9 = .ok (.ireturn, 1) := by decide +kernel
theorem d_H_plainPoint_10 : decode (mi_code n_H_plainPoint) 10 = .ok (.aload_n 1, 1) := by decide +kernel
theorem d_H_plainPoint_11 : decode (mi_code n_H_plainPoint) 11 = .ok (.getfield 124, 3) := by decide +kernel
theorem d_H_plainPoint_14 : decode (mi_code n_H_plainPoint) 14 = .ok (.iconst 1, 1) := by decide +kernel
theorem d_H_plainPoint_15 : decode (mi_code n_H_plainPoint) 15 = .ok (.isub, 1) := by decide +kernel
theorem d_H_plainPoint_16 : decode (mi_code n_H_plainPoint) 16 = .ok (.istore 4, 2) := by decide +kernel
theorem d_H_plainPoint_18 : decode (mi_code n_H_plainPoint) 18 = .ok (.iload 4, 2) := by decide +kernel
theorem d_H_plainPoint_20 : decode (mi_code n_H_plainPoint) 20 = .ok (.ifCond .lt 35, 3) := by decide +kernel
theorem d_H_plainPoint_23 : decode (mi_code n_H_plainPoint) 23 = .ok (.aload_n 1, 1) := by decide +kernel
theorem d_H_plainPoint_24 : decode (mi_code n_H_plainPoint) 24 = .ok (.getfield 382, 3) := by decide +kernel
theorem d_H_plainPoint_27 : decode (mi_code n_H_plainPoint) 27 = .ok (.iload 4, 2) := by decide +kernel
theorem d_H_plainPoint_29 : decode (mi_code n_H_plainPoint) 29 = .ok (.aaload, 1) := by decide +kernel
theorem d_H_plainPoint_30 : decode (mi_code n_H_plainPoint) 30 = .ok (.iload_n 2, 1) := by decide +kernel
theorem d_H_plainPoint_31 : decode (mi_code n_H_plainPoint) 31 = .ok (.iload_n 3, 1) := by decide +kernel
theorem d_H_plainPoint_32 : decode (mi_code n_H_plainPoint) 32 = .ok (.invokevirtual 386, 3) := by decide +kernel
theorem d_H_plainPoint_35 : decode (mi_code n_H_plainPoint) 35 = .ok (.ifCond .eq 14, 3) := by decide +kernel
theorem d_H_plainPoint_38 : decode (mi_code n_H_plainPoint) 38 = .ok (.aload_n 1, 1) := by decide +kernel
theorem d_H_plainPoint_39 : decode (mi_code n_H_plainPoint) 39 = .ok (.getfield 382, 3) := by decide +kernel
theorem d_H_plainPoint_42 : decode (mi_code n_H_plainPoint) 42 = .ok (.iload 4, 2) := by decide +kernel
theorem d_H_plainPoint_44 : decode (mi_code n_H_plainPoint) 44 = .ok (.aaload, 1) := by decide +kernel
theorem d_H_plainPoint_45 : decode (mi_code n_H_plainPoint) 45 = .ok (.getfield 389, 3) := by decide +kernel
theorem d_H_plainPoint_48 : decode (mi_code n_H_plainPoint) 48 = .ok (.ireturn, 1) := by decide +kernel
theorem d_H_plainPoint_49 : decode (mi_code n_H_plainPoint) 49 = .ok (.iinc 4 (-1), 3) := by decide +kernel
