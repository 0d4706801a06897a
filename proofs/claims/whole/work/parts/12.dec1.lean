/-! DECODE ROWS -/
theorem d_H_plainPoint_52 : decode (mi_code n_H_plainPoint) 52 = .ok (.goto (-34), 3) := by decide +kernel
theorem d_H_plainPoint_55 : decode (mi_code n_H_plainPoint) 55 = .ok (.aload_n 1, 1) := by decide +kernel
theorem d_H_plainPoint_56 : decode (mi_code n_H_plainPoint) 56 = .ok (.getfield 131, 3) := by decide +kernel
theorem d_H_plainPoint_59 : decode (mi_code n_H_plainPoint) 59 = .ok (.ifCond .ne 5, 3) := by decide +kernel
theorem d_H_plainPoint_62 : decode (mi_code n_H_plainPoint) 62 = .ok (.iconst (-1), 1) := by decide +kernel
theorem d_H_plainPoint_63 : decode (mi_code n_H_plainPoint) 63 = .ok (.ireturn, 1) := by decide +kernel
theorem d_H_plainPoint_64 : decode (mi_code n_H_plainPoint) 64 = .ok (.aload_n 0, 1) := by decide +kernel
theorem d_H_plainPoint_65 : decode (mi_code n_H_plainPoint) 65 = .ok (.getfield 55, 3) := by decide +kernel
theorem d_H_plainPoint_68 : decode (mi_code n_H_plainPoint) 68 = .ok (.aload_n 1, 1) := by decide +kernel
theorem d_H_plainPoint_69 : decode (mi_code n_H_plainPoint) 69 = .ok (.invokevirtual 374, 3) := by decide +kernel
theorem d_H_plainPoint_72 : decode (mi_code n_H_plainPoint) 72 = .ok (.aload_n 0, 1) := by decide +kernel
theorem d_H_plainPoint_73 : decode (mi_code n_H_plainPoint) 73 = .ok (.getfield 62, 3) := by decide +kernel
theorem d_H_plainPoint_76 : decode (mi_code n_H_plainPoint) 76 = .ok (.aload_n 0, 1) := by decide +kernel
theorem d_H_plainPoint_77 : decode (mi_code n_H_plainPoint) 77 = .ok (.getfield 55, 3) := by decide +kernel
theorem d_H_plainPoint_80 : decode (mi_code n_H_plainPoint) 80 = .ok (.iload_n 2, 1) := by decide +kernel
theorem d_H_plainPoint_81 : decode (mi_code n_H_plainPoint) 81 = .ok (.iload_n 3, 1) := by decide +kernel
theorem d_H_plainPoint_82 : decode (mi_code n_H_plainPoint) 82 = .ok (.invokestatic 139, 3) := by decide +kernel
theorem d_H_plainPoint_85 : decode (mi_code n_H_plainPoint) 85 = .ok (.invokevirtual 392, 3) := by decide +kernel
theorem d_H_plainPoint_88 : decode (mi_code n_H_plainPoint) 88 = .ok (.aload_n 1, 1) := by decide +kernel
theorem d_H_plainPoint_89 : decode (mi_code n_H_plainPoint) 89 = .ok (.getfield 131, 3) := by decide +kernel
theorem d_H_plainPoint_92 : decode (mi_code n_H_plainPoint) 92 = .ok (.iconst 1, 1) := by decide +kernel
theorem d_H_plainPoint_93 : decode (mi_code n_H_plainPoint) 93 = .ok (.isub, 1) := by decide +kernel
theorem d_H_plainPoint_94 : decode (mi_code n_H_plainPoint) 94 = .ok (.istore 4, 2) := by decide +kernel
theorem d_H_plainPoint_96 : decode (mi_code n_H_plainPoint) 96 = .ok (.iload 4, 2) := by decide +kernel
theorem d_H_plainPoint_98 : decode (mi_code n_H_plainPoint) 98 = .ok (.ifCond .lt 36, 3) := by decide +kernel
theorem d_H_plainPoint_101 : decode (mi_code n_H_plainPoint) 101 = .ok (.aload_n 0, 1) := by decide +kernel
theorem d_H_plainPoint_102 : decode (mi_code n_H_plainPoint) 102 = .ok (.getfield 62, 3) := by decide +kernel
theorem d_H_plainPoint_105 : decode (mi_code n_H_plainPoint) 105 = .ok (.getfield 396, 3) := by decide +kernel
theorem d_H_plainPoint_108 : decode (mi_code n_H_plainPoint) 108 = .ok (.aload_n 1, 1) := by decide +kernel
theorem d_H_plainPoint_109 : decode (mi_code n_H_plainPoint) 109 = .ok (.getfield 399, 3) := by decide +kernel
theorem d_H_plainPoint_112 : decode (mi_code n_H_plainPoint) 112 = .ok (.iload 4, 2) := by decide +kernel
theorem d_H_plainPoint_114 : decode (mi_code n_H_plainPoint) 114 = .ok (.iaload, 1) := by decide +kernel
theorem d_H_plainPoint_115 : decode (mi_code n_H_plainPoint) 115 = .ok (.iaload, 1) := by decide +kernel
theorem d_H_plainPoint_116 : decode (mi_code n_H_plainPoint) 116 = .ok (.iconst 1, 1) := by decide +kernel
theorem d_H_plainPoint_117 : decode (mi_code n_H_plainPoint) 117 = .ok (.if_icmp .ne 11, 3) := by decide +kernel
theorem d_H_plainPoint_120 : decode (mi_code n_H_plainPoint) 120 = .ok (.aload_n 1, 1) := by decide +kernel
theorem d_H_plainPoint_121 : decode (mi_code n_H_plainPoint) 121 = .ok (.getfield 402, 3) := by decide +kernel
theorem d_H_plainPoint_124 : decode (mi_code n_H_plainPoint) 124 = .ok (.iload 4, 2) := by decide +kernel
theorem d_H_plainPoint_126 : decode (mi_code n_H_plainPoint) 126 = .ok (.iaload, 1) := by decide +kernel
theorem d_H_plainPoint_127 : decode (mi_code n_H_plainPoint) 127 = .ok (.ireturn, 1) := by decide +kernel
theorem d_H_plainPoint_128 : decode (mi_code n_H_plainPoint) 128 = .ok (.iinc 4 (-1), 3) := by decide +kernel
theorem d_H_plainPoint_131 : decode (mi_code n_H_plainPoint) 131 = .ok (.goto (-35), 3) := by decide +kernel
theorem d_H_plainPoint_134 : decode (mi_code n_H_plainPoint) 134 = .ok (.iconst (-1), 1) := by decide +kernel
theorem d_H_plainPoint_135 : decode (mi_code n_H_plainPoint) 135 = .ok (.ireturn, 1) := by decide +kernel
theorem d_H_point_0 : decode (mi_code n_H_point) 0 = .ok (.aload_n 0, 1) := by decide +kernel
theorem d_H_point_1 : decode (mi_code n_H_point) 1 = .ok (.iload_n 1, 1) := by decide +kernel
theorem d_H_point_2 : decode (mi_code n_H_point) 2 = .ok (.invokevirtual 75, 3) := by decide +kernel
theorem d_H_point_5 : decode (mi_code n_H_point) 5 = .ok (.iload_n 2, 1) := by decide +kernel
theorem d_H_point_6 : decode (mi_code n_H_point) 6 = .ok (.iload_n 3, 1) := by decide +kernel
theorem d_H_point_7 : decode (mi_code n_H_point) 7 = .ok (.invokestatic 92, 3) := by decide +kernel
theorem d_H_point_10 : decode (mi_code n_H_point) 10 = .ok (.aload_n 0, 1) := by decide +kernel
theorem d_H_point_11 : decode (mi_code n_H_point) 11 = .ok (.aload_n 0, 1) := by decide +kernel
theorem d_H_point_12 : decode (mi_code n_H_point) 12 = .ok (.getfield 11, 3) := by decide +kernel
theorem d_H_point_15 : decode (mi_code n_H_point) 15 = .ok (.iload_n 1, 1) := by decide +kernel
theorem d_H_point_16 : decode (mi_code n_H_point) 16 = .ok (.aaload, 1) := by decide +kernel
theorem d_H_point_17 : decode (mi_code n_H_point) 17 = .ok (.invokevirtual 268, 3) := by decide +kernel
theorem d_H_point_20 : decode (mi_code n_H_point) 20 = .ok (.getfield 283, 3) := by decide +kernel
theorem d_H_point_23 : decode (mi_code n_H_point) 23 = .ok (.iload_n 2, 1) := by decide +kernel
theorem d_H_point_24 : decode (mi_code n_H_point) 24 = .ok (.iload_n 3, 1) := by decide +kernel
theorem d_H_point_25 : decode (mi_code n_H_point) 25 = .ok (.invokestatic 139, 3) := by decide +kernel
theorem d_H_point_28 : decode (mi_code n_H_point) 28 = .ok (.iaload, 1) := by decide +kernel
theorem d_H_point_29 : decode (mi_code n_H_point) 29 = .ok (.ireturn, 1) := by decide +kernel
theorem d_H_scene_0 : decode (mi_code n_H_scene) 0 = .ok (.iload_n 2, 1) := by decide +kernel
theorem d_H_scene_1 : decode (mi_code n_H_scene) 1 = .ok (.invokestatic 159, 3) := by decide +kernel
theorem d_H_scene_4 : decode (mi_code n_H_scene) 4 = .ok (.iload_n 1, 1) := by decide +kernel
theorem d_H_scene_5 : decode (mi_code n_H_scene) 5 = .ok (.iconst 1, 1) := by decide +kernel
theorem d_H_scene_6 : decode (mi_code n_H_scene) 6 = .ok (.if_icmp .lt 9, 3) := by decide +kernel
theorem d_H_scene_9 : decode (mi_code n_H_scene) 9 = .ok (.iload_n 1, 1) := by decide +kernel
theorem d_H_scene_10 : decode (mi_code n_H_scene) 10 = .ok (.bipush 24, 2) := by decide +kernel
theorem d_H_scene_12 : decode (mi_code n_H_scene) 12 = .ok (.if_icmp .le 13, 3) := by decide +kernel
theorem d_H_scene_15 : decode (mi_code n_H_scene) 15 = .ok (.new 79, 3) := by decide +kernel
theorem d_H_scene_18 : decode (mi_code n_H_scene) 18 = .ok (.dup, 1) := by decide +kernel
theorem d_H_scene_19 : decode (mi_code n_H_scene) 19 = .ok (.ldc 164, 2) := by decide +kernel
theorem d_H_scene_21 : decode (mi_code n_H_scene) 21 = .ok (.invokespecial 83, 3) := by decide +kernel
theorem d_H_scene_24 : decode (mi_code n_H_scene) 24 = .ok (.athrow, 1) := by decide +kernel
theorem d_H_scene_25 : decode (mi_code n_H_scene) 25 = .ok (.aload_n 0, 1) := by decide +kernel
theorem d_H_scene_26 : decode (mi_code n_H_scene) 26 = .ok (.getfield 166, 3) := by decide +kernel
theorem d_H_scene_29 : decode (mi_code n_H_scene) 29 = .ok (.bipush 6, 2) := by decide +kernel
theorem d_H_scene_31 : decode (mi_code n_H_scene) 31 = .ok (.if_icmp .lt 13, 3) := by decide +kernel
theorem d_H_scene_34 : decode (mi_code n_H_scene) 34 = .ok (.new 134, 3) := by decide +kernel
theorem d_H_scene_37 : decode (mi_code n_H_scene) 37 = .ok (.dup, 1) := by decide +kernel
theorem d_H_scene_38 : decode (mi_code n_H_scene) 38 = .ok (.ldc 169, 2) := by decide +kernel
theorem d_H_scene_40 : decode (mi_code n_H_scene) 40 = .ok (.invokespecial 138, 3) := by decide +kernel
theorem d_H_scene_43 : decode (mi_code n_H_scene) 43 = .ok (.athrow, 1) := by decide +kernel
theorem d_H_scene_44 : decode (mi_code n_H_scene) 44 = .ok (.aload_n 0, 1) := by decide +kernel
theorem d_H_scene_45 : decode (mi_code n_H_scene) 45 = .ok (.getfield 21, 3) := by decide +kernel
theorem d_H_scene_48 : decode (mi_code n_H_scene) 48 = .ok (.aload_n 0, 1) := by decide +kernel
theorem d_H_scene_49 : decode (mi_code n_H_scene) 49 = .ok (.getfield 166, 3) := by decide +kernel
theorem d_H_scene_52 : decode (mi_code n_H_scene) 52 = .ok (.new 19, 3) := by decide +kernel
theorem d_H_scene_55 : decode (mi_code n_H_scene) 55 = .ok (.dup, 1) := by decide +kernel
theorem d_H_scene_56 : decode (mi_code n_H_scene) 56 = .ok (.iload_n 1, 1) := by decide +kernel
theorem d_H_scene_57 : decode (mi_code n_H_scene) 57 = .ok (.iload_n 2, 1) := by decide +kernel
theorem d_H_scene_58 : decode (mi_code n_H_scene) 58 = .ok (.invokespecial 171, 3) := by decide +kernel
theorem d_H_scene_61 : decode (mi_code n_H_scene) 61 = .ok (.aastore, 1) := by decide +kernel
theorem d_H_scene_62 : decode (mi_code n_H_scene) 62 = .ok (.aload_n 0, 1) := by decide +kernel
theorem d_H_scene_63 : decode (mi_code n_H_scene) 63 = .ok (.dup, 1) := by decide +kernel
theorem d_H_scene_64 : decode (mi_code n_H_scene) 64 = .ok (.getfield 166, 3) := by decide +kernel
theorem d_H_scene_67 : decode (mi_code n_H_scene) 67 = .ok (.dup_x1, 1) := by decide +kernel
theorem d_H_scene_68 : decode (mi_code n_H_scene) 68 = .ok (.iconst 1, 1) := by decide +kernel
theorem d_H_scene_69 : decode (mi_code n_H_scene) 69 = .ok (.iadd, 1) := by decide +kernel
theorem d_H_scene_70 : decode (mi_code n_H_scene) 70 = .ok (.putfield 166, 3) := by decide +kernel
theorem d_H_scene_73 : decode (mi_code n_H_scene) 73 = .ok (.ireturn, 1) := by decide +kernel
theorem d_H_seen_0 : decode (mi_code n_H_seen) 0 = .ok (.aload_n 0, 1) := by decide +kernel
theorem d_H_seen_1 : decode (mi_code n_H_seen) 1 = .ok (.iload_n 1, 1) := by decide +kernel
theorem d_H_seen_2 : decode (mi_code n_H_seen) 2 = .ok (.invokevirtual 173, 3) := by decide +kernel
theorem d_H_seen_5 : decode (mi_code n_H_seen) 5 = .ok (.aload_n 0, 1) := by decide +kernel
theorem d_H_seen_6 : decode (mi_code n_H_seen) 6 = .ok (.iload_n 1, 1) := by decide +kernel
theorem d_H_seen_7 : decode (mi_code n_H_seen) 7 = .ok (.iload_n 2, 1) := by decide +kernel
theorem d_H_seen_8 : decode (mi_code n_H_seen) 8 = .ok (.invokevirtual 179, 3) := by decide +kernel
theorem d_H_seen_11 : decode (mi_code n_H_seen) 11 = .ok (.iload_n 3, 1) := by decide +kernel
theorem d_H_seen_12 : decode (mi_code n_H_seen) 12 = .ok (.iload 4, 2) := by decide +kernel
theorem d_H_seen_14 : decode (mi_code n_H_seen) 14 = .ok (.invokestatic 92, 3) := by decide +kernel
theorem d_H_seen_17 : decode (mi_code n_H_seen) 17 = .ok (.aload_n 0, 1) := by decide +kernel
theorem d_H_seen_18 : decode (mi_code n_H_seen) 18 = .ok (.aload_n 0, 1) := by decide +kernel
theorem d_H_seen_19 : decode (mi_code n_H_seen) 19 = .ok (.getfield 21, 3) := by decide +kernel
theorem d_H_seen_22 : decode (mi_code n_H_seen) 22 = .ok (.iload_n 1, 1) := by decide +kernel
theorem d_H_seen_23 : decode (mi_code n_H_seen) 23 = .ok (.aaload, 1) := by decide +kernel
theorem d_H_seen_24 : decode (mi_code n_H_seen) 24 = .ok (.iload_n 2, 1) := by decide +kernel
theorem d_H_seen_25 : decode (mi_code n_H_seen) 25 = .ok (.invokevirtual 240, 3) := by decide +kernel
theorem d_H_seen_28 : decode (mi_code n_H_seen) 28 = .ok (.aload_n 0, 1) := by decide +kernel
theorem d_H_seen_29 : decode (mi_code n_H_seen) 29 = .ok (.getfield 49, 3) := by decide +kernel
theorem d_H_seen_32 : decode (mi_code n_H_seen) 32 = .ok (.iload_n 3, 1) := by decide +kernel
theorem d_H_seen_33 : decode (mi_code n_H_seen) 33 = .ok (.iload 4, 2) := by decide +kernel
theorem d_H_seen_35 : decode (mi_code n_H_seen) 35 = .ok (.invokestatic 139, 3) := by decide +kernel
theorem d_H_seen_38 : decode (mi_code n_H_seen) 38 = .ok (.iaload, 1) := by decide +kernel
theorem d_H_seen_39 : decode (mi_code n_H_seen) 39 = .ok (.ireturn, 1) := by decide +kernel
theorem d_H_seenAnew_0 : decode (mi_code n_H_seenAnew) 0 = .ok (.aload_n 0, 1) := by decide +kernel
theorem d_H_seenAnew_1 : decode (mi_code n_H_seenAnew) 1 = .ok (.iload_n 1, 1) := by decide +kernel
theorem d_H_seenAnew_2 : decode (mi_code n_H_seenAnew) 2 = .ok (.invokevirtual 173, 3) := by decide +kernel
theorem d_H_seenAnew_5 : decode (mi_code n_H_seenAnew) 5 = .ok (.aload_n 0, 1) := by decide +kernel
theorem d_H_seenAnew_6 : decode (mi_code n_H_seenAnew) 6 = .ok (.iload_n 1, 1) := by decide +kernel
theorem d_H_seenAnew_7 : decode (mi_code n_H_seenAnew) 7 = .ok (.iload_n 2, 1) := by decide +kernel
theorem d_H_seenAnew_8 : decode (mi_code n_H_seenAnew) 8 = .ok (.invokevirtual 179, 3) := by decide +kernel
theorem d_H_seenAnew_11 : decode (mi_code n_H_seenAnew) 11 = .ok (.iload_n 3, 1) := by decide +kernel
theorem d_H_seenAnew_12 : decode (mi_code n_H_seenAnew) 12 = .ok (.iload 4, 2) := by decide +kernel
theorem d_H_seenAnew_14 : decode (mi_code n_H_seenAnew) 14 = .ok (.invokestatic 92, 3) := by decide +kernel
theorem d_H_seenAnew_17 : decode (mi_code n_H_seenAnew) 17 = .ok (.aload_n 0, 1) := by decide +kernel
theorem d_H_seenAnew_18 : decode (mi_code n_H_seenAnew) 18 = .ok (.getfield 21, 3) := by decide +kernel
theorem d_H_seenAnew_21 : decode (mi_code n_H_seenAnew) 21 = .ok (.iload_n 1, 1) := by decide +kernel
theorem d_H_seenAnew_22 : decode (mi_code n_H_seenAnew) 22 = .ok (.aaload, 1) := by decide +kernel
theorem d_H_seenAnew_23 : decode (mi_code n_H_seenAnew) 23 = .ok (.astore 5, 2) := by decide +kernel
theorem d_H_seenAnew_25 : decode (mi_code n_H_seenAnew) 25 = .ok (.iconst 3, 1) := by decide +kernel
theorem d_H_seenAnew_26 : decode (mi_code n_H_seenAnew) 26 = .ok (.istore 6, 2) := by decide +kernel
theorem d_H_seenAnew_28 : decode (mi_code n_H_seenAnew) 28 = .ok (.iload 6, 2) := by decide +kernel
theorem d_H_seenAnew_30 : decode (mi_code n_H_seenAnew) 30 = .ok (.ifCond .lt 97, 3) := by decide +kernel
theorem d_H_seenAnew_33 : decode (mi_code n_H_seenAnew) 33 = .ok (.aload_n 0, 1) := by decide +kernel
theorem d_H_seenAnew_34 : decode (mi_code n_H_seenAnew) 34 = .ok (.aload 5, 2) := by decide +kernel
theorem d_H_seenAnew_36 : decode (mi_code n_H_seenAnew) 36 = .ok (.iload 6, 2) := by decide +kernel
theorem d_H_seenAnew_38 : decode (mi_code n_H_seenAnew) 38 = .ok (.iload_n 2, 1) := by decide +kernel
theorem d_H_seenAnew_39 : decode (mi_code n_H_seenAnew) 39 = .ok (.invokevirtual 286, 3) := by decide +kernel
theorem d_H_seenAnew_42 : decode (mi_code n_H_seenAnew) 42 = .ok (.istore 7, 2) := by decide +kernel
theorem d_H_seenAnew_44 : decode (mi_code n_H_seenAnew) 44 = .ok (.iload_n 3, 1) := by decide +kernel
theorem d_H_seenAnew_45 : decode (mi_code n_H_seenAnew) 45 = .ok (.aload 5, 2) := by decide +kernel
theorem d_H_seenAnew_47 : decode (mi_code n_H_seenAnew) 47 = .ok (.iload 6, 2) := by decide +kernel
theorem d_H_seenAnew_49 : decode (mi_code n_H_seenAnew) 49 = .ok (.iload_n 2, 1) := by decide +kernel
theorem d_H_seenAnew_50 : decode (mi_code n_H_seenAnew) 50 = .ok (.iconst 1, 1) := by decide +kernel
theorem d_H_seenAnew_51 : decode (mi_code n_H_seenAnew) 51 = .ok (.invokevirtual 290, 3) := by decide +kernel
theorem d_H_seenAnew_54 : decode (mi_code n_H_seenAnew) 54 = .ok (.isub, 1) := by decide +kernel
theorem d_H_seenAnew_55 : decode (mi_code n_H_seenAnew) 55 = .ok (.istore 8, 2) := by decide +kernel
theorem d_H_seenAnew_57 : decode (mi_code n_H_seenAnew) 57 = .ok (.iload 4, 2) := by decide +kernel
theorem d_H_seenAnew_59 : decode (mi_code n_H_seenAnew) 59 = .ok (.aload 5, 2) := by decide +kernel
theorem d_H_seenAnew_61 : decode (mi_code n_H_seenAnew) 61 = .ok (.iload 6, 2) := by decide +kernel
theorem d_H_seenAnew_63 : decode (mi_code n_H_seenAnew) 63 = .ok (.iload_n 2, 1) := by decide +kernel
theorem d_H_seenAnew_64 : decode (mi_code n_H_seenAnew) 64 = .ok (.iconst 0, 1) := by decide +kernel
theorem d_H_seenAnew_65 : decode (mi_code n_H_seenAnew) 65 = .ok (.invokevirtual 290, 3) := by decide +kernel
theorem d_H_seenAnew_68 : decode (mi_code n_H_seenAnew) 68 = .ok (.isub, 1) := by decide +kernel
theorem d_H_seenAnew_69 : decode (mi_code n_H_seenAnew) 69 = .ok (.istore 9, 2) := by decide +kernel
theorem d_H_seenAnew_71 : decode (mi_code n_H_seenAnew) 71 = .ok (.iload 7, 2) := by decide +kernel
theorem d_H_seenAnew_73 : decode (mi_code n_H_seenAnew) 73 = .ok (.iconst (-1), 1) := by decide +kernel
theorem d_H_seenAnew_74 : decode (mi_code n_H_seenAnew) 74 = .ok (.if_icmp .ne 7, 3) := by decide +kernel
theorem d_H_seenAnew_77 : decode (mi_code n_H_seenAnew) 77 = .ok (.iconst (-1), 1) := by decide +kernel
theorem d_H_seenAnew_78 : decode (mi_code n_H_seenAnew) 78 = .ok (.goto 18, 3) := by decide +kernel
theorem d_H_seenAnew_81 : decode (mi_code n_H_seenAnew) 81 = .ok (.aload_n 0, 1) := by decide +kernel
theorem d_H_seenAnew_82 : decode (mi_code n_H_seenAnew) 82 = .ok (.aload_n 0, 1) := by decide +kernel
theorem d_H_seenAnew_83 : decode (mi_code n_H_seenAnew) 83 = .ok (.getfield 11, 3) := by decide +kernel
theorem d_H_seenAnew_86 : decode (mi_code n_H_seenAnew) 86 = .ok (.iload 7, 2) := by decide +kernel
theorem d_H_seenAnew_88 : decode (mi_code n_H_seenAnew) 88 = .ok (.aaload, 1) := by decide +kernel
theorem d_H_seenAnew_89 : decode (mi_code n_H_seenAnew) 89 = .ok (.iload 8, 2) := by decide +kernel
theorem d_H_seenAnew_91 : decode (mi_code n_H_seenAnew) 91 = .ok (.iload 9, 2) := by decide +kernel
theorem d_H_seenAnew_93 : decode (mi_code n_H_seenAnew) 93 = .ok (.invokevirtual 294, 3) := by decide +kernel
theorem d_H_seenAnew_96 : decode (mi_code n_H_seenAnew) 96 = .ok (.istore 10, 2) := by decide +kernel
theorem d_H_seenAnew_98 : decode (mi_code n_H_seenAnew) 98 = .ok (.iload 10, 2) := by decide +kernel
theorem d_H_seenAnew_100 : decode (mi_code n_H_seenAnew) 100 = .ok (.iconst (-1), 1) := by decide +kernel
theorem d_H_seenAnew_101 : decode (mi_code n_H_seenAnew) 101 = .ok (.if_icmp .eq 20, 3) := by decide +kernel
theorem d_H_seenAnew_104 : decode (mi_code n_H_seenAnew) 104 = .ok (.aload_n 0, 1) := by decide +kernel
theorem d_H_seenAnew_105 : decode (mi_code n_H_seenAnew) 105 = .ok (.getfield 15, 3) := by decide +kernel
theorem d_H_seenAnew_108 : decode (mi_code n_H_seenAnew) 108 = .ok (.aload 5, 2) := by decide +kernel
theorem d_H_seenAnew_110 : decode (mi_code n_H_seenAnew) 110 = .ok (.getfield 298, 3) := by decide +kernel
theorem d_H_seenAnew_113 : decode (mi_code n_H_seenAnew) 113 = .ok (.bipush 8, 2) := by decide +kernel
theorem d_H_seenAnew_115 : decode (mi_code n_H_seenAnew) 115 = .ok (.imul, 1) := by decide +kernel
theorem d_H_seenAnew_116 : decode (mi_code n_H_seenAnew) 116 = .ok (.iload 10, 2) := by decide +kernel
theorem d_H_seenAnew_118 : decode (mi_code n_H_seenAnew) 118 = .ok (.iadd, 1) := by decide +kernel
theorem d_H_seenAnew_119 : decode (mi_code n_H_seenAnew) 119 = .ok (.iaload, 1) := by decide +kernel
theorem d_H_seenAnew_120 : decode (mi_code n_H_seenAnew) 120 = .ok (.ireturn, 1) := by decide +kernel
theorem d_H_seenAnew_121 : decode (mi_code n_H_seenAnew) 121 = .ok (.iinc 6 (-1), 3) := by decide +kernel
theorem d_H_seenAnew_124 : decode (mi_code n_H_seenAnew) 124 = .ok (.goto (-96), 3) := by decide +kernel
theorem d_H_seenAnew_127 : decode (mi_code n_H_seenAnew) 127 = .ok (.iconst 0, 1) := by decide +kernel
theorem d_H_seenAnew_128 : decode (mi_code n_H_seenAnew) 128 = .ok (.ireturn, 1) := by decide +kernel
theorem d_H_shoot_0 : decode (mi_code n_H_shoot) 0 = .ok (.aload_n 0, 1) := by decide +kernel
theorem d_H_shoot_1 : decode (mi_code n_H_shoot) 1 = .ok (.iload_n 1, 1) := by decide +kernel
theorem d_H_shoot_2 : decode (mi_code n_H_shoot) 2 = .ok (.invokevirtual 173, 3) := by decide +kernel
theorem d_H_shoot_5 : decode (mi_code n_H_shoot) 5 = .ok (.aload_n 0, 1) := by decide +kernel
theorem d_H_shoot_6 : decode (mi_code n_H_shoot) 6 = .ok (.getfield 21, 3) := by decide +kernel
theorem d_H_shoot_9 : decode (mi_code n_H_shoot) 9 = .ok (.iload_n 1, 1) := by decide +kernel
theorem d_H_shoot_10 : decode (mi_code n_H_shoot) 10 = .ok (.aaload, 1) := by decide +kernel
theorem d_H_shoot_11 : decode (mi_code n_H_shoot) 11 = .ok (.astore_n 2, 1) := by decide +kernel
theorem d_H_shoot_12 : decode (mi_code n_H_shoot) 12 = .ok (.iconst 0, 1) := by decide +kernel
theorem d_H_shoot_13 : decode (mi_code n_H_shoot) 13 = .ok (.istore_n 3, 1) := by decide +kernel
theorem d_H_shoot_14 : decode (mi_code n_H_shoot) 14 = .ok (.iconst 0, 1) := by decide +kernel
theorem d_H_shoot_15 : decode (mi_code n_H_shoot) 15 = .ok (.istore 4, 2) := by decide +kernel
theorem d_H_shoot_17 : decode (mi_code n_H_shoot) 17 = .ok (.iload 4, 2) := by decide +kernel
theorem d_H_shoot_19 : decode (mi_code n_H_shoot) 19 = .ok (.aload_n 2, 1) := by decide +kernel
theorem d_H_shoot_20 : decode (mi_code n_H_shoot) 20 = .ok (.getfield 184, 3) := by decide +kernel
theorem d_H_shoot_23 : decode (mi_code n_H_shoot) 23 = .ok (.if_icmp .ge 42, 3) := by decide +kernel
theorem d_H_shoot_26 : decode (mi_code n_H_shoot) 26 = .ok (.aload_n 0, 1) := by decide +kernel
theorem d_H_shoot_27 : decode (mi_code n_H_shoot) 27 = .ok (.aload_n 2, 1) := by decide +kernel
theorem d_H_shoot_28 : decode (mi_code n_H_shoot) 28 = .ok (.iload 4, 2) := by decide +kernel
theorem d_H_shoot_30 : decode (mi_code n_H_shoot) 30 = .ok (.invokevirtual 240, 3) := by decide +kernel
theorem d_H_shoot_33 : decode (mi_code n_H_shoot) 33 = .ok (.aload_n 2, 1) := by decide +kernel
theorem d_H_shoot_34 : decode (mi_code n_H_shoot) 34 = .ok (.iload 4, 2) := by decide +kernel
theorem d_H_shoot_36 : decode (mi_code n_H_shoot) 36 = .ok (.aload_n 0, 1) := by decide +kernel
theorem d_H_shoot_37 : decode (mi_code n_H_shoot) 37 = .ok (.getfield 49, 3) := by decide +kernel
theorem d_H_shoot_40 : decode (mi_code n_H_shoot) 40 = .ok (.invokevirtual 244, 3) := by decide +kernel
theorem d_H_shoot_43 : decode (mi_code n_H_shoot) 43 = .ok (.ifCond .ne 16, 3) := by decide +kernel
theorem d_H_shoot_46 : decode (mi_code n_H_shoot) 46 = .ok (.aload_n 2, 1) := by decide +kernel
theorem d_H_shoot_47 : decode (mi_code n_H_shoot) 47 = .ok (.iload 4, 2) := by decide +kernel
theorem d_H_shoot_49 : decode (mi_code n_H_shoot) 49 = .ok (.aload_n 0, 1) := by decide +kernel
theorem d_H_shoot_50 : decode (mi_code n_H_shoot) 50 = .ok (.getfield 49, 3) := by decide +kernel
theorem d_H_shoot_53 : decode (mi_code n_H_shoot) 53 = .ok (.invokevirtual 248, 3) := by decide +kernel
theorem d_H_shoot_56 : decode (mi_code n_H_shoot) 56 = .ok (.iinc 3 1, 3) := by decide +kernel
theorem d_H_shoot_59 : decode (mi_code n_H_shoot) 59 = .ok (.iinc 4 1, 3) := by decide +kernel
theorem d_H_shoot_62 : decode (mi_code n_H_shoot) 62 = .ok (.goto (-45), 3) := by decide +kernel
theorem d_H_shoot_65 : decode (mi_code n_H_shoot) 65 = .ok (.iload_n 3, 1) := by decide +kernel
theorem d_H_shoot_66 : decode (mi_code n_H_shoot) 66 = .ok (.ireturn, 1) := by decide +kernel
theorem d_H_shot_0 : decode (mi_code n_H_shot) 0 = .ok (.aload_n 0, 1) := by decide +kernel
theorem d_H_shot_1 : decode (mi_code n_H_shot) 1 = .ok (.iload_n 1, 1) := by decide +kernel
theorem d_H_shot_2 : decode (mi_code n_H_shot) 2 = .ok (.invokevirtual 173, 3) := by decide +kernel
theorem d_H_shot_5 : decode (mi_code n_H_shot) 5 = .ok (.aload_n 0, 1) := by decide +kernel
theorem d_H_shot_6 : decode (mi_code n_H_shot) 6 = .ok (.iload_n 1, 1) := by decide +kernel
theorem d_H_shot_7 : decode (mi_code n_H_shot) 7 = .ok (.iload_n 2, 1) := by decide +kernel
theorem d_H_shot_8 : decode (mi_code n_H_shot) 8 = .ok (.invokevirtual 179, 3) := by decide +kernel
theorem d_H_shot_11 : decode (mi_code n_H_shot) 11 = .ok (.iload_n 3, 1) := by decide +kernel
theorem d_H_shot_12 : decode (mi_code n_H_shot) 12 = .ok (.iload 4, 2) := by decide +kernel
theorem d_H_shot_14 : decode (mi_code n_H_shot) 14 = .ok (.invokestatic 92, 3) := by decide +kernel
theorem d_H_shot_17 : decode (mi_code n_H_shot) 17 = .ok (.aload_n 0, 1) := by decide +kernel
theorem d_H_shot_18 : decode (mi_code n_H_shot) 18 = .ok (.getfield 21, 3) := by decide +kernel
theorem d_H_shot_21 : decode (mi_code n_H_shot) 21 = .ok (.iload_n 1, 1) := by decide +kernel
theorem d_H_shot_22 : decode (mi_code n_H_shot) 22 = .ok (.aaload, 1) := by decide +kernel
theorem d_H_shot_23 : decode (mi_code n_H_shot) 23 = .ok (.getfield 301, 3) := by decide +kernel
theorem d_H_shot_26 : decode (mi_code n_H_shot) 26 = .ok (.iload_n 2, 1) := by decide +kernel
theorem d_H_shot_27 : decode (mi_code n_H_shot) 27 = .ok (.sipush 192, 3) := by decide +kernel
theorem d_H_shot_30 : decode (mi_code n_H_shot) 30 = .ok (.imul, 1) := by decide +kernel
theorem d_H_shot_31 : decode (mi_code n_H_shot) 31 = .ok (.iload_n 3, 1) := by decide +kernel
theorem d_H_shot_32 : decode (mi_code n_H_shot) 32 = .ok (.iload 4, 2) := by decide +kernel
theorem d_H_shot_34 : decode (mi_code n_H_shot) 34 = .ok (.invokestatic 139, 3) := by decide +kernel
theorem d_H_shot_37 : decode (mi_code n_H_shot) 37 = .ok (.iadd, 1) := by decide +kernel
theorem d_H_shot_38 : decode (mi_code n_H_shot) 38 = .ok (.iaload, 1) := by decide +kernel
theorem d_H_shot_39 : decode (mi_code n_H_shot) 39 = .ok (.ireturn, 1) := by decide +kernel
theorem d_H_speaks_0 : decode (mi_code n_H_speaks) 0 = .ok (.aload_n 0, 1) := by decide +kernel
theorem d_H_speaks_1 : decode (mi_code n_H_speaks) 1 = .ok (.iload_n 1, 1) := by decide +kernel
theorem d_H_speaks_2 : decode (mi_code n_H_speaks) 2 = .ok (.invokevirtual 173, 3) := by decide +kernel
theorem d_H_speaks_5 : decode (mi_code n_H_speaks) 5 = .ok (.iload_n 2, 1) := by decide +kernel
theorem d_H_speaks_6 : decode (mi_code n_H_speaks) 6 = .ok (.invokestatic 176, 3) := by decide +kernel
theorem d_H_speaks_9 : decode (mi_code n_H_speaks) 9 = .ok (.aload_n 0, 1) := by decide +kernel
theorem d_H_speaks_10 : decode (mi_code n_H_speaks) 10 = .ok (.getfield 21, 3) := by decide +kernel
theorem d_H_speaks_13 : decode (mi_code n_H_speaks) 13 = .ok (.iload_n 1, 1) := by decide +kernel
theorem d_H_speaks_14 : decode (mi_code n_H_speaks) 14 = .ok (.aaload, 1) := by decide +kernel
theorem d_H_speaks_15 : decode (mi_code n_H_speaks) 15 = .ok (.getfield 199, 3) := by decide +kernel
theorem d_H_speaks_18 : decode (mi_code n_H_speaks) 18 = .ok (.astore_n 3, 1) := by decide +kernel
theorem d_H_speaks_19 : decode (mi_code n_H_speaks) 19 = .ok (.aload_n 3, 1) := by decide +kernel
theorem d_H_speaks_20 : decode (mi_code n_H_speaks) 20 = .ok (.iload_n 2, 1) := by decide +kernel
theorem d_H_speaks_21 : decode (mi_code n_H_speaks) 21 = .ok (.aload_n 3, 1) := by decide +kernel
theorem d_H_speaks_22 : decode (mi_code n_H_speaks) 22 = .ok (.iload_n 2, 1) := by decide +kernel
theorem d_H_speaks_23 : decode (mi_code n_H_speaks) 23 = .ok (.baload, 1) := by decide +kernel
theorem d_H_speaks_24 : decode (mi_code n_H_speaks) 24 = .ok (.ifCond .ne 7, 3) := by decide +kernel
theorem d_H_speaks_27 : decode (mi_code n_H_speaks) 27 = .ok (.iconst 1, 1) := by decide +kernel
theorem d_H_speaks_28 : decode (mi_code n_H_speaks) 28 = .ok (.goto 4, 3) := by decide +kernel
theorem d_H_speaks_31 : decode (mi_code n_H_speaks) 31 = .ok (.iconst 0, 1) := by decide +kernel
theorem d_H_speaks_32 : decode (mi_code n_H_speaks) 32 = .ok (.bastore, 1) := by decide +kernel
theorem d_H_speaks_33 : decode (mi_code n_H_speaks) 33 = .ok (.aload_n 3, 1) := by decide +kernel
theorem d_H_speaks_34 : decode (mi_code n_H_speaks) 34 = .ok (.iload_n 2, 1) := by decide +kernel
theorem d_H_speaks_35 : decode (mi_code n_H_speaks) 35 = .ok (.baload, 1) := by decide +kernel
theorem d_H_speaks_36 : decode (mi_code n_H_speaks) 36 = .ok (.ireturn, 1) := by decide +kernel
theorem d_H_splice_0 : decode (mi_code n_H_splice) 0 = .ok (.aload_n 0, 1) := by decide +kernel
theorem d_H_splice_1 : decode (mi_code n_H_splice) 1 = .ok (.iload_n 1, 1) := by decide +kernel
theorem d_H_splice_2 : decode (mi_code n_H_splice) 2 = .ok (.invokevirtual 173, 3) := by decide +kernel
theorem d_H_splice_5 : decode (mi_code n_H_splice) 5 = .ok (.aload_n 0, 1) := by decide +kernel
theorem d_H_splice_6 : decode (mi_code n_H_splice) 6 = .ok (.getfield 259, 3) := by decide +kernel
theorem d_H_splice_9 : decode (mi_code n_H_splice) 9 = .ok (.bipush 10, 2) := by decide +kernel
theorem d_H_splice_11 : decode (mi_code n_H_splice) 11 = .ok (.if_icmp .lt 14, 3) := by decide +kernel
theorem d_H_splice_14 : decode (mi_code n_H_splice) 14 = .ok (.new 134, 3) := by decide +kernel
theorem d_H_splice_17 : decode (mi_code n_H_splice) 17 = .ok (.dup, 1) := by decide +kernel
theorem d_H_splice_18 : decode (mi_code n_H_splice) 18 = .ok (.ldc_w 262, 3) := by decide +kernel
theorem d_H_splice_21 : decode (mi_code n_H_splice) 21 = .ok (.invokespecial 138, 3) := by decide +kernel
theorem d_H_splice_24 : decode (mi_code n_H_splice) 24 = .ok (.athrow, 1) := by decide +kernel
theorem d_H_splice_25 : decode (mi_code n_H_splice) 25 = .ok (.aload_n 0, 1) := by decide +kernel
theorem d_H_splice_26 : decode (mi_code n_H_splice) 26 = .ok (.getfield 46, 3) := by decide +kernel
theorem d_H_splice_29 : decode (mi_code n_H_splice) 29 = .ok (.aload_n 0, 1) := by decide +kernel
theorem d_H_splice_30 : decode (mi_code n_H_splice) 30 = .ok (.getfield 259, 3) := by decide +kernel
theorem d_H_splice_33 : decode (mi_code n_H_splice) 33 = .ok (.iload_n 1, 1) := by decide +kernel
theorem d_H_splice_34 : decode (mi_code n_H_splice) 34 = .ok (.iastore, 1) := by decide +kernel
theorem d_H_splice_35 : decode (mi_code n_H_splice) 35 = .ok (.aload_n 0, 1) := by decide +kernel
theorem d_H_splice_36 : decode (mi_code n_H_splice) 36 = .ok (.dup, 1) := by decide +kernel
theorem d_H_splice_37 : decode (mi_code n_H_splice) 37 = .ok (.getfield 259, 3) := by decide +kernel
theorem d_H_splice_40 : decode (mi_code n_H_splice) 40 = .ok (.iconst 1, 1) := by decide +kernel
theorem d_H_splice_41 : decode (mi_code n_H_splice) 41 = .ok (.iadd, 1) := by decide +kernel
theorem d_H_splice_42 : decode (mi_code n_H_splice) 42 = .ok (.putfield 259, 3) := by decide +kernel
theorem d_H_splice_45 : decode (mi_code n_H_splice) 45 = .ok (.aload_n 0, 1) := by decide +kernel
theorem d_H_splice_46 : decode (mi_code n_H_splice) 46 = .ok (.invokevirtual 264, 3) := by decide +kernel
theorem d_H_splice_49 : decode (mi_code n_H_splice) 49 = .ok (.ireturn, 1) := by decide +kernel
theorem d_H_stale_0 : decode (mi_code n_H_stale) 0 = .ok (.aload_n 0, 1) := by decide +kernel
theorem d_H_stale_1 : decode (mi_code n_H_stale) 1 = .ok (.iload_n 1, 1) := by decide +kernel
theorem d_H_stale_2 : decode (mi_code n_H_stale) 2 = .ok (.invokevirtual 173, 3) := by decide +kernel
theorem d_H_stale_5 : decode (mi_code n_H_stale) 5 = .ok (.aload_n 0, 1) := by decide +kernel
theorem d_H_stale_6 : decode (mi_code n_H_stale) 6 = .ok (.getfield 21, 3) := by decide +kernel
theorem d_H_stale_9 : decode (mi_code n_H_stale) 9 = .ok (.iload_n 1, 1) := by decide +kernel
theorem d_H_stale_10 : decode (mi_code n_H_stale) 10 = .ok (.aaload, 1) := by decide +kernel
theorem d_H_stale_11 : decode (mi_code n_H_stale) 11 = .ok (.astore_n 2, 1) := by decide +kernel
theorem d_H_stale_12 : decode (mi_code n_H_stale) 12 = .ok (.iconst 0, 1) := by decide +kernel
theorem d_H_stale_13 : decode (mi_code n_H_stale) 13 = .ok (.istore_n 3, 1) := by decide +kernel
theorem d_H_stale_14 : decode (mi_code n_H_stale) 14 = .ok (.iconst 0, 1) := by decide +kernel
theorem d_H_stale_15 : decode (mi_code n_H_stale) 15 = .ok (.istore 4, 2) := by decide +kernel
theorem d_H_stale_17 : decode (mi_code n_H_stale) 17 = .ok (.iload 4, 2) := by decide +kernel
theorem d_H_stale_19 : decode (mi_code n_H_stale) 19 = .ok (.aload_n 2, 1) := by decide +kernel
theorem d_H_stale_20 : decode (mi_code n_H_stale) 20 = .ok (.getfield 184, 3) := by decide +kernel
theorem d_H_stale_23 : decode (mi_code n_H_stale) 23 = .ok (.if_icmp .ge 32, 3) := by decide +kernel
theorem d_H_stale_26 : decode (mi_code n_H_stale) 26 = .ok (.aload_n 0, 1) := by decide +kernel
theorem d_H_stale_27 : decode (mi_code n_H_stale) 27 = .ok (.aload_n 2, 1) := by decide +kernel
theorem d_H_stale_28 : decode (mi_code n_H_stale) 28 = .ok (.iload 4, 2) := by decide +kernel
theorem d_H_stale_30 : decode (mi_code n_H_stale) 30 = .ok (.invokevirtual 240, 3) := by decide +kernel
theorem d_H_stale_33 : decode (mi_code n_H_stale) 33 = .ok (.aload_n 2, 1) := by decide +kernel
theorem d_H_stale_34 : decode (mi_code n_H_stale) 34 = .ok (.iload 4, 2) := by decide +kernel
theorem d_H_stale_36 : decode (mi_code n_H_stale) 36 = .ok (.aload_n 0, 1) := by decide +kernel
theorem d_H_stale_37 : decode (mi_code n_H_stale) 37 = .ok (.getfield 49, 3) := by decide +kernel
theorem d_H_stale_40 : decode (mi_code n_H_stale) 40 = .ok (.invokevirtual 244, 3) := by decide +kernel
theorem d_H_stale_43 : decode (mi_code n_H_stale) 43 = .ok (.ifCond .ne 6, 3) := by decide +kernel
theorem d_H_stale_46 : decode (mi_code n_H_stale) 46 = .ok (.iinc 3 1, 3) := by decide +kernel
theorem d_H_stale_49 : decode (mi_code n_H_stale) 49 = .ok (.iinc 4 1, 3) := by decide +kernel
theorem d_H_stale_52 : decode (mi_code n_H_stale) 52 = .ok (.goto (-35), 3) := by decide +kernel
theorem d_H_stale_55 : decode (mi_code n_H_stale) 55 = .ok (.iload_n 3, 1) := by decide +kernel
theorem d_H_stale_56 : decode (mi_code n_H_stale) 56 = .ok (.ireturn, 1) := by decide +kernel
theorem d_H_stroke_0 : decode (mi_code n_H_stroke) 0 = .ok (.aload_n 0, 1) := by decide +kernel
theorem d_H_stroke_1 : decode (mi_code n_H_stroke) 1 = .ok (.iload_n 1, 1) := by decide +kernel
theorem d_H_stroke_2 : decode (mi_code n_H_stroke) 2 = .ok (.invokevirtual 75, 3) := by decide +kernel
theorem d_H_stroke_5 : decode (mi_code n_H_stroke) 5 = .ok (.iload_n 3, 1) := by decide +kernel
theorem d_H_stroke_6 : decode (mi_code n_H_stroke) 6 = .ok (.iload 4, 2) := by decide +kernel
theorem d_H_stroke_8 : decode (mi_code n_H_stroke) 8 = .ok (.invokestatic 92, 3) := by decide +kernel
theorem d_H_stroke_11 : decode (mi_code n_H_stroke) 11 = .ok (.iload 5, 2) := by decide +kernel
theorem d_H_stroke_13 : decode (mi_code n_H_stroke) 13 = .ok (.invokestatic 96, 3) := by decide +kernel
theorem d_H_stroke_16 : decode (mi_code n_H_stroke) 16 = .ok (.iload_n 2, 1) := by decide +kernel
theorem d_H_stroke_17 : decode (mi_code n_H_stroke) 17 = .ok (.invokestatic 99, 3) := by decide +kernel
theorem d_H_stroke_20 : decode (mi_code n_H_stroke) 20 = .ok (.aload_n 0, 1) := by decide +kernel
theorem d_H_stroke_21 : decode (mi_code n_H_stroke) 21 = .ok (.iload_n 1, 1) := by decide +kernel
theorem d_H_stroke_22 : decode (mi_code n_H_stroke) 22 = .ok (.invokevirtual 102, 3) := by decide +kernel
theorem d_H_stroke_25 : decode (mi_code n_H_stroke) 25 = .ok (.aload_n 0, 1) := by decide +kernel
theorem d_H_stroke_26 : decode (mi_code n_H_stroke) 26 = .ok (.getfield 11, 3) := by decide +kernel
theorem d_H_stroke_29 : decode (mi_code n_H_stroke) 29 = .ok (.iload_n 1, 1) := by decide +kernel
theorem d_H_stroke_30 : decode (mi_code n_H_stroke) 30 = .ok (.aaload, 1) := by decide +kernel
theorem d_H_stroke_31 : decode (mi_code n_H_stroke) 31 = .ok (.iload_n 2, 1) := by decide +kernel
theorem d_H_stroke_32 : decode (mi_code n_H_stroke) 32 = .ok (.invokevirtual 105, 3) := by decide +kernel
theorem d_H_stroke_35 : decode (mi_code n_H_stroke) 35 = .ok (.aload_n 0, 1) := by decide +kernel
theorem d_H_stroke_36 : decode (mi_code n_H_stroke) 36 = .ok (.getfield 109, 3) := by decide +kernel
theorem d_H_stroke_39 : decode (mi_code n_H_stroke) 39 = .ok (.aload_n 0, 1) := by decide +kernel
theorem d_H_stroke_40 : decode (mi_code n_H_stroke) 40 = .ok (.getfield 112, 3) := by decide +kernel
theorem d_H_stroke_43 : decode (mi_code n_H_stroke) 43 = .ok (.iload_n 3, 1) := by decide +kernel
theorem d_H_stroke_44 : decode (mi_code n_H_stroke) 44 = .ok (.iload 4, 2) := by decide +kernel
theorem d_H_stroke_46 : decode (mi_code n_H_stroke) 46 = .ok (.iload 5, 2) := by decide +kernel
theorem d_H_stroke_48 : decode (mi_code n_H_stroke) 48 = .ok (.invokevirtual 115, 3) := by decide +kernel
theorem d_H_stroke_51 : decode (mi_code n_H_stroke) 51 = .ok (.aload_n 0, 1) := by decide +kernel
theorem d_H_stroke_52 : decode (mi_code n_H_stroke) 52 = .ok (.iload_n 3, 1) := by decide +kernel
theorem d_H_stroke_53 : decode (mi_code n_H_stroke) 53 = .ok (.putfield 109, 3) := by decide +kernel
theorem d_H_stroke_56 : decode (mi_code n_H_stroke) 56 = .ok (.aload_n 0, 1) := by decide +kernel
theorem d_H_stroke_57 : decode (mi_code n_H_stroke) 57 = .ok (.iload 4, 2) := by decide +kernel
theorem d_H_stroke_59 : decode (mi_code n_H_stroke) 59 = .ok (.putfield 112, 3) := by decide +kernel
theorem d_H_stroke_62 : decode (mi_code n_H_stroke) 62 = .ok (.aload_n 0, 1) := by decide +kernel
theorem d_H_stroke_63 : decode (mi_code n_H_stroke) 63 = .ok (.iload_n 1, 1) := by decide +kernel
theorem d_H_stroke_64 : decode (mi_code n_H_stroke) 64 = .ok (.invokevirtual 121, 3) := by decide +kernel
theorem d_H_stroke_67 : decode (mi_code n_H_stroke) 67 = .ok (.aload_n 0, 1) := by decide +kernel
theorem d_H_stroke_68 : decode (mi_code n_H_stroke) 68 = .ok (.getfield 11, 3) := by decide +kernel
theorem d_H_stroke_71 : decode (mi_code n_H_stroke) 71 = .ok (.iload_n 1, 1) := by decide +kernel
theorem d_H_stroke_72 : decode (mi_code n_H_stroke) 72 = .ok (.aaload, 1) := by decide +kernel
theorem d_H_stroke_73 : decode (mi_code n_H_stroke) 73 = .ok (.getfield 124, 3) := by decide +kernel
theorem d_H_stroke_76 : decode (mi_code n_H_stroke) 76 = .ok (.ireturn, 1) := by decide +kernel
theorem d_H_voice_0 : decode (mi_code n_H_voice) 0 = .ok (.aload_n 0, 1) := by decide +kernel
theorem d_H_voice_1 : decode (mi_code n_H_voice) 1 = .ok (.iload_n 1, 1) := by decide +kernel
theorem d_H_voice_2 : decode (mi_code n_H_voice) 2 = .ok (.invokevirtual 173, 3) := by decide +kernel
theorem d_H_voice_5 : decode (mi_code n_H_voice) 5 = .ok (.aload_n 0, 1) := by decide +kernel
theorem d_H_voice_6 : decode (mi_code n_H_voice) 6 = .ok (.iload_n 1, 1) := by decide +kernel
theorem d_H_voice_7 : decode (mi_code n_H_voice) 7 = .ok (.iload_n 2, 1) := by decide +kernel
theorem d_H_voice_8 : decode (mi_code n_H_voice) 8 = .ok (.invokevirtual 179, 3) := by decide +kernel
theorem d_H_voice_11 : decode (mi_code n_H_voice) 11 = .ok (.iload_n 3, 1) := by decide +kernel
theorem d_H_voice_12 : decode (mi_code n_H_voice) 12 = .ok (.iconst (-1), 1) := by decide +kernel
theorem d_H_voice_13 : decode (mi_code n_H_voice) 13 = .ok (.if_icmp .eq 7, 3) := by decide +kernel
theorem d_H_voice_16 : decode (mi_code n_H_voice) 16 = .ok (.iload_n 3, 1) := by decide +kernel
theorem d_H_voice_17 : decode (mi_code n_H_voice) 17 = .ok (.invokestatic 190, 3) := by decide +kernel
theorem d_H_voice_20 : decode (mi_code n_H_voice) 20 = .ok (.aload_n 0, 1) := by decide +kernel
theorem d_H_voice_21 : decode (mi_code n_H_voice) 21 = .ok (.getfield 21, 3) := by decide +kernel
theorem d_H_voice_24 : decode (mi_code n_H_voice) 24 = .ok (.iload_n 1, 1) := by decide +kernel
theorem d_H_voice_25 : decode (mi_code n_H_voice) 25 = .ok (.aaload, 1) := by decide +kernel
theorem d_H_voice_26 : decode (mi_code n_H_voice) 26 = .ok (.iload_n 2, 1) := by decide +kernel
theorem d_H_voice_27 : decode (mi_code n_H_voice) 27 = .ok (.invokevirtual 193, 3) := by decide +kernel
theorem d_H_voice_30 : decode (mi_code n_H_voice) 30 = .ok (.istore 4, 2) := by decide +kernel
theorem d_H_voice_32 : decode (mi_code n_H_voice) 32 = .ok (.aload_n 0, 1) := by decide +kernel
theorem d_H_voice_33 : decode (mi_code n_H_voice) 33 = .ok (.getfield 21, 3) := by decide +kernel
theorem d_H_voice_36 : decode (mi_code n_H_voice) 36 = .ok (.iload_n 1, 1) := by decide +kernel
theorem d_H_voice_37 : decode (mi_code n_H_voice) 37 = .ok (.aaload, 1) := by decide +kernel
theorem d_H_voice_38 : decode (mi_code n_H_voice) 38 = .ok (.getfield 196, 3) := by decide +kernel
theorem d_H_voice_41 : decode (mi_code n_H_voice) 41 = .ok (.iload_n 2, 1) := by decide +kernel
theorem d_H_voice_42 : decode (mi_code n_H_voice) 42 = .ok (.iload_n 3, 1) := by decide +kernel
theorem d_H_voice_43 : decode (mi_code n_H_voice) 43 = .ok (.iastore, 1) := by decide +kernel
theorem d_H_voice_44 : decode (mi_code n_H_voice) 44 = .ok (.iload 4, 2) := by decide +kernel
theorem d_H_voice_46 : decode (mi_code n_H_voice) 46 = .ok (.ireturn, 1) := by decide +kernel
theorem d_J_fill_0 : decode (mi_code n_J_fill) 0 = .ok (.iconst 0, 1) := by decide +kernel
theorem d_J_fill_1 : decode (mi_code n_J_fill) 1 = .ok (.istore_n 2, 1) := by decide +kernel
theorem d_J_fill_2 : decode (mi_code n_J_fill) 2 = .ok (.aload_n 0, 1) := by decide +kernel
theorem d_J_fill_3 : decode (mi_code n_J_fill) 3 = .ok (.arraylength, 1) := by decide +kernel
theorem d_J_fill_4 : decode (mi_code n_J_fill) 4 = .ok (.istore_n 3, 1) := by decide +kernel
theorem d_J_fill_5 : decode (mi_code n_J_fill) 5 = .ok (.iload_n 2, 1) := by decide +kernel
theorem d_J_fill_6 : decode (mi_code n_J_fill) 6 = .ok (.iload_n 3, 1) := by decide +kernel
theorem d_J_fill_7 : decode (mi_code n_J_fill) 7 = .ok (.if_icmp .ge 13, 3) := by decide +kernel
theorem d_J_fill_10 : decode (mi_code n_J_fill) 10 = .ok (.aload_n 0, 1) := by decide +kernel
theorem d_J_fill_11 : decode (mi_code n_J_fill) 11 = .ok (.iload_n 2, 1) := by decide +kernel
theorem d_J_fill_12 : decode (mi_code n_J_fill) 12 = .ok (.iload_n 1, 1) := by decide +kernel
theorem d_J_fill_13 : decode (mi_code n_J_fill) 13 = .ok (.iastore, 1) := by decide +kernel
theorem d_J_fill_14 : decode (mi_code n_J_fill) 14 = .ok (.iinc 2 1, 3) := by decide +kernel
theorem d_J_fill_17 : decode (mi_code n_J_fill) 17 = .ok (.goto (-12), 3) := by decide +kernel
theorem d_J_fill_20 : decode (mi_code n_J_fill) 20 = .ok (.return_, 1) := by decide +kernel
theorem d_K_covers_0 : decode (mi_code n_K_covers) 0 = .ok (.aload_n 0, 1) := by decide +kernel
theorem d_K_covers_1 : decode (mi_code n_K_covers) 1 = .ok (.invokevirtual 41, 3) := by decide +kernel
theorem d_K_covers_4 : decode (mi_code n_K_covers) 4 = .ok (.istore_n 3, 1) := by decide +kernel
theorem d_K_covers_5 : decode (mi_code n_K_covers) 5 = .ok (.iconst 0, 1) := by decide +kernel
theorem d_K_covers_6 : decode (mi_code n_K_covers) 6 = .ok (.istore 4, 2) := by decide +kernel
theorem d_K_covers_8 : decode (mi_code n_K_covers) 8 = .ok (.iload 4, 2) := by decide +kernel
theorem d_K_covers_10 : decode (mi_code n_K_covers) 10 = .ok (.iload_n 3, 1) := by decide +kernel
theorem d_K_covers_11 : decode (mi_code n_K_covers) 11 = .ok (.if_icmp .gt 47, 3) := by decide +kernel
theorem d_K_covers_14 : decode (mi_code n_K_covers) 14 = .ok (.aload_n 0, 1) := by decide +kernel
theorem d_K_covers_15 : decode (mi_code n_K_covers) 15 = .ok (.getfield 7, 3) := by decide +kernel
theorem d_K_covers_18 : decode (mi_code n_K_covers) 18 = .ok (.aload_n 0, 1) := by decide +kernel
theorem d_K_covers_19 : decode (mi_code n_K_covers) 19 = .ok (.getfield 16, 3) := by decide +kernel
theorem d_K_covers_22 : decode (mi_code n_K_covers) 22 = .ok (.iload 4, 2) := by decide +kernel
theorem d_K_covers_24 : decode (mi_code n_K_covers) 24 = .ok (.iload_n 3, 1) := by decide +kernel
theorem d_K_covers_25 : decode (mi_code n_K_covers) 25 = .ok (.invokestatic 25, 3) := by decide +kernel
theorem d_K_covers_28 : decode (mi_code n_K_covers) 28 = .ok (.iload_n 1, 1) := by decide +kernel
theorem d_K_covers_29 : decode (mi_code n_K_covers) 29 = .ok (.if_icmp .ne 23, 3) := by decide +kernel
theorem d_K_covers_32 : decode (mi_code n_K_covers) 32 = .ok (.aload_n 0, 1) := by decide +kernel
theorem d_K_covers_33 : decode (mi_code n_K_covers) 33 = .ok (.getfield 13, 3) := by decide +kernel
theorem d_K_covers_36 : decode (mi_code n_K_covers) 36 = .ok (.aload_n 0, 1) := by decide +kernel
theorem d_K_covers_37 : decode (mi_code n_K_covers) 37 = .ok (.getfield 19, 3) := by decide +kernel
theorem d_K_covers_40 : decode (mi_code n_K_covers) 40 = .ok (.iload 4, 2) := by decide +kernel
theorem d_K_covers_42 : decode (mi_code n_K_covers) 42 = .ok (.iload_n 3, 1) := by decide +kernel
theorem d_K_covers_43 : decode (mi_code n_K_covers) 43 = .ok (.invokestatic 25, 3) := by decide +kernel
theorem d_K_covers_46 : decode (mi_code n_K_covers) 46 = .ok (.iload_n 2, 1) := by decide +kernel
theorem d_K_covers_47 : decode (mi_code n_K_covers) 47 = .ok (.if_icmp .ne 5, 3) := by decide +kernel
theorem d_K_covers_50 : decode (mi_code n_K_covers) 50 = .ok (.iconst 1, 1) := by decide +kernel
theorem d_K_covers_51 : decode (mi_code n_K_covers) 51 = .ok (.ireturn, 1) := by decide +kernel
theorem d_K_covers_52 : decode (mi_code n_K_covers) 52 = .ok (.iinc 4 1, 3) := by decide +kernel
theorem d_K_covers_55 : decode (mi_code n_K_covers) 55 = .ok (.goto (-47), 3) := by decide +kernel
theorem d_K_covers_58 : decode (mi_code n_K_covers) 58 = .ok (.iconst 0, 1) := by decide +kernel
theorem d_K_covers_59 : decode (mi_code n_K_covers) 59 = .ok (.ireturn, 1) := by decide +kernel
theorem d_K_init_0 : decode (mi_code n_K_init) 0 = .ok (.aload_n 0, 1) := by decide +kernel
theorem d_K_init_1 : decode (mi_code n_K_init) 1 = .ok (.invokespecial 1, 3) := by decide +kernel
theorem d_K_init_4 : decode (mi_code n_K_init) 4 = .ok (.return_, 1) := by decide +kernel
theorem d_K_set_0 : decode (mi_code n_K_set) 0 = .ok (.aload_n 0, 1) := by decide +kernel
theorem d_K_set_1 : decode (mi_code n_K_set) 1 = .ok (.iload_n 1, 1) := by decide +kernel
theorem d_K_set_2 : decode (mi_code n_K_set) 2 = .ok (.putfield 7, 3) := by decide +kernel
theorem d_K_set_5 : decode (mi_code n_K_set) 5 = .ok (.aload_n 0, 1) := by decide +kernel
theorem d_K_set_6 : decode (mi_code n_K_set) 6 = .ok (.iload_n 2, 1) := by decide +kernel
theorem d_K_set_7 : decode (mi_code n_K_set) 7 = .ok (.putfield 13, 3) := by decide +kernel
theorem d_K_set_10 : decode (mi_code n_K_set) 10 = .ok (.aload_n 0, 1) := by decide +kernel
theorem d_K_set_11 : decode (mi_code n_K_set) 11 = .ok (.iload_n 3, 1) := by decide +kernel
theorem d_K_set_12 : decode (mi_code n_K_set) 12 = .ok (.putfield 16, 3) := by decide +kernel
theorem d_K_set_15 : decode (mi_code n_K_set) 15 = .ok (.aload_n 0, 1) := by decide +kernel
theorem d_K_set_16 : decode (mi_code n_K_set) 16 = .ok (.iload 4, 2) := by decide +kernel
theorem d_K_set_18 : decode (mi_code n_K_set) 18 = .ok (.putfield 19, 3) := by decide +kernel
theorem d_K_set_21 : decode (mi_code n_K_set) 21 = .ok (.aload_n 0, 1) := by decide +kernel
theorem d_K_set_22 : decode (mi_code n_K_set) 22 = .ok (.iload 5, 2) := by decide +kernel
theorem d_K_set_24 : decode (mi_code n_K_set) 24 = .ok (.putfield 22, 3) := by decide +kernel
theorem d_K_set_27 : decode (mi_code n_K_set) 27 = .ok (.return_, 1) := by decide +kernel
theorem d_K_setBetween_0 : decode (mi_code n_K_setBetween) 0 = .ok (.aload_n 0, 1) := by decide +kernel
theorem d_K_setBetween_1 : decode (mi_code n_K_setBetween) 1 = .ok (.aload_n 1, 1) := by decide +kernel
theorem d_K_setBetween_2 : decode (mi_code n_K_setBetween) 2 = .ok (.getfield 7, 3) := by decide +kernel
theorem d_K_setBetween_5 : decode (mi_code n_K_setBetween) 5 = .ok (.aload_n 2, 1) := by decide +kernel
theorem d_K_setBetween_6 : decode (mi_code n_K_setBetween) 6 = .ok (.getfield 7, 3) := by decide +kernel
theorem d_K_setBetween_9 : decode (mi_code n_K_setBetween) 9 = .ok (.iload_n 3, 1) := by decide +kernel
theorem d_K_setBetween_10 : decode (mi_code n_K_setBetween) 10 = .ok (.iload 4, 2) := by decide +kernel
theorem d_K_setBetween_12 : decode (mi_code n_K_setBetween) 12 = .ok (.invokestatic 25, 3) := by decide +kernel
theorem d_K_setBetween_15 : decode (mi_code n_K_setBetween) 15 = .ok (.putfield 7, 3) := by decide +kernel
theorem d_K_setBetween_18 : decode (mi_code n_K_setBetween) 18 = .ok (.aload_n 0, 1) := by decide +kernel
theorem d_K_setBetween_19 : decode (mi_code n_K_setBetween) 19 = .ok (.aload_n 1, 1) := by decide +kernel
theorem d_K_setBetween_20 : decode (mi_code n_K_setBetween) 20 = .ok (.getfield 13, 3) := by decide +kernel
theorem d_K_setBetween_23 : decode (mi_code n_K_setBetween) 23 = .ok (.aload_n 2, 1) := by decide +kernel
theorem d_K_setBetween_24 : decode (mi_code n_K_setBetween) 24 = .ok (.getfield 13, 3) := by decide +kernel
theorem d_K_setBetween_27 : decode (mi_code n_K_setBetween) 27 = .ok (.iload_n 3, 1) := by decide +kernel
theorem d_K_setBetween_28 : decode (mi_code n_K_setBetween) 28 = .ok (.iload 4, 2) := by decide +kernel
theorem d_K_setBetween_30 : decode (mi_code n_K_setBetween) 30 = .ok (.invokestatic 25, 3) := by decide +kernel
theorem d_K_setBetween_33 : decode (mi_code n_K_setBetween) 33 = .ok (.putfield 13, 3) := by decide +kernel
theorem d_K_setBetween_36 : decode (mi_code n_K_setBetween) 36 = .ok (.aload_n 0, 1) := by decide +kernel
theorem d_K_setBetween_37 : decode (mi_code n_K_setBetween) 37 = .ok (.aload_n 1, 1) := by decide +kernel
theorem d_K_setBetween_38 : decode (mi_code n_K_setBetween) 38 = .ok (.getfield 16, 3) := by decide +kernel
theorem d_K_setBetween_41 : decode (mi_code n_K_setBetween) 41 = .ok (.aload_n 2, 1) := by decide +kernel
theorem d_K_setBetween_42 : decode (mi_code n_K_setBetween) 42 = .ok (.getfield 16, 3) := by decide +kernel
theorem d_K_setBetween_45 : decode (mi_code n_K_setBetween) 45 = .ok (.iload_n 3, 1) := by decide +kernel
theorem d_K_setBetween_46 : decode (mi_code n_K_setBetween) 46 = .ok (.iload 4, 2) := by decide +kernel
theorem d_K_setBetween_48 : decode (mi_code n_K_setBetween) 48 = .ok (.invokestatic 25, 3) := by decide +kernel
theorem d_K_setBetween_51 : decode (mi_code n_K_setBetween) 51 = .ok (.putfield 16, 3) := by decide +kernel
theorem d_K_setBetween_54 : decode (mi_code n_K_setBetween) 54 = .ok (.aload_n 0, 1) := by decide +kernel
theorem d_K_setBetween_55 : decode (mi_code n_K_setBetween) 55 = .ok (.aload_n 1, 1) := by decide +kernel
theorem d_K_setBetween_56 : decode (mi_code n_K_setBetween) 56 = .ok (.getfield 19, 3) := by decide +kernel
theorem d_K_setBetween_59 : decode (mi_code n_K_setBetween) 59 = .ok (.aload_n 2, 1) := by decide +kernel
theorem d_K_setBetween_60 : decode (mi_code n_K_setBetween) 60 = .ok (.getfield 19, 3) := by decide +kernel
theorem d_K_setBetween_63 : decode (mi_code n_K_setBetween) 63 = .ok (.iload_n 3, 1) := by decide +kernel
theorem d_K_setBetween_64 : decode (mi_code n_K_setBetween) 64 = .ok (.iload 4, 2) := by decide +kernel
theorem d_K_setBetween_66 : decode (mi_code n_K_setBetween) 66 = .ok (.invokestatic 25, 3) := by decide +kernel
theorem d_K_setBetween_69 : decode (mi_code n_K_setBetween) 69 = .ok (.putfield 19, 3) := by decide +kernel
theorem d_K_setBetween_72 : decode (mi_code n_K_setBetween) 72 = .ok (.aload_n 0, 1) := by decide +kernel
theorem d_K_setBetween_73 : decode (mi_code n_K_setBetween) 73 = .ok (.aload_n 1, 1) := by decide +kernel
theorem d_K_setBetween_74 : decode (mi_code n_K_setBetween) 74 = .ok (.getfield 22, 3) := by decide +kernel
theorem d_K_setBetween_77 : decode (mi_code n_K_setBetween) 77 = .ok (.putfield 22, 3) := by decide +kernel
theorem d_K_setBetween_80 : decode (mi_code n_K_setBetween) 80 = .ok (.return_, 1) := by decide +kernel
theorem d_K_steps_0 : decode (mi_code n_K_steps) 0 = .ok (.aload_n 0, 1) := by decide +kernel
theorem d_K_steps_1 : decode (mi_code n_K_steps) 1 = .ok (.getfield 16, 3) := by decide +kernel
theorem d_K_steps_4 : decode (mi_code n_K_steps) 4 = .ok (.aload_n 0, 1) := by decide +kernel
theorem d_K_steps_5 : decode (mi_code n_K_steps) 5 = .ok (.getfield 7, 3) := by decide +kernel
theorem d_K_steps_8 : decode (mi_code n_K_steps) 8 = .ok (.isub, 1) := by decide +kernel
theorem d_K_steps_9 : decode (mi_code n_K_steps) 9 = .ok (.invokestatic 31, 3) := by decide +kernel
theorem d_K_steps_12 : decode (mi_code n_K_steps) 12 = .ok (.aload_n 0, 1) := by decide +kernel
theorem d_K_steps_13 : decode (mi_code n_K_steps) 13 = .ok (.getfield 19, 3) := by decide +kernel
theorem d_K_steps_16 : decode (mi_code n_K_steps) 16 = .ok (.aload_n 0, 1) := by decide +kernel
theorem d_K_steps_17 : decode (mi_code n_K_steps) 17 = .ok (.getfield 13, 3) := by decide +kernel
theorem d_K_steps_20 : decode (mi_code n_K_steps) 20 = .ok (.isub, 1) := by decide +kernel
theorem d_K_steps_21 : decode (mi_code n_K_steps) 21 = .ok (.invokestatic 31, 3) := by decide +kernel
theorem d_K_steps_24 : decode (mi_code n_K_steps) 24 = .ok (.invokestatic 37, 3) := by decide +kernel
theorem d_K_steps_27 : decode (mi_code n_K_steps) 27 = .ok (.ireturn, 1) := by decide +kernel
theorem d_L_approve_0 : decode (mi_code n_L_approve) 0 = .ok (.aload_n 3, 1) := by decide +kernel
theorem d_L_approve_1 : decode (mi_code n_L_approve) 1 = .ok (.iconst 0, 1) := by decide +kernel
theorem d_L_approve_2 : decode (mi_code n_L_approve) 2 = .ok (.aload_n 0, 1) := by decide +kernel
theorem d_L_approve_3 : decode (mi_code n_L_approve) 3 = .ok (.iload_n 1, 1) := by decide +kernel
theorem d_L_approve_4 : decode (mi_code n_L_approve) 4 = .ok (.iload_n 2, 1) := by decide +kernel
theorem d_L_approve_5 : decode (mi_code n_L_approve) 5 = .ok (.invokevirtual 43, 3) := by decide +kernel
theorem d_L_approve_8 : decode (mi_code n_L_approve) 8 = .ok (.i2l, 1) := by decide +kernel
theorem d_L_approve_9 : decode (mi_code n_L_approve) 9 = .ok (.lastore, 1) := by decide +kernel
theorem d_L_approve_10 : decode (mi_code n_L_approve) 10 = .ok (.goto 11, 3) := by decide +kernel
theorem d_L_approve_13 : decode (mi_code n_L_approve) 13 = .ok (.astore 4, 2) := by decide +kernel
theorem d_L_approve_15 : decode (mi_code n_L_approve) 15 = .ok (.iconst 1, 1) := by decide +kernel
theorem d_L_approve_16 : decode (mi_code n_L_approve) 16 = .ok (.ireturn, 1) := by decide +kernel
theorem d_L_approve_17 : decode (mi_code n_L_approve) 17 = .ok (.astore 4, 2) := by decide +kernel
theorem d_L_approve_19 : decode (mi_code n_L_approve) 19 = .ok (.iconst 2, 1) := by decide +kernel
theorem d_L_approve_20 : decode (mi_code n_L_approve) 20 = .ok (.ireturn, 1) := by decide +kernel
theorem d_L_approve_21 : decode (mi_code n_L_approve) 21 = .ok (.iconst 0, 1) := by decide +kernel
theorem d_L_approve_22 : decode (mi_code n_L_approve) 22 = .ok (.ireturn, 1) := by decide +kernel
theorem d_L_between_0 : decode (mi_code n_L_between) 0 = .ok (.aload 5, 2) := by decide +kernel
theorem d_L_between_2 : decode (mi_code n_L_between) 2 = .ok (.iconst 0, 1) := by decide +kernel
theorem d_L_between_3 : decode (mi_code n_L_between) 3 = .ok (.aload_n 0, 1) := by decide +kernel
theorem d_L_between_4 : decode (mi_code n_L_between) 4 = .ok (.iload_n 1, 1) := by decide +kernel
theorem d_L_between_5 : decode (mi_code n_L_between) 5 = .ok (.iload_n 2, 1) := by decide +kernel
theorem d_L_between_6 : decode (mi_code n_L_between) 6 = .ok (.iload_n 3, 1) := by decide +kernel
theorem d_L_between_7 : decode (mi_code n_L_between) 7 = .ok (.iload 4, 2) := by decide +kernel
theorem d_L_between_9 : decode (mi_code n_L_between) 9 = .ok (.invokevirtual 15, 3) := by decide +kernel
theorem d_L_between_12 : decode (mi_code n_L_between) 12 = .ok (.i2l, 1) := by decide +kernel
theorem d_L_between_13 : decode (mi_code n_L_between) 13 = .ok (.lastore, 1) := by decide +kernel
theorem d_L_between_14 : decode (mi_code n_L_between) 14 = .ok (.goto 15, 3) := by decide +kernel
theorem d_L_between_17 : decode (mi_code n_L_between) 17 = .ok (.astore 6, 2) := by decide +kernel
theorem d_L_between_19 : decode (mi_code n_L_between) 19 = .ok (.iconst 1, 1) := by decide +kernel
theorem d_L_between_20 : decode (mi_code n_L_between) 20 = .ok (.ireturn, 1) := by decide +kernel
theorem d_L_between_21 : decode (mi_code n_L_between) 21 = .ok (.astore 6, 2) := by decide +kernel
theorem d_L_between_23 : decode (mi_code n_L_between) 23 = .ok (.iconst 2, 1) := by decide +kernel
theorem d_L_between_24 : decode (mi_code n_L_between) 24 = .ok (.ireturn, 1) := by decide +kernel
theorem d_L_between_25 : decode (mi_code n_L_between) 25 = .ok (.astore 6, 2) := by decide +kernel
theorem d_L_between_27 : decode (mi_code n_L_between) 27 = .ok (.iconst 3, 1) := by decide +kernel
theorem d_L_between_28 : decode (mi_code n_L_between) 28 = .ok (.ireturn, 1) := by decide +kernel
theorem d_L_between_29 : decode (mi_code n_L_between) 29 = .ok (.iconst 0, 1) := by decide +kernel
theorem d_L_between_30 : decode (mi_code n_L_between) 30 = .ok (.ireturn, 1) := by decide +kernel
theorem d_L_colour_0 : decode (mi_code n_L_colour) 0 = .ok (.aload 4, 2) := by decide +kernel
theorem d_L_colour_2 : decode (mi_code n_L_colour) 2 = .ok (.iconst 0, 1) := by decide +kernel
theorem d_L_colour_3 : decode (mi_code n_L_colour) 3 = .ok (.aload_n 0, 1) := by decide +kernel
theorem d_L_colour_4 : decode (mi_code n_L_colour) 4 = .ok (.iload_n 1, 1) := by decide +kernel
theorem d_L_colour_5 : decode (mi_code n_L_colour) 5 = .ok (.iload_n 2, 1) := by decide +kernel
theorem d_L_colour_6 : decode (mi_code n_L_colour) 6 = .ok (.iload_n 3, 1) := by decide +kernel
theorem d_L_colour_7 : decode (mi_code n_L_colour) 7 = .ok (.invokevirtual 47, 3) := by decide +kernel
theorem d_L_colour_10 : decode (mi_code n_L_colour) 10 = .ok (.i2l, 1) := by decide +kernel
theorem d_L_colour_11 : decode (mi_code n_L_colour) 11 = .ok (.lastore, 1) := by decide +kernel
theorem d_L_colour_12 : decode (mi_code n_L_colour) 12 = .ok (.goto 11, 3) := by decide +kernel
theorem d_L_colour_15 : decode (mi_code n_L_colour) 15 = .ok (.astore 5, 2) := by decide +kernel
theorem d_L_colour_17 : decode (mi_code n_L_colour) 17 = .ok (.iconst 1, 1) := by decide +kernel
theorem d_L_colour_18 : decode (mi_code n_L_colour) 18 = .ok (.ireturn, 1) := by decide +kernel
theorem d_L_colour_19 : decode (mi_code n_L_colour) 19 = .ok (.astore 5, 2) := by decide +kernel
theorem d_L_colour_21 : decode (mi_code n_L_colour) 21 = .ok (.iconst 2, 1) := by decide +kernel
theorem d_L_colour_22 : decode (mi_code n_L_colour) 22 = .ok (.ireturn, 1) := by decide +kernel
theorem d_L_colour_23 : decode (mi_code n_L_colour) 23 = .ok (.iconst 0, 1) := by decide +kernel
theorem d_L_colour_24 : decode (mi_code n_L_colour) 24 = .ok (.ireturn, 1) := by decide +kernel
theorem d_L_erase_0 : decode (mi_code n_L_erase) 0 = .ok (.aload_n 3, 1) := by decide +kernel
theorem d_L_erase_1 : decode (mi_code n_L_erase) 1 = .ok (.iconst 0, 1) := by decide +kernel
theorem d_L_erase_2 : decode (mi_code n_L_erase) 2 = .ok (.aload_n 0, 1) := by decide +kernel
theorem d_L_erase_3 : decode (mi_code n_L_erase) 3 = .ok (.iload_n 1, 1) := by decide +kernel
theorem d_L_erase_4 : decode (mi_code n_L_erase) 4 = .ok (.iload_n 2, 1) := by decide +kernel
theorem d_L_erase_5 : decode (mi_code n_L_erase) 5 = .ok (.invokevirtual 31, 3) := by decide +kernel
theorem d_L_erase_8 : decode (mi_code n_L_erase) 8 = .ok (.ifCond .eq 7, 3) := by decide +kernel
theorem d_L_erase_11 : decode (mi_code n_L_erase) 11 = .ok (.lconst 1, 1) := by decide +kernel
theorem d_L_erase_12 : decode (mi_code n_L_erase) 12 = .ok (.goto 4, 3) := by decide +kernel
theorem d_L_erase_15 : decode (mi_code n_L_erase) 15 = .ok (.lconst 0, 1) := by decide +kernel
theorem d_L_erase_16 : decode (mi_code n_L_erase) 16 = .ok (.lastore, 1) := by decide +kernel
theorem d_L_erase_17 : decode (mi_code n_L_erase) 17 = .ok (.goto 15, 3) := by decide +kernel
theorem d_L_erase_20 : decode (mi_code n_L_erase) 20 = .ok (.astore 4, 2) := by decide +kernel
theorem d_L_erase_22 : decode (mi_code n_L_erase) 22 = .ok (.iconst 1, 1) := by decide +kernel
theorem d_L_erase_23 : decode (mi_code n_L_erase) 23 = .ok (.ireturn, 1) := by decide +kernel
theorem d_L_erase_24 : decode (mi_code n_L_erase) 24 = .ok (.astore 4, 2) := by decide +kernel
theorem d_L_erase_26 : decode (mi_code n_L_erase) 26 = .ok (.iconst 2, 1) := by decide +kernel
theorem d_L_erase_27 : decode (mi_code n_L_erase) 27 = .ok (.ireturn, 1) := by decide +kernel
theorem d_L_erase_28 : decode (mi_code n_L_erase) 28 = .ok (.astore 4, 2) := by decide +kernel
theorem d_L_erase_30 : decode (mi_code n_L_erase) 30 = .ok (.iconst 3, 1) := by decide +kernel
theorem d_L_erase_31 : decode (mi_code n_L_erase) 31 = .ok (.ireturn, 1) := by decide +kernel
theorem d_L_erase_32 : decode (mi_code n_L_erase) 32 = .ok (.iconst 0, 1) := by decide +kernel
theorem d_L_erase_33 : decode (mi_code n_L_erase) 33 = .ok (.ireturn, 1) := by decide +kernel
theorem d_L_expose_0 : decode (mi_code n_L_expose) 0 = .ok (.aload 5, 2) := by decide +kernel
theorem d_L_expose_2 : decode (mi_code n_L_expose) 2 = .ok (.iconst 0, 1) := by decide +kernel
theorem d_L_expose_3 : decode (mi_code n_L_expose) 3 = .ok (.aload_n 0, 1) := by decide +kernel
theorem d_L_expose_4 : decode (mi_code n_L_expose) 4 = .ok (.iload_n 1, 1) := by decide +kernel
theorem d_L_expose_5 : decode (mi_code n_L_expose) 5 = .ok (.iload_n 2, 1) := by decide +kernel
theorem d_L_expose_6 : decode (mi_code n_L_expose) 6 = .ok (.iload_n 3, 1) := by decide +kernel
theorem d_L_expose_7 : decode (mi_code n_L_expose) 7 = .ok (.iload 4, 2) := by decide +kernel
theorem d_L_expose_9 : decode (mi_code n_L_expose) 9 = .ok (.invokevirtual 54, 3) := by decide +kernel
theorem d_L_expose_12 : decode (mi_code n_L_expose) 12 = .ok (.i2l, 1) := by decide +kernel
theorem d_L_expose_13 : decode (mi_code n_L_expose) 13 = .ok (.lastore, 1) := by decide +kernel
theorem d_L_expose_14 : decode (mi_code n_L_expose) 14 = .ok (.goto 11, 3) := by decide +kernel
theorem d_L_expose_17 : decode (mi_code n_L_expose) 17 = .ok (.astore 6, 2) := by decide +kernel
theorem d_L_expose_19 : decode (mi_code n_L_expose) 19 = .ok (.iconst 1, 1) := by decide +kernel
theorem d_L_expose_20 : decode (mi_code n_L_expose) 20 = .ok (.ireturn, 1) := by decide +kernel
theorem d_L_expose_21 : decode (mi_code n_L_expose) 21 = .ok (.astore 6, 2) := by decide +kernel
theorem d_L_expose_23 : decode (mi_code n_L_expose) 23 = .ok (.iconst 2, 1) := by decide +kernel
theorem d_L_expose_24 : decode (mi_code n_L_expose) 24 = .ok (.ireturn, 1) := by decide +kernel
theorem d_L_expose_25 : decode (mi_code n_L_expose) 25 = .ok (.iconst 0, 1) := by decide +kernel
theorem d_L_expose_26 : decode (mi_code n_L_expose) 26 = .ok (.ireturn, 1) := by decide +kernel
theorem d_L_faults_0 : decode (mi_code n_L_faults) 0 = .ok (.aload_n 3, 1) := by decide +kernel
theorem d_L_faults_1 : decode (mi_code n_L_faults) 1 = .ok (.iconst 0, 1) := by decide +kernel
theorem d_L_faults_2 : decode (mi_code n_L_faults) 2 = .ok (.aload_n 0, 1) := by decide +kernel
theorem d_L_faults_3 : decode (mi_code n_L_faults) 3 = .ok (.iload_n 1, 1) := by decide +kernel
theorem d_L_faults_4 : decode (mi_code n_L_faults) 4 = .ok (.iload_n 2, 1) := by decide +kernel
theorem d_L_faults_5 : decode (mi_code n_L_faults) 5 = .ok (.invokevirtual 115, 3) := by decide +kernel
theorem d_L_faults_8 : decode (mi_code n_L_faults) 8 = .ok (.i2l, 1) := by decide +kernel
theorem d_L_faults_9 : decode (mi_code n_L_faults) 9 = .ok (.lastore, 1) := by decide +kernel
theorem d_L_faults_10 : decode (mi_code n_L_faults) 10 = .ok (.goto 7, 3) := by decide +kernel
theorem d_L_faults_13 : decode (mi_code n_L_faults) 13 = .ok (.astore 4, 2) := by decide +kernel
theorem d_L_faults_15 : decode (mi_code n_L_faults) 15 = .ok (.iconst 1, 1) := by decide +kernel
theorem d_L_faults_16 : decode (mi_code n_L_faults) 16 = .ok (.ireturn, 1) := by decide +kernel
theorem d_L_faults_17 : decode (mi_code n_L_faults) 17 = .ok (.iconst 0, 1) := by decide +kernel
theorem d_L_faults_18 : decode (mi_code n_L_faults) 18 = .ok (.ireturn, 1) := by decide +kernel
theorem d_L_film_0 : decode (mi_code n_L_film) 0 = .ok (.aload_n 2, 1) := by decide +kernel
theorem d_L_film_1 : decode (mi_code n_L_film) 1 = .ok (.iconst 0, 1) := by decide +kernel
theorem d_L_film_2 : decode (mi_code n_L_film) 2 = .ok (.aload_n 0, 1) := by decide +kernel
theorem d_L_film_3 : decode (mi_code n_L_film) 3 = .ok (.iload_n 1, 1) := by decide +kernel
theorem d_L_film_4 : decode (mi_code n_L_film) 4 = .ok (.invokevirtual 121, 3) := by decide +kernel
theorem d_L_film_7 : decode (mi_code n_L_film) 7 = .ok (.i2l, 1) := by decide +kernel
theorem d_L_film_8 : decode (mi_code n_L_film) 8 = .ok (.lastore, 1) := by decide +kernel
theorem d_L_film_9 : decode (mi_code n_L_film) 9 = .ok (.goto 6, 3) := by decide +kernel
theorem d_L_film_12 : decode (mi_code n_L_film) 12 = .ok (.astore_n 3, 1) := by decide +kernel
theorem d_L_film_13 : decode (mi_code n_L_film) 13 = .ok (.iconst 1, 1) := by decide +kernel
theorem d_L_film_14 : decode (mi_code n_L_film) 14 = .ok (.ireturn, 1) := by decide +kernel
theorem d_L_film_15 : decode (mi_code n_L_film) 15 = .ok (.iconst 0, 1) := by decide +kernel
theorem d_L_film_16 : decode (mi_code n_L_film) 16 = .ok (.ireturn, 1) := by decide +kernel
theorem d_L_gaps_0 : decode (mi_code n_L_gaps) 0 = .ok (.aload_n 2, 1) := by decide +kernel
theorem d_L_gaps_1 : decode (mi_code n_L_gaps) 1 = .ok (.iconst 0, 1) := by decide +kernel
theorem d_L_gaps_2 : decode (mi_code n_L_gaps) 2 = .ok (.aload_n 0, 1) := by decide +kernel
theorem d_L_gaps_3 : decode (mi_code n_L_gaps) 3 = .ok (.iload_n 1, 1) := by decide +kernel
theorem d_L_gaps_4 : decode (mi_code n_L_gaps) 4 = .ok (.invokevirtual 39, 3) := by decide +kernel
theorem d_L_gaps_7 : decode (mi_code n_L_gaps) 7 = .ok (.ifCond .eq 7, 3) := by decide +kernel
theorem d_L_gaps_10 : decode (mi_code n_L_gaps) 10 = .ok (.lconst 1, 1) := by decide +kernel
theorem d_L_gaps_11 : decode (mi_code n_L_gaps) 11 = .ok (.goto 4, 3) := by decide +kernel
theorem d_L_gaps_14 : decode (mi_code n_L_gaps) 14 = .ok (.lconst 0, 1) := by decide +kernel
theorem d_L_gaps_15 : decode (mi_code n_L_gaps) 15 = .ok (.lastore, 1) := by decide +kernel
theorem d_L_gaps_16 : decode (mi_code n_L_gaps) 16 = .ok (.goto 9, 3) := by decide +kernel
theorem d_L_gaps_19 : decode (mi_code n_L_gaps) 19 = .ok (.astore_n 3, 1) := by decide +kernel
theorem d_L_gaps_20 : decode (mi_code n_L_gaps) 20 = .ok (.iconst 1, 1) := by decide +kernel
theorem d_L_gaps_21 : decode (mi_code n_L_gaps) 21 = .ok (.ireturn, 1) := by decide +kernel
theorem d_L_gaps_22 : decode (mi_code n_L_gaps) 22 = .ok (.astore_n 3, 1) := by decide +kernel
theorem d_L_gaps_23 : decode (mi_code n_L_gaps) 23 = .ok (.iconst 2, 1) := by decide +kernel
theorem d_L_gaps_24 : decode (mi_code n_L_gaps) 24 = .ok (.ireturn, 1) := by decide +kernel
theorem d_L_gaps_25 : decode (mi_code n_L_gaps) 25 = .ok (.iconst 0, 1) := by decide +kernel
theorem d_L_gaps_26 : decode (mi_code n_L_gaps) 26 = .ok (.ireturn, 1) := by decide +kernel
theorem d_L_hand_0 : decode (mi_code n_L_hand) 0 = .ok (.aload_n 2, 1) := by decide +kernel
theorem d_L_hand_1 : decode (mi_code n_L_hand) 1 = .ok (.iconst 0, 1) := by decide +kernel
theorem d_L_hand_2 : decode (mi_code n_L_hand) 2 = .ok (.aload_n 0, 1) := by decide +kernel
theorem d_L_hand_3 : decode (mi_code n_L_hand) 3 = .ok (.iload_n 1, 1) := by decide +kernel
theorem d_L_hand_4 : decode (mi_code n_L_hand) 4 = .ok (.invokevirtual 80, 3) := by decide +kernel
theorem d_L_hand_7 : decode (mi_code n_L_hand) 7 = .ok (.i2l, 1) := by decide +kernel
theorem d_L_hand_8 : decode (mi_code n_L_hand) 8 = .ok (.lastore, 1) := by decide +kernel
theorem d_L_hand_9 : decode (mi_code n_L_hand) 9 = .ok (.goto 9, 3) := by decide +kernel
theorem d_L_hand_12 : decode (mi_code n_L_hand) 12 = .ok (.astore_n 3, 1) := by decide +kernel
theorem d_L_hand_13 : decode (mi_code n_L_hand) 13 = .ok (.iconst 1, 1) := by decide +kernel
theorem d_L_hand_14 : decode (mi_code n_L_hand) 14 = .ok (.ireturn, 1) := by decide +kernel
theorem d_L_hand_15 : decode (mi_code n_L_hand) 15 = .ok (.astore_n 3, 1) := by decide +kernel
theorem d_L_hand_16 : decode (mi_code n_L_hand) 16 = .ok (.iconst 2, 1) := by decide +kernel
theorem d_L_hand_17 : decode (mi_code n_L_hand) 17 = .ok (.ireturn, 1) := by decide +kernel
theorem d_L_hand_18 : decode (mi_code n_L_hand) 18 = .ok (.iconst 0, 1) := by decide +kernel
theorem d_L_hand_19 : decode (mi_code n_L_hand) 19 = .ok (.ireturn, 1) := by decide +kernel
theorem d_L_hang_0 : decode (mi_code n_L_hang) 0 = .ok (.aload_n 0, 1) := by decide +kernel
theorem d_L_hang_1 : decode (mi_code n_L_hang) 1 = .ok (.iload_n 1, 1) := by decide +kernel
theorem d_L_hang_2 : decode (mi_code n_L_hang) 2 = .ok (.iload_n 2, 1) := by decide +kernel
theorem d_L_hang_3 : decode (mi_code n_L_hang) 3 = .ok (.iload_n 3, 1) := by decide +kernel
theorem d_L_hang_4 : decode (mi_code n_L_hang) 4 = .ok (.iload 4, 2) := by decide +kernel
theorem d_L_hang_6 : decode (mi_code n_L_hang) 6 = .ok (.invokevirtual 73, 3) := by decide +kernel
theorem d_L_hang_9 : decode (mi_code n_L_hang) 9 = .ok (.goto 11, 3) := by decide +kernel
theorem d_L_hang_12 : decode (mi_code n_L_hang) 12 = .ok (.astore 5, 2) := by decide +kernel
theorem d_L_hang_14 : decode (mi_code n_L_hang) 14 = .ok (.iconst 1, 1) := by decide +kernel
theorem d_L_hang_15 : decode (mi_code n_L_hang) 15 = .ok (.ireturn, 1) := by decide +kernel
theorem d_L_hang_16 : decode (mi_code n_L_hang) 16 = .ok (.astore 5, 2) := by decide +kernel
theorem d_L_hang_18 : decode (mi_code n_L_hang) 18 = .ok (.iconst 2, 1) := by decide +kernel
theorem d_L_hang_19 : decode (mi_code n_L_hang) 19 = .ok (.ireturn, 1) := by decide +kernel
theorem d_L_hang_20 : decode (mi_code n_L_hang) 20 = .ok (.iconst 0, 1) := by decide +kernel
theorem d_L_hang_21 : decode (mi_code n_L_hang) 21 = .ok (.ireturn, 1) := by decide +kernel
theorem d_L_hangs_0 : decode (mi_code n_L_hangs) 0 = .ok (.aload 4, 2) := by decide +kernel
theorem d_L_hangs_2 : decode (mi_code n_L_hangs) 2 = .ok (.iconst 0, 1) := by decide +kernel
theorem d_L_hangs_3 : decode (mi_code n_L_hangs) 3 = .ok (.aload_n 0, 1) := by decide +kernel
theorem d_L_hangs_4 : decode (mi_code n_L_hangs) 4 = .ok (.iload_n 1, 1) := by decide +kernel
theorem d_L_hangs_5 : decode (mi_code n_L_hangs) 5 = .ok (.iload_n 2, 1) := by decide +kernel
theorem d_L_hangs_6 : decode (mi_code n_L_hangs) 6 = .ok (.iload_n 3, 1) := by decide +kernel
theorem d_L_hangs_7 : decode (mi_code n_L_hangs) 7 = .ok (.invokevirtual 111, 3) := by decide +kernel
theorem d_L_hangs_10 : decode (mi_code n_L_hangs) 10 = .ok (.ifCond .eq 7, 3) := by decide +kernel
theorem d_L_hangs_13 : decode (mi_code n_L_hangs) 13 = .ok (.lconst 1, 1) := by decide +kernel
theorem d_L_hangs_14 : decode (mi_code n_L_hangs) 14 = .ok (.goto 4, 3) := by decide +kernel
theorem d_L_hangs_17 : decode (mi_code n_L_hangs) 17 = .ok (.lconst 0, 1) := by decide +kernel
theorem d_L_hangs_18 : decode (mi_code n_L_hangs) 18 = .ok (.lastore, 1) := by decide +kernel
theorem d_L_hangs_19 : decode (mi_code n_L_hangs) 19 = .ok (.goto 7, 3) := by decide +kernel
theorem d_L_hangs_22 : decode (mi_code n_L_hangs) 22 = .ok (.astore 5, 2) := by decide +kernel
theorem d_L_hangs_24 : decode (mi_code n_L_hangs) 24 = .ok (.iconst 1, 1) := by decide +kernel
theorem d_L_hangs_25 : decode (mi_code n_L_hangs) 25 = .ok (.ireturn, 1) := by decide +kernel
theorem d_L_hangs_26 : decode (mi_code n_L_hangs) 26 = .ok (.iconst 0, 1) := by decide +kernel
theorem d_L_hangs_27 : decode (mi_code n_L_hangs) 27 = .ok (.ireturn, 1) := by decide +kernel
theorem d_L_has_0 : decode (mi_code n_L_has) 0 = .ok (.aload 4, 2) := by decide +kernel
theorem d_L_has_2 : decode (mi_code n_L_has) 2 = .ok (.iconst 0, 1) := by decide +kernel
theorem d_L_has_3 : decode (mi_code n_L_has) 3 = .ok (.aload_n 0, 1) := by decide +kernel
theorem d_L_has_4 : decode (mi_code n_L_has) 4 = .ok (.iload_n 1, 1) := by decide +kernel
theorem d_L_has_5 : decode (mi_code n_L_has) 5 = .ok (.iload_n 2, 1) := by decide +kernel
theorem d_L_has_6 : decode (mi_code n_L_has) 6 = .ok (.iload_n 3, 1) := by decide +kernel
theorem d_L_has_7 : decode (mi_code n_L_has) 7 = .ok (.invokevirtual 92, 3) := by decide +kernel
theorem d_L_has_10 : decode (mi_code n_L_has) 10 = .ok (.i2l, 1) := by decide +kernel
theorem d_L_has_11 : decode (mi_code n_L_has) 11 = .ok (.lastore, 1) := by decide +kernel
theorem d_L_has_12 : decode (mi_code n_L_has) 12 = .ok (.goto 7, 3) := by decide +kernel
theorem d_L_has_15 : decode (mi_code n_L_has) 15 = .ok (.astore 5, 2) := by decide +kernel
theorem d_L_has_17 : decode (mi_code n_L_has) 17 = .ok (.iconst 1, 1) := by decide +kernel
theorem d_L_has_18 : decode (mi_code n_L_has) 18 = .ok (.ireturn, 1) := by decide +kernel
theorem d_L_has_19 : decode (mi_code n_L_has) 19 = .ok (.iconst 0, 1) := by decide +kernel
theorem d_L_has_20 : decode (mi_code n_L_has) 20 = .ok (.ireturn, 1) := by decide +kernel
theorem d_L_hours_0 : decode (mi_code n_L_hours) 0 = .ok (.aload_n 2, 1) := by decide +kernel
theorem d_L_hours_1 : decode (mi_code n_L_hours) 1 = .ok (.iconst 0, 1) := by decide +kernel
theorem d_L_hours_2 : decode (mi_code n_L_hours) 2 = .ok (.aload_n 0, 1) := by decide +kernel
theorem d_L_hours_3 : decode (mi_code n_L_hours) 3 = .ok (.iload_n 1, 1) := by decide +kernel
theorem d_L_hours_4 : decode (mi_code n_L_hours) 4 = .ok (.invokevirtual 118, 3) := by decide +kernel
theorem d_L_hours_7 : decode (mi_code n_L_hours) 7 = .ok (.i2l, 1) := by decide +kernel
theorem d_L_hours_8 : decode (mi_code n_L_hours) 8 = .ok (.lastore, 1) := by decide +kernel
theorem d_L_hours_9 : decode (mi_code n_L_hours) 9 = .ok (.goto 6, 3) := by decide +kernel
theorem d_L_hours_12 : decode (mi_code n_L_hours) 12 = .ok (.astore_n 3, 1) := by decide +kernel
theorem d_L_hours_13 : decode (mi_code n_L_hours) 13 = .ok (.iconst 1, 1) := by decide +kernel
theorem d_L_hours_14 : decode (mi_code n_L_hours) 14 = .ok (.ireturn, 1) := by decide +kernel
theorem d_L_hours_15 : decode (mi_code n_L_hours) 15 = .ok (.iconst 0, 1) := by decide +kernel
theorem d_L_hours_16 : decode (mi_code n_L_hours) 16 = .ok (.ireturn, 1) := by decide +kernel
theorem d_L_key_0 : decode (mi_code n_L_key) 0 = .ok (.aload_n 1, 1) := by decide +kernel
theorem d_L_key_1 : decode (mi_code n_L_key) 1 = .ok (.iconst 0, 1) := by decide +kernel
theorem d_L_key_2 : decode (mi_code n_L_key) 2 = .ok (.aload_n 0, 1) := by decide +kernel
theorem d_L_key_3 : decode (mi_code n_L_key) 3 = .ok (.invokevirtual 7, 3) := by decide +kernel
theorem d_L_key_6 : decode (mi_code n_L_key) 6 = .ok (.i2l, 1) := by decide +kernel
theorem d_L_key_7 : decode (mi_code n_L_key) 7 = .ok (.lastore, 1) := by decide +kernel
theorem d_L_key_8 : decode (mi_code n_L_key) 8 = .ok (.goto 6, 3) := by decide +kernel
theorem d_L_key_11 : decode (mi_code n_L_key) 11 = .ok (.astore_n 2, 1) := by decide +kernel
theorem d_L_key_12 : decode (mi_code n_L_key) 12 = .ok (.iconst 1, 1) := by decide +kernel
theorem d_L_key_13 : decode (mi_code n_L_key) 13 = .ok (.ireturn, 1) := by decide +kernel
theorem d_L_key_14 : decode (mi_code n_L_key) 14 = .ok (.iconst 0, 1) := by decide +kernel
theorem d_L_key_15 : decode (mi_code n_L_key) 15 = .ok (.ireturn, 1) := by decide +kernel
theorem d_L_law_0 : decode (mi_code n_L_law) 0 = .ok (.new 8, 3) := by decide +kernel
theorem d_L_law_3 : decode (mi_code n_L_law) 3 = .ok (.dup, 1) := by decide +kernel
theorem d_L_law_4 : decode (mi_code n_L_law) 4 = .ok (.invokespecial 124, 3) := by decide +kernel
theorem d_L_law_7 : decode (mi_code n_L_law) 7 = .ok (.astore_n 1, 1) := by decide +kernel
theorem d_L_law_8 : decode (mi_code n_L_law) 8 = .ok (.new 125, 3) := by decide +kernel
theorem d_L_law_11 : decode (mi_code n_L_law) 11 = .ok (.dup, 1) := by decide +kernel
theorem d_L_law_12 : decode (mi_code n_L_law) 12 = .ok (.invokespecial 127, 3) := by decide +kernel
theorem d_L_law_15 : decode (mi_code n_L_law) 15 = .ok (.astore_n 2, 1) := by decide +kernel
theorem d_L_law_16 : decode (mi_code n_L_law) 16 = .ok (.iconst 1, 1) := by decide +kernel
theorem d_L_law_17 : decode (mi_code n_L_law) 17 = .ok (.newarray .long, 2) := by decide +kernel
theorem d_L_law_19 : decode (mi_code n_L_law) 19 = .ok (.astore_n 3, 1) := by decide +kernel
theorem d_L_law_20 : decode (mi_code n_L_law) 20 = .ok (.iconst 0, 1) := by decide +kernel
theorem d_L_law_21 : decode (mi_code n_L_law) 21 = .ok (.istore 4, 2) := by decide +kernel
theorem d_L_law_23 : decode (mi_code n_L_law) 23 = .ok (.iload 4, 2) := by decide +kernel
theorem d_L_law_25 : decode (mi_code n_L_law) 25 = .ok (.aload_n 0, 1) := by decide +kernel
theorem d_L_law_26 : decode (mi_code n_L_law) 26 = .ok (.arraylength, 1) := by decide +kernel
theorem d_L_law_27 : decode (mi_code n_L_law) 27 = .ok (.bipush 6, 2) := by decide +kernel
theorem d_L_law_29 : decode (mi_code n_L_law) 29 = .ok (.isub, 1) := by decide +kernel
theorem d_L_law_30 : decode (mi_code n_L_law) 30 = .ok (.if_icmp .gt 2541, 3) := by decide +kernel
theorem d_L_law_33 : decode (mi_code n_L_law) 33 = .ok (.aload_n 0, 1) := by decide +kernel
theorem d_L_law_34 : decode (mi_code n_L_law) 34 = .ok (.iload 4, 2) := by decide +kernel
theorem d_L_law_36 : decode (mi_code n_L_law) 36 = .ok (.iaload, 1) := by decide +kernel
theorem d_L_law_37 : decode (mi_code n_L_law) 37 = .ok (.bipush 63, 2) := by decide +kernel
theorem d_L_law_39 : decode (mi_code n_L_law) 39 = .ok (.iand, 1) := by decide +kernel
theorem d_L_law_40 : decode (mi_code n_L_law) 40 = .ok (.tableswitch 2525 0 32 #[148, 192, 284, 388, 436, 511, 579, 642, 726, 806, 874, 966, 1046, 1114, 1189, 1245, 1337, 1409, 1465, 1521, 1577, 1590, 1658, 1738, 1818, 1926, 2018, 2110, 2202, 2258, 2345, 2413, 2469], 148) := by decide +kernel
theorem d_L_law_188 : decode (mi_code n_L_law) 188 = .ok (.aload_n 1, 1) := by decide +kernel
theorem d_L_law_189 : decode (mi_code n_L_law) 189 = .ok (.aload_n 3, 1) := by decide +kernel
theorem d_L_law_190 : decode (mi_code n_L_law) 190 = .ok (.invokestatic 128, 3) := by decide +kernel
theorem d_L_law_193 : decode (mi_code n_L_law) 193 = .ok (.istore 5, 2) := by decide +kernel
theorem d_L_law_195 : decode (mi_code n_L_law) 195 = .ok (.aload_n 2, 1) := by decide +kernel
theorem d_L_law_196 : decode (mi_code n_L_law) 196 = .ok (.invokevirtual 133, 3) := by decide +kernel
theorem d_L_law_199 : decode (mi_code n_L_law) 199 = .ok (.istore 6, 2) := by decide +kernel
theorem d_L_law_201 : decode (mi_code n_L_law) 201 = .ok (.aload_n 2, 1) := by decide +kernel
theorem d_L_law_202 : decode (mi_code n_L_law) 202 = .ok (.invokevirtual 134, 3) := by decide +kernel
theorem d_L_law_205 : decode (mi_code n_L_law) 205 = .ok (.iload 5, 2) := by decide +kernel
theorem d_L_law_207 : decode (mi_code n_L_law) 207 = .ok (.if_icmp .eq 5, 3) := by decide +kernel
theorem d_L_law_210 : decode (mi_code n_L_law) 210 = .ok (.iconst 0, 1) := by decide +kernel
theorem d_L_law_211 : decode (mi_code n_L_law) 211 = .ok (.ireturn, 1) := by decide +kernel
theorem d_L_law_212 : decode (mi_code n_L_law) 212 = .ok (.iload 5, 2) := by decide +kernel
theorem d_L_law_214 : decode (mi_code n_L_law) 214 = .ok (.ifCond .ne 15, 3) := by decide +kernel
theorem d_L_law_217 : decode (mi_code n_L_law) 217 = .ok (.aload_n 3, 1) := by decide +kernel
theorem d_L_law_218 : decode (mi_code n_L_law) 218 = .ok (.iconst 0, 1) := by decide +kernel
theorem d_L_law_219 : decode (mi_code n_L_law) 219 = .ok (.laload, 1) := by decide +kernel
theorem d_L_law_220 : decode (mi_code n_L_law) 220 = .ok (.iload 6, 2) := by decide +kernel
theorem d_L_law_222 : decode (mi_code n_L_law) 222 = .ok (.i2l, 1) := by decide +kernel
theorem d_L_law_223 : decode (mi_code n_L_law) 223 = .ok (.lcmp, 1) := by decide +kernel
theorem d_L_law_224 : decode (mi_code n_L_law) 224 = .ok (.ifCond .eq 5, 3) := by decide +kernel
theorem d_L_law_227 : decode (mi_code n_L_law) 227 = .ok (.iconst 0, 1) := by decide +kernel
theorem d_L_law_228 : decode (mi_code n_L_law) 228 = .ok (.ireturn, 1) := by decide +kernel
theorem d_L_law_229 : decode (mi_code n_L_law) 229 = .ok (.goto 2336, 3) := by decide +kernel
theorem d_L_law_232 : decode (mi_code n_L_law) 232 = .ok (.aload_n 1, 1) := by decide +kernel
theorem d_L_law_233 : decode (mi_code n_L_law) 233 = .ok (.aload_n 0, 1) := by decide +kernel
theorem d_L_law_234 : decode (mi_code n_L_law) 234 = .ok (.iload 4, 2) := by decide +kernel
theorem d_L_law_236 : decode (mi_code n_L_law) 236 = .ok (.iconst 1, 1) := by decide +kernel
theorem d_L_law_237 : decode (mi_code n_L_law) 237 = .ok (.iadd, 1) := by decide +kernel
theorem d_L_law_238 : decode (mi_code n_L_law) 238 = .ok (.iaload, 1) := by decide +kernel
theorem d_L_law_239 : decode (mi_code n_L_law) 239 = .ok (.aload_n 0, 1) := by decide +kernel
theorem d_L_law_240 : decode (mi_code n_L_law) 240 = .ok (.iload 4, 2) := by decide +kernel
theorem d_L_law_242 : decode (mi_code n_L_law) 242 = .ok (.iconst 2, 1) := by decide +kernel
theorem d_L_law_243 : decode (mi_code n_L_law) 243 = .ok (.iadd, 1) := by decide +kernel
theorem d_L_law_244 : decode (mi_code n_L_law) 244 = .ok (.iaload, 1) := by decide +kernel
theorem d_L_law_245 : decode (mi_code n_L_law) 245 = .ok (.aload_n 0, 1) := by decide +kernel
theorem d_L_law_246 : decode (mi_code n_L_law) 246 = .ok (.iload 4, 2) := by decide +kernel
theorem d_L_law_248 : decode (mi_code n_L_law) 248 = .ok (.iconst 3, 1) := by decide +kernel
theorem d_L_law_249 : decode (mi_code n_L_law) 249 = .ok (.iadd, 1) := by decide +kernel
theorem d_L_law_250 : decode (mi_code n_L_law) 250 = .ok (.iaload, 1) := by decide +kernel
theorem d_L_law_251 : decode (mi_code n_L_law) 251 = .ok (.aload_n 0, 1) := by decide +kernel
theorem d_L_law_252 : decode (mi_code n_L_law) 252 = .ok (.iload 4, 2) := by decide +kernel
theorem d_L_law_254 : decode (mi_code n_L_law) 254 = .ok (.iconst 4, 1) := by decide +kernel
theorem d_L_law_255 : decode (mi_code n_L_law) 255 = .ok (.iadd, 1) := by decide +kernel
theorem d_L_law_256 : decode (mi_code n_L_law) 256 = .ok (.iaload, 1) := by decide +kernel
theorem d_L_law_257 : decode (mi_code n_L_law) 257 = .ok (.aload_n 3, 1) := by decide +kernel
theorem d_L_law_258 : decode (mi_code n_L_law) 258 = .ok (.invokestatic 137, 3) := by decide +kernel
theorem d_L_law_261 : decode (mi_code n_L_law) 261 = .ok (.istore 5, 2) := by decide +kernel
theorem d_L_law_263 : decode (mi_code n_L_law) 263 = .ok (.aload_n 2, 1) := by decide +kernel
theorem d_L_law_264 : decode (mi_code n_L_law) 264 = .ok (.aload_n 0, 1) := by decide +kernel
theorem d_L_law_265 : decode (mi_code n_L_law) 265 = .ok (.iload 4, 2) := by decide +kernel
theorem d_L_law_267 : decode (mi_code n_L_law) 267 = .ok (.iconst 1, 1) := by decide +kernel
theorem d_L_law_268 : decode (mi_code n_L_law) 268 = .ok (.iadd, 1) := by decide +kernel
theorem d_L_law_269 : decode (mi_code n_L_law) 269 = .ok (.iaload, 1) := by decide +kernel
theorem d_L_law_270 : decode (mi_code n_L_law) 270 = .ok (.aload_n 0, 1) := by decide +kernel
theorem d_L_law_271 : decode (mi_code n_L_law) 271 = .ok (.iload 4, 2) := by decide +kernel
theorem d_L_law_273 : decode (mi_code n_L_law) 273 = .ok (.iconst 2, 1) := by decide +kernel
theorem d_L_law_274 : decode (mi_code n_L_law) 274 = .ok (.iadd, 1) := by decide +kernel
theorem d_L_law_275 : decode (mi_code n_L_law) 275 = .ok (.iaload, 1) := by decide +kernel
theorem d_L_law_276 : decode (mi_code n_L_law) 276 = .ok (.aload_n 0, 1) := by decide +kernel
theorem d_L_law_277 : decode (mi_code n_L_law) 277 = .ok (.iload 4, 2) := by decide +kernel
theorem d_L_law_279 : decode (mi_code n_L_law) 279 = .ok (.iconst 3, 1) := by decide +kernel
theorem d_L_law_280 : decode (mi_code n_L_law) 280 = .ok (.iadd, 1) := by decide +kernel
theorem d_L_law_281 : decode (mi_code n_L_law) 281 = .ok (.iaload, 1) := by decide +kernel
theorem d_L_law_282 : decode (mi_code n_L_law) 282 = .ok (.aload_n 0, 1) := by decide +kernel
theorem d_L_law_283 : decode (mi_code n_L_law) 283 = .ok (.iload 4, 2) := by decide +kernel
theorem d_L_law_285 : decode (mi_code n_L_law) 285 = .ok (.iconst 4, 1) := by decide +kernel
theorem d_L_law_286 : decode (mi_code n_L_law) 286 = .ok (.iadd, 1) := by decide +kernel
theorem d_L_law_287 : decode (mi_code n_L_law) 287 = .ok (.iaload, 1) := by decide +kernel
theorem d_L_law_288 : decode (mi_code n_L_law) 288 = .ok (.invokevirtual 140, 3) := by decide +kernel
theorem d_L_law_291 : decode (mi_code n_L_law) 291 = .ok (.istore 6, 2) := by decide +kernel
theorem d_L_law_293 : decode (mi_code n_L_law) 293 = .ok (.aload_n 2, 1) := by decide +kernel
theorem d_L_law_294 : decode (mi_code n_L_law) 294 = .ok (.invokevirtual 134, 3) := by decide +kernel
theorem d_L_law_297 : decode (mi_code n_L_law) 297 = .ok (.iload 5, 2) := by decide +kernel
theorem d_L_law_299 : decode (mi_code n_L_law) 299 = .ok (.if_icmp .eq 5, 3) := by decide +kernel
theorem d_L_law_302 : decode (mi_code n_L_law) 302 = .ok (.iconst 0, 1) := by decide +kernel
theorem d_L_law_303 : decode (mi_code n_L_law) 303 = .ok (.ireturn, 1) := by decide +kernel
theorem d_L_law_304 : decode (mi_code n_L_law) 304 = .ok (.iload 5, 2) := by decide +kernel
theorem d_L_law_306 : decode (mi_code n_L_law) 306 = .ok (.ifCond .ne 15, 3) := by decide +kernel
theorem d_L_law_309 : decode (mi_code n_L_law) 309 = .ok (.aload_n 3, 1) := by decide +kernel
theorem d_L_law_310 : decode (mi_code n_L_law) 310 = .ok (.iconst 0, 1) := by decide +kernel
theorem d_L_law_311 : decode (mi_code n_L_law) 311 = .ok (.laload, 1) := by decide +kernel
theorem d_L_law_312 : decode (mi_code n_L_law) 312 = .ok (.iload 6, 2) := by decide +kernel
theorem d_L_law_314 : decode (mi_code n_L_law) 314 = .ok (.i2l, 1) := by decide +kernel
theorem d_L_law_315 : decode (mi_code n_L_law) 315 = .ok (.lcmp, 1) := by decide +kernel
theorem d_L_law_316 : decode (mi_code n_L_law) 316 = .ok (.ifCond .eq 5, 3) := by decide +kernel
theorem d_L_law_319 : decode (mi_code n_L_law) 319 = .ok (.iconst 0, 1) := by decide +kernel
theorem d_L_law_320 : decode (mi_code n_L_law) 320 = .ok (.ireturn, 1) := by decide +kernel
theorem d_L_law_321 : decode (mi_code n_L_law) 321 = .ok (.goto 2244, 3) := by decide +kernel
theorem d_L_law_324 : decode (mi_code n_L_law) 324 = .ok (.aload_n 1, 1) := by decide +kernel
theorem d_L_law_325 : decode (mi_code n_L_law) 325 = .ok (.aload_n 0, 1) := by decide +kernel
theorem d_L_law_326 : decode (mi_code n_L_law) 326 = .ok (.iload 4, 2) := by decide +kernel
theorem d_L_law_328 : decode (mi_code n_L_law) 328 = .ok (.iconst 1, 1) := by decide +kernel
theorem d_L_law_329 : decode (mi_code n_L_law) 329 = .ok (.iadd, 1) := by decide +kernel
theorem d_L_law_330 : decode (mi_code n_L_law) 330 = .ok (.iaload, 1) := by decide +kernel
theorem d_L_law_331 : decode (mi_code n_L_law) 331 = .ok (.aload_n 0, 1) := by decide +kernel
theorem d_L_law_332 : decode (mi_code n_L_law) 332 = .ok (.iload 4, 2) := by decide +kernel
theorem d_L_law_334 : decode (mi_code n_L_law) 334 = .ok (.iconst 2, 1) := by decide +kernel
theorem d_L_law_335 : decode (mi_code n_L_law) 335 = .ok (.iadd, 1) := by decide +kernel
theorem d_L_law_336 : decode (mi_code n_L_law) 336 = .ok (.iaload, 1) := by decide +kernel
theorem d_L_law_337 : decode (mi_code n_L_law) 337 = .ok (.aload_n 0, 1) := by decide +kernel
theorem d_L_law_338 : decode (mi_code n_L_law) 338 = .ok (.iload 4, 2) := by decide +kernel
theorem d_L_law_340 : decode (mi_code n_L_law) 340 = .ok (.iconst 3, 1) := by decide +kernel
theorem d_L_law_341 : decode (mi_code n_L_law) 341 = .ok (.iadd, 1) := by decide +kernel
theorem d_L_law_342 : decode (mi_code n_L_law) 342 = .ok (.iaload, 1) := by decide +kernel
theorem d_L_law_343 : decode (mi_code n_L_law) 343 = .ok (.aload_n 0, 1) := by decide +kernel
theorem d_L_law_344 : decode (mi_code n_L_law) 344 = .ok (.iload 4, 2) := by decide +kernel
theorem d_L_law_346 : decode (mi_code n_L_law) 346 = .ok (.iconst 4, 1) := by decide +kernel
theorem d_L_law_347 : decode (mi_code n_L_law) 347 = .ok (.iadd, 1) := by decide +kernel
theorem d_L_law_348 : decode (mi_code n_L_law) 348 = .ok (.iaload, 1) := by decide +kernel
theorem d_L_law_349 : decode (mi_code n_L_law) 349 = .ok (.aload_n 0, 1) := by decide +kernel
theorem d_L_law_350 : decode (mi_code n_L_law) 350 = .ok (.iload 4, 2) := by decide +kernel
theorem d_L_law_352 : decode (mi_code n_L_law) 352 = .ok (.iconst 5, 1) := by decide +kernel
theorem d_L_law_353 : decode (mi_code n_L_law) 353 = .ok (.iadd, 1) := by decide +kernel
theorem d_L_law_354 : decode (mi_code n_L_law) 354 = .ok (.iaload, 1) := by decide +kernel
theorem d_L_law_355 : decode (mi_code n_L_law) 355 = .ok (.aload_n 3, 1) := by decide +kernel
theorem d_L_law_356 : decode (mi_code n_L_law) 356 = .ok (.invokestatic 141, 3) := by decide +kernel
theorem d_L_law_359 : decode (mi_code n_L_law) 359 = .ok (.istore 5, 2) := by decide +kernel
theorem d_L_law_361 : decode (mi_code n_L_law) 361 = .ok (.aload_n 2, 1) := by decide +kernel
theorem d_L_law_362 : decode (mi_code n_L_law) 362 = .ok (.aload_n 0, 1) := by decide +kernel
theorem d_L_law_363 : decode (mi_code n_L_law) 363 = .ok (.iload 4, 2) := by decide +kernel
theorem d_L_law_365 : decode (mi_code n_L_law) 365 = .ok (.iconst 1, 1) := by decide +kernel
theorem d_L_law_366 : decode (mi_code n_L_law) 366 = .ok (.iadd, 1) := by decide +kernel
theorem d_L_law_367 : decode (mi_code n_L_law) 367 = .ok (.iaload, 1) := by decide +kernel
theorem d_L_law_368 : decode (mi_code n_L_law) 368 = .ok (.aload_n 0, 1) := by decide +kernel
theorem d_L_law_369 : decode (mi_code n_L_law) 369 = .ok (.iload 4, 2) := by decide +kernel
theorem d_L_law_371 : decode (mi_code n_L_law) 371 = .ok (.iconst 2, 1) := by decide +kernel
theorem d_L_law_372 : decode (mi_code n_L_law) 372 = .ok (.iadd, 1) := by decide +kernel
theorem d_L_law_373 : decode (mi_code n_L_law) 373 = .ok (.iaload, 1) := by decide +kernel
theorem d_L_law_374 : decode (mi_code n_L_law) 374 = .ok (.aload_n 0, 1) := by decide +kernel
theorem d_L_law_375 : decode (mi_code n_L_law) 375 = .ok (.iload 4, 2) := by decide +kernel
theorem d_L_law_377 : decode (mi_code n_L_law) 377 = .ok (.iconst 3, 1) := by decide +kernel
theorem d_L_law_378 : decode (mi_code n_L_law) 378 = .ok (.iadd, 1) := by decide +kernel
theorem d_L_law_379 : decode (mi_code n_L_law) 379 = .ok (.iaload, 1) := by decide +kernel
theorem d_L_law_380 : decode (mi_code n_L_law) 380 = .ok (.aload_n 0, 1) := by decide +kernel
theorem d_L_law_381 : decode (mi_code n_L_law) 381 = .ok (.iload 4, 2) := by decide +kernel
theorem d_L_law_383 : decode (mi_code n_L_law) 383 = .ok (.iconst 4, 1) := by decide +kernel
theorem d_L_law_384 : decode (mi_code n_L_law) 384 = .ok (.iadd, 1) := by decide +kernel
theorem d_L_law_385 : decode (mi_code n_L_law) 385 = .ok (.iaload, 1) := by decide +kernel
theorem d_L_law_386 : decode (mi_code n_L_law) 386 = .ok (.aload_n 0, 1) := by decide +kernel
theorem d_L_law_387 : decode (mi_code n_L_law) 387 = .ok (.iload 4, 2) := by decide +kernel
theorem d_L_law_389 : decode (mi_code n_L_law) 389 = .ok (.iconst 5, 1) := by decide +kernel
theorem d_L_law_390 : decode (mi_code n_L_law) 390 = .ok (.iadd, 1) := by decide +kernel
theorem d_L_law_391 : decode (mi_code n_L_law) 391 = .ok (.iaload, 1) := by decide +kernel
theorem d_L_law_392 : decode (mi_code n_L_law) 392 = .ok (.invokevirtual 144, 3) := by decide +kernel
theorem d_L_law_395 : decode (mi_code n_L_law) 395 = .ok (.istore 6, 2) := by decide +kernel
theorem d_L_law_397 : decode (mi_code n_L_law) 397 = .ok (.aload_n 2, 1) := by decide +kernel
theorem d_L_law_398 : decode (mi_code n_L_law) 398 = .ok (.invokevirtual 134, 3) := by decide +kernel
theorem d_L_law_401 : decode (mi_code n_L_law) 401 = .ok (.iload 5, 2) := by decide +kernel
theorem d_L_law_403 : decode (mi_code n_L_law) 403 = .ok (.if_icmp .eq 5, 3) := by decide +kernel
theorem d_L_law_406 : decode (mi_code n_L_law) 406 = .ok (.iconst 0, 1) := by decide +kernel
theorem d_L_law_407 : decode (mi_code n_L_law) 407 = .ok (.ireturn, 1) := by decide +kernel
theorem d_L_law_408 : decode (mi_code n_L_law) 408 = .ok (.iload 5, 2) := by decide +kernel
theorem d_L_law_410 : decode (mi_code n_L_law) 410 = .ok (.ifCond .ne 15, 3) := by decide +kernel
theorem d_L_law_413 : decode (mi_code n_L_law) 413 = .ok (.aload_n 3, 1) := by decide +kernel
theorem d_L_law_414 : decode (mi_code n_L_law) 414 = .ok (.iconst 0, 1) := by decide +kernel
theorem d_L_law_415 : decode (mi_code n_L_law) 415 = .ok (.laload, 1) := by decide +kernel
theorem d_L_law_416 : decode (mi_code n_L_law) 416 = .ok (.iload 6, 2) := by decide +kernel
theorem d_L_law_418 : decode (mi_code n_L_law) 418 = .ok (.i2l, 1) := by decide +kernel
theorem d_L_law_419 : decode (mi_code n_L_law) 419 = .ok (.lcmp, 1) := by decide +kernel
theorem d_L_law_420 : decode (mi_code n_L_law) 420 = .ok (.ifCond .eq 5, 3) := by decide +kernel
theorem d_L_law_423 : decode (mi_code n_L_law) 423 = .ok (.iconst 0, 1) := by decide +kernel
theorem d_L_law_424 : decode (mi_code n_L_law) 424 = .ok (.ireturn, 1) := by decide +kernel
theorem d_L_law_425 : decode (mi_code n_L_law) 425 = .ok (.goto 2140, 3) := by decide +kernel
theorem d_L_law_428 : decode (mi_code n_L_law) 428 = .ok (.aload_n 1, 1) := by decide +kernel
theorem d_L_law_429 : decode (mi_code n_L_law) 429 = .ok (.aload_n 0, 1) := by decide +kernel
theorem d_L_law_430 : decode (mi_code n_L_law) 430 = .ok (.iload 4, 2) := by decide +kernel
theorem d_L_law_432 : decode (mi_code n_L_law) 432 = .ok (.iconst 1, 1) := by decide +kernel
theorem d_L_law_433 : decode (mi_code n_L_law) 433 = .ok (.iadd, 1) := by decide +kernel
theorem d_L_law_434 : decode (mi_code n_L_law) 434 = .ok (.iaload, 1) := by decide +kernel
theorem d_L_law_435 : decode (mi_code n_L_law) 435 = .ok (.aload_n 0, 1) := by decide +kernel
theorem d_L_law_436 : decode (mi_code n_L_law) 436 = .ok (.iload 4, 2) := by decide +kernel
theorem d_L_law_438 : decode (mi_code n_L_law) 438 = .ok (.iconst 2, 1) := by decide +kernel
theorem d_L_law_439 : decode (mi_code n_L_law) 439 = .ok (.iadd, 1) := by decide +kernel
theorem d_L_law_440 : decode (mi_code n_L_law) 440 = .ok (.iaload, 1) := by decide +kernel
theorem d_L_law_441 : decode (mi_code n_L_law) 441 = .ok (.invokestatic 145, 3) := by decide +kernel
theorem d_L_law_444 : decode (mi_code n_L_law) 444 = .ok (.istore 5, 2) := by decide +kernel
theorem d_L_law_446 : decode (mi_code n_L_law) 446 = .ok (.aload_n 2, 1) := by decide +kernel
theorem d_L_law_447 : decode (mi_code n_L_law) 447 = .ok (.aload_n 0, 1) := by decide +kernel
theorem d_L_law_448 : decode (mi_code n_L_law) 448 = .ok (.iload 4, 2) := by decide +kernel
theorem d_L_law_450 : decode (mi_code n_L_law) 450 = .ok (.iconst 1, 1) := by decide +kernel
theorem d_L_law_451 : decode (mi_code n_L_law) 451 = .ok (.iadd, 1) := by decide +kernel
theorem d_L_law_452 : decode (mi_code n_L_law) 452 = .ok (.iaload, 1) := by decide +kernel
theorem d_L_law_453 : decode (mi_code n_L_law) 453 = .ok (.aload_n 0, 1) := by decide +kernel
theorem d_L_law_454 : decode (mi_code n_L_law) 454 = .ok (.iload 4, 2) := by decide +kernel
theorem d_L_law_456 : decode (mi_code n_L_law) 456 = .ok (.iconst 2, 1) := by decide +kernel
theorem d_L_law_457 : decode (mi_code n_L_law) 457 = .ok (.iadd, 1) := by decide +kernel
theorem d_L_law_458 : decode (mi_code n_L_law) 458 = .ok (.iaload, 1) := by decide +kernel
theorem d_L_law_459 : decode (mi_code n_L_law) 459 = .ok (.invokevirtual 148, 3) := by decide +kernel
theorem d_L_law_462 : decode (mi_code n_L_law) 462 = .ok (.aload_n 2, 1) := by decide +kernel
theorem d_L_law_463 : decode (mi_code n_L_law) 463 = .ok (.invokevirtual 134, 3) := by decide +kernel
theorem d_L_law_466 : decode (mi_code n_L_law) 466 = .ok (.iload 5, 2) := by decide +kernel
theorem d_L_law_468 : decode (mi_code n_L_law) 468 = .ok (.if_icmp .eq 5, 3) := by decide +kernel
theorem d_L_law_471 : decode (mi_code n_L_law) 471 = .ok (.iconst 0, 1) := by decide +kernel
theorem d_L_law_472 : decode (mi_code n_L_law) 472 = .ok (.ireturn, 1) := by decide +kernel
theorem d_L_law_473 : decode (mi_code n_L_law) 473 = .ok (.goto 2092, 3) := by decide +kernel
theorem d_L_law_476 : decode (mi_code n_L_law) 476 = .ok (.aload_n 1, 1) := by decide +kernel
theorem d_L_law_477 : decode (mi_code n_L_law) 477 = .ok (.aload_n 0, 1) := by decide +kernel
theorem d_L_law_478 : decode (mi_code n_L_law) 478 = .ok (.iload 4, 2) := by decide +kernel
theorem d_L_law_480 : decode (mi_code n_L_law) 480 = .ok (.iconst 1, 1) := by decide +kernel
theorem d_L_law_481 : decode (mi_code n_L_law) 481 = .ok (.iadd, 1) := by decide +kernel
theorem d_L_law_482 : decode (mi_code n_L_law) 482 = .ok (.iaload, 1) := by decide +kernel
theorem d_L_law_483 : decode (mi_code n_L_law) 483 = .ok (.aload_n 0, 1) := by decide +kernel
theorem d_L_law_484 : decode (mi_code n_L_law) 484 = .ok (.iload 4, 2) := by decide +kernel
theorem d_L_law_486 : decode (mi_code n_L_law) 486 = .ok (.iconst 2, 1) := by decide +kernel
theorem d_L_law_487 : decode (mi_code n_L_law) 487 = .ok (.iadd, 1) := by decide +kernel
theorem d_L_law_488 : decode (mi_code n_L_law) 488 = .ok (.iaload, 1) := by decide +kernel
theorem d_L_law_489 : decode (mi_code n_L_law) 489 = .ok (.aload_n 3, 1) := by decide +kernel
theorem d_L_law_490 : decode (mi_code n_L_law) 490 = .ok (.invokestatic 149, 3) := by decide +kernel
theorem d_L_law_493 : decode (mi_code n_L_law) 493 = .ok (.istore 5, 2) := by decide +kernel
theorem d_L_law_495 : decode (mi_code n_L_law) 495 = .ok (.aload_n 2, 1) := by decide +kernel
theorem d_L_law_496 : decode (mi_code n_L_law) 496 = .ok (.aload_n 0, 1) := by decide +kernel
theorem d_L_law_497 : decode (mi_code n_L_law) 497 = .ok (.iload 4, 2) := by decide +kernel
theorem d_L_law_499 : decode (mi_code n_L_law) 499 = .ok (.iconst 1, 1) := by decide +kernel
theorem d_L_law_500 : decode (mi_code n_L_law) 500 = .ok (.iadd, 1) := by decide +kernel
theorem d_L_law_501 : decode (mi_code n_L_law) 501 = .ok (.iaload, 1) := by decide +kernel
theorem d_L_law_502 : decode (mi_code n_L_law) 502 = .ok (.aload_n 0, 1) := by decide +kernel
theorem d_L_law_503 : decode (mi_code n_L_law) 503 = .ok (.iload 4, 2) := by decide +kernel
theorem d_L_law_505 : decode (mi_code n_L_law) 505 = .ok (.iconst 2, 1) := by decide +kernel
theorem d_L_law_506 : decode (mi_code n_L_law) 506 = .ok (.iadd, 1) := by decide +kernel
theorem d_L_law_507 : decode (mi_code n_L_law) 507 = .ok (.iaload, 1) := by decide +kernel
theorem d_L_law_508 : decode (mi_code n_L_law) 508 = .ok (.invokevirtual 152, 3) := by decide +kernel
theorem d_L_law_511 : decode (mi_code n_L_law) 511 = .ok (.istore 6, 2) := by decide +kernel
theorem d_L_law_513 : decode (mi_code n_L_law) 513 = .ok (.aload_n 2, 1) := by decide +kernel
theorem d_L_law_514 : decode (mi_code n_L_law) 514 = .ok (.invokevirtual 134, 3) := by decide +kernel
theorem d_L_law_517 : decode (mi_code n_L_law) 517 = .ok (.iload 5, 2) := by decide +kernel
theorem d_L_law_519 : decode (mi_code n_L_law) 519 = .ok (.if_icmp .eq 5, 3) := by decide +kernel
theorem d_L_law_522 : decode (mi_code n_L_law) 522 = .ok (.iconst 0, 1) := by decide +kernel
theorem d_L_law_523 : decode (mi_code n_L_law) 523 = .ok (.ireturn, 1) := by decide +kernel
theorem d_L_law_524 : decode (mi_code n_L_law) 524 = .ok (.iload 5, 2) := by decide +kernel
theorem d_L_law_526 : decode (mi_code n_L_law) 526 = .ok (.ifCond .ne 22, 3) := by decide +kernel
theorem d_L_law_529 : decode (mi_code n_L_law) 529 = .ok (.aload_n 3, 1) := by decide +kernel
theorem d_L_law_530 : decode (mi_code n_L_law) 530 = .ok (.iconst 0, 1) := by decide +kernel
theorem d_L_law_531 : decode (mi_code n_L_law) 531 = .ok (.laload, 1) := by decide +kernel
theorem d_L_law_532 : decode (mi_code n_L_law) 532 = .ok (.iload 6, 2) := by decide +kernel
theorem d_L_law_534 : decode (mi_code n_L_law) 534 = .ok (.ifCond .eq 7, 3) := by decide +kernel
theorem d_L_law_537 : decode (mi_code n_L_law) 537 = .ok (.lconst 1, 1) := by decide +kernel
theorem d_L_law_538 : decode (mi_code n_L_law) 538 = .ok (.goto 4, 3) := by decide +kernel
theorem d_L_law_541 : decode (mi_code n_L_law) 541 = .ok (.lconst 0, 1) := by decide +kernel
theorem d_L_law_542 : decode (mi_code n_L_law) 542 = .ok (.lcmp, 1) := by decide +kernel
theorem d_L_law_543 : decode (mi_code n_L_law) 543 = .ok (.ifCond .eq 5, 3) := by decide +kernel
theorem d_L_law_546 : decode (mi_code n_L_law) 546 = .ok (.iconst 0, 1) := by decide +kernel
theorem d_L_law_547 : decode (mi_code n_L_law) 547 = .ok (.ireturn, 1) := by decide +kernel
theorem d_L_law_548 : decode (mi_code n_L_law) 548 = .ok (.goto 2017, 3) := by decide +kernel
theorem d_L_law_551 : decode (mi_code n_L_law) 551 = .ok (.aload_n 1, 1) := by decide +kernel
theorem d_L_law_552 : decode (mi_code n_L_law) 552 = .ok (.aload_n 0, 1) := by decide +kernel
theorem d_L_law_553 : decode (mi_code n_L_law) 553 = .ok (.iload 4, 2) := by decide +kernel
theorem d_L_law_555 : decode (mi_code n_L_law) 555 = .ok (.iconst 1, 1) := by decide +kernel
theorem d_L_law_556 : decode (mi_code n_L_law) 556 = .ok (.iadd, 1) := by decide +kernel
theorem d_L_law_557 : decode (mi_code n_L_law) 557 = .ok (.iaload, 1) := by decide +kernel
theorem d_L_law_558 : decode (mi_code n_L_law) 558 = .ok (.aload_n 0, 1) := by decide +kernel
theorem d_L_law_559 : decode (mi_code n_L_law) 559 = .ok (.iload 4, 2) := by decide +kernel
theorem d_L_law_561 : decode (mi_code n_L_law) 561 = .ok (.iconst 2, 1) := by decide +kernel
theorem d_L_law_562 : decode (mi_code n_L_law) 562 = .ok (.iadd, 1) := by decide +kernel
theorem d_L_law_563 : decode (mi_code n_L_law) 563 = .ok (.iaload, 1) := by decide +kernel
theorem d_L_law_564 : decode (mi_code n_L_law) 564 = .ok (.aload_n 3, 1) := by decide +kernel
theorem d_L_law_565 : decode (mi_code n_L_law) 565 = .ok (.invokestatic 153, 3) := by decide +kernel
theorem d_L_law_568 : decode (mi_code n_L_law) 568 = .ok (.istore 5, 2) := by decide +kernel
theorem d_L_law_570 : decode (mi_code n_L_law) 570 = .ok (.aload_n 2, 1) := by decide +kernel
theorem d_L_law_571 : decode (mi_code n_L_law) 571 = .ok (.aload_n 0, 1) := by decide +kernel
theorem d_L_law_572 : decode (mi_code n_L_law) 572 = .ok (.iload 4, 2) := by decide +kernel
theorem d_L_law_574 : decode (mi_code n_L_law) 574 = .ok (.iconst 1, 1) := by decide +kernel
theorem d_L_law_575 : decode (mi_code n_L_law) 575 = .ok (.iadd, 1) := by decide +kernel
theorem d_L_law_576 : decode (mi_code n_L_law) 576 = .ok (.iaload, 1) := by decide +kernel
theorem d_L_law_577 : decode (mi_code n_L_law) 577 = .ok (.aload_n 0, 1) := by decide +kernel
theorem d_L_law_578 : decode (mi_code n_L_law) 578 = .ok (.iload 4, 2) := by decide +kernel
theorem d_L_law_580 : decode (mi_code n_L_law) 580 = .ok (.iconst 2, 1) := by decide +kernel
theorem d_L_law_581 : decode (mi_code n_L_law) 581 = .ok (.iadd, 1) := by decide +kernel
theorem d_L_law_582 : decode (mi_code n_L_law) 582 = .ok (.iaload, 1) := by decide +kernel
theorem d_L_law_583 : decode (mi_code n_L_law) 583 = .ok (.invokevirtual 155, 3) := by decide +kernel
theorem d_L_law_586 : decode (mi_code n_L_law) 586 = .ok (.istore 6, 2) := by decide +kernel
theorem d_L_law_588 : decode (mi_code n_L_law) 588 = .ok (.aload_n 2, 1) := by decide +kernel
theorem d_L_law_589 : decode (mi_code n_L_law) 589 = .ok (.invokevirtual 134, 3) := by decide +kernel
theorem d_L_law_592 : decode (mi_code n_L_law) 592 = .ok (.iload 5, 2) := by decide +kernel
theorem d_L_law_594 : decode (mi_code n_L_law) 594 = .ok (.if_icmp .eq 5, 3) := by decide +kernel
theorem d_L_law_597 : decode (mi_code n_L_law) 597 = .ok (.iconst 0, 1) := by decide +kernel
theorem d_L_law_598 : decode (mi_code n_L_law) 598 = .ok (.ireturn, 1) := by decide +kernel
theorem d_L_law_599 : decode (mi_code n_L_law) 599 = .ok (.iload 5, 2) := by decide +kernel
theorem d_L_law_601 : decode (mi_code n_L_law) 601 = .ok (.ifCond .ne 15, 3) := by decide +kernel
theorem d_L_law_604 : decode (mi_code n_L_law) 604 = .ok (.aload_n 3, 1) := by decide +kernel
theorem d_L_law_605 : decode (mi_code n_L_law) 605 = .ok (.iconst 0, 1) := by decide +kernel
theorem d_L_law_606 : decode (mi_code n_L_law) 606 = .ok (.laload, 1) := by decide +kernel
theorem d_L_law_607 : decode (mi_code n_L_law) 607 = .ok (.iload 6, 2) := by decide +kernel
theorem d_L_law_609 : decode (mi_code n_L_law) 609 = .ok (.i2l, 1) := by decide +kernel
theorem d_L_law_610 : decode (mi_code n_L_law) 610 = .ok (.lcmp, 1) := by decide +kernel
theorem d_L_law_611 : decode (mi_code n_L_law) 611 = .ok (.ifCond .eq 5, 3) := by decide +kernel
theorem d_L_law_614 : decode (mi_code n_L_law) 614 = .ok (.iconst 0, 1) := by decide +kernel
theorem d_L_law_615 : decode (mi_code n_L_law) 615 = .ok (.ireturn, 1) := by decide +kernel
theorem d_L_law_616 : decode (mi_code n_L_law) 616 = .ok (.goto 1949, 3) := by decide +kernel
theorem d_L_law_619 : decode (mi_code n_L_law) 619 = .ok (.aload_n 1, 1) := by decide +kernel
theorem d_L_law_620 : decode (mi_code n_L_law) 620 = .ok (.aload_n 0, 1) := by decide +kernel
theorem d_L_law_621 : decode (mi_code n_L_law) 621 = .ok (.iload 4, 2) := by decide +kernel
theorem d_L_law_623 : decode (mi_code n_L_law) 623 = .ok (.iconst 1, 1) := by decide +kernel
theorem d_L_law_624 : decode (mi_code n_L_law) 624 = .ok (.iadd, 1) := by decide +kernel
theorem d_L_law_625 : decode (mi_code n_L_law) 625 = .ok (.iaload, 1) := by decide +kernel
theorem d_L_law_626 : decode (mi_code n_L_law) 626 = .ok (.aload_n 3, 1) := by decide +kernel
theorem d_L_law_627 : decode (mi_code n_L_law) 627 = .ok (.invokestatic 156, 3) := by decide +kernel
theorem d_L_law_630 : decode (mi_code n_L_law) 630 = .ok (.istore 5, 2) := by decide +kernel
theorem d_L_law_632 : decode (mi_code n_L_law) 632 = .ok (.aload_n 2, 1) := by decide +kernel
theorem d_L_law_633 : decode (mi_code n_L_law) 633 = .ok (.aload_n 0, 1) := by decide +kernel
theorem d_L_law_634 : decode (mi_code n_L_law) 634 = .ok (.iload 4, 2) := by decide +kernel
theorem d_L_law_636 : decode (mi_code n_L_law) 636 = .ok (.iconst 1, 1) := by decide +kernel
theorem d_L_law_637 : decode (mi_code n_L_law) 637 = .ok (.iadd, 1) := by decide +kernel
theorem d_L_law_638 : decode (mi_code n_L_law) 638 = .ok (.iaload, 1) := by decide +kernel
theorem d_L_law_639 : decode (mi_code n_L_law) 639 = .ok (.invokevirtual 159, 3) := by decide +kernel
theorem d_L_law_642 : decode (mi_code n_L_law) 642 = .ok (.istore 6, 2) := by decide +kernel
theorem d_L_law_644 : decode (mi_code n_L_law) 644 = .ok (.aload_n 2, 1) := by decide +kernel
theorem d_L_law_645 : decode (mi_code n_L_law) 645 = .ok (.invokevirtual 134, 3) := by decide +kernel
theorem d_L_law_648 : decode (mi_code n_L_law) 648 = .ok (.iload 5, 2) := by decide +kernel
theorem d_L_law_650 : decode (mi_code n_L_law) 650 = .ok (.if_icmp .eq 5, 3) := by decide +kernel
theorem d_L_law_653 : decode (mi_code n_L_law) 653 = .ok (.iconst 0, 1) := by decide +kernel
theorem d_L_law_654 : decode (mi_code n_L_law) 654 = .ok (.ireturn, 1) := by decide +kernel
theorem d_L_law_655 : decode (mi_code n_L_law) 655 = .ok (.iload 5, 2) := by decide +kernel
theorem d_L_law_657 : decode (mi_code n_L_law) 657 = .ok (.ifCond .ne 22, 3) := by decide +kernel
theorem d_L_law_660 : decode (mi_code n_L_law) 660 = .ok (.aload_n 3, 1) := by decide +kernel
theorem d_L_law_661 : decode (mi_code n_L_law) 661 = .ok (.iconst 0, 1) := by decide +kernel
theorem d_L_law_662 : decode (mi_code n_L_law) 662 = .ok (.laload, 1) := by decide +kernel
theorem d_L_law_663 : decode (mi_code n_L_law) 663 = .ok (.iload 6, 2) := by decide +kernel
theorem d_L_law_665 : decode (mi_code n_L_law) 665 = .ok (.ifCond .eq 7, 3) := by decide +kernel
theorem d_L_law_668 : decode (mi_code n_L_law) 668 = .ok (.lconst 1, 1) := by decide +kernel
theorem d_L_law_669 : decode (mi_code n_L_law) 669 = .ok (.goto 4, 3) := by decide +kernel
theorem d_L_law_672 : decode (mi_code n_L_law) 672 = .ok (.lconst 0, 1) := by decide +kernel
theorem d_L_law_673 : decode (mi_code n_L_law) 673 = .ok (.lcmp, 1) := by decide +kernel
theorem d_L_law_674 : decode (mi_code n_L_law) 674 = .ok (.ifCond .eq 5, 3) := by decide +kernel
theorem d_L_law_677 : decode (mi_code n_L_law) 677 = .ok (.iconst 0, 1) := by decide +kernel
theorem d_L_law_678 : decode (mi_code n_L_law) 678 = .ok (.ireturn, 1) := by decide +kernel
theorem d_L_law_679 : decode (mi_code n_L_law) 679 = .ok (.goto 1886, 3) := by decide +kernel
theorem d_L_law_682 : decode (mi_code n_L_law) 682 = .ok (.aload_n 1, 1) := by decide +kernel
theorem d_L_law_683 : decode (mi_code n_L_law) 683 = .ok (.aload_n 0, 1) := by decide +kernel
theorem d_L_law_684 : decode (mi_code n_L_law) 684 = .ok (.iload 4, 2) := by decide +kernel
theorem d_L_law_686 : decode (mi_code n_L_law) 686 = .ok (.iconst 1, 1) := by decide +kernel
theorem d_L_law_687 : decode (mi_code n_L_law) 687 = .ok (.iadd, 1) := by decide +kernel
theorem d_L_law_688 : decode (mi_code n_L_law) 688 = .ok (.iaload, 1) := by decide +kernel
theorem d_L_law_689 : decode (mi_code n_L_law) 689 = .ok (.aload_n 0, 1) := by decide +kernel
theorem d_L_law_690 : decode (mi_code n_L_law) 690 = .ok (.iload 4, 2) := by decide +kernel
theorem d_L_law_692 : decode (mi_code n_L_law) 692 = .ok (.iconst 2, 1) := by decide +kernel
theorem d_L_law_693 : decode (mi_code n_L_law) 693 = .ok (.iadd, 1) := by decide +kernel
theorem d_L_law_694 : decode (mi_code n_L_law) 694 = .ok (.iaload, 1) := by decide +kernel
theorem d_L_law_695 : decode (mi_code n_L_law) 695 = .ok (.ifCond .eq 7, 3) := by decide +kernel
theorem d_L_law_698 : decode (mi_code n_L_law) 698 = .ok (.iconst 1, 1) := by decide +kernel
theorem d_L_law_699 : decode (mi_code n_L_law) 699 = .ok (.goto 4, 3) := by decide +kernel
theorem d_L_law_702 : decode (mi_code n_L_law) 702 = .ok (.iconst 0, 1) := by decide +kernel
theorem d_L_law_703 : decode (mi_code n_L_law) 703 = .ok (.aload_n 3, 1) := by decide +kernel
theorem d_L_law_704 : decode (mi_code n_L_law) 704 = .ok (.invokestatic 160, 3) := by decide +kernel
theorem d_L_law_707 : decode (mi_code n_L_law) 707 = .ok (.istore 5, 2) := by decide +kernel
theorem d_L_law_709 : decode (mi_code n_L_law) 709 = .ok (.aload_n 2, 1) := by decide +kernel
theorem d_L_law_710 : decode (mi_code n_L_law) 710 = .ok (.aload_n 0, 1) := by decide +kernel
theorem d_L_law_711 : decode (mi_code n_L_law) 711 = .ok (.iload 4, 2) := by decide +kernel
theorem d_L_law_713 : decode (mi_code n_L_law) 713 = .ok (.iconst 1, 1) := by decide +kernel
theorem d_L_law_714 : decode (mi_code n_L_law) 714 = .ok (.iadd, 1) := by decide +kernel
theorem d_L_law_715 : decode (mi_code n_L_law) 715 = .ok (.iaload, 1) := by decide +kernel
theorem d_L_law_716 : decode (mi_code n_L_law) 716 = .ok (.aload_n 0, 1) := by decide +kernel
theorem d_L_law_717 : decode (mi_code n_L_law) 717 = .ok (.iload 4, 2) := by decide +kernel
theorem d_L_law_719 : decode (mi_code n_L_law) 719 = .ok (.iconst 2, 1) := by decide +kernel
theorem d_L_law_720 : decode (mi_code n_L_law) 720 = .ok (.iadd, 1) := by decide +kernel
theorem d_L_law_721 : decode (mi_code n_L_law) 721 = .ok (.iaload, 1) := by decide +kernel
theorem d_L_law_722 : decode (mi_code n_L_law) 722 = .ok (.ifCond .eq 7, 3) := by decide +kernel
theorem d_L_law_725 : decode (mi_code n_L_law) 725 = .ok (.iconst 1, 1) := by decide +kernel
theorem d_L_law_726 : decode (mi_code n_L_law) 726 = .ok (.goto 4, 3) := by decide +kernel
theorem d_L_law_729 : decode (mi_code n_L_law) 729 = .ok (.iconst 0, 1) := by decide +kernel
theorem d_L_law_730 : decode (mi_code n_L_law) 730 = .ok (.invokevirtual 163, 3) := by decide +kernel
theorem d_L_law_733 : decode (mi_code n_L_law) 733 = .ok (.istore 6, 2) := by decide +kernel
theorem d_L_law_735 : decode (mi_code n_L_law) 735 = .ok (.aload_n 2, 1) := by decide +kernel
theorem d_L_law_736 : decode (mi_code n_L_law) 736 = .ok (.invokevirtual 134, 3) := by decide +kernel
theorem d_L_law_739 : decode (mi_code n_L_law) 739 = .ok (.iload 5, 2) := by decide +kernel
theorem d_L_law_741 : decode (mi_code n_L_law) 741 = .ok (.if_icmp .eq 5, 3) := by decide +kernel
theorem d_L_law_744 : decode (mi_code n_L_law) 744 = .ok (.iconst 0, 1) := by decide +kernel
theorem d_L_law_745 : decode (mi_code n_L_law) 745 = .ok (.ireturn, 1) := by decide +kernel
theorem d_L_law_746 : decode (mi_code n_L_law) 746 = .ok (.iload 5, 2) := by decide +kernel
theorem d_L_law_748 : decode (mi_code n_L_law) 748 = .ok (.ifCond .ne 15, 3) := by decide +kernel
theorem d_L_law_751 : decode (mi_code n_L_law) 751 = .ok (.aload_n 3, 1) := by decide +kernel
theorem d_L_law_752 : decode (mi_code n_L_law) 752 = .ok (.iconst 0, 1) := by decide +kernel
theorem d_L_law_753 : decode (mi_code n_L_law) 753 = .ok (.laload, 1) := by decide +kernel
theorem d_L_law_754 : decode (mi_code n_L_law) 754 = .ok (.iload 6, 2) := by decide +kernel
theorem d_L_law_756 : decode (mi_code n_L_law) 756 = .ok (.i2l, 1) := by decide +kernel
theorem d_L_law_757 : decode (mi_code n_L_law) 757 = .ok (.lcmp, 1) := by decide +kernel
theorem d_L_law_758 : decode (mi_code n_L_law) 758 = .ok (.ifCond .eq 5, 3) := by decide +kernel
theorem d_L_law_761 : decode (mi_code n_L_law) 761 = .ok (.iconst 0, 1) := by decide +kernel
theorem d_L_law_762 : decode (mi_code n_L_law) 762 = .ok (.ireturn, 1) := by decide +kernel
theorem d_L_law_763 : decode (mi_code n_L_law) 763 = .ok (.goto 1802, 3) := by decide +kernel
theorem d_L_law_766 : decode (mi_code n_L_law) 766 = .ok (.aload_n 1, 1) := by decide +kernel
theorem d_L_law_767 : decode (mi_code n_L_law) 767 = .ok (.aload_n 0, 1) := by decide +kernel
theorem d_L_law_768 : decode (mi_code n_L_law) 768 = .ok (.iload 4, 2) := by decide +kernel
theorem d_L_law_770 : decode (mi_code n_L_law) 770 = .ok (.iconst 1, 1) := by decide +kernel
theorem d_L_law_771 : decode (mi_code n_L_law) 771 = .ok (.iadd, 1) := by decide +kernel
theorem d_L_law_772 : decode (mi_code n_L_law) 772 = .ok (.iaload, 1) := by decide +kernel
theorem d_L_law_773 : decode (mi_code n_L_law) 773 = .ok (.aload_n 0, 1) := by decide +kernel
theorem d_L_law_774 : decode (mi_code n_L_law) 774 = .ok (.iload 4, 2) := by decide +kernel
theorem d_L_law_776 : decode (mi_code n_L_law) 776 = .ok (.iconst 2, 1) := by decide +kernel
theorem d_L_law_777 : decode (mi_code n_L_law) 777 = .ok (.iadd, 1) := by decide +kernel
theorem d_L_law_778 : decode (mi_code n_L_law) 778 = .ok (.iaload, 1) := by decide +kernel
theorem d_L_law_779 : decode (mi_code n_L_law) 779 = .ok (.aload_n 0, 1) := by decide +kernel
theorem d_L_law_780 : decode (mi_code n_L_law) 780 = .ok (.iload 4, 2) := by decide +kernel
theorem d_L_law_782 : decode (mi_code n_L_law) 782 = .ok (.iconst 3, 1) := by decide +kernel
theorem d_L_law_783 : decode (mi_code n_L_law) 783 = .ok (.iadd, 1) := by decide +kernel
theorem d_L_law_784 : decode (mi_code n_L_law) 784 = .ok (.iaload, 1) := by decide +kernel
theorem d_L_law_785 : decode (mi_code n_L_law) 785 = .ok (.aload_n 3, 1) := by decide +kernel
theorem d_L_law_786 : decode (mi_code n_L_law) 786 = .ok (.invokestatic 164, 3) := by decide +kernel
theorem d_L_law_789 : decode (mi_code n_L_law) 789 = .ok (.istore 5, 2) := by decide +kernel
theorem d_L_law_791 : decode (mi_code n_L_law) 791 = .ok (.aload_n 2, 1) := by decide +kernel
theorem d_L_law_792 : decode (mi_code n_L_law) 792 = .ok (.aload_n 0, 1) := by decide +kernel
theorem d_L_law_793 : decode (mi_code n_L_law) 793 = .ok (.iload 4, 2) := by decide +kernel
theorem d_L_law_795 : decode (mi_code n_L_law) 795 = .ok (.iconst 1, 1) := by decide +kernel
theorem d_L_law_796 : decode (mi_code n_L_law) 796 = .ok (.iadd, 1) := by decide +kernel
theorem d_L_law_797 : decode (mi_code n_L_law) 797 = .ok (.iaload, 1) := by decide +kernel
theorem d_L_law_798 : decode (mi_code n_L_law) 798 = .ok (.aload_n 0, 1) := by decide +kernel
theorem d_L_law_799 : decode (mi_code n_L_law) 799 = .ok (.iload 4, 2) := by decide +kernel
theorem d_L_law_801 : decode (mi_code n_L_law) 801 = .ok (.iconst 2, 1) := by decide +kernel
theorem d_L_law_802 : decode (mi_code n_L_law) 802 = .ok (.iadd, 1) := by decide +kernel
theorem d_L_law_803 : decode (mi_code n_L_law) 803 = .ok (.iaload, 1) := by decide +kernel
theorem d_L_law_804 : decode (mi_code n_L_law) 804 = .ok (.aload_n 0, 1) := by decide +kernel
theorem d_L_law_805 : decode (mi_code n_L_law) 805 = .ok (.iload 4, 2) := by decide +kernel
theorem d_L_law_807 : decode (mi_code n_L_law) 807 = .ok (.iconst 3, 1) := by decide +kernel
theorem d_L_law_808 : decode (mi_code n_L_law) 808 = .ok (.iadd, 1) := by decide +kernel
theorem d_L_law_809 : decode (mi_code n_L_law) 809 = .ok (.iaload, 1) := by decide +kernel
theorem d_L_law_810 : decode (mi_code n_L_law) 810 = .ok (.invokevirtual 167, 3) := by decide +kernel
theorem d_L_law_813 : decode (mi_code n_L_law) 813 = .ok (.istore 6, 2) := by decide +kernel
theorem d_L_law_815 : decode (mi_code n_L_law) 815 = .ok (.aload_n 2, 1) := by decide +kernel
theorem d_L_law_816 : decode (mi_code n_L_law) 816 = .ok (.invokevirtual 134, 3) := by decide +kernel
theorem d_L_law_819 : decode (mi_code n_L_law) 819 = .ok (.iload 5, 2) := by decide +kernel
theorem d_L_law_821 : decode (mi_code n_L_law) 821 = .ok (.if_icmp .eq 5, 3) := by decide +kernel
theorem d_L_law_824 : decode (mi_code n_L_law) 824 = .ok (.iconst 0, 1) := by decide +kernel
theorem d_L_law_825 : decode (mi_code n_L_law) 825 = .ok (.ireturn, 1) := by decide +kernel
theorem d_L_law_826 : decode (mi_code n_L_law) 826 = .ok (.iload 5, 2) := by decide +kernel
theorem d_L_law_828 : decode (mi_code n_L_law) 828 = .ok (.ifCond .ne 15, 3) := by decide +kernel
theorem d_L_law_831 : decode (mi_code n_L_law) 831 = .ok (.aload_n 3, 1) := by decide +kernel
theorem d_L_law_832 : decode (mi_code n_L_law) 832 = .ok (.iconst 0, 1) := by decide +kernel
theorem d_L_law_833 : decode (mi_code n_L_law) 833 = .ok (.laload, 1) := by decide +kernel
theorem d_L_law_834 : decode (mi_code n_L_law) 834 = .ok (.iload 6, 2) := by decide +kernel
theorem d_L_law_836 : decode (mi_code n_L_law) 836 = .ok (.i2l, 1) := by decide +kernel
theorem d_L_law_837 : decode (mi_code n_L_law) 837 = .ok (.lcmp, 1) := by decide +kernel
theorem d_L_law_838 : decode (mi_code n_L_law) 838 = .ok (.ifCond .eq 5, 3) := by decide +kernel
theorem d_L_law_841 : decode (mi_code n_L_law) 841 = .ok (.iconst 0, 1) := by decide +kernel
theorem d_L_law_842 : decode (mi_code n_L_law) 842 = .ok (.ireturn, 1) := by decide +kernel
theorem d_L_law_843 : decode (mi_code n_L_law) 843 = .ok (.goto 1722, 3) := by decide +kernel
theorem d_L_law_846 : decode (mi_code n_L_law) 846 = .ok (.aload_n 1, 1) := by decide +kernel
theorem d_L_law_847 : decode (mi_code n_L_law) 847 = .ok (.aload_n 0, 1) := by decide +kernel
theorem d_L_law_848 : decode (mi_code n_L_law) 848 = .ok (.iload 4, 2) := by decide +kernel
theorem d_L_law_850 : decode (mi_code n_L_law) 850 = .ok (.iconst 1, 1) := by decide +kernel
theorem d_L_law_851 : decode (mi_code n_L_law) 851 = .ok (.iadd, 1) := by decide +kernel
theorem d_L_law_852 : decode (mi_code n_L_law) 852 = .ok (.iaload, 1) := by decide +kernel
theorem d_L_law_853 : decode (mi_code n_L_law) 853 = .ok (.aload_n 0, 1) := by decide +kernel
theorem d_L_law_854 : decode (mi_code n_L_law) 854 = .ok (.iload 4, 2) := by decide +kernel
theorem d_L_law_856 : decode (mi_code n_L_law) 856 = .ok (.iconst 2, 1) := by decide +kernel
theorem d_L_law_857 : decode (mi_code n_L_law) 857 = .ok (.iadd, 1) := by decide +kernel
theorem d_L_law_858 : decode (mi_code n_L_law) 858 = .ok (.iaload, 1) := by decide +kernel
theorem d_L_law_859 : decode (mi_code n_L_law) 859 = .ok (.aload_n 3, 1) := by decide +kernel
theorem d_L_law_860 : decode (mi_code n_L_law) 860 = .ok (.invokestatic 168, 3) := by decide +kernel
theorem d_L_law_863 : decode (mi_code n_L_law) 863 = .ok (.istore 5, 2) := by decide +kernel
theorem d_L_law_865 : decode (mi_code n_L_law) 865 = .ok (.aload_n 2, 1) := by decide +kernel
theorem d_L_law_866 : decode (mi_code n_L_law) 866 = .ok (.aload_n 0, 1) := by decide +kernel
theorem d_L_law_867 : decode (mi_code n_L_law) 867 = .ok (.iload 4, 2) := by decide +kernel
theorem d_L_law_869 : decode (mi_code n_L_law) 869 = .ok (.iconst 1, 1) := by decide +kernel
theorem d_L_law_870 : decode (mi_code n_L_law) 870 = .ok (.iadd, 1) := by decide +kernel
theorem d_L_law_871 : decode (mi_code n_L_law) 871 = .ok (.iaload, 1) := by decide +kernel
theorem d_L_law_872 : decode (mi_code n_L_law) 872 = .ok (.aload_n 0, 1) := by decide +kernel
theorem d_L_law_873 : decode (mi_code n_L_law) 873 = .ok (.iload 4, 2) := by decide +kernel
theorem d_L_law_875 : decode (mi_code n_L_law) 875 = .ok (.iconst 2, 1) := by decide +kernel
theorem d_L_law_876 : decode (mi_code n_L_law) 876 = .ok (.iadd, 1) := by decide +kernel
theorem d_L_law_877 : decode (mi_code n_L_law) 877 = .ok (.iaload, 1) := by decide +kernel
theorem d_L_law_878 : decode (mi_code n_L_law) 878 = .ok (.invokevirtual 170, 3) := by decide +kernel
theorem d_L_law_881 : decode (mi_code n_L_law) 881 = .ok (.istore 6, 2) := by decide +kernel
theorem d_L_law_883 : decode (mi_code n_L_law) 883 = .ok (.aload_n 2, 1) := by decide +kernel
theorem d_L_law_884 : decode (mi_code n_L_law) 884 = .ok (.invokevirtual 134, 3) := by decide +kernel
theorem d_L_law_887 : decode (mi_code n_L_law) 887 = .ok (.iload 5, 2) := by decide +kernel
theorem d_L_law_889 : decode (mi_code n_L_law) 889 = .ok (.if_icmp .eq 5, 3) := by decide +kernel
theorem d_L_law_892 : decode (mi_code n_L_law) 892 = .ok (.iconst 0, 1) := by decide +kernel
theorem d_L_law_893 : decode (mi_code n_L_law) 893 = .ok (.ireturn, 1) := by decide +kernel
theorem d_L_law_894 : decode (mi_code n_L_law) 894 = .ok (.iload 5, 2) := by decide +kernel
theorem d_L_law_896 : decode (mi_code n_L_law) 896 = .ok (.ifCond .ne 15, 3) := by decide +kernel
theorem d_L_law_899 : decode (mi_code n_L_law) 899 = .ok (.aload_n 3, 1) := by decide +kernel
theorem d_L_law_900 : decode (mi_code n_L_law) 900 = .ok (.iconst 0, 1) := by decide +kernel
theorem d_L_law_901 : decode (mi_code n_L_law) 901 = .ok (.laload, 1) := by decide +kernel
theorem d_L_law_902 : decode (mi_code n_L_law) 902 = .ok (.iload 6, 2) := by decide +kernel
theorem d_L_law_904 : decode (mi_code n_L_law) 904 = .ok (.i2l, 1) := by decide +kernel
theorem d_L_law_905 : decode (mi_code n_L_law) 905 = .ok (.lcmp, 1) := by decide +kernel
theorem d_L_law_906 : decode (mi_code n_L_law) 906 = .ok (.ifCond .eq 5, 3) := by decide +kernel
theorem d_L_law_909 : decode (mi_code n_L_law) 909 = .ok (.iconst 0, 1) := by decide +kernel
theorem d_L_law_910 : decode (mi_code n_L_law) 910 = .ok (.ireturn, 1) := by decide +kernel
theorem d_L_law_911 : decode (mi_code n_L_law) 911 = .ok (.goto 1654, 3) := by decide +kernel
theorem d_L_law_914 : decode (mi_code n_L_law) 914 = .ok (.aload_n 1, 1) := by decide +kernel
theorem d_L_law_915 : decode (mi_code n_L_law) 915 = .ok (.aload_n 0, 1) := by decide +kernel
theorem d_L_law_916 : decode (mi_code n_L_law) 916 = .ok (.iload 4, 2) := by decide +kernel
theorem d_L_law_918 : decode (mi_code n_L_law) 918 = .ok (.iconst 1, 1) := by decide +kernel
theorem d_L_law_919 : decode (mi_code n_L_law) 919 = .ok (.iadd, 1) := by decide +kernel
theorem d_L_law_920 : decode (mi_code n_L_law) 920 = .ok (.iaload, 1) := by decide +kernel
theorem d_L_law_921 : decode (mi_code n_L_law) 921 = .ok (.aload_n 0, 1) := by decide +kernel
theorem d_L_law_922 : decode (mi_code n_L_law) 922 = .ok (.iload 4, 2) := by decide +kernel
theorem d_L_law_924 : decode (mi_code n_L_law) 924 = .ok (.iconst 2, 1) := by decide +kernel
theorem d_L_law_925 : decode (mi_code n_L_law) 925 = .ok (.iadd, 1) := by decide +kernel
theorem d_L_law_926 : decode (mi_code n_L_law) 926 = .ok (.iaload, 1) := by decide +kernel
theorem d_L_law_927 : decode (mi_code n_L_law) 927 = .ok (.aload_n 0, 1) := by decide +kernel
theorem d_L_law_928 : decode (mi_code n_L_law) 928 = .ok (.iload 4, 2) := by decide +kernel
theorem d_L_law_930 : decode (mi_code n_L_law) 930 = .ok (.iconst 3, 1) := by decide +kernel
theorem d_L_law_931 : decode (mi_code n_L_law) 931 = .ok (.iadd, 1) := by decide +kernel
theorem d_L_law_932 : decode (mi_code n_L_law) 932 = .ok (.iaload, 1) := by decide +kernel
theorem d_L_law_933 : decode (mi_code n_L_law) 933 = .ok (.aload_n 0, 1) := by decide +kernel
theorem d_L_law_934 : decode (mi_code n_L_law) 934 = .ok (.iload 4, 2) := by decide +kernel
theorem d_L_law_936 : decode (mi_code n_L_law) 936 = .ok (.iconst 4, 1) := by decide +kernel
theorem d_L_law_937 : decode (mi_code n_L_law) 937 = .ok (.iadd, 1) := by decide +kernel
theorem d_L_law_938 : decode (mi_code n_L_law) 938 = .ok (.iaload, 1) := by decide +kernel
theorem d_L_law_939 : decode (mi_code n_L_law) 939 = .ok (.aload_n 3, 1) := by decide +kernel
theorem d_L_law_940 : decode (mi_code n_L_law) 940 = .ok (.invokestatic 171, 3) := by decide +kernel
theorem d_L_law_943 : decode (mi_code n_L_law) 943 = .ok (.istore 5, 2) := by decide +kernel
theorem d_L_law_945 : decode (mi_code n_L_law) 945 = .ok (.aload_n 2, 1) := by decide +kernel
theorem d_L_law_946 : decode (mi_code n_L_law) 946 = .ok (.aload_n 0, 1) := by decide +kernel
theorem d_L_law_947 : decode (mi_code n_L_law) 947 = .ok (.iload 4, 2) := by decide +kernel
theorem d_L_law_949 : decode (mi_code n_L_law) 949 = .ok (.iconst 1, 1) := by decide +kernel
theorem d_L_law_950 : decode (mi_code n_L_law) 950 = .ok (.iadd, 1) := by decide +kernel
theorem d_L_law_951 : decode (mi_code n_L_law) 951 = .ok (.iaload, 1) := by decide +kernel
theorem d_L_law_952 : decode (mi_code n_L_law) 952 = .ok (.aload_n 0, 1) := by decide +kernel
theorem d_L_law_953 : decode (mi_code n_L_law) 953 = .ok (.iload 4, 2) := by decide +kernel
theorem d_L_law_955 : decode (mi_code n_L_law) 955 = .ok (.iconst 2, 1) := by decide +kernel
theorem d_L_law_956 : decode (mi_code n_L_law) 956 = .ok (.iadd, 1) := by decide +kernel
theorem d_L_law_957 : decode (mi_code n_L_law) 957 = .ok (.iaload, 1) := by decide +kernel
theorem d_L_law_958 : decode (mi_code n_L_law) 958 = .ok (.aload_n 0, 1) := by decide +kernel
theorem d_L_law_959 : decode (mi_code n_L_law) 959 = .ok (.iload 4, 2) := by decide +kernel
theorem d_L_law_961 : decode (mi_code n_L_law) 961 = .ok (.iconst 3, 1) := by decide +kernel
theorem d_L_law_962 : decode (mi_code n_L_law) 962 = .ok (.iadd, 1) := by decide +kernel
theorem d_L_law_963 : decode (mi_code n_L_law) 963 = .ok (.iaload, 1) := by decide +kernel
theorem d_L_law_964 : decode (mi_code n_L_law) 964 = .ok (.aload_n 0, 1) := by decide +kernel
theorem d_L_law_965 : decode (mi_code n_L_law) 965 = .ok (.iload 4, 2) := by decide +kernel
theorem d_L_law_967 : decode (mi_code n_L_law) 967 = .ok (.iconst 4, 1) := by decide +kernel
theorem d_L_law_968 : decode (mi_code n_L_law) 968 = .ok (.iadd, 1) := by decide +kernel
theorem d_L_law_969 : decode (mi_code n_L_law) 969 = .ok (.iaload, 1) := by decide +kernel
theorem d_L_law_970 : decode (mi_code n_L_law) 970 = .ok (.invokevirtual 173, 3) := by decide +kernel
theorem d_L_law_973 : decode (mi_code n_L_law) 973 = .ok (.istore 6, 2) := by decide +kernel
theorem d_L_law_975 : decode (mi_code n_L_law) 975 = .ok (.aload_n 2, 1) := by decide +kernel
theorem d_L_law_976 : decode (mi_code n_L_law) 976 = .ok (.invokevirtual 134, 3) := by decide +kernel
theorem d_L_law_979 : decode (mi_code n_L_law) 979 = .ok (.iload 5, 2) := by decide +kernel
theorem d_L_law_981 : decode (mi_code n_L_law) 981 = .ok (.if_icmp .eq 5, 3) := by decide +kernel
theorem d_L_law_984 : decode (mi_code n_L_law) 984 = .ok (.iconst 0, 1) := by decide +kernel
theorem d_L_law_985 : decode (mi_code n_L_law) 985 = .ok (.ireturn, 1) := by decide +kernel
theorem d_L_law_986 : decode (mi_code n_L_law) 986 = .ok (.iload 5, 2) := by decide +kernel
theorem d_L_law_988 : decode (mi_code n_L_law) 988 = .ok (.ifCond .ne 15, 3) := by decide +kernel
theorem d_L_law_991 : decode (mi_code n_L_law) 991 = .ok (.aload_n 3, 1) := by decide +kernel
theorem d_L_law_992 : decode (mi_code n_L_law) 992 = .ok (.iconst 0, 1) := by decide +kernel
theorem d_L_law_993 : decode (mi_code n_L_law) 993 = .ok (.laload, 1) := by decide +kernel
theorem d_L_law_994 : decode (mi_code n_L_law) 994 = .ok (.iload 6, 2) := by decide +kernel
theorem d_L_law_996 : decode (mi_code n_L_law) 996 = .ok (.i2l, 1) := by decide +kernel
theorem d_L_law_997 : decode (mi_code n_L_law) 997 = .ok (.lcmp, 1) := by decide +kernel
theorem d_L_law_998 : decode (mi_code n_L_law) 998 = .ok (.ifCond .eq 5, 3) := by decide +kernel
theorem d_L_law_1001 : decode (mi_code n_L_law) 1001 = .ok (.iconst 0, 1) := by decide +kernel
theorem d_L_law_1002 : decode (mi_code n_L_law) 1002 = .ok (.ireturn, 1) := by decide +kernel
theorem d_L_law_1003 : decode (mi_code n_L_law) 1003 = .ok (.goto 1562, 3) := by decide +kernel
theorem d_L_law_1006 : decode (mi_code n_L_law) 1006 = .ok (.aload_n 1, 1) := by decide +kernel
theorem d_L_law_1007 : decode (mi_code n_L_law) 1007 = .ok (.aload_n 0, 1) := by decide +kernel
theorem d_L_law_1008 : decode (mi_code n_L_law) 1008 = .ok (.iload 4, 2) := by decide +kernel
theorem d_L_law_1010 : decode (mi_code n_L_law) 1010 = .ok (.iconst 1, 1) := by decide +kernel
theorem d_L_law_1011 : decode (mi_code n_L_law) 1011 = .ok (.iadd, 1) := by decide +kernel
theorem d_L_law_1012 : decode (mi_code n_L_law) 1012 = .ok (.iaload, 1) := by decide +kernel
theorem d_L_law_1013 : decode (mi_code n_L_law) 1013 = .ok (.aload_n 0, 1) := by decide +kernel
theorem d_L_law_1014 : decode (mi_code n_L_law) 1014 = .ok (.iload 4, 2) := by decide +kernel
theorem d_L_law_1016 : decode (mi_code n_L_law) 1016 = .ok (.iconst 2, 1) := by decide +kernel
theorem d_L_law_1017 : decode (mi_code n_L_law) 1017 = .ok (.iadd, 1) := by decide +kernel
theorem d_L_law_1018 : decode (mi_code n_L_law) 1018 = .ok (.iaload, 1) := by decide +kernel
theorem d_L_law_1019 : decode (mi_code n_L_law) 1019 = .ok (.aload_n 0, 1) := by decide +kernel
theorem d_L_law_1020 : decode (mi_code n_L_law) 1020 = .ok (.iload 4, 2) := by decide +kernel
theorem d_L_law_1022 : decode (mi_code n_L_law) 1022 = .ok (.iconst 3, 1) := by decide +kernel
theorem d_L_law_1023 : decode (mi_code n_L_law) 1023 = .ok (.iadd, 1) := by decide +kernel
theorem d_L_law_1024 : decode (mi_code n_L_law) 1024 = .ok (.iaload, 1) := by decide +kernel
theorem d_L_law_1025 : decode (mi_code n_L_law) 1025 = .ok (.aload_n 3, 1) := by decide +kernel
theorem d_L_law_1026 : decode (mi_code n_L_law) 1026 = .ok (.invokestatic 174, 3) := by decide +kernel
theorem d_L_law_1029 : decode (mi_code n_L_law) 1029 = .ok (.istore 5, 2) := by decide +kernel
theorem d_L_law_1031 : decode (mi_code n_L_law) 1031 = .ok (.aload_n 2, 1) := by decide +kernel
theorem d_L_law_1032 : decode (mi_code n_L_law) 1032 = .ok (.aload_n 0, 1) := by decide +kernel
theorem d_L_law_1033 : decode (mi_code n_L_law) 1033 = .ok (.iload 4, 2) := by decide +kernel
theorem d_L_law_1035 : decode (mi_code n_L_law) 1035 = .ok (.iconst 1, 1) := by decide +kernel
theorem d_L_law_1036 : decode (mi_code n_L_law) 1036 = .ok (.iadd, 1) := by decide +kernel
theorem d_L_law_1037 : decode (mi_code n_L_law) 1037 = .ok (.iaload, 1) := by decide +kernel
theorem d_L_law_1038 : decode (mi_code n_L_law) 1038 = .ok (.aload_n 0, 1) := by decide +kernel
theorem d_L_law_1039 : decode (mi_code n_L_law) 1039 = .ok (.iload 4, 2) := by decide +kernel
theorem d_L_law_1041 : decode (mi_code n_L_law) 1041 = .ok (.iconst 2, 1) := by decide +kernel
theorem d_L_law_1042 : decode (mi_code n_L_law) 1042 = .ok (.iadd, 1) := by decide +kernel
theorem d_L_law_1043 : decode (mi_code n_L_law) 1043 = .ok (.iaload, 1) := by decide +kernel
theorem d_L_law_1044 : decode (mi_code n_L_law) 1044 = .ok (.aload_n 0, 1) := by decide +kernel
theorem d_L_law_1045 : decode (mi_code n_L_law) 1045 = .ok (.iload 4, 2) := by decide +kernel
theorem d_L_law_1047 : decode (mi_code n_L_law) 1047 = .ok (.iconst 3, 1) := by decide +kernel
theorem d_L_law_1048 : decode (mi_code n_L_law) 1048 = .ok (.iadd, 1) := by decide +kernel
theorem d_L_law_1049 : decode (mi_code n_L_law) 1049 = .ok (.iaload, 1) := by decide +kernel
theorem d_L_law_1050 : decode (mi_code n_L_law) 1050 = .ok (.invokevirtual 176, 3) := by decide +kernel
theorem d_L_law_1053 : decode (mi_code n_L_law) 1053 = .ok (.istore 6, 2) := by decide +kernel
theorem d_L_law_1055 : decode (mi_code n_L_law) 1055 = .ok (.aload_n 2, 1) := by decide +kernel
theorem d_L_law_1056 : decode (mi_code n_L_law) 1056 = .ok (.invokevirtual 134, 3) := by decide +kernel
theorem d_L_law_1059 : decode (mi_code n_L_law) 1059 = .ok (.iload 5, 2) := by decide +kernel
theorem d_L_law_1061 : decode (mi_code n_L_law) 1061 = .ok (.if_icmp .eq 5, 3) := by decide +kernel
theorem d_L_law_1064 : decode (mi_code n_L_law) 1064 = .ok (.iconst 0, 1) := by decide +kernel
theorem d_L_law_1065 : decode (mi_code n_L_law) 1065 = .ok (.ireturn, 1) := by decide +kernel
theorem d_L_law_1066 : decode (mi_code n_L_law) 1066 = .ok (.iload 5, 2) := by decide +kernel
theorem d_L_law_1068 : decode (mi_code n_L_law) 1068 = .ok (.ifCond .ne 15, 3) := by decide +kernel
theorem d_L_law_1071 : decode (mi_code n_L_law) 1071 = .ok (.aload_n 3, 1) := by decide +kernel
theorem d_L_law_1072 : decode (mi_code n_L_law) 1072 = .ok (.iconst 0, 1) := by decide +kernel
theorem d_L_law_1073 : decode (mi_code n_L_law) 1073 = .ok (.laload, 1) := by decide +kernel
theorem d_L_law_1074 : decode (mi_code n_L_law) 1074 = .ok (.iload 6, 2) := by decide +kernel
theorem d_L_law_1076 : decode (mi_code n_L_law) 1076 = .ok (.i2l, 1) := by decide +kernel
theorem d_L_law_1077 : decode (mi_code n_L_law) 1077 = .ok (.lcmp, 1) := by decide +kernel
theorem d_L_law_1078 : decode (mi_code n_L_law) 1078 = .ok (.ifCond .eq 5, 3) := by decide +kernel
theorem d_L_law_1081 : decode (mi_code n_L_law) 1081 = .ok (.iconst 0, 1) := by decide +kernel
theorem d_L_law_1082 : decode (mi_code n_L_law) 1082 = .ok (.ireturn, 1) := by decide +kernel
theorem d_L_law_1083 : decode (mi_code n_L_law) 1083 = .ok (.goto 1482, 3) := by decide +kernel
theorem d_L_law_1086 : decode (mi_code n_L_law) 1086 = .ok (.aload_n 1, 1) := by decide +kernel
theorem d_L_law_1087 : decode (mi_code n_L_law) 1087 = .ok (.aload_n 0, 1) := by decide +kernel
theorem d_L_law_1088 : decode (mi_code n_L_law) 1088 = .ok (.iload 4, 2) := by decide +kernel
theorem d_L_law_1090 : decode (mi_code n_L_law) 1090 = .ok (.iconst 1, 1) := by decide +kernel
theorem d_L_law_1091 : decode (mi_code n_L_law) 1091 = .ok (.iadd, 1) := by decide +kernel
theorem d_L_law_1092 : decode (mi_code n_L_law) 1092 = .ok (.iaload, 1) := by decide +kernel
theorem d_L_law_1093 : decode (mi_code n_L_law) 1093 = .ok (.aload_n 0, 1) := by decide +kernel
theorem d_L_law_1094 : decode (mi_code n_L_law) 1094 = .ok (.iload 4, 2) := by decide +kernel
theorem d_L_law_1096 : decode (mi_code n_L_law) 1096 = .ok (.iconst 2, 1) := by decide +kernel
theorem d_L_law_1097 : decode (mi_code n_L_law) 1097 = .ok (.iadd, 1) := by decide +kernel
theorem d_L_law_1098 : decode (mi_code n_L_law) 1098 = .ok (.iaload, 1) := by decide +kernel
theorem d_L_law_1099 : decode (mi_code n_L_law) 1099 = .ok (.aload_n 3, 1) := by decide +kernel
theorem d_L_law_1100 : decode (mi_code n_L_law) 1100 = .ok (.invokestatic 177, 3) := by decide +kernel
theorem d_L_law_1103 : decode (mi_code n_L_law) 1103 = .ok (.istore 5, 2) := by decide +kernel
theorem d_L_law_1105 : decode (mi_code n_L_law) 1105 = .ok (.aload_n 2, 1) := by decide +kernel
theorem d_L_law_1106 : decode (mi_code n_L_law) 1106 = .ok (.aload_n 0, 1) := by decide +kernel
theorem d_L_law_1107 : decode (mi_code n_L_law) 1107 = .ok (.iload 4, 2) := by decide +kernel
theorem d_L_law_1109 : decode (mi_code n_L_law) 1109 = .ok (.iconst 1, 1) := by decide +kernel
theorem d_L_law_1110 : decode (mi_code n_L_law) 1110 = .ok (.iadd, 1) := by decide +kernel
theorem d_L_law_1111 : decode (mi_code n_L_law) 1111 = .ok (.iaload, 1) := by decide +kernel
theorem d_L_law_1112 : decode (mi_code n_L_law) 1112 = .ok (.aload_n 0, 1) := by decide +kernel
theorem d_L_law_1113 : decode (mi_code n_L_law) 1113 = .ok (.iload 4, 2) := by decide +kernel
theorem d_L_law_1115 : decode (mi_code n_L_law) 1115 = .ok (.iconst 2, 1) := by decide +kernel
theorem d_L_law_1116 : decode (mi_code n_L_law) 1116 = .ok (.iadd, 1) := by decide +kernel
theorem d_L_law_1117 : decode (mi_code n_L_law) 1117 = .ok (.iaload, 1) := by decide +kernel
theorem d_L_law_1118 : decode (mi_code n_L_law) 1118 = .ok (.invokevirtual 179, 3) := by decide +kernel
theorem d_L_law_1121 : decode (mi_code n_L_law) 1121 = .ok (.istore 6, 2) := by decide +kernel
theorem d_L_law_1123 : decode (mi_code n_L_law) 1123 = .ok (.aload_n 2, 1) := by decide +kernel
theorem d_L_law_1124 : decode (mi_code n_L_law) 1124 = .ok (.invokevirtual 134, 3) := by decide +kernel
theorem d_L_law_1127 : decode (mi_code n_L_law) 1127 = .ok (.iload 5, 2) := by decide +kernel
theorem d_L_law_1129 : decode (mi_code n_L_law) 1129 = .ok (.if_icmp .eq 5, 3) := by decide +kernel
theorem d_L_law_1132 : decode (mi_code n_L_law) 1132 = .ok (.iconst 0, 1) := by decide +kernel
theorem d_L_law_1133 : decode (mi_code n_L_law) 1133 = .ok (.ireturn, 1) := by decide +kernel
theorem d_L_law_1134 : decode (mi_code n_L_law) 1134 = .ok (.iload 5, 2) := by decide +kernel
theorem d_L_law_1136 : decode (mi_code n_L_law) 1136 = .ok (.ifCond .ne 15, 3) := by decide +kernel
theorem d_L_law_1139 : decode (mi_code n_L_law) 1139 = .ok (.aload_n 3, 1) := by decide +kernel
theorem d_L_law_1140 : decode (mi_code n_L_law) 1140 = .ok (.iconst 0, 1) := by decide +kernel
theorem d_L_law_1141 : decode (mi_code n_L_law) 1141 = .ok (.laload, 1) := by decide +kernel
theorem d_L_law_1142 : decode (mi_code n_L_law) 1142 = .ok (.iload 6, 2) := by decide +kernel
theorem d_L_law_1144 : decode (mi_code n_L_law) 1144 = .ok (.i2l, 1) := by decide +kernel
theorem d_L_law_1145 : decode (mi_code n_L_law) 1145 = .ok (.lcmp, 1) := by decide +kernel
theorem d_L_law_1146 : decode (mi_code n_L_law) 1146 = .ok (.ifCond .eq 5, 3) := by decide +kernel
theorem d_L_law_1149 : decode (mi_code n_L_law) 1149 = .ok (.iconst 0, 1) := by decide +kernel
theorem d_L_law_1150 : decode (mi_code n_L_law) 1150 = .ok (.ireturn, 1) := by decide +kernel
theorem d_L_law_1151 : decode (mi_code n_L_law) 1151 = .ok (.goto 1414, 3) := by decide +kernel
theorem d_L_law_1154 : decode (mi_code n_L_law) 1154 = .ok (.aload_n 1, 1) := by decide +kernel
theorem d_L_law_1155 : decode (mi_code n_L_law) 1155 = .ok (.aload_n 0, 1) := by decide +kernel
theorem d_L_law_1156 : decode (mi_code n_L_law) 1156 = .ok (.iload 4, 2) := by decide +kernel
theorem d_L_law_1158 : decode (mi_code n_L_law) 1158 = .ok (.iconst 1, 1) := by decide +kernel
theorem d_L_law_1159 : decode (mi_code n_L_law) 1159 = .ok (.iadd, 1) := by decide +kernel
theorem d_L_law_1160 : decode (mi_code n_L_law) 1160 = .ok (.iaload, 1) := by decide +kernel
theorem d_L_law_1161 : decode (mi_code n_L_law) 1161 = .ok (.aload_n 0, 1) := by decide +kernel
theorem d_L_law_1162 : decode (mi_code n_L_law) 1162 = .ok (.iload 4, 2) := by decide +kernel
theorem d_L_law_1164 : decode (mi_code n_L_law) 1164 = .ok (.iconst 2, 1) := by decide +kernel
theorem d_L_law_1165 : decode (mi_code n_L_law) 1165 = .ok (.iadd, 1) := by decide +kernel
theorem d_L_law_1166 : decode (mi_code n_L_law) 1166 = .ok (.iaload, 1) := by decide +kernel
theorem d_L_law_1167 : decode (mi_code n_L_law) 1167 = .ok (.aload_n 3, 1) := by decide +kernel
theorem d_L_law_1168 : decode (mi_code n_L_law) 1168 = .ok (.invokestatic 180, 3) := by decide +kernel
theorem d_L_law_1171 : decode (mi_code n_L_law) 1171 = .ok (.istore 5, 2) := by decide +kernel
theorem d_L_law_1173 : decode (mi_code n_L_law) 1173 = .ok (.aload_n 2, 1) := by decide +kernel
theorem d_L_law_1174 : decode (mi_code n_L_law) 1174 = .ok (.aload_n 0, 1) := by decide +kernel
theorem d_L_law_1175 : decode (mi_code n_L_law) 1175 = .ok (.iload 4, 2) := by decide +kernel
theorem d_L_law_1177 : decode (mi_code n_L_law) 1177 = .ok (.iconst 1, 1) := by decide +kernel
theorem d_L_law_1178 : decode (mi_code n_L_law) 1178 = .ok (.iadd, 1) := by decide +kernel
theorem d_L_law_1179 : decode (mi_code n_L_law) 1179 = .ok (.iaload, 1) := by decide +kernel
theorem d_L_law_1180 : decode (mi_code n_L_law) 1180 = .ok (.aload_n 0, 1) := by decide +kernel
theorem d_L_law_1181 : decode (mi_code n_L_law) 1181 = .ok (.iload 4, 2) := by decide +kernel
theorem d_L_law_1183 : decode (mi_code n_L_law) 1183 = .ok (.iconst 2, 1) := by decide +kernel
theorem d_L_law_1184 : decode (mi_code n_L_law) 1184 = .ok (.iadd, 1) := by decide +kernel
theorem d_L_law_1185 : decode (mi_code n_L_law) 1185 = .ok (.iaload, 1) := by decide +kernel
theorem d_L_law_1186 : decode (mi_code n_L_law) 1186 = .ok (.invokevirtual 182, 3) := by decide +kernel
theorem d_L_law_1189 : decode (mi_code n_L_law) 1189 = .ok (.istore 6, 2) := by decide +kernel
theorem d_L_law_1191 : decode (mi_code n_L_law) 1191 = .ok (.aload_n 2, 1) := by decide +kernel
theorem d_L_law_1192 : decode (mi_code n_L_law) 1192 = .ok (.invokevirtual 134, 3) := by decide +kernel
theorem d_L_law_1195 : decode (mi_code n_L_law) 1195 = .ok (.iload 5, 2) := by decide +kernel
theorem d_L_law_1197 : decode (mi_code n_L_law) 1197 = .ok (.if_icmp .eq 5, 3) := by decide +kernel
theorem d_L_law_1200 : decode (mi_code n_L_law) 1200 = .ok (.iconst 0, 1) := by decide +kernel
theorem d_L_law_1201 : decode (mi_code n_L_law) 1201 = .ok (.ireturn, 1) := by decide +kernel
theorem d_L_law_1202 : decode (mi_code n_L_law) 1202 = .ok (.iload 5, 2) := by decide +kernel
theorem d_L_law_1204 : decode (mi_code n_L_law) 1204 = .ok (.ifCond .ne 22, 3) := by decide +kernel
theorem d_L_law_1207 : decode (mi_code n_L_law) 1207 = .ok (.aload_n 3, 1) := by decide +kernel
theorem d_L_law_1208 : decode (mi_code n_L_law) 1208 = .ok (.iconst 0, 1) := by decide +kernel
theorem d_L_law_1209 : decode (mi_code n_L_law) 1209 = .ok (.laload, 1) := by decide +kernel
theorem d_L_law_1210 : decode (mi_code n_L_law) 1210 = .ok (.iload 6, 2) := by decide +kernel
theorem d_L_law_1212 : decode (mi_code n_L_law) 1212 = .ok (.ifCond .eq 7, 3) := by decide +kernel
theorem d_L_law_1215 : decode (mi_code n_L_law) 1215 = .ok (.lconst 1, 1) := by decide +kernel
theorem d_L_law_1216 : decode (mi_code n_L_law) 1216 = .ok (.goto 4, 3) := by decide +kernel
theorem d_L_law_1219 : decode (mi_code n_L_law) 1219 = .ok (.lconst 0, 1) := by decide +kernel
theorem d_L_law_1220 : decode (mi_code n_L_law) 1220 = .ok (.lcmp, 1) := by decide +kernel
theorem d_L_law_1221 : decode (mi_code n_L_law) 1221 = .ok (.ifCond .eq 5, 3) := by decide +kernel
theorem d_L_law_1224 : decode (mi_code n_L_law) 1224 = .ok (.iconst 0, 1) := by decide +kernel
theorem d_L_law_1225 : decode (mi_code n_L_law) 1225 = .ok (.ireturn, 1) := by decide +kernel
theorem d_L_law_1226 : decode (mi_code n_L_law) 1226 = .ok (.goto 1339, 3) := by decide +kernel
theorem d_L_law_1229 : decode (mi_code n_L_law) 1229 = .ok (.aload_n 1, 1) := by decide +kernel
theorem d_L_law_1230 : decode (mi_code n_L_law) 1230 = .ok (.aload_n 0, 1) := by decide +kernel
theorem d_L_law_1231 : decode (mi_code n_L_law) 1231 = .ok (.iload 4, 2) := by decide +kernel
theorem d_L_law_1233 : decode (mi_code n_L_law) 1233 = .ok (.iconst 1, 1) := by decide +kernel
theorem d_L_law_1234 : decode (mi_code n_L_law) 1234 = .ok (.iadd, 1) := by decide +kernel
theorem d_L_law_1235 : decode (mi_code n_L_law) 1235 = .ok (.iaload, 1) := by decide +kernel
theorem d_L_law_1236 : decode (mi_code n_L_law) 1236 = .ok (.aload_n 3, 1) := by decide +kernel
theorem d_L_law_1237 : decode (mi_code n_L_law) 1237 = .ok (.invokestatic 183, 3) := by decide +kernel
theorem d_L_law_1240 : decode (mi_code n_L_law) 1240 = .ok (.istore 5, 2) := by decide +kernel
theorem d_L_law_1242 : decode (mi_code n_L_law) 1242 = .ok (.aload_n 2, 1) := by decide +kernel
theorem d_L_law_1243 : decode (mi_code n_L_law) 1243 = .ok (.aload_n 0, 1) := by decide +kernel
theorem d_L_law_1244 : decode (mi_code n_L_law) 1244 = .ok (.iload 4, 2) := by decide +kernel
theorem d_L_law_1246 : decode (mi_code n_L_law) 1246 = .ok (.iconst 1, 1) := by decide +kernel
theorem d_L_law_1247 : decode (mi_code n_L_law) 1247 = .ok (.iadd, 1) := by decide +kernel
theorem d_L_law_1248 : decode (mi_code n_L_law) 1248 = .ok (.iaload, 1) := by decide +kernel
theorem d_L_law_1249 : decode (mi_code n_L_law) 1249 = .ok (.invokevirtual 185, 3) := by decide +kernel
theorem d_L_law_1252 : decode (mi_code n_L_law) 1252 = .ok (.istore 6, 2) := by decide +kernel
theorem d_L_law_1254 : decode (mi_code n_L_law) 1254 = .ok (.aload_n 2, 1) := by decide +kernel
theorem d_L_law_1255 : decode (mi_code n_L_law) 1255 = .ok (.invokevirtual 134, 3) := by decide +kernel
theorem d_L_law_1258 : decode (mi_code n_L_law) 1258 = .ok (.iload 5, 2) := by decide +kernel
theorem d_L_law_1260 : decode (mi_code n_L_law) 1260 = .ok (.if_icmp .eq 5, 3) := by decide +kernel
theorem d_L_law_1263 : decode (mi_code n_L_law) 1263 = .ok (.iconst 0, 1) := by decide +kernel
theorem d_L_law_1264 : decode (mi_code n_L_law) 1264 = .ok (.ireturn, 1) := by decide +kernel
theorem d_L_law_1265 : decode (mi_code n_L_law) 1265 = .ok (.iload 5, 2) := by decide +kernel
theorem d_L_law_1267 : decode (mi_code n_L_law) 1267 = .ok (.ifCond .ne 15, 3) := by decide +kernel
theorem d_L_law_1270 : decode (mi_code n_L_law) 1270 = .ok (.aload_n 3, 1) := by decide +kernel
theorem d_L_law_1271 : decode (mi_code n_L_law) 1271 = .ok (.iconst 0, 1) := by decide +kernel
theorem d_L_law_1272 : decode (mi_code n_L_law) 1272 = .ok (.laload, 1) := by decide +kernel
theorem d_L_law_1273 : decode (mi_code n_L_law) 1273 = .ok (.iload 6, 2) := by decide +kernel
theorem d_L_law_1275 : decode (mi_code n_L_law) 1275 = .ok (.i2l, 1) := by decide +kernel
theorem d_L_law_1276 : decode (mi_code n_L_law) 1276 = .ok (.lcmp, 1) := by decide +kernel
theorem d_L_law_1277 : decode (mi_code n_L_law) 1277 = .ok (.ifCond .eq 5, 3) := by decide +kernel
theorem d_L_law_1280 : decode (mi_code n_L_law) 1280 = .ok (.iconst 0, 1) := by decide +kernel
theorem d_L_law_1281 : decode (mi_code n_L_law) 1281 = .ok (.ireturn, 1) := by decide +kernel
theorem d_L_law_1282 : decode (mi_code n_L_law) 1282 = .ok (.goto 1283, 3) := by decide +kernel
theorem d_L_law_1285 : decode (mi_code n_L_law) 1285 = .ok (.aload_n 1, 1) := by decide +kernel
theorem d_L_law_1286 : decode (mi_code n_L_law) 1286 = .ok (.aload_n 0, 1) := by decide +kernel
theorem d_L_law_1287 : decode (mi_code n_L_law) 1287 = .ok (.iload 4, 2) := by decide +kernel
theorem d_L_law_1289 : decode (mi_code n_L_law) 1289 = .ok (.iconst 1, 1) := by decide +kernel
theorem d_L_law_1290 : decode (mi_code n_L_law) 1290 = .ok (.iadd, 1) := by decide +kernel
theorem d_L_law_1291 : decode (mi_code n_L_law) 1291 = .ok (.iaload, 1) := by decide +kernel
theorem d_L_law_1292 : decode (mi_code n_L_law) 1292 = .ok (.aload_n 0, 1) := by decide +kernel
theorem d_L_law_1293 : decode (mi_code n_L_law) 1293 = .ok (.iload 4, 2) := by decide +kernel
theorem d_L_law_1295 : decode (mi_code n_L_law) 1295 = .ok (.iconst 2, 1) := by decide +kernel
theorem d_L_law_1296 : decode (mi_code n_L_law) 1296 = .ok (.iadd, 1) := by decide +kernel
theorem d_L_law_1297 : decode (mi_code n_L_law) 1297 = .ok (.iaload, 1) := by decide +kernel
theorem d_L_law_1298 : decode (mi_code n_L_law) 1298 = .ok (.aload_n 0, 1) := by decide +kernel
theorem d_L_law_1299 : decode (mi_code n_L_law) 1299 = .ok (.iload 4, 2) := by decide +kernel
theorem d_L_law_1301 : decode (mi_code n_L_law) 1301 = .ok (.iconst 3, 1) := by decide +kernel
theorem d_L_law_1302 : decode (mi_code n_L_law) 1302 = .ok (.iadd, 1) := by decide +kernel
theorem d_L_law_1303 : decode (mi_code n_L_law) 1303 = .ok (.iaload, 1) := by decide +kernel
theorem d_L_law_1304 : decode (mi_code n_L_law) 1304 = .ok (.aload_n 0, 1) := by decide +kernel
theorem d_L_law_1305 : decode (mi_code n_L_law) 1305 = .ok (.iload 4, 2) := by decide +kernel
theorem d_L_law_1307 : decode (mi_code n_L_law) 1307 = .ok (.iconst 4, 1) := by decide +kernel
theorem d_L_law_1308 : decode (mi_code n_L_law) 1308 = .ok (.iadd, 1) := by decide +kernel
theorem d_L_law_1309 : decode (mi_code n_L_law) 1309 = .ok (.iaload, 1) := by decide +kernel
theorem d_L_law_1310 : decode (mi_code n_L_law) 1310 = .ok (.aload_n 3, 1) := by decide +kernel
theorem d_L_law_1311 : decode (mi_code n_L_law) 1311 = .ok (.invokestatic 186, 3) := by decide +kernel
theorem d_L_law_1314 : decode (mi_code n_L_law) 1314 = .ok (.istore 5, 2) := by decide +kernel
theorem d_L_law_1316 : decode (mi_code n_L_law) 1316 = .ok (.aload_n 2, 1) := by decide +kernel
theorem d_L_law_1317 : decode (mi_code n_L_law) 1317 = .ok (.aload_n 0, 1) := by decide +kernel
theorem d_L_law_1318 : decode (mi_code n_L_law) 1318 = .ok (.iload 4, 2) := by decide +kernel
theorem d_L_law_1320 : decode (mi_code n_L_law) 1320 = .ok (.iconst 1, 1) := by decide +kernel
theorem d_L_law_1321 : decode (mi_code n_L_law) 1321 = .ok (.iadd, 1) := by decide +kernel
theorem d_L_law_1322 : decode (mi_code n_L_law) 1322 = .ok (.iaload, 1) := by decide +kernel
theorem d_L_law_1323 : decode (mi_code n_L_law) 1323 = .ok (.aload_n 0, 1) := by decide +kernel
theorem d_L_law_1324 : decode (mi_code n_L_law) 1324 = .ok (.iload 4, 2) := by decide +kernel
theorem d_L_law_1326 : decode (mi_code n_L_law) 1326 = .ok (.iconst 2, 1) := by decide +kernel
theorem d_L_law_1327 : decode (mi_code n_L_law) 1327 = .ok (.iadd, 1) := by decide +kernel
theorem d_L_law_1328 : decode (mi_code n_L_law) 1328 = .ok (.iaload, 1) := by decide +kernel
theorem d_L_law_1329 : decode (mi_code n_L_law) 1329 = .ok (.aload_n 0, 1) := by decide +kernel
theorem d_L_law_1330 : decode (mi_code n_L_law) 1330 = .ok (.iload 4, 2) := by decide +kernel
theorem d_L_law_1332 : decode (mi_code n_L_law) 1332 = .ok (.iconst 3, 1) := by decide +kernel
theorem d_L_law_1333 : decode (mi_code n_L_law) 1333 = .ok (.iadd, 1) := by decide +kernel
theorem d_L_law_1334 : decode (mi_code n_L_law) 1334 = .ok (.iaload, 1) := by decide +kernel
theorem d_L_law_1335 : decode (mi_code n_L_law) 1335 = .ok (.aload_n 0, 1) := by decide +kernel
theorem d_L_law_1336 : decode (mi_code n_L_law) 1336 = .ok (.iload 4, 2) := by decide +kernel
theorem d_L_law_1338 : decode (mi_code n_L_law) 1338 = .ok (.iconst 4, 1) := by decide +kernel
theorem d_L_law_1339 : decode (mi_code n_L_law) 1339 = .ok (.iadd, 1) := by decide +kernel
theorem d_L_law_1340 : decode (mi_code n_L_law) 1340 = .ok (.iaload, 1) := by decide +kernel
theorem d_L_law_1341 : decode (mi_code n_L_law) 1341 = .ok (.invokevirtual 188, 3) := by decide +kernel
theorem d_L_law_1344 : decode (mi_code n_L_law) 1344 = .ok (.istore 6, 2) := by decide +kernel
theorem d_L_law_1346 : decode (mi_code n_L_law) 1346 = .ok (.aload_n 2, 1) := by decide +kernel
theorem d_L_law_1347 : decode (mi_code n_L_law) 1347 = .ok (.invokevirtual 134, 3) := by decide +kernel
theorem d_L_law_1350 : decode (mi_code n_L_law) 1350 = .ok (.iload 5, 2) := by decide +kernel
theorem d_L_law_1352 : decode (mi_code n_L_law) 1352 = .ok (.if_icmp .eq 5, 3) := by decide +kernel
theorem d_L_law_1355 : decode (mi_code n_L_law) 1355 = .ok (.iconst 0, 1) := by decide +kernel
theorem d_L_law_1356 : decode (mi_code n_L_law) 1356 = .ok (.ireturn, 1) := by decide +kernel
theorem d_L_law_1357 : decode (mi_code n_L_law) 1357 = .ok (.iload 5, 2) := by decide +kernel
theorem d_L_law_1359 : decode (mi_code n_L_law) 1359 = .ok (.ifCond .ne 15, 3) := by decide +kernel
theorem d_L_law_1362 : decode (mi_code n_L_law) 1362 = .ok (.aload_n 3, 1) := by decide +kernel
theorem d_L_law_1363 : decode (mi_code n_L_law) 1363 = .ok (.iconst 0, 1) := by decide +kernel
theorem d_L_law_1364 : decode (mi_code n_L_law) 1364 = .ok (.laload, 1) := by decide +kernel
theorem d_L_law_1365 : decode (mi_code n_L_law) 1365 = .ok (.iload 6, 2) := by decide +kernel
theorem d_L_law_1367 : decode (mi_code n_L_law) 1367 = .ok (.i2l, 1) := by decide +kernel
theorem d_L_law_1368 : decode (mi_code n_L_law) 1368 = .ok (.lcmp, 1) := by decide +kernel
theorem d_L_law_1369 : decode (mi_code n_L_law) 1369 = .ok (.ifCond .eq 5, 3) := by decide +kernel
theorem d_L_law_1372 : decode (mi_code n_L_law) 1372 = .ok (.iconst 0, 1) := by decide +kernel
theorem d_L_law_1373 : decode (mi_code n_L_law) 1373 = .ok (.ireturn, 1) := by decide +kernel
theorem d_L_law_1374 : decode (mi_code n_L_law) 1374 = .ok (.goto 1191, 3) := by decide +kernel
theorem d_L_law_1377 : decode (mi_code n_L_law) 1377 = .ok (.aload_n 1, 1) := by decide +kernel
theorem d_L_law_1378 : decode (mi_code n_L_law) 1378 = .ok (.aload_n 0, 1) := by decide +kernel
theorem d_L_law_1379 : decode (mi_code n_L_law) 1379 = .ok (.iload 4, 2) := by decide +kernel
theorem d_L_law_1381 : decode (mi_code n_L_law) 1381 = .ok (.iconst 1, 1) := by decide +kernel
theorem d_L_law_1382 : decode (mi_code n_L_law) 1382 = .ok (.iadd, 1) := by decide +kernel
theorem d_L_law_1383 : decode (mi_code n_L_law) 1383 = .ok (.iaload, 1) := by decide +kernel
theorem d_L_law_1384 : decode (mi_code n_L_law) 1384 = .ok (.aload_n 0, 1) := by decide +kernel
theorem d_L_law_1385 : decode (mi_code n_L_law) 1385 = .ok (.iload 4, 2) := by decide +kernel
theorem d_L_law_1387 : decode (mi_code n_L_law) 1387 = .ok (.iconst 2, 1) := by decide +kernel
theorem d_L_law_1388 : decode (mi_code n_L_law) 1388 = .ok (.iadd, 1) := by decide +kernel
theorem d_L_law_1389 : decode (mi_code n_L_law) 1389 = .ok (.iaload, 1) := by decide +kernel
theorem d_L_law_1390 : decode (mi_code n_L_law) 1390 = .ok (.aload_n 0, 1) := by decide +kernel
theorem d_L_law_1391 : decode (mi_code n_L_law) 1391 = .ok (.iload 4, 2) := by decide +kernel
theorem d_L_law_1393 : decode (mi_code n_L_law) 1393 = .ok (.iconst 3, 1) := by decide +kernel
theorem d_L_law_1394 : decode (mi_code n_L_law) 1394 = .ok (.iadd, 1) := by decide +kernel
theorem d_L_law_1395 : decode (mi_code n_L_law) 1395 = .ok (.iaload, 1) := by decide +kernel
theorem d_L_law_1396 : decode (mi_code n_L_law) 1396 = .ok (.aload_n 0, 1) := by decide +kernel
theorem d_L_law_1397 : decode (mi_code n_L_law) 1397 = .ok (.iload 4, 2) := by decide +kernel
theorem d_L_law_1399 : decode (mi_code n_L_law) 1399 = .ok (.iconst 4, 1) := by decide +kernel
theorem d_L_law_1400 : decode (mi_code n_L_law) 1400 = .ok (.iadd, 1) := by decide +kernel
theorem d_L_law_1401 : decode (mi_code n_L_law) 1401 = .ok (.iaload, 1) := by decide +kernel
theorem d_L_law_1402 : decode (mi_code n_L_law) 1402 = .ok (.invokestatic 189, 3) := by decide +kernel
theorem d_L_law_1405 : decode (mi_code n_L_law) 1405 = .ok (.istore 5, 2) := by decide +kernel
theorem d_L_law_1407 : decode (mi_code n_L_law) 1407 = .ok (.aload_n 2, 1) := by decide +kernel
theorem d_L_law_1408 : decode (mi_code n_L_law) 1408 = .ok (.aload_n 0, 1) := by decide +kernel
theorem d_L_law_1409 : decode (mi_code n_L_law) 1409 = .ok (.iload 4, 2) := by decide +kernel
theorem d_L_law_1411 : decode (mi_code n_L_law) 1411 = .ok (.iconst 1, 1) := by decide +kernel
theorem d_L_law_1412 : decode (mi_code n_L_law) 1412 = .ok (.iadd, 1) := by decide +kernel
theorem d_L_law_1413 : decode (mi_code n_L_law) 1413 = .ok (.iaload, 1) := by decide +kernel
theorem d_L_law_1414 : decode (mi_code n_L_law) 1414 = .ok (.aload_n 0, 1) := by decide +kernel
theorem d_L_law_1415 : decode (mi_code n_L_law) 1415 = .ok (.iload 4, 2) := by decide +kernel
theorem d_L_law_1417 : decode (mi_code n_L_law) 1417 = .ok (.iconst 2, 1) := by decide +kernel
theorem d_L_law_1418 : decode (mi_code n_L_law) 1418 = .ok (.iadd, 1) := by decide +kernel
theorem d_L_law_1419 : decode (mi_code n_L_law) 1419 = .ok (.iaload, 1) := by decide +kernel
theorem d_L_law_1420 : decode (mi_code n_L_law) 1420 = .ok (.aload_n 0, 1) := by decide +kernel
theorem d_L_law_1421 : decode (mi_code n_L_law) 1421 = .ok (.iload 4, 2) := by decide +kernel
theorem d_L_law_1423 : decode (mi_code n_L_law) 1423 = .ok (.iconst 3, 1) := by decide +kernel
theorem d_L_law_1424 : decode (mi_code n_L_law) 1424 = .ok (.iadd, 1) := by decide +kernel
theorem d_L_law_1425 : decode (mi_code n_L_law) 1425 = .ok (.iaload, 1) := by decide +kernel
theorem d_L_law_1426 : decode (mi_code n_L_law) 1426 = .ok (.aload_n 0, 1) := by decide +kernel
theorem d_L_law_1427 : decode (mi_code n_L_law) 1427 = .ok (.iload 4, 2) := by decide +kernel
theorem d_L_law_1429 : decode (mi_code n_L_law) 1429 = .ok (.iconst 4, 1) := by decide +kernel
theorem d_L_law_1430 : decode (mi_code n_L_law) 1430 = .ok (.iadd, 1) := by decide +kernel
theorem d_L_law_1431 : decode (mi_code n_L_law) 1431 = .ok (.iaload, 1) := by decide +kernel
theorem d_L_law_1432 : decode (mi_code n_L_law) 1432 = .ok (.invokevirtual 192, 3) := by decide +kernel
theorem d_L_law_1435 : decode (mi_code n_L_law) 1435 = .ok (.aload_n 2, 1) := by decide +kernel
theorem d_L_law_1436 : decode (mi_code n_L_law) 1436 = .ok (.invokevirtual 134, 3) := by decide +kernel
theorem d_L_law_1439 : decode (mi_code n_L_law) 1439 = .ok (.iload 5, 2) := by decide +kernel
theorem d_L_law_1441 : decode (mi_code n_L_law) 1441 = .ok (.if_icmp .eq 5, 3) := by decide +kernel
theorem d_L_law_1444 : decode (mi_code n_L_law) 1444 = .ok (.iconst 0, 1) := by decide +kernel
theorem d_L_law_1445 : decode (mi_code n_L_law) 1445 = .ok (.ireturn, 1) := by decide +kernel
theorem d_L_law_1446 : decode (mi_code n_L_law) 1446 = .ok (.goto 1119, 3) := by decide +kernel
theorem d_L_law_1449 : decode (mi_code n_L_law) 1449 = .ok (.aload_n 1, 1) := by decide +kernel
theorem d_L_law_1450 : decode (mi_code n_L_law) 1450 = .ok (.aload_n 0, 1) := by decide +kernel
theorem d_L_law_1451 : decode (mi_code n_L_law) 1451 = .ok (.iload 4, 2) := by decide +kernel
theorem d_L_law_1453 : decode (mi_code n_L_law) 1453 = .ok (.iconst 1, 1) := by decide +kernel
theorem d_L_law_1454 : decode (mi_code n_L_law) 1454 = .ok (.iadd, 1) := by decide +kernel
theorem d_L_law_1455 : decode (mi_code n_L_law) 1455 = .ok (.iaload, 1) := by decide +kernel
theorem d_L_law_1456 : decode (mi_code n_L_law) 1456 = .ok (.aload_n 3, 1) := by decide +kernel
theorem d_L_law_1457 : decode (mi_code n_L_law) 1457 = .ok (.invokestatic 193, 3) := by decide +kernel
theorem d_L_law_1460 : decode (mi_code n_L_law) 1460 = .ok (.istore 5, 2) := by decide +kernel
theorem d_L_law_1462 : decode (mi_code n_L_law) 1462 = .ok (.aload_n 2, 1) := by decide +kernel
theorem d_L_law_1463 : decode (mi_code n_L_law) 1463 = .ok (.aload_n 0, 1) := by decide +kernel
theorem d_L_law_1464 : decode (mi_code n_L_law) 1464 = .ok (.iload 4, 2) := by decide +kernel
theorem d_L_law_1466 : decode (mi_code n_L_law) 1466 = .ok (.iconst 1, 1) := by decide +kernel
theorem d_L_law_1467 : decode (mi_code n_L_law) 1467 = .ok (.iadd, 1) := by decide +kernel
theorem d_L_law_1468 : decode (mi_code n_L_law) 1468 = .ok (.iaload, 1) := by decide +kernel
theorem d_L_law_1469 : decode (mi_code n_L_law) 1469 = .ok (.invokevirtual 195, 3) := by decide +kernel
theorem d_L_law_1472 : decode (mi_code n_L_law) 1472 = .ok (.istore 6, 2) := by decide +kernel
theorem d_L_law_1474 : decode (mi_code n_L_law) 1474 = .ok (.aload_n 2, 1) := by decide +kernel
theorem d_L_law_1475 : decode (mi_code n_L_law) 1475 = .ok (.invokevirtual 134, 3) := by decide +kernel
theorem d_L_law_1478 : decode (mi_code n_L_law) 1478 = .ok (.iload 5, 2) := by decide +kernel
theorem d_L_law_1480 : decode (mi_code n_L_law) 1480 = .ok (.if_icmp .eq 5, 3) := by decide +kernel
theorem d_L_law_1483 : decode (mi_code n_L_law) 1483 = .ok (.iconst 0, 1) := by decide +kernel
theorem d_L_law_1484 : decode (mi_code n_L_law) 1484 = .ok (.ireturn, 1) := by decide +kernel
theorem d_L_law_1485 : decode (mi_code n_L_law) 1485 = .ok (.iload 5, 2) := by decide +kernel
theorem d_L_law_1487 : decode (mi_code n_L_law) 1487 = .ok (.ifCond .ne 15, 3) := by decide +kernel
theorem d_L_law_1490 : decode (mi_code n_L_law) 1490 = .ok (.aload_n 3, 1) := by decide +kernel
theorem d_L_law_1491 : decode (mi_code n_L_law) 1491 = .ok (.iconst 0, 1) := by decide +kernel
theorem d_L_law_1492 : decode (mi_code n_L_law) 1492 = .ok (.laload, 1) := by decide +kernel
theorem d_L_law_1493 : decode (mi_code n_L_law) 1493 = .ok (.iload 6, 2) := by decide +kernel
theorem d_L_law_1495 : decode (mi_code n_L_law) 1495 = .ok (.i2l, 1) := by decide +kernel
theorem d_L_law_1496 : decode (mi_code n_L_law) 1496 = .ok (.lcmp, 1) := by decide +kernel
theorem d_L_law_1497 : decode (mi_code n_L_law) 1497 = .ok (.ifCond .eq 5, 3) := by decide +kernel
theorem d_L_law_1500 : decode (mi_code n_L_law) 1500 = .ok (.iconst 0, 1) := by decide +kernel
theorem d_L_law_1501 : decode (mi_code n_L_law) 1501 = .ok (.ireturn, 1) := by decide +kernel
theorem d_L_law_1502 : decode (mi_code n_L_law) 1502 = .ok (.goto 1063, 3) := by decide +kernel
theorem d_L_law_1505 : decode (mi_code n_L_law) 1505 = .ok (.aload_n 1, 1) := by decide +kernel
theorem d_L_law_1506 : decode (mi_code n_L_law) 1506 = .ok (.aload_n 0, 1) := by decide +kernel
theorem d_L_law_1507 : decode (mi_code n_L_law) 1507 = .ok (.iload 4, 2) := by decide +kernel
theorem d_L_law_1509 : decode (mi_code n_L_law) 1509 = .ok (.iconst 1, 1) := by decide +kernel
theorem d_L_law_1510 : decode (mi_code n_L_law) 1510 = .ok (.iadd, 1) := by decide +kernel
theorem d_L_law_1511 : decode (mi_code n_L_law) 1511 = .ok (.iaload, 1) := by decide +kernel
theorem d_L_law_1512 : decode (mi_code n_L_law) 1512 = .ok (.aload_n 3, 1) := by decide +kernel
theorem d_L_law_1513 : decode (mi_code n_L_law) 1513 = .ok (.invokestatic 196, 3) := by decide +kernel
theorem d_L_law_1516 : decode (mi_code n_L_law) 1516 = .ok (.istore 5, 2) := by decide +kernel
theorem d_L_law_1518 : decode (mi_code n_L_law) 1518 = .ok (.aload_n 2, 1) := by decide +kernel
theorem d_L_law_1519 : decode (mi_code n_L_law) 1519 = .ok (.aload_n 0, 1) := by decide +kernel
theorem d_L_law_1520 : decode (mi_code n_L_law) 1520 = .ok (.iload 4, 2) := by decide +kernel
theorem d_L_law_1522 : decode (mi_code n_L_law) 1522 = .ok (.iconst 1, 1) := by decide +kernel
theorem d_L_law_1523 : decode (mi_code n_L_law) 1523 = .ok (.iadd, 1) := by decide +kernel
theorem d_L_law_1524 : decode (mi_code n_L_law) 1524 = .ok (.iaload, 1) := by decide +kernel
theorem d_L_law_1525 : decode (mi_code n_L_law) 1525 = .ok (.invokevirtual 198, 3) := by decide +kernel
theorem d_L_law_1528 : decode (mi_code n_L_law) 1528 = .ok (.istore 6, 2) := by decide +kernel
theorem d_L_law_1530 : decode (mi_code n_L_law) 1530 = .ok (.aload_n 2, 1) := by decide +kernel
theorem d_L_law_1531 : decode (mi_code n_L_law) 1531 = .ok (.invokevirtual 134, 3) := by decide +kernel
theorem d_L_law_1534 : decode (mi_code n_L_law) 1534 = .ok (.iload 5, 2) := by decide +kernel
theorem d_L_law_1536 : decode (mi_code n_L_law) 1536 = .ok (.if_icmp .eq 5, 3) := by decide +kernel
theorem d_L_law_1539 : decode (mi_code n_L_law) 1539 = .ok (.iconst 0, 1) := by decide +kernel
theorem d_L_law_1540 : decode (mi_code n_L_law) 1540 = .ok (.ireturn, 1) := by decide +kernel
theorem d_L_law_1541 : decode (mi_code n_L_law) 1541 = .ok (.iload 5, 2) := by decide +kernel
theorem d_L_law_1543 : decode (mi_code n_L_law) 1543 = .ok (.ifCond .ne 15, 3) := by decide +kernel
theorem d_L_law_1546 : decode (mi_code n_L_law) 1546 = .ok (.aload_n 3, 1) := by decide +kernel
theorem d_L_law_1547 : decode (mi_code n_L_law) 1547 = .ok (.iconst 0, 1) := by decide +kernel
theorem d_L_law_1548 : decode (mi_code n_L_law) 1548 = .ok (.laload, 1) := by decide +kernel
theorem d_L_law_1549 : decode (mi_code n_L_law) 1549 = .ok (.iload 6, 2) := by decide +kernel
theorem d_L_law_1551 : decode (mi_code n_L_law) 1551 = .ok (.i2l, 1) := by decide +kernel
theorem d_L_law_1552 : decode (mi_code n_L_law) 1552 = .ok (.lcmp, 1) := by decide +kernel
theorem d_L_law_1553 : decode (mi_code n_L_law) 1553 = .ok (.ifCond .eq 5, 3) := by decide +kernel
theorem d_L_law_1556 : decode (mi_code n_L_law) 1556 = .ok (.iconst 0, 1) := by decide +kernel
theorem d_L_law_1557 : decode (mi_code n_L_law) 1557 = .ok (.ireturn, 1) := by decide +kernel
theorem d_L_law_1558 : decode (mi_code n_L_law) 1558 = .ok (.goto 1007, 3) := by decide +kernel
theorem d_L_law_1561 : decode (mi_code n_L_law) 1561 = .ok (.aload_n 1, 1) := by decide +kernel
theorem d_L_law_1562 : decode (mi_code n_L_law) 1562 = .ok (.aload_n 0, 1) := by decide +kernel
theorem d_L_law_1563 : decode (mi_code n_L_law) 1563 = .ok (.iload 4, 2) := by decide +kernel
theorem d_L_law_1565 : decode (mi_code n_L_law) 1565 = .ok (.iconst 1, 1) := by decide +kernel
theorem d_L_law_1566 : decode (mi_code n_L_law) 1566 = .ok (.iadd, 1) := by decide +kernel
theorem d_L_law_1567 : decode (mi_code n_L_law) 1567 = .ok (.iaload, 1) := by decide +kernel
theorem d_L_law_1568 : decode (mi_code n_L_law) 1568 = .ok (.aload_n 3, 1) := by decide +kernel
theorem d_L_law_1569 : decode (mi_code n_L_law) 1569 = .ok (.invokestatic 199, 3) := by decide +kernel
theorem d_L_law_1572 : decode (mi_code n_L_law) 1572 = .ok (.istore 5, 2) := by decide +kernel
theorem d_L_law_1574 : decode (mi_code n_L_law) 1574 = .ok (.aload_n 2, 1) := by decide +kernel
theorem d_L_law_1575 : decode (mi_code n_L_law) 1575 = .ok (.aload_n 0, 1) := by decide +kernel
theorem d_L_law_1576 : decode (mi_code n_L_law) 1576 = .ok (.iload 4, 2) := by decide +kernel
theorem d_L_law_1578 : decode (mi_code n_L_law) 1578 = .ok (.iconst 1, 1) := by decide +kernel
theorem d_L_law_1579 : decode (mi_code n_L_law) 1579 = .ok (.iadd, 1) := by decide +kernel
theorem d_L_law_1580 : decode (mi_code n_L_law) 1580 = .ok (.iaload, 1) := by decide +kernel
theorem d_L_law_1581 : decode (mi_code n_L_law) 1581 = .ok (.invokevirtual 201, 3) := by decide +kernel
theorem d_L_law_1584 : decode (mi_code n_L_law) 1584 = .ok (.istore 6, 2) := by decide +kernel
theorem d_L_law_1586 : decode (mi_code n_L_law) 1586 = .ok (.aload_n 2, 1) := by decide +kernel
theorem d_L_law_1587 : decode (mi_code n_L_law) 1587 = .ok (.invokevirtual 134, 3) := by decide +kernel
theorem d_L_law_1590 : decode (mi_code n_L_law) 1590 = .ok (.iload 5, 2) := by decide +kernel
theorem d_L_law_1592 : decode (mi_code n_L_law) 1592 = .ok (.if_icmp .eq 5, 3) := by decide +kernel
theorem d_L_law_1595 : decode (mi_code n_L_law) 1595 = .ok (.iconst 0, 1) := by decide +kernel
theorem d_L_law_1596 : decode (mi_code n_L_law) 1596 = .ok (.ireturn, 1) := by decide +kernel
theorem d_L_law_1597 : decode (mi_code n_L_law) 1597 = .ok (.iload 5, 2) := by decide +kernel
theorem d_L_law_1599 : decode (mi_code n_L_law) 1599 = .ok (.ifCond .ne 15, 3) := by decide +kernel
theorem d_L_law_1602 : decode (mi_code n_L_law) 1602 = .ok (.aload_n 3, 1) := by decide +kernel
theorem d_L_law_1603 : decode (mi_code n_L_law) 1603 = .ok (.iconst 0, 1) := by decide +kernel
theorem d_L_law_1604 : decode (mi_code n_L_law) 1604 = .ok (.laload, 1) := by decide +kernel
theorem d_L_law_1605 : decode (mi_code n_L_law) 1605 = .ok (.iload 6, 2) := by decide +kernel
theorem d_L_law_1607 : decode (mi_code n_L_law) 1607 = .ok (.i2l, 1) := by decide +kernel
theorem d_L_law_1608 : decode (mi_code n_L_law) 1608 = .ok (.lcmp, 1) := by decide +kernel
theorem d_L_law_1609 : decode (mi_code n_L_law) 1609 = .ok (.ifCond .eq 5, 3) := by decide +kernel
theorem d_L_law_1612 : decode (mi_code n_L_law) 1612 = .ok (.iconst 0, 1) := by decide +kernel
theorem d_L_law_1613 : decode (mi_code n_L_law) 1613 = .ok (.ireturn, 1) := by decide +kernel
theorem d_L_law_1614 : decode (mi_code n_L_law) 1614 = .ok (.goto 951, 3) := by decide +kernel
theorem d_L_law_1617 : decode (mi_code n_L_law) 1617 = .ok (.aload_n 1, 1) := by decide +kernel
theorem d_L_law_1618 : decode (mi_code n_L_law) 1618 = .ok (.invokevirtual 202, 3) := by decide +kernel
theorem d_L_law_1621 : decode (mi_code n_L_law) 1621 = .ok (.aload_n 2, 1) := by decide +kernel
theorem d_L_law_1622 : decode (mi_code n_L_law) 1622 = .ok (.invokevirtual 205, 3) := by decide +kernel
theorem d_L_law_1625 : decode (mi_code n_L_law) 1625 = .ok (.if_icmp .eq 940, 3) := by decide +kernel
theorem d_L_law_1628 : decode (mi_code n_L_law) 1628 = .ok (.iconst 0, 1) := by decide +kernel
theorem d_L_law_1629 : decode (mi_code n_L_law) 1629 = .ok (.ireturn, 1) := by decide +kernel
theorem d_L_law_1630 : decode (mi_code n_L_law) 1630 = .ok (.aload_n 1, 1) := by decide +kernel
theorem d_L_law_1631 : decode (mi_code n_L_law) 1631 = .ok (.aload_n 0, 1) := by decide +kernel
theorem d_L_law_1632 : decode (mi_code n_L_law) 1632 = .ok (.iload 4, 2) := by decide +kernel
theorem d_L_law_1634 : decode (mi_code n_L_law) 1634 = .ok (.iconst 1, 1) := by decide +kernel
theorem d_L_law_1635 : decode (mi_code n_L_law) 1635 = .ok (.iadd, 1) := by decide +kernel
theorem d_L_law_1636 : decode (mi_code n_L_law) 1636 = .ok (.iaload, 1) := by decide +kernel
theorem d_L_law_1637 : decode (mi_code n_L_law) 1637 = .ok (.aload_n 0, 1) := by decide +kernel
theorem d_L_law_1638 : decode (mi_code n_L_law) 1638 = .ok (.iload 4, 2) := by decide +kernel
theorem d_L_law_1640 : decode (mi_code n_L_law) 1640 = .ok (.iconst 2, 1) := by decide +kernel
theorem d_L_law_1641 : decode (mi_code n_L_law) 1641 = .ok (.iadd, 1) := by decide +kernel
theorem d_L_law_1642 : decode (mi_code n_L_law) 1642 = .ok (.iaload, 1) := by decide +kernel
theorem d_L_law_1643 : decode (mi_code n_L_law) 1643 = .ok (.aload_n 3, 1) := by decide +kernel
theorem d_L_law_1644 : decode (mi_code n_L_law) 1644 = .ok (.invokestatic 206, 3) := by decide +kernel
theorem d_L_law_1647 : decode (mi_code n_L_law) 1647 = .ok (.istore 5, 2) := by decide +kernel
theorem d_L_law_1649 : decode (mi_code n_L_law) 1649 = .ok (.aload_n 2, 1) := by decide +kernel
theorem d_L_law_1650 : decode (mi_code n_L_law) 1650 = .ok (.aload_n 0, 1) := by decide +kernel
theorem d_L_law_1651 : decode (mi_code n_L_law) 1651 = .ok (.iload 4, 2) := by decide +kernel
theorem d_L_law_1653 : decode (mi_code n_L_law) 1653 = .ok (.iconst 1, 1) := by decide +kernel
theorem d_L_law_1654 : decode (mi_code n_L_law) 1654 = .ok (.iadd, 1) := by decide +kernel
theorem d_L_law_1655 : decode (mi_code n_L_law) 1655 = .ok (.iaload, 1) := by decide +kernel
theorem d_L_law_1656 : decode (mi_code n_L_law) 1656 = .ok (.aload_n 0, 1) := by decide +kernel
theorem d_L_law_1657 : decode (mi_code n_L_law) 1657 = .ok (.iload 4, 2) := by decide +kernel
theorem d_L_law_1659 : decode (mi_code n_L_law) 1659 = .ok (.iconst 2, 1) := by decide +kernel
theorem d_L_law_1660 : decode (mi_code n_L_law) 1660 = .ok (.iadd, 1) := by decide +kernel
theorem d_L_law_1661 : decode (mi_code n_L_law) 1661 = .ok (.iaload, 1) := by decide +kernel
theorem d_L_law_1662 : decode (mi_code n_L_law) 1662 = .ok (.invokevirtual 208, 3) := by decide +kernel
theorem d_L_law_1665 : decode (mi_code n_L_law) 1665 = .ok (.istore 6, 2) := by decide +kernel
theorem d_L_law_1667 : decode (mi_code n_L_law) 1667 = .ok (.aload_n 2, 1) := by decide +kernel
theorem d_L_law_1668 : decode (mi_code n_L_law) 1668 = .ok (.invokevirtual 134, 3) := by decide +kernel
theorem d_L_law_1671 : decode (mi_code n_L_law) 1671 = .ok (.iload 5, 2) := by decide +kernel
theorem d_L_law_1673 : decode (mi_code n_L_law) 1673 = .ok (.if_icmp .eq 5, 3) := by decide +kernel
theorem d_L_law_1676 : decode (mi_code n_L_law) 1676 = .ok (.iconst 0, 1) := by decide +kernel
theorem d_L_law_1677 : decode (mi_code n_L_law) 1677 = .ok (.ireturn, 1) := by decide +kernel
theorem d_L_law_1678 : decode (mi_code n_L_law) 1678 = .ok (.iload 5, 2) := by decide +kernel
theorem d_L_law_1680 : decode (mi_code n_L_law) 1680 = .ok (.ifCond .ne 15, 3) := by decide +kernel
theorem d_L_law_1683 : decode (mi_code n_L_law) 1683 = .ok (.aload_n 3, 1) := by decide +kernel
theorem d_L_law_1684 : decode (mi_code n_L_law) 1684 = .ok (.iconst 0, 1) := by decide +kernel
theorem d_L_law_1685 : decode (mi_code n_L_law) 1685 = .ok (.laload, 1) := by decide +kernel
theorem d_L_law_1686 : decode (mi_code n_L_law) 1686 = .ok (.iload 6, 2) := by decide +kernel
theorem d_L_law_1688 : decode (mi_code n_L_law) 1688 = .ok (.i2l, 1) := by decide +kernel
theorem d_L_law_1689 : decode (mi_code n_L_law) 1689 = .ok (.lcmp, 1) := by decide +kernel
theorem d_L_law_1690 : decode (mi_code n_L_law) 1690 = .ok (.ifCond .eq 5, 3) := by decide +kernel
theorem d_L_law_1693 : decode (mi_code n_L_law) 1693 = .ok (.iconst 0, 1) := by decide +kernel
theorem d_L_law_1694 : decode (mi_code n_L_law) 1694 = .ok (.ireturn, 1) := by decide +kernel
theorem d_L_law_1695 : decode (mi_code n_L_law) 1695 = .ok (.goto 870, 3) := by decide +kernel
theorem d_L_law_1698 : decode (mi_code n_L_law) 1698 = .ok (.aload_n 1, 1) := by decide +kernel
theorem d_L_law_1699 : decode (mi_code n_L_law) 1699 = .ok (.aload_n 0, 1) := by decide +kernel
theorem d_L_law_1700 : decode (mi_code n_L_law) 1700 = .ok (.iload 4, 2) := by decide +kernel
theorem d_L_law_1702 : decode (mi_code n_L_law) 1702 = .ok (.iconst 1, 1) := by decide +kernel
theorem d_L_law_1703 : decode (mi_code n_L_law) 1703 = .ok (.iadd, 1) := by decide +kernel
theorem d_L_law_1704 : decode (mi_code n_L_law) 1704 = .ok (.iaload, 1) := by decide +kernel
theorem d_L_law_1705 : decode (mi_code n_L_law) 1705 = .ok (.aload_n 0, 1) := by decide +kernel
theorem d_L_law_1706 : decode (mi_code n_L_law) 1706 = .ok (.iload 4, 2) := by decide +kernel
theorem d_L_law_1708 : decode (mi_code n_L_law) 1708 = .ok (.iconst 2, 1) := by decide +kernel
theorem d_L_law_1709 : decode (mi_code n_L_law) 1709 = .ok (.iadd, 1) := by decide +kernel
theorem d_L_law_1710 : decode (mi_code n_L_law) 1710 = .ok (.iaload, 1) := by decide +kernel
theorem d_L_law_1711 : decode (mi_code n_L_law) 1711 = .ok (.aload_n 0, 1) := by decide +kernel
theorem d_L_law_1712 : decode (mi_code n_L_law) 1712 = .ok (.iload 4, 2) := by decide +kernel
theorem d_L_law_1714 : decode (mi_code n_L_law) 1714 = .ok (.iconst 3, 1) := by decide +kernel
theorem d_L_law_1715 : decode (mi_code n_L_law) 1715 = .ok (.iadd, 1) := by decide +kernel
theorem d_L_law_1716 : decode (mi_code n_L_law) 1716 = .ok (.iaload, 1) := by decide +kernel
theorem d_L_law_1717 : decode (mi_code n_L_law) 1717 = .ok (.aload_n 3, 1) := by decide +kernel
theorem d_L_law_1718 : decode (mi_code n_L_law) 1718 = .ok (.invokestatic 209, 3) := by decide +kernel
theorem d_L_law_1721 : decode (mi_code n_L_law) 1721 = .ok (.istore 5, 2) := by decide +kernel
theorem d_L_law_1723 : decode (mi_code n_L_law) 1723 = .ok (.aload_n 2, 1) := by decide +kernel
theorem d_L_law_1724 : decode (mi_code n_L_law) 1724 = .ok (.aload_n 0, 1) := by decide +kernel
theorem d_L_law_1725 : decode (mi_code n_L_law) 1725 = .ok (.iload 4, 2) := by decide +kernel
theorem d_L_law_1727 : decode (mi_code n_L_law) 1727 = .ok (.iconst 1, 1) := by decide +kernel
theorem d_L_law_1728 : decode (mi_code n_L_law) 1728 = .ok (.iadd, 1) := by decide +kernel
theorem d_L_law_1729 : decode (mi_code n_L_law) 1729 = .ok (.iaload, 1) := by decide +kernel
theorem d_L_law_1730 : decode (mi_code n_L_law) 1730 = .ok (.aload_n 0, 1) := by decide +kernel
theorem d_L_law_1731 : decode (mi_code n_L_law) 1731 = .ok (.iload 4, 2) := by decide +kernel
theorem d_L_law_1733 : decode (mi_code n_L_law) 1733 = .ok (.iconst 2, 1) := by decide +kernel
theorem d_L_law_1734 : decode (mi_code n_L_law) 1734 = .ok (.iadd, 1) := by decide +kernel
theorem d_L_law_1735 : decode (mi_code n_L_law) 1735 = .ok (.iaload, 1) := by decide +kernel
theorem d_L_law_1736 : decode (mi_code n_L_law) 1736 = .ok (.aload_n 0, 1) := by decide +kernel
theorem d_L_law_1737 : decode (mi_code n_L_law) 1737 = .ok (.iload 4, 2) := by decide +kernel
theorem d_L_law_1739 : decode (mi_code n_L_law) 1739 = .ok (.iconst 3, 1) := by decide +kernel
theorem d_L_law_1740 : decode (mi_code n_L_law) 1740 = .ok (.iadd, 1) := by decide +kernel
theorem d_L_law_1741 : decode (mi_code n_L_law) 1741 = .ok (.iaload, 1) := by decide +kernel
theorem d_L_law_1742 : decode (mi_code n_L_law) 1742 = .ok (.invokevirtual 211, 3) := by decide +kernel
theorem d_L_law_1745 : decode (mi_code n_L_law) 1745 = .ok (.istore 6, 2) := by decide +kernel
theorem d_L_law_1747 : decode (mi_code n_L_law) 1747 = .ok (.aload_n 2, 1) := by decide +kernel
theorem d_L_law_1748 : decode (mi_code n_L_law) 1748 = .ok (.invokevirtual 134, 3) := by decide +kernel
theorem d_L_law_1751 : decode (mi_code n_L_law) 1751 = .ok (.iload 5, 2) := by decide +kernel
theorem d_L_law_1753 : decode (mi_code n_L_law) 1753 = .ok (.if_icmp .eq 5, 3) := by decide +kernel
theorem d_L_law_1756 : decode (mi_code n_L_law) 1756 = .ok (.iconst 0, 1) := by decide +kernel
theorem d_L_law_1757 : decode (mi_code n_L_law) 1757 = .ok (.ireturn, 1) := by decide +kernel
theorem d_L_law_1758 : decode (mi_code n_L_law) 1758 = .ok (.iload 5, 2) := by decide +kernel
theorem d_L_law_1760 : decode (mi_code n_L_law) 1760 = .ok (.ifCond .ne 15, 3) := by decide +kernel
theorem d_L_law_1763 : decode (mi_code n_L_law) 1763 = .ok (.aload_n 3, 1) := by decide +kernel
theorem d_L_law_1764 : decode (mi_code n_L_law) 1764 = .ok (.iconst 0, 1) := by decide +kernel
theorem d_L_law_1765 : decode (mi_code n_L_law) 1765 = .ok (.laload, 1) := by decide +kernel
theorem d_L_law_1766 : decode (mi_code n_L_law) 1766 = .ok (.iload 6, 2) := by decide +kernel
theorem d_L_law_1768 : decode (mi_code n_L_law) 1768 = .ok (.i2l, 1) := by decide +kernel
theorem d_L_law_1769 : decode (mi_code n_L_law) 1769 = .ok (.lcmp, 1) := by decide +kernel
theorem d_L_law_1770 : decode (mi_code n_L_law) 1770 = .ok (.ifCond .eq 5, 3) := by decide +kernel
theorem d_L_law_1773 : decode (mi_code n_L_law) 1773 = .ok (.iconst 0, 1) := by decide +kernel
theorem d_L_law_1774 : decode (mi_code n_L_law) 1774 = .ok (.ireturn, 1) := by decide +kernel
theorem d_L_law_1775 : decode (mi_code n_L_law) 1775 = .ok (.goto 790, 3) := by decide +kernel
theorem d_L_law_1778 : decode (mi_code n_L_law) 1778 = .ok (.aload_n 1, 1) := by decide +kernel
theorem d_L_law_1779 : decode (mi_code n_L_law) 1779 = .ok (.aload_n 0, 1) := by decide +kernel
theorem d_L_law_1780 : decode (mi_code n_L_law) 1780 = .ok (.iload 4, 2) := by decide +kernel
theorem d_L_law_1782 : decode (mi_code n_L_law) 1782 = .ok (.iconst 1, 1) := by decide +kernel
theorem d_L_law_1783 : decode (mi_code n_L_law) 1783 = .ok (.iadd, 1) := by decide +kernel
theorem d_L_law_1784 : decode (mi_code n_L_law) 1784 = .ok (.iaload, 1) := by decide +kernel
theorem d_L_law_1785 : decode (mi_code n_L_law) 1785 = .ok (.aload_n 0, 1) := by decide +kernel
theorem d_L_law_1786 : decode (mi_code n_L_law) 1786 = .ok (.iload 4, 2) := by decide +kernel
theorem d_L_law_1788 : decode (mi_code n_L_law) 1788 = .ok (.iconst 2, 1) := by decide +kernel
theorem d_L_law_1789 : decode (mi_code n_L_law) 1789 = .ok (.iadd, 1) := by decide +kernel
theorem d_L_law_1790 : decode (mi_code n_L_law) 1790 = .ok (.iaload, 1) := by decide +kernel
theorem d_L_law_1791 : decode (mi_code n_L_law) 1791 = .ok (.aload_n 0, 1) := by decide +kernel
theorem d_L_law_1792 : decode (mi_code n_L_law) 1792 = .ok (.iload 4, 2) := by decide +kernel
theorem d_L_law_1794 : decode (mi_code n_L_law) 1794 = .ok (.iconst 3, 1) := by decide +kernel
theorem d_L_law_1795 : decode (mi_code n_L_law) 1795 = .ok (.iadd, 1) := by decide +kernel
theorem d_L_law_1796 : decode (mi_code n_L_law) 1796 = .ok (.iaload, 1) := by decide +kernel
theorem d_L_law_1797 : decode (mi_code n_L_law) 1797 = .ok (.aload_n 3, 1) := by decide +kernel
theorem d_L_law_1798 : decode (mi_code n_L_law) 1798 = .ok (.invokestatic 212, 3) := by decide +kernel
theorem d_L_law_1801 : decode (mi_code n_L_law) 1801 = .ok (.istore 5, 2) := by decide +kernel
theorem d_L_law_1803 : decode (mi_code n_L_law) 1803 = .ok (.aload_n 2, 1) := by decide +kernel
theorem d_L_law_1804 : decode (mi_code n_L_law) 1804 = .ok (.aload_n 0, 1) := by decide +kernel
theorem d_L_law_1805 : decode (mi_code n_L_law) 1805 = .ok (.iload 4, 2) := by decide +kernel
theorem d_L_law_1807 : decode (mi_code n_L_law) 1807 = .ok (.iconst 1, 1) := by decide +kernel
theorem d_L_law_1808 : decode (mi_code n_L_law) 1808 = .ok (.iadd, 1) := by decide +kernel
theorem d_L_law_1809 : decode (mi_code n_L_law) 1809 = .ok (.iaload, 1) := by decide +kernel
theorem d_L_law_1810 : decode (mi_code n_L_law) 1810 = .ok (.aload_n 0, 1) := by decide +kernel
theorem d_L_law_1811 : decode (mi_code n_L_law) 1811 = .ok (.iload 4, 2) := by decide +kernel
theorem d_L_law_1813 : decode (mi_code n_L_law) 1813 = .ok (.iconst 2, 1) := by decide +kernel
theorem d_L_law_1814 : decode (mi_code n_L_law) 1814 = .ok (.iadd, 1) := by decide +kernel
theorem d_L_law_1815 : decode (mi_code n_L_law) 1815 = .ok (.iaload, 1) := by decide +kernel
theorem d_L_law_1816 : decode (mi_code n_L_law) 1816 = .ok (.aload_n 0, 1) := by decide +kernel
theorem d_L_law_1817 : decode (mi_code n_L_law) 1817 = .ok (.iload 4, 2) := by decide +kernel
theorem d_L_law_1819 : decode (mi_code n_L_law) 1819 = .ok (.iconst 3, 1) := by decide +kernel
theorem d_L_law_1820 : decode (mi_code n_L_law) 1820 = .ok (.iadd, 1) := by decide +kernel
theorem d_L_law_1821 : decode (mi_code n_L_law) 1821 = .ok (.iaload, 1) := by decide +kernel
theorem d_L_law_1822 : decode (mi_code n_L_law) 1822 = .ok (.invokevirtual 214, 3) := by decide +kernel
theorem d_L_law_1825 : decode (mi_code n_L_law) 1825 = .ok (.istore 6, 2) := by decide +kernel
theorem d_L_law_1827 : decode (mi_code n_L_law) 1827 = .ok (.aload_n 2, 1) := by decide +kernel
theorem d_L_law_1828 : decode (mi_code n_L_law) 1828 = .ok (.invokevirtual 134, 3) := by decide +kernel
theorem d_L_law_1831 : decode (mi_code n_L_law) 1831 = .ok (.iload 5, 2) := by decide +kernel
theorem d_L_law_1833 : decode (mi_code n_L_law) 1833 = .ok (.if_icmp .eq 5, 3) := by decide +kernel
theorem d_L_law_1836 : decode (mi_code n_L_law) 1836 = .ok (.iconst 0, 1) := by decide +kernel
theorem d_L_law_1837 : decode (mi_code n_L_law) 1837 = .ok (.ireturn, 1) := by decide +kernel
theorem d_L_law_1838 : decode (mi_code n_L_law) 1838 = .ok (.iload 5, 2) := by decide +kernel
theorem d_L_law_1840 : decode (mi_code n_L_law) 1840 = .ok (.ifCond .ne 15, 3) := by decide +kernel
theorem d_L_law_1843 : decode (mi_code n_L_law) 1843 = .ok (.aload_n 3, 1) := by decide +kernel
theorem d_L_law_1844 : decode (mi_code n_L_law) 1844 = .ok (.iconst 0, 1) := by decide +kernel
theorem d_L_law_1845 : decode (mi_code n_L_law) 1845 = .ok (.laload, 1) := by decide +kernel
theorem d_L_law_1846 : decode (mi_code n_L_law) 1846 = .ok (.iload 6, 2) := by decide +kernel
theorem d_L_law_1848 : decode (mi_code n_L_law) 1848 = .ok (.i2l, 1) := by decide +kernel
theorem d_L_law_1849 : decode (mi_code n_L_law) 1849 = .ok (.lcmp, 1) := by decide +kernel
theorem d_L_law_1850 : decode (mi_code n_L_law) 1850 = .ok (.ifCond .eq 5, 3) := by decide +kernel
theorem d_L_law_1853 : decode (mi_code n_L_law) 1853 = .ok (.iconst 0, 1) := by decide +kernel
theorem d_L_law_1854 : decode (mi_code n_L_law) 1854 = .ok (.ireturn, 1) := by decide +kernel
theorem d_L_law_1855 : decode (mi_code n_L_law) 1855 = .ok (.goto 710, 3) := by decide +kernel
theorem d_L_law_1858 : decode (mi_code n_L_law) 1858 = .ok (.aload_n 1, 1) := by decide +kernel
theorem d_L_law_1859 : decode (mi_code n_L_law) 1859 = .ok (.aload_n 0, 1) := by decide +kernel
theorem d_L_law_1860 : decode (mi_code n_L_law) 1860 = .ok (.iload 4, 2) := by decide +kernel
theorem d_L_law_1862 : decode (mi_code n_L_law) 1862 = .ok (.iconst 1, 1) := by decide +kernel
theorem d_L_law_1863 : decode (mi_code n_L_law) 1863 = .ok (.iadd, 1) := by decide +kernel
theorem d_L_law_1864 : decode (mi_code n_L_law) 1864 = .ok (.iaload, 1) := by decide +kernel
theorem d_L_law_1865 : decode (mi_code n_L_law) 1865 = .ok (.aload_n 0, 1) := by decide +kernel
theorem d_L_law_1866 : decode (mi_code n_L_law) 1866 = .ok (.iload 4, 2) := by decide +kernel
theorem d_L_law_1868 : decode (mi_code n_L_law) 1868 = .ok (.iconst 2, 1) := by decide +kernel
theorem d_L_law_1869 : decode (mi_code n_L_law) 1869 = .ok (.iadd, 1) := by decide +kernel
theorem d_L_law_1870 : decode (mi_code n_L_law) 1870 = .ok (.iaload, 1) := by decide +kernel
theorem d_L_law_1871 : decode (mi_code n_L_law) 1871 = .ok (.aload_n 0, 1) := by decide +kernel
theorem d_L_law_1872 : decode (mi_code n_L_law) 1872 = .ok (.iload 4, 2) := by decide +kernel
theorem d_L_law_1874 : decode (mi_code n_L_law) 1874 = .ok (.iconst 3, 1) := by decide +kernel
theorem d_L_law_1875 : decode (mi_code n_L_law) 1875 = .ok (.iadd, 1) := by decide +kernel
theorem d_L_law_1876 : decode (mi_code n_L_law) 1876 = .ok (.iaload, 1) := by decide +kernel
theorem d_L_law_1877 : decode (mi_code n_L_law) 1877 = .ok (.aload_n 0, 1) := by decide +kernel
theorem d_L_law_1878 : decode (mi_code n_L_law) 1878 = .ok (.iload 4, 2) := by decide +kernel
theorem d_L_law_1880 : decode (mi_code n_L_law) 1880 = .ok (.iconst 4, 1) := by decide +kernel
theorem d_L_law_1881 : decode (mi_code n_L_law) 1881 = .ok (.iadd, 1) := by decide +kernel
theorem d_L_law_1882 : decode (mi_code n_L_law) 1882 = .ok (.iaload, 1) := by decide +kernel
theorem d_L_law_1883 : decode (mi_code n_L_law) 1883 = .ok (.ifCond .eq 7, 3) := by decide +kernel
theorem d_L_law_1886 : decode (mi_code n_L_law) 1886 = .ok (.iconst 1, 1) := by decide +kernel
theorem d_L_law_1887 : decode (mi_code n_L_law) 1887 = .ok (.goto 4, 3) := by decide +kernel
theorem d_L_law_1890 : decode (mi_code n_L_law) 1890 = .ok (.iconst 0, 1) := by decide +kernel
theorem d_L_law_1891 : decode (mi_code n_L_law) 1891 = .ok (.aload_n 3, 1) := by decide +kernel
theorem d_L_law_1892 : decode (mi_code n_L_law) 1892 = .ok (.invokestatic 215, 3) := by decide +kernel
theorem d_L_law_1895 : decode (mi_code n_L_law) 1895 = .ok (.istore 5, 2) := by decide +kernel
theorem d_L_law_1897 : decode (mi_code n_L_law) 1897 = .ok (.aload_n 2, 1) := by decide +kernel
theorem d_L_law_1898 : decode (mi_code n_L_law) 1898 = .ok (.aload_n 0, 1) := by decide +kernel
theorem d_L_law_1899 : decode (mi_code n_L_law) 1899 = .ok (.iload 4, 2) := by decide +kernel
theorem d_L_law_1901 : decode (mi_code n_L_law) 1901 = .ok (.iconst 1, 1) := by decide +kernel
theorem d_L_law_1902 : decode (mi_code n_L_law) 1902 = .ok (.iadd, 1) := by decide +kernel
theorem d_L_law_1903 : decode (mi_code n_L_law) 1903 = .ok (.iaload, 1) := by decide +kernel
theorem d_L_law_1904 : decode (mi_code n_L_law) 1904 = .ok (.aload_n 0, 1) := by decide +kernel
theorem d_L_law_1905 : decode (mi_code n_L_law) 1905 = .ok (.iload 4, 2) := by decide +kernel
theorem d_L_law_1907 : decode (mi_code n_L_law) 1907 = .ok (.iconst 2, 1) := by decide +kernel
theorem d_L_law_1908 : decode (mi_code n_L_law) 1908 = .ok (.iadd, 1) := by decide +kernel
theorem d_L_law_1909 : decode (mi_code n_L_law) 1909 = .ok (.iaload, 1) := by decide +kernel
theorem d_L_law_1910 : decode (mi_code n_L_law) 1910 = .ok (.aload_n 0, 1) := by decide +kernel
theorem d_L_law_1911 : decode (mi_code n_L_law) 1911 = .ok (.iload 4, 2) := by decide +kernel
theorem d_L_law_1913 : decode (mi_code n_L_law) 1913 = .ok (.iconst 3, 1) := by decide +kernel
theorem d_L_law_1914 : decode (mi_code n_L_law) 1914 = .ok (.iadd, 1) := by decide +kernel
theorem d_L_law_1915 : decode (mi_code n_L_law) 1915 = .ok (.iaload, 1) := by decide +kernel
theorem d_L_law_1916 : decode (mi_code n_L_law) 1916 = .ok (.aload_n 0, 1) := by decide +kernel
theorem d_L_law_1917 : decode (mi_code n_L_law) 1917 = .ok (.iload 4, 2) := by decide +kernel
theorem d_L_law_1919 : decode (mi_code n_L_law) 1919 = .ok (.iconst 4, 1) := by decide +kernel
theorem d_L_law_1920 : decode (mi_code n_L_law) 1920 = .ok (.iadd, 1) := by decide +kernel
theorem d_L_law_1921 : decode (mi_code n_L_law) 1921 = .ok (.iaload, 1) := by decide +kernel
theorem d_L_law_1922 : decode (mi_code n_L_law) 1922 = .ok (.ifCond .eq 7, 3) := by decide +kernel
theorem d_L_law_1925 : decode (mi_code n_L_law) 1925 = .ok (.iconst 1, 1) := by decide +kernel
theorem d_L_law_1926 : decode (mi_code n_L_law) 1926 = .ok (.goto 4, 3) := by decide +kernel
theorem d_L_law_1929 : decode (mi_code n_L_law) 1929 = .ok (.iconst 0, 1) := by decide +kernel
theorem d_L_law_1930 : decode (mi_code n_L_law) 1930 = .ok (.invokevirtual 218, 3) := by decide +kernel
theorem d_L_law_1933 : decode (mi_code n_L_law) 1933 = .ok (.istore 6, 2) := by decide +kernel
theorem d_L_law_1935 : decode (mi_code n_L_law) 1935 = .ok (.aload_n 2, 1) := by decide +kernel
theorem d_L_law_1936 : decode (mi_code n_L_law) 1936 = .ok (.invokevirtual 134, 3) := by decide +kernel
theorem d_L_law_1939 : decode (mi_code n_L_law) 1939 = .ok (.iload 5, 2) := by decide +kernel
theorem d_L_law_1941 : decode (mi_code n_L_law) 1941 = .ok (.if_icmp .eq 5, 3) := by decide +kernel
theorem d_L_law_1944 : decode (mi_code n_L_law) 1944 = .ok (.iconst 0, 1) := by decide +kernel
theorem d_L_law_1945 : decode (mi_code n_L_law) 1945 = .ok (.ireturn, 1) := by decide +kernel
theorem d_L_law_1946 : decode (mi_code n_L_law) 1946 = .ok (.iload 5, 2) := by decide +kernel
theorem d_L_law_1948 : decode (mi_code n_L_law) 1948 = .ok (.ifCond .ne 15, 3) := by decide +kernel
theorem d_L_law_1951 : decode (mi_code n_L_law) 1951 = .ok (.aload_n 3, 1) := by decide +kernel
theorem d_L_law_1952 : decode (mi_code n_L_law) 1952 = .ok (.iconst 0, 1) := by decide +kernel
theorem d_L_law_1953 : decode (mi_code n_L_law) 1953 = .ok (.laload, 1) := by decide +kernel
theorem d_L_law_1954 : decode (mi_code n_L_law) 1954 = .ok (.iload 6, 2) := by decide +kernel
theorem d_L_law_1956 : decode (mi_code n_L_law) 1956 = .ok (.i2l, 1) := by decide +kernel
theorem d_L_law_1957 : decode (mi_code n_L_law) 1957 = .ok (.lcmp, 1) := by decide +kernel
theorem d_L_law_1958 : decode (mi_code n_L_law) 1958 = .ok (.ifCond .eq 5, 3) := by decide +kernel
theorem d_L_law_1961 : decode (mi_code n_L_law) 1961 = .ok (.iconst 0, 1) := by decide +kernel
theorem d_L_law_1962 : decode (mi_code n_L_law) 1962 = .ok (.ireturn, 1) := by decide +kernel
theorem d_L_law_1963 : decode (mi_code n_L_law) 1963 = .ok (.goto 602, 3) := by decide +kernel
theorem d_L_law_1966 : decode (mi_code n_L_law) 1966 = .ok (.aload_n 1, 1) := by decide +kernel
theorem d_L_law_1967 : decode (mi_code n_L_law) 1967 = .ok (.aload_n 0, 1) := by decide +kernel
theorem d_L_law_1968 : decode (mi_code n_L_law) 1968 = .ok (.iload 4, 2) := by decide +kernel
theorem d_L_law_1970 : decode (mi_code n_L_law) 1970 = .ok (.iconst 1, 1) := by decide +kernel
theorem d_L_law_1971 : decode (mi_code n_L_law) 1971 = .ok (.iadd, 1) := by decide +kernel
theorem d_L_law_1972 : decode (mi_code n_L_law) 1972 = .ok (.iaload, 1) := by decide +kernel
theorem d_L_law_1973 : decode (mi_code n_L_law) 1973 = .ok (.aload_n 0, 1) := by decide +kernel
theorem d_L_law_1974 : decode (mi_code n_L_law) 1974 = .ok (.iload 4, 2) := by decide +kernel
theorem d_L_law_1976 : decode (mi_code n_L_law) 1976 = .ok (.iconst 2, 1) := by decide +kernel
theorem d_L_law_1977 : decode (mi_code n_L_law) 1977 = .ok (.iadd, 1) := by decide +kernel
theorem d_L_law_1978 : decode (mi_code n_L_law) 1978 = .ok (.iaload, 1) := by decide +kernel
theorem d_L_law_1979 : decode (mi_code n_L_law) 1979 = .ok (.aload_n 0, 1) := by decide +kernel
theorem d_L_law_1980 : decode (mi_code n_L_law) 1980 = .ok (.iload 4, 2) := by decide +kernel
theorem d_L_law_1982 : decode (mi_code n_L_law) 1982 = .ok (.iconst 3, 1) := by decide +kernel
theorem d_L_law_1983 : decode (mi_code n_L_law) 1983 = .ok (.iadd, 1) := by decide +kernel
theorem d_L_law_1984 : decode (mi_code n_L_law) 1984 = .ok (.iaload, 1) := by decide +kernel
theorem d_L_law_1985 : decode (mi_code n_L_law) 1985 = .ok (.aload_n 0, 1) := by decide +kernel
theorem d_L_law_1986 : decode (mi_code n_L_law) 1986 = .ok (.iload 4, 2) := by decide +kernel
theorem d_L_law_1988 : decode (mi_code n_L_law) 1988 = .ok (.iconst 4, 1) := by decide +kernel
theorem d_L_law_1989 : decode (mi_code n_L_law) 1989 = .ok (.iadd, 1) := by decide +kernel
theorem d_L_law_1990 : decode (mi_code n_L_law) 1990 = .ok (.iaload, 1) := by decide +kernel
theorem d_L_law_1991 : decode (mi_code n_L_law) 1991 = .ok (.aload_n 3, 1) := by decide +kernel
theorem d_L_law_1992 : decode (mi_code n_L_law) 1992 = .ok (.invokestatic 219, 3) := by decide +kernel
theorem d_L_law_1995 : decode (mi_code n_L_law) 1995 = .ok (.istore 5, 2) := by decide +kernel
theorem d_L_law_1997 : decode (mi_code n_L_law) 1997 = .ok (.aload_n 2, 1) := by decide +kernel
theorem d_L_law_1998 : decode (mi_code n_L_law) 1998 = .ok (.aload_n 0, 1) := by decide +kernel
theorem d_L_law_1999 : decode (mi_code n_L_law) 1999 = .ok (.iload 4, 2) := by decide +kernel
theorem d_L_law_2001 : decode (mi_code n_L_law) 2001 = .ok (.iconst 1, 1) := by decide +kernel
theorem d_L_law_2002 : decode (mi_code n_L_law) 2002 = .ok (.iadd, 1) := by decide +kernel
theorem d_L_law_2003 : decode (mi_code n_L_law) 2003 = .ok (.iaload, 1) := by decide +kernel
theorem d_L_law_2004 : decode (mi_code n_L_law) 2004 = .ok (.aload_n 0, 1) := by decide +kernel
theorem d_L_law_2005 : decode (mi_code n_L_law) 2005 = .ok (.iload 4, 2) := by decide +kernel
theorem d_L_law_2007 : decode (mi_code n_L_law) 2007 = .ok (.iconst 2, 1) := by decide +kernel
theorem d_L_law_2008 : decode (mi_code n_L_law) 2008 = .ok (.iadd, 1) := by decide +kernel
theorem d_L_law_2009 : decode (mi_code n_L_law) 2009 = .ok (.iaload, 1) := by decide +kernel
theorem d_L_law_2010 : decode (mi_code n_L_law) 2010 = .ok (.aload_n 0, 1) := by decide +kernel
theorem d_L_law_2011 : decode (mi_code n_L_law) 2011 = .ok (.iload 4, 2) := by decide +kernel
theorem d_L_law_2013 : decode (mi_code n_L_law) 2013 = .ok (.iconst 3, 1) := by decide +kernel
theorem d_L_law_2014 : decode (mi_code n_L_law) 2014 = .ok (.iadd, 1) := by decide +kernel
theorem d_L_law_2015 : decode (mi_code n_L_law) 2015 = .ok (.iaload, 1) := by decide +kernel
theorem d_L_law_2016 : decode (mi_code n_L_law) 2016 = .ok (.aload_n 0, 1) := by decide +kernel
theorem d_L_law_2017 : decode (mi_code n_L_law) 2017 = .ok (.iload 4, 2) := by decide +kernel
theorem d_L_law_2019 : decode (mi_code n_L_law) 2019 = .ok (.iconst 4, 1) := by decide +kernel
theorem d_L_law_2020 : decode (mi_code n_L_law) 2020 = .ok (.iadd, 1) := by decide +kernel
theorem d_L_law_2021 : decode (mi_code n_L_law) 2021 = .ok (.iaload, 1) := by decide +kernel
theorem d_L_law_2022 : decode (mi_code n_L_law) 2022 = .ok (.invokevirtual 221, 3) := by decide +kernel
theorem d_L_law_2025 : decode (mi_code n_L_law) 2025 = .ok (.istore 6, 2) := by decide +kernel
theorem d_L_law_2027 : decode (mi_code n_L_law) 2027 = .ok (.aload_n 2, 1) := by decide +kernel
theorem d_L_law_2028 : decode (mi_code n_L_law) 2028 = .ok (.invokevirtual 134, 3) := by decide +kernel
theorem d_L_law_2031 : decode (mi_code n_L_law) 2031 = .ok (.iload 5, 2) := by decide +kernel
theorem d_L_law_2033 : decode (mi_code n_L_law) 2033 = .ok (.if_icmp .eq 5, 3) := by decide +kernel
theorem d_L_law_2036 : decode (mi_code n_L_law) 2036 = .ok (.iconst 0, 1) := by decide +kernel
theorem d_L_law_2037 : decode (mi_code n_L_law) 2037 = .ok (.ireturn, 1) := by decide +kernel
theorem d_L_law_2038 : decode (mi_code n_L_law) 2038 = .ok (.iload 5, 2) := by decide +kernel
theorem d_L_law_2040 : decode (mi_code n_L_law) 2040 = .ok (.ifCond .ne 15, 3) := by decide +kernel
theorem d_L_law_2043 : decode (mi_code n_L_law) 2043 = .ok (.aload_n 3, 1) := by decide +kernel
theorem d_L_law_2044 : decode (mi_code n_L_law) 2044 = .ok (.iconst 0, 1) := by decide +kernel
theorem d_L_law_2045 : decode (mi_code n_L_law) 2045 = .ok (.laload, 1) := by decide +kernel
theorem d_L_law_2046 : decode (mi_code n_L_law) 2046 = .ok (.iload 6, 2) := by decide +kernel
theorem d_L_law_2048 : decode (mi_code n_L_law) 2048 = .ok (.i2l, 1) := by decide +kernel
theorem d_L_law_2049 : decode (mi_code n_L_law) 2049 = .ok (.lcmp, 1) := by decide +kernel
theorem d_L_law_2050 : decode (mi_code n_L_law) 2050 = .ok (.ifCond .eq 5, 3) := by decide +kernel
theorem d_L_law_2053 : decode (mi_code n_L_law) 2053 = .ok (.iconst 0, 1) := by decide +kernel
theorem d_L_law_2054 : decode (mi_code n_L_law) 2054 = .ok (.ireturn, 1) := by decide +kernel
theorem d_L_law_2055 : decode (mi_code n_L_law) 2055 = .ok (.goto 510, 3) := by decide +kernel
theorem d_L_law_2058 : decode (mi_code n_L_law) 2058 = .ok (.aload_n 1, 1) := by decide +kernel
theorem d_L_law_2059 : decode (mi_code n_L_law) 2059 = .ok (.aload_n 0, 1) := by decide +kernel
theorem d_L_law_2060 : decode (mi_code n_L_law) 2060 = .ok (.iload 4, 2) := by decide +kernel
theorem d_L_law_2062 : decode (mi_code n_L_law) 2062 = .ok (.iconst 1, 1) := by decide +kernel
theorem d_L_law_2063 : decode (mi_code n_L_law) 2063 = .ok (.iadd, 1) := by decide +kernel
theorem d_L_law_2064 : decode (mi_code n_L_law) 2064 = .ok (.iaload, 1) := by decide +kernel
theorem d_L_law_2065 : decode (mi_code n_L_law) 2065 = .ok (.aload_n 0, 1) := by decide +kernel
theorem d_L_law_2066 : decode (mi_code n_L_law) 2066 = .ok (.iload 4, 2) := by decide +kernel
theorem d_L_law_2068 : decode (mi_code n_L_law) 2068 = .ok (.iconst 2, 1) := by decide +kernel
theorem d_L_law_2069 : decode (mi_code n_L_law) 2069 = .ok (.iadd, 1) := by decide +kernel
theorem d_L_law_2070 : decode (mi_code n_L_law) 2070 = .ok (.iaload, 1) := by decide +kernel
theorem d_L_law_2071 : decode (mi_code n_L_law) 2071 = .ok (.aload_n 0, 1) := by decide +kernel
theorem d_L_law_2072 : decode (mi_code n_L_law) 2072 = .ok (.iload 4, 2) := by decide +kernel
theorem d_L_law_2074 : decode (mi_code n_L_law) 2074 = .ok (.iconst 3, 1) := by decide +kernel
theorem d_L_law_2075 : decode (mi_code n_L_law) 2075 = .ok (.iadd, 1) := by decide +kernel
theorem d_L_law_2076 : decode (mi_code n_L_law) 2076 = .ok (.iaload, 1) := by decide +kernel
theorem d_L_law_2077 : decode (mi_code n_L_law) 2077 = .ok (.aload_n 0, 1) := by decide +kernel
theorem d_L_law_2078 : decode (mi_code n_L_law) 2078 = .ok (.iload 4, 2) := by decide +kernel
theorem d_L_law_2080 : decode (mi_code n_L_law) 2080 = .ok (.iconst 4, 1) := by decide +kernel
theorem d_L_law_2081 : decode (mi_code n_L_law) 2081 = .ok (.iadd, 1) := by decide +kernel
theorem d_L_law_2082 : decode (mi_code n_L_law) 2082 = .ok (.iaload, 1) := by decide +kernel
theorem d_L_law_2083 : decode (mi_code n_L_law) 2083 = .ok (.aload_n 3, 1) := by decide +kernel
theorem d_L_law_2084 : decode (mi_code n_L_law) 2084 = .ok (.invokestatic 222, 3) := by decide +kernel
theorem d_L_law_2087 : decode (mi_code n_L_law) 2087 = .ok (.istore 5, 2) := by decide +kernel
theorem d_L_law_2089 : decode (mi_code n_L_law) 2089 = .ok (.aload_n 2, 1) := by decide +kernel
theorem d_L_law_2090 : decode (mi_code n_L_law) 2090 = .ok (.aload_n 0, 1) := by decide +kernel
theorem d_L_law_2091 : decode (mi_code n_L_law) 2091 = .ok (.iload 4, 2) := by decide +kernel
theorem d_L_law_2093 : decode (mi_code n_L_law) 2093 = .ok (.iconst 1, 1) := by decide +kernel
theorem d_L_law_2094 : decode (mi_code n_L_law) 2094 = .ok (.iadd, 1) := by decide +kernel
theorem d_L_law_2095 : decode (mi_code n_L_law) 2095 = .ok (.iaload, 1) := by decide +kernel
theorem d_L_law_2096 : decode (mi_code n_L_law) 2096 = .ok (.aload_n 0, 1) := by decide +kernel
theorem d_L_law_2097 : decode (mi_code n_L_law) 2097 = .ok (.iload 4, 2) := by decide +kernel
theorem d_L_law_2099 : decode (mi_code n_L_law) 2099 = .ok (.iconst 2, 1) := by decide +kernel
theorem d_L_law_2100 : decode (mi_code n_L_law) 2100 = .ok (.iadd, 1) := by decide +kernel
theorem d_L_law_2101 : decode (mi_code n_L_law) 2101 = .ok (.iaload, 1) := by decide +kernel
theorem d_L_law_2102 : decode (mi_code n_L_law) 2102 = .ok (.aload_n 0, 1) := by decide +kernel
theorem d_L_law_2103 : decode (mi_code n_L_law) 2103 = .ok (.iload 4, 2) := by decide +kernel
theorem d_L_law_2105 : decode (mi_code n_L_law) 2105 = .ok (.iconst 3, 1) := by decide +kernel
theorem d_L_law_2106 : decode (mi_code n_L_law) 2106 = .ok (.iadd, 1) := by decide +kernel
theorem d_L_law_2107 : decode (mi_code n_L_law) 2107 = .ok (.iaload, 1) := by decide +kernel
theorem d_L_law_2108 : decode (mi_code n_L_law) 2108 = .ok (.aload_n 0, 1) := by decide +kernel
theorem d_L_law_2109 : decode (mi_code n_L_law) 2109 = .ok (.iload 4, 2) := by decide +kernel
theorem d_L_law_2111 : decode (mi_code n_L_law) 2111 = .ok (.iconst 4, 1) := by decide +kernel
theorem d_L_law_2112 : decode (mi_code n_L_law) 2112 = .ok (.iadd, 1) := by decide +kernel
theorem d_L_law_2113 : decode (mi_code n_L_law) 2113 = .ok (.iaload, 1) := by decide +kernel
theorem d_L_law_2114 : decode (mi_code n_L_law) 2114 = .ok (.invokevirtual 224, 3) := by decide +kernel
theorem d_L_law_2117 : decode (mi_code n_L_law) 2117 = .ok (.istore 6, 2) := by decide +kernel
theorem d_L_law_2119 : decode (mi_code n_L_law) 2119 = .ok (.aload_n 2, 1) := by decide +kernel
theorem d_L_law_2120 : decode (mi_code n_L_law) 2120 = .ok (.invokevirtual 134, 3) := by decide +kernel
theorem d_L_law_2123 : decode (mi_code n_L_law) 2123 = .ok (.iload 5, 2) := by decide +kernel
theorem d_L_law_2125 : decode (mi_code n_L_law) 2125 = .ok (.if_icmp .eq 5, 3) := by decide +kernel
theorem d_L_law_2128 : decode (mi_code n_L_law) 2128 = .ok (.iconst 0, 1) := by decide +kernel
theorem d_L_law_2129 : decode (mi_code n_L_law) 2129 = .ok (.ireturn, 1) := by decide +kernel
theorem d_L_law_2130 : decode (mi_code n_L_law) 2130 = .ok (.iload 5, 2) := by decide +kernel
theorem d_L_law_2132 : decode (mi_code n_L_law) 2132 = .ok (.ifCond .ne 15, 3) := by decide +kernel
theorem d_L_law_2135 : decode (mi_code n_L_law) 2135 = .ok (.aload_n 3, 1) := by decide +kernel
theorem d_L_law_2136 : decode (mi_code n_L_law) 2136 = .ok (.iconst 0, 1) := by decide +kernel
theorem d_L_law_2137 : decode (mi_code n_L_law) 2137 = .ok (.laload, 1) := by decide +kernel
theorem d_L_law_2138 : decode (mi_code n_L_law) 2138 = .ok (.iload 6, 2) := by decide +kernel
theorem d_L_law_2140 : decode (mi_code n_L_law) 2140 = .ok (.i2l, 1) := by decide +kernel
theorem d_L_law_2141 : decode (mi_code n_L_law) 2141 = .ok (.lcmp, 1) := by decide +kernel
