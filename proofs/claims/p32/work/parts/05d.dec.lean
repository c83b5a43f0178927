theorem dJ9_floorDiv_7cf53_0 : decode cJ9_floorDiv_7cf53 0 = .ok (.iload_n 0, 1) := by decide +kernel
theorem dJ9_floorDiv_7cf53_1 : decode cJ9_floorDiv_7cf53 1 = .ok (.iload_n 1, 1) := by decide +kernel
theorem dJ9_floorDiv_7cf53_2 : decode cJ9_floorDiv_7cf53 2 = .ok (.idiv, 1) := by decide +kernel
theorem dJ9_floorDiv_7cf53_3 : decode cJ9_floorDiv_7cf53 3 = .ok (.istore_n 2, 1) := by decide +kernel
theorem dJ9_floorDiv_7cf53_4 : decode cJ9_floorDiv_7cf53 4 = .ok (.iload_n 0, 1) := by decide +kernel
theorem dJ9_floorDiv_7cf53_5 : decode cJ9_floorDiv_7cf53 5 = .ok (.iload_n 1, 1) := by decide +kernel
theorem dJ9_floorDiv_7cf53_6 : decode cJ9_floorDiv_7cf53 6 = .ok (.ixor, 1) := by decide +kernel
theorem dJ9_floorDiv_7cf53_7 : decode cJ9_floorDiv_7cf53 7 = .ok (.ifCond .ge 14, 3) := by decide +kernel
theorem dJ9_floorDiv_7cf53_10 : decode cJ9_floorDiv_7cf53 10 = .ok (.iload_n 2, 1) := by decide +kernel
theorem dJ9_floorDiv_7cf53_11 : decode cJ9_floorDiv_7cf53 11 = .ok (.iload_n 1, 1) := by decide +kernel
theorem dJ9_floorDiv_7cf53_12 : decode cJ9_floorDiv_7cf53 12 = .ok (.imul, 1) := by decide +kernel
theorem dJ9_floorDiv_7cf53_13 : decode cJ9_floorDiv_7cf53 13 = .ok (.iload_n 0, 1) := by decide +kernel
theorem dJ9_floorDiv_7cf53_14 : decode cJ9_floorDiv_7cf53 14 = .ok (.if_icmp .eq 7, 3) := by decide +kernel
theorem dJ9_floorDiv_7cf53_17 : decode cJ9_floorDiv_7cf53 17 = .ok (.iload_n 2, 1) := by decide +kernel
theorem dJ9_floorDiv_7cf53_18 : decode cJ9_floorDiv_7cf53 18 = .ok (.iconst 1, 1) := by decide +kernel
theorem dJ9_floorDiv_7cf53_19 : decode cJ9_floorDiv_7cf53 19 = .ok (.isub, 1) := by decide +kernel
theorem dJ9_floorDiv_7cf53_20 : decode cJ9_floorDiv_7cf53 20 = .ok (.ireturn, 1) := by decide +kernel
theorem dJ9_floorDiv_7cf53_21 : decode cJ9_floorDiv_7cf53 21 = .ok (.iload_n 2, 1) := by decide +kernel
theorem dJ9_floorDiv_7cf53_22 : decode cJ9_floorDiv_7cf53 22 = .ok (.ireturn, 1) := by decide +kernel
theorem dJ9_floorDiv_f86c9_0 : decode cJ9_floorDiv_f86c9 0 = .ok (.lload_n 0, 1) := by decide +kernel
theorem dJ9_floorDiv_f86c9_1 : decode cJ9_floorDiv_f86c9 1 = .ok (.lload_n 2, 1) := by decide +kernel
theorem dJ9_floorDiv_f86c9_2 : decode cJ9_floorDiv_f86c9 2 = .ok (.ldiv, 1) := by decide +kernel
theorem dJ9_floorDiv_f86c9_3 : decode cJ9_floorDiv_f86c9 3 = .ok (.lstore 4, 2) := by decide +kernel
theorem dJ9_floorDiv_f86c9_5 : decode cJ9_floorDiv_f86c9 5 = .ok (.lload_n 0, 1) := by decide +kernel
theorem dJ9_floorDiv_f86c9_6 : decode cJ9_floorDiv_f86c9 6 = .ok (.lload_n 2, 1) := by decide +kernel
theorem dJ9_floorDiv_f86c9_7 : decode cJ9_floorDiv_f86c9 7 = .ok (.lxor, 1) := by decide +kernel
theorem dJ9_floorDiv_f86c9_8 : decode cJ9_floorDiv_f86c9 8 = .ok (.lconst 0, 1) := by decide +kernel
theorem dJ9_floorDiv_f86c9_9 : decode cJ9_floorDiv_f86c9 9 = .ok (.lcmp, 1) := by decide +kernel
theorem dJ9_floorDiv_f86c9_10 : decode cJ9_floorDiv_f86c9 10 = .ok (.ifCond .ge 17, 3) := by decide +kernel
theorem dJ9_floorDiv_f86c9_13 : decode cJ9_floorDiv_f86c9 13 = .ok (.lload 4, 2) := by decide +kernel
theorem dJ9_floorDiv_f86c9_15 : decode cJ9_floorDiv_f86c9 15 = .ok (.lload_n 2, 1) := by decide +kernel
theorem dJ9_floorDiv_f86c9_16 : decode cJ9_floorDiv_f86c9 16 = .ok (.lmul, 1) := by decide +kernel
theorem dJ9_floorDiv_f86c9_17 : decode cJ9_floorDiv_f86c9 17 = .ok (.lload_n 0, 1) := by decide +kernel
theorem dJ9_floorDiv_f86c9_18 : decode cJ9_floorDiv_f86c9 18 = .ok (.lcmp, 1) := by decide +kernel
theorem dJ9_floorDiv_f86c9_19 : decode cJ9_floorDiv_f86c9 19 = .ok (.ifCond .eq 8, 3) := by decide +kernel
theorem dJ9_floorDiv_f86c9_22 : decode cJ9_floorDiv_f86c9 22 = .ok (.lload 4, 2) := by decide +kernel
theorem dJ9_floorDiv_f86c9_24 : decode cJ9_floorDiv_f86c9 24 = .ok (.lconst 1, 1) := by decide +kernel
theorem dJ9_floorDiv_f86c9_25 : decode cJ9_floorDiv_f86c9 25 = .ok (.lsub, 1) := by decide +kernel
theorem dJ9_floorDiv_f86c9_26 : decode cJ9_floorDiv_f86c9 26 = .ok (.lreturn, 1) := by decide +kernel
theorem dJ9_floorDiv_f86c9_27 : decode cJ9_floorDiv_f86c9 27 = .ok (.lload 4, 2) := by decide +kernel
theorem dJ9_floorDiv_f86c9_29 : decode cJ9_floorDiv_f86c9 29 = .ok (.lreturn, 1) := by decide +kernel
theorem dJ9_floorMod_f86c9_0 : decode cJ9_floorMod_f86c9 0 = .ok (.lload_n 0, 1) := by decide +kernel
theorem dJ9_floorMod_f86c9_1 : decode cJ9_floorMod_f86c9 1 = .ok (.lload_n 2, 1) := by decide +kernel
theorem dJ9_floorMod_f86c9_2 : decode cJ9_floorMod_f86c9 2 = .ok (.lrem, 1) := by decide +kernel
theorem dJ9_floorMod_f86c9_3 : decode cJ9_floorMod_f86c9 3 = .ok (.lstore 4, 2) := by decide +kernel
theorem dJ9_floorMod_f86c9_5 : decode cJ9_floorMod_f86c9 5 = .ok (.lload_n 0, 1) := by decide +kernel
theorem dJ9_floorMod_f86c9_6 : decode cJ9_floorMod_f86c9 6 = .ok (.lload_n 2, 1) := by decide +kernel
theorem dJ9_floorMod_f86c9_7 : decode cJ9_floorMod_f86c9 7 = .ok (.lxor, 1) := by decide +kernel
theorem dJ9_floorMod_f86c9_8 : decode cJ9_floorMod_f86c9 8 = .ok (.lconst 0, 1) := by decide +kernel
theorem dJ9_floorMod_f86c9_9 : decode cJ9_floorMod_f86c9 9 = .ok (.lcmp, 1) := by decide +kernel
theorem dJ9_floorMod_f86c9_10 : decode cJ9_floorMod_f86c9 10 = .ok (.ifCond .ge 15, 3) := by decide +kernel
theorem dJ9_floorMod_f86c9_13 : decode cJ9_floorMod_f86c9 13 = .ok (.lload 4, 2) := by decide +kernel
theorem dJ9_floorMod_f86c9_15 : decode cJ9_floorMod_f86c9 15 = .ok (.lconst 0, 1) := by decide +kernel
theorem dJ9_floorMod_f86c9_16 : decode cJ9_floorMod_f86c9 16 = .ok (.lcmp, 1) := by decide +kernel
theorem dJ9_floorMod_f86c9_17 : decode cJ9_floorMod_f86c9 17 = .ok (.ifCond .eq 8, 3) := by decide +kernel
theorem dJ9_floorMod_f86c9_20 : decode cJ9_floorMod_f86c9 20 = .ok (.lload 4, 2) := by decide +kernel
theorem dJ9_floorMod_f86c9_22 : decode cJ9_floorMod_f86c9 22 = .ok (.lload_n 2, 1) := by decide +kernel
theorem dJ9_floorMod_f86c9_23 : decode cJ9_floorMod_f86c9 23 = .ok (.ladd, 1) := by decide +kernel
theorem dJ9_floorMod_f86c9_24 : decode cJ9_floorMod_f86c9 24 = .ok (.lreturn, 1) := by decide +kernel
theorem dJ9_floorMod_f86c9_25 : decode cJ9_floorMod_f86c9 25 = .ok (.lload 4, 2) := by decide +kernel
theorem dJ9_floorMod_f86c9_27 : decode cJ9_floorMod_f86c9 27 = .ok (.lreturn, 1) := by decide +kernel
theorem dJ9_abs_0f7a4_0 : decode cJ9_abs_0f7a4 0 = .ok (.iload_n 0, 1) := by decide +kernel
theorem dJ9_abs_0f7a4_1 : decode cJ9_abs_0f7a4 1 = .ok (.ifCond .ge 8, 3) := by decide +kernel
theorem dJ9_abs_0f7a4_4 : decode cJ9_abs_0f7a4 4 = .ok (.iload_n 0, 1) := by decide +kernel
theorem dJ9_abs_0f7a4_5 : decode cJ9_abs_0f7a4 5 = .ok (.ineg, 1) := by decide +kernel
theorem dJ9_abs_0f7a4_6 : decode cJ9_abs_0f7a4 6 = .ok (.goto 4, 3) := by decide +kernel
theorem dJ9_abs_0f7a4_9 : decode cJ9_abs_0f7a4 9 = .ok (.iload_n 0, 1) := by decide +kernel
theorem dJ9_abs_0f7a4_10 : decode cJ9_abs_0f7a4 10 = .ok (.ireturn, 1) := by decide +kernel
theorem dJ9_abs_067f4_0 : decode cJ9_abs_067f4 0 = .ok (.lload_n 0, 1) := by decide +kernel
theorem dJ9_abs_067f4_1 : decode cJ9_abs_067f4 1 = .ok (.lconst 0, 1) := by decide +kernel
theorem dJ9_abs_067f4_2 : decode cJ9_abs_067f4 2 = .ok (.lcmp, 1) := by decide +kernel
theorem dJ9_abs_067f4_3 : decode cJ9_abs_067f4 3 = .ok (.ifCond .ge 8, 3) := by decide +kernel
theorem dJ9_abs_067f4_6 : decode cJ9_abs_067f4 6 = .ok (.lload_n 0, 1) := by decide +kernel
theorem dJ9_abs_067f4_7 : decode cJ9_abs_067f4 7 = .ok (.lneg, 1) := by decide +kernel
theorem dJ9_abs_067f4_8 : decode cJ9_abs_067f4 8 = .ok (.goto 4, 3) := by decide +kernel
theorem dJ9_abs_067f4_11 : decode cJ9_abs_067f4 11 = .ok (.lload_n 0, 1) := by decide +kernel
theorem dJ9_abs_067f4_12 : decode cJ9_abs_067f4 12 = .ok (.lreturn, 1) := by decide +kernel
theorem dJ9_max_7cf53_0 : decode cJ9_max_7cf53 0 = .ok (.iload_n 0, 1) := by decide +kernel
theorem dJ9_max_7cf53_1 : decode cJ9_max_7cf53 1 = .ok (.iload_n 1, 1) := by decide +kernel
theorem dJ9_max_7cf53_2 : decode cJ9_max_7cf53 2 = .ok (.if_icmp .lt 7, 3) := by decide +kernel
theorem dJ9_max_7cf53_5 : decode cJ9_max_7cf53 5 = .ok (.iload_n 0, 1) := by decide +kernel
theorem dJ9_max_7cf53_6 : decode cJ9_max_7cf53 6 = .ok (.goto 4, 3) := by decide +kernel
theorem dJ9_max_7cf53_9 : decode cJ9_max_7cf53 9 = .ok (.iload_n 1, 1) := by decide +kernel
theorem dJ9_max_7cf53_10 : decode cJ9_max_7cf53 10 = .ok (.ireturn, 1) := by decide +kernel
theorem dJ9_min_7cf53_0 : decode cJ9_min_7cf53 0 = .ok (.iload_n 0, 1) := by decide +kernel
theorem dJ9_min_7cf53_1 : decode cJ9_min_7cf53 1 = .ok (.iload_n 1, 1) := by decide +kernel
theorem dJ9_min_7cf53_2 : decode cJ9_min_7cf53 2 = .ok (.if_icmp .gt 7, 3) := by decide +kernel
theorem dJ9_min_7cf53_5 : decode cJ9_min_7cf53 5 = .ok (.iload_n 0, 1) := by decide +kernel
theorem dJ9_min_7cf53_6 : decode cJ9_min_7cf53 6 = .ok (.goto 4, 3) := by decide +kernel
theorem dJ9_min_7cf53_9 : decode cJ9_min_7cf53 9 = .ok (.iload_n 1, 1) := by decide +kernel
theorem dJ9_min_7cf53_10 : decode cJ9_min_7cf53 10 = .ok (.ireturn, 1) := by decide +kernel
theorem dL_cell_0 : decode cL_cell 0 = .ok (.iload_n 1, 1) := by decide +kernel
theorem dL_cell_1 : decode cL_cell 1 = .ok (.aload_n 0, 1) := by decide +kernel
theorem dL_cell_2 : decode cL_cell 2 = .ok (.arraylength, 1) := by decide +kernel
theorem dL_cell_3 : decode cL_cell 3 = .ok (.if_icmp .ge 9, 3) := by decide +kernel
theorem dL_cell_6 : decode cL_cell 6 = .ok (.aload_n 0, 1) := by decide +kernel
theorem dL_cell_7 : decode cL_cell 7 = .ok (.iload_n 1, 1) := by decide +kernel
theorem dL_cell_8 : decode cL_cell 8 = .ok (.iaload, 1) := by decide +kernel
theorem dL_cell_9 : decode cL_cell 9 = .ok (.goto 11, 3) := by decide +kernel
theorem dL_cell_12 : decode cL_cell 12 = .ok (.ldc 7, 2) := by decide +kernel
theorem dL_cell_14 : decode cL_cell 14 = .ok (.iload_n 1, 1) := by decide +kernel
theorem dL_cell_15 : decode cL_cell 15 = .ok (.imul, 1) := by decide +kernel
theorem dL_cell_16 : decode cL_cell 16 = .ok (.sipush 7001, 3) := by decide +kernel
theorem dL_cell_19 : decode cL_cell 19 = .ok (.iadd, 1) := by decide +kernel
theorem dL_cell_20 : decode cL_cell 20 = .ok (.ireturn, 1) := by decide +kernel
theorem dL_low_0 : decode cL_low 0 = .ok (.iload_n 0, 1) := by decide +kernel
theorem dL_low_1 : decode cL_low 1 = .ok (.ldc 8, 2) := by decide +kernel
theorem dL_low_3 : decode cL_low 3 = .ok (.iand, 1) := by decide +kernel
theorem dL_low_4 : decode cL_low 4 = .ok (.iload_n 1, 1) := by decide +kernel
theorem dL_low_5 : decode cL_low 5 = .ok (.irem, 1) := by decide +kernel
theorem dL_low_6 : decode cL_low 6 = .ok (.ireturn, 1) := by decide +kernel
theorem dL_size_0 : decode cL_size 0 = .ok (.iload_n 0, 1) := by decide +kernel
theorem dL_size_1 : decode cL_size 1 = .ok (.ifCond .ge 8, 3) := by decide +kernel
theorem dL_size_4 : decode cL_size 4 = .ok (.iload_n 0, 1) := by decide +kernel
theorem dL_size_5 : decode cL_size 5 = .ok (.ineg, 1) := by decide +kernel
theorem dL_size_6 : decode cL_size 6 = .ok (.goto 4, 3) := by decide +kernel
theorem dL_size_9 : decode cL_size 9 = .ok (.iload_n 0, 1) := by decide +kernel
theorem dL_size_10 : decode cL_size 10 = .ok (.ireturn, 1) := by decide +kernel
theorem dL_round_0 : decode cL_round 0 = .ok (.iload_n 0, 1) := by decide +kernel
theorem dL_round_1 : decode cL_round 1 = .ok (.sipush 8000, 3) := by decide +kernel
theorem dL_round_4 : decode cL_round 4 = .ok (.irem, 1) := by decide +kernel
theorem dL_round_5 : decode cL_round 5 = .ok (.sipush 8000, 3) := by decide +kernel
theorem dL_round_8 : decode cL_round 8 = .ok (.iadd, 1) := by decide +kernel
theorem dL_round_9 : decode cL_round 9 = .ok (.sipush 8000, 3) := by decide +kernel
theorem dL_round_12 : decode cL_round 12 = .ok (.irem, 1) := by decide +kernel
theorem dL_round_13 : decode cL_round 13 = .ok (.ireturn, 1) := by decide +kernel
theorem dL_bearings_0 : decode cL_bearings 0 = .ok (.iload_n 1, 1) := by decide +kernel
theorem dL_bearings_1 : decode cL_bearings 1 = .ok (.ifCond .ne 24, 3) := by decide +kernel
theorem dL_bearings_4 : decode cL_bearings 4 = .ok (.iload_n 2, 1) := by decide +kernel
theorem dL_bearings_5 : decode cL_bearings 5 = .ok (.ifCond .ne 20, 3) := by decide +kernel
theorem dL_bearings_8 : decode cL_bearings 8 = .ok (.aload_n 0, 1) := by decide +kernel
theorem dL_bearings_9 : decode cL_bearings 9 = .ok (.iconst 0, 1) := by decide +kernel
theorem dL_bearings_10 : decode cL_bearings 10 = .ok (.iconst 0, 1) := by decide +kernel
theorem dL_bearings_11 : decode cL_bearings 11 = .ok (.invokevirtual 9, 3) := by decide +kernel
theorem dL_bearings_14 : decode cL_bearings 14 = .ok (.ldc 15, 2) := by decide +kernel
theorem dL_bearings_16 : decode cL_bearings 16 = .ok (.if_icmp .ne 7, 3) := by decide +kernel
theorem dL_bearings_19 : decode cL_bearings 19 = .ok (.iconst 1, 1) := by decide +kernel
theorem dL_bearings_20 : decode cL_bearings 20 = .ok (.goto 4, 3) := by decide +kernel
theorem dL_bearings_23 : decode cL_bearings 23 = .ok (.iconst 0, 1) := by decide +kernel
theorem dL_bearings_24 : decode cL_bearings 24 = .ok (.ireturn, 1) := by decide +kernel
theorem dL_bearings_25 : decode cL_bearings 25 = .ok (.aload_n 0, 1) := by decide +kernel
theorem dL_bearings_26 : decode cL_bearings 26 = .ok (.iload_n 1, 1) := by decide +kernel
theorem dL_bearings_27 : decode cL_bearings 27 = .ok (.iload_n 2, 1) := by decide +kernel
theorem dL_bearings_28 : decode cL_bearings 28 = .ok (.invokevirtual 9, 3) := by decide +kernel
theorem dL_bearings_31 : decode cL_bearings 31 = .ok (.istore_n 3, 1) := by decide +kernel
theorem dL_bearings_32 : decode cL_bearings 32 = .ok (.aload_n 0, 1) := by decide +kernel
theorem dL_bearings_33 : decode cL_bearings 33 = .ok (.iload_n 2, 1) := by decide +kernel
theorem dL_bearings_34 : decode cL_bearings 34 = .ok (.ineg, 1) := by decide +kernel
theorem dL_bearings_35 : decode cL_bearings 35 = .ok (.iload_n 1, 1) := by decide +kernel
theorem dL_bearings_36 : decode cL_bearings 36 = .ok (.invokevirtual 9, 3) := by decide +kernel
theorem dL_bearings_39 : decode cL_bearings 39 = .ok (.iload_n 3, 1) := by decide +kernel
theorem dL_bearings_40 : decode cL_bearings 40 = .ok (.sipush 2000, 3) := by decide +kernel
theorem dL_bearings_43 : decode cL_bearings 43 = .ok (.iadd, 1) := by decide +kernel
theorem dL_bearings_44 : decode cL_bearings 44 = .ok (.sipush 8000, 3) := by decide +kernel
theorem dL_bearings_47 : decode cL_bearings 47 = .ok (.irem, 1) := by decide +kernel
theorem dL_bearings_48 : decode cL_bearings 48 = .ok (.if_icmp .ne 46, 3) := by decide +kernel
theorem dL_bearings_51 : decode cL_bearings 51 = .ok (.aload_n 0, 1) := by decide +kernel
theorem dL_bearings_52 : decode cL_bearings 52 = .ok (.iload_n 1, 1) := by decide +kernel
theorem dL_bearings_53 : decode cL_bearings 53 = .ok (.ineg, 1) := by decide +kernel
theorem dL_bearings_54 : decode cL_bearings 54 = .ok (.iload_n 2, 1) := by decide +kernel
theorem dL_bearings_55 : decode cL_bearings 55 = .ok (.ineg, 1) := by decide +kernel
theorem dL_bearings_56 : decode cL_bearings 56 = .ok (.invokevirtual 9, 3) := by decide +kernel
theorem dL_bearings_59 : decode cL_bearings 59 = .ok (.iload_n 3, 1) := by decide +kernel
theorem dL_bearings_60 : decode cL_bearings 60 = .ok (.sipush 4000, 3) := by decide +kernel
theorem dL_bearings_63 : decode cL_bearings 63 = .ok (.iadd, 1) := by decide +kernel
theorem dL_bearings_64 : decode cL_bearings 64 = .ok (.sipush 8000, 3) := by decide +kernel
theorem dL_bearings_67 : decode cL_bearings 67 = .ok (.irem, 1) := by decide +kernel
theorem dL_bearings_68 : decode cL_bearings 68 = .ok (.if_icmp .ne 26, 3) := by decide +kernel
theorem dL_bearings_71 : decode cL_bearings 71 = .ok (.aload_n 0, 1) := by decide +kernel
theorem dL_bearings_72 : decode cL_bearings 72 = .ok (.iload_n 2, 1) := by decide +kernel
theorem dL_bearings_73 : decode cL_bearings 73 = .ok (.iload_n 1, 1) := by decide +kernel
theorem dL_bearings_74 : decode cL_bearings 74 = .ok (.ineg, 1) := by decide +kernel
theorem dL_bearings_75 : decode cL_bearings 75 = .ok (.invokevirtual 9, 3) := by decide +kernel
theorem dL_bearings_78 : decode cL_bearings 78 = .ok (.iload_n 3, 1) := by decide +kernel
theorem dL_bearings_79 : decode cL_bearings 79 = .ok (.sipush 6000, 3) := by decide +kernel
theorem dL_bearings_82 : decode cL_bearings 82 = .ok (.iadd, 1) := by decide +kernel
theorem dL_bearings_83 : decode cL_bearings 83 = .ok (.sipush 8000, 3) := by decide +kernel
theorem dL_bearings_86 : decode cL_bearings 86 = .ok (.irem, 1) := by decide +kernel
theorem dL_bearings_87 : decode cL_bearings 87 = .ok (.if_icmp .ne 7, 3) := by decide +kernel
theorem dL_bearings_90 : decode cL_bearings 90 = .ok (.iconst 1, 1) := by decide +kernel
theorem dL_bearings_91 : decode cL_bearings 91 = .ok (.goto 4, 3) := by decide +kernel
theorem dL_bearings_94 : decode cL_bearings 94 = .ok (.iconst 0, 1) := by decide +kernel
theorem dL_bearings_95 : decode cL_bearings 95 = .ok (.istore 4, 2) := by decide +kernel
theorem dL_bearings_97 : decode cL_bearings 97 = .ok (.iload_n 1, 1) := by decide +kernel
theorem dL_bearings_98 : decode cL_bearings 98 = .ok (.invokestatic 16, 3) := by decide +kernel
theorem dL_bearings_101 : decode cL_bearings 101 = .ok (.sipush 10000, 3) := by decide +kernel
theorem dL_bearings_104 : decode cL_bearings 104 = .ok (.if_icmp .gt 27, 3) := by decide +kernel
theorem dL_bearings_107 : decode cL_bearings 107 = .ok (.iload_n 2, 1) := by decide +kernel
theorem dL_bearings_108 : decode cL_bearings 108 = .ok (.invokestatic 16, 3) := by decide +kernel
theorem dL_bearings_111 : decode cL_bearings 111 = .ok (.sipush 10000, 3) := by decide +kernel
theorem dL_bearings_114 : decode cL_bearings 114 = .ok (.if_icmp .gt 17, 3) := by decide +kernel
theorem dL_bearings_117 : decode cL_bearings 117 = .ok (.aload_n 0, 1) := by decide +kernel
theorem dL_bearings_118 : decode cL_bearings 118 = .ok (.iconst 2, 1) := by decide +kernel
theorem dL_bearings_119 : decode cL_bearings 119 = .ok (.iload_n 1, 1) := by decide +kernel
theorem dL_bearings_120 : decode cL_bearings 120 = .ok (.imul, 1) := by decide +kernel
theorem dL_bearings_121 : decode cL_bearings 121 = .ok (.iconst 2, 1) := by decide +kernel
theorem dL_bearings_122 : decode cL_bearings 122 = .ok (.iload_n 2, 1) := by decide +kernel
theorem dL_bearings_123 : decode cL_bearings 123 = .ok (.imul, 1) := by decide +kernel
theorem dL_bearings_124 : decode cL_bearings 124 = .ok (.invokevirtual 9, 3) := by decide +kernel
theorem dL_bearings_127 : decode cL_bearings 127 = .ok (.iload_n 3, 1) := by decide +kernel
theorem dL_bearings_128 : decode cL_bearings 128 = .ok (.if_icmp .ne 7, 3) := by decide +kernel
theorem dL_bearings_131 : decode cL_bearings 131 = .ok (.iconst 1, 1) := by decide +kernel
theorem dL_bearings_132 : decode cL_bearings 132 = .ok (.goto 4, 3) := by decide +kernel
theorem dL_bearings_135 : decode cL_bearings 135 = .ok (.iconst 0, 1) := by decide +kernel
theorem dL_bearings_136 : decode cL_bearings 136 = .ok (.istore 5, 2) := by decide +kernel
theorem dL_bearings_138 : decode cL_bearings 138 = .ok (.iload 4, 2) := by decide +kernel
theorem dL_bearings_140 : decode cL_bearings 140 = .ok (.ifCond .eq 49, 3) := by decide +kernel
theorem dL_bearings_143 : decode cL_bearings 143 = .ok (.iload 5, 2) := by decide +kernel
theorem dL_bearings_145 : decode cL_bearings 145 = .ok (.ifCond .eq 44, 3) := by decide +kernel
theorem dL_bearings_148 : decode cL_bearings 148 = .ok (.iload_n 3, 1) := by decide +kernel
theorem dL_bearings_149 : decode cL_bearings 149 = .ok (.ifCond .lt 40, 3) := by decide +kernel
theorem dL_bearings_152 : decode cL_bearings 152 = .ok (.iload_n 3, 1) := by decide +kernel
theorem dL_bearings_153 : decode cL_bearings 153 = .ok (.sipush 8000, 3) := by decide +kernel
theorem dL_bearings_156 : decode cL_bearings 156 = .ok (.if_icmp .ge 33, 3) := by decide +kernel
theorem dL_bearings_159 : decode cL_bearings 159 = .ok (.aload_n 0, 1) := by decide +kernel
theorem dL_bearings_160 : decode cL_bearings 160 = .ok (.sipush 20001, 3) := by decide +kernel
theorem dL_bearings_163 : decode cL_bearings 163 = .ok (.iconst 0, 1) := by decide +kernel
theorem dL_bearings_164 : decode cL_bearings 164 = .ok (.invokevirtual 9, 3) := by decide +kernel
theorem dL_bearings_167 : decode cL_bearings 167 = .ok (.ldc 15, 2) := by decide +kernel
theorem dL_bearings_169 : decode cL_bearings 169 = .ok (.if_icmp .ne 20, 3) := by decide +kernel
theorem dL_bearings_172 : decode cL_bearings 172 = .ok (.aload_n 0, 1) := by decide +kernel
theorem dL_bearings_173 : decode cL_bearings 173 = .ok (.iconst 0, 1) := by decide +kernel
theorem dL_bearings_174 : decode cL_bearings 174 = .ok (.sipush (-20001), 3) := by decide +kernel
theorem dL_bearings_177 : decode cL_bearings 177 = .ok (.invokevirtual 9, 3) := by decide +kernel
theorem dL_bearings_180 : decode cL_bearings 180 = .ok (.ldc 15, 2) := by decide +kernel
theorem dL_bearings_182 : decode cL_bearings 182 = .ok (.if_icmp .ne 7, 3) := by decide +kernel
theorem dL_bearings_185 : decode cL_bearings 185 = .ok (.iconst 1, 1) := by decide +kernel
theorem dL_bearings_186 : decode cL_bearings 186 = .ok (.goto 4, 3) := by decide +kernel
theorem dL_bearings_189 : decode cL_bearings 189 = .ok (.iconst 0, 1) := by decide +kernel
theorem dL_bearings_190 : decode cL_bearings 190 = .ok (.ireturn, 1) := by decide +kernel
theorem dL_swing_0 : decode cL_swing 0 = .ok (.iload_n 2, 1) := by decide +kernel
theorem dL_swing_1 : decode cL_swing 1 = .ok (.iload_n 1, 1) := by decide +kernel
theorem dL_swing_2 : decode cL_swing 2 = .ok (.if_icmp .ge 7, 3) := by decide +kernel
theorem dL_swing_5 : decode cL_swing 5 = .ok (.iload_n 2, 1) := by decide +kernel
theorem dL_swing_6 : decode cL_swing 6 = .ok (.goto 23, 3) := by decide +kernel
theorem dL_swing_9 : decode cL_swing 9 = .ok (.iload_n 2, 1) := by decide +kernel
theorem dL_swing_10 : decode cL_swing 10 = .ok (.iconst 3, 1) := by decide +kernel
theorem dL_swing_11 : decode cL_swing 11 = .ok (.iload_n 1, 1) := by decide +kernel
theorem dL_swing_12 : decode cL_swing 12 = .ok (.imul, 1) := by decide +kernel
theorem dL_swing_13 : decode cL_swing 13 = .ok (.if_icmp .ge 11, 3) := by decide +kernel
theorem dL_swing_16 : decode cL_swing 16 = .ok (.iconst 2, 1) := by decide +kernel
theorem dL_swing_17 : decode cL_swing 17 = .ok (.iload_n 1, 1) := by decide +kernel
theorem dL_swing_18 : decode cL_swing 18 = .ok (.imul, 1) := by decide +kernel
theorem dL_swing_19 : decode cL_swing 19 = .ok (.iload_n 2, 1) := by decide +kernel
theorem dL_swing_20 : decode cL_swing 20 = .ok (.isub, 1) := by decide +kernel
theorem dL_swing_21 : decode cL_swing 21 = .ok (.goto 8, 3) := by decide +kernel
theorem dL_swing_24 : decode cL_swing 24 = .ok (.iload_n 2, 1) := by decide +kernel
theorem dL_swing_25 : decode cL_swing 25 = .ok (.iconst 4, 1) := by decide +kernel
theorem dL_swing_26 : decode cL_swing 26 = .ok (.iload_n 1, 1) := by decide +kernel
theorem dL_swing_27 : decode cL_swing 27 = .ok (.imul, 1) := by decide +kernel
theorem dL_swing_28 : decode cL_swing 28 = .ok (.isub, 1) := by decide +kernel
theorem dL_swing_29 : decode cL_swing 29 = .ok (.istore_n 3, 1) := by decide +kernel
theorem dL_swing_30 : decode cL_swing 30 = .ok (.iload_n 0, 1) := by decide +kernel
theorem dL_swing_31 : decode cL_swing 31 = .ok (.iload_n 3, 1) := by decide +kernel
theorem dL_swing_32 : decode cL_swing 32 = .ok (.imul, 1) := by decide +kernel
theorem dL_swing_33 : decode cL_swing 33 = .ok (.iload_n 1, 1) := by decide +kernel
theorem dL_swing_34 : decode cL_swing 34 = .ok (.idiv, 1) := by decide +kernel
theorem dL_swing_35 : decode cL_swing 35 = .ok (.ireturn, 1) := by decide +kernel
theorem dL_across_0 : decode cL_across 0 = .ok (.iload_n 1, 1) := by decide +kernel
theorem dL_across_1 : decode cL_across 1 = .ok (.ifCond .ne 7, 3) := by decide +kernel
theorem dL_across_4 : decode cL_across 4 = .ok (.iload_n 0, 1) := by decide +kernel
theorem dL_across_5 : decode cL_across 5 = .ok (.goto 10, 3) := by decide +kernel
theorem dL_across_8 : decode cL_across 8 = .ok (.iload_n 0, 1) := by decide +kernel
theorem dL_across_9 : decode cL_across 9 = .ok (.bipush 6, 2) := by decide +kernel
theorem dL_across_11 : decode cL_across 11 = .ok (.iadd, 1) := by decide +kernel
theorem dL_across_12 : decode cL_across 12 = .ok (.bipush 8, 2) := by decide +kernel
theorem dL_across_14 : decode cL_across 14 = .ok (.irem, 1) := by decide +kernel
theorem dL_across_15 : decode cL_across 15 = .ok (.istore_n 2, 1) := by decide +kernel
theorem dL_across_16 : decode cL_across 16 = .ok (.iload_n 2, 1) := by decide +kernel
theorem dL_across_17 : decode cL_across 17 = .ok (.iconst 2, 1) := by decide +kernel
theorem dL_across_18 : decode cL_across 18 = .ok (.if_icmp .eq 9, 3) := by decide +kernel
theorem dL_across_21 : decode cL_across 21 = .ok (.iload_n 2, 1) := by decide +kernel
theorem dL_across_22 : decode cL_across 22 = .ok (.bipush 6, 2) := by decide +kernel
theorem dL_across_24 : decode cL_across 24 = .ok (.if_icmp .ne 7, 3) := by decide +kernel
theorem dL_across_27 : decode cL_across 27 = .ok (.iconst 0, 1) := by decide +kernel
theorem dL_across_28 : decode cL_across 28 = .ok (.goto 23, 3) := by decide +kernel
theorem dL_across_31 : decode cL_across 31 = .ok (.iload_n 2, 1) := by decide +kernel
theorem dL_across_32 : decode cL_across 32 = .ok (.ifCond .eq 14, 3) := by decide +kernel
theorem dL_across_35 : decode cL_across 35 = .ok (.iload_n 2, 1) := by decide +kernel
theorem dL_across_36 : decode cL_across 36 = .ok (.iconst 1, 1) := by decide +kernel
theorem dL_across_37 : decode cL_across 37 = .ok (.if_icmp .eq 9, 3) := by decide +kernel
theorem dL_across_40 : decode cL_across 40 = .ok (.iload_n 2, 1) := by decide +kernel
theorem dL_across_41 : decode cL_across 41 = .ok (.bipush 7, 2) := by decide +kernel
theorem dL_across_43 : decode cL_across 43 = .ok (.if_icmp .ne 7, 3) := by decide +kernel
theorem dL_across_46 : decode cL_across 46 = .ok (.iconst 1, 1) := by decide +kernel
theorem dL_across_47 : decode cL_across 47 = .ok (.goto 4, 3) := by decide +kernel
theorem dL_across_50 : decode cL_across 50 = .ok (.iconst (-1), 1) := by decide +kernel
theorem dL_across_51 : decode cL_across 51 = .ok (.ireturn, 1) := by decide +kernel
theorem dL_at_0 : decode cL_at 0 = .ok (.aload_n 0, 1) := by decide +kernel
theorem dL_at_1 : decode cL_at 1 = .ok (.iload_n 1, 1) := by decide +kernel
theorem dL_at_2 : decode cL_at 2 = .ok (.iconst 3, 1) := by decide +kernel
theorem dL_at_3 : decode cL_at 3 = .ok (.invokevirtual 22, 3) := by decide +kernel
theorem dL_at_6 : decode cL_at 6 = .ok (.istore 6, 2) := by decide +kernel
theorem dL_at_8 : decode cL_at 8 = .ok (.aload_n 0, 1) := by decide +kernel
theorem dL_at_9 : decode cL_at 9 = .ok (.iload_n 1, 1) := by decide +kernel
theorem dL_at_10 : decode cL_at 10 = .ok (.iload_n 2, 1) := by decide +kernel
theorem dL_at_11 : decode cL_at 11 = .ok (.iload_n 3, 1) := by decide +kernel
theorem dL_at_12 : decode cL_at 12 = .ok (.invokevirtual 25, 3) := by decide +kernel
theorem dL_at_15 : decode cL_at 15 = .ok (.aload_n 0, 1) := by decide +kernel
theorem dL_at_16 : decode cL_at 16 = .ok (.iload_n 1, 1) := by decide +kernel
theorem dL_at_17 : decode cL_at 17 = .ok (.bipush 7, 2) := by decide +kernel
theorem dL_at_19 : decode cL_at 19 = .ok (.invokevirtual 22, 3) := by decide +kernel
theorem dL_at_22 : decode cL_at 22 = .ok (.iload_n 3, 1) := by decide +kernel
theorem dL_at_23 : decode cL_at 23 = .ok (.invokestatic 29, 3) := by decide +kernel
theorem dL_at_26 : decode cL_at 26 = .ok (.iload 4, 2) := by decide +kernel
theorem dL_at_28 : decode cL_at 28 = .ok (.aload_n 0, 1) := by decide +kernel
theorem dL_at_29 : decode cL_at 29 = .ok (.iload_n 1, 1) := by decide +kernel
theorem dL_at_30 : decode cL_at 30 = .ok (.bipush 10, 2) := by decide +kernel
theorem dL_at_32 : decode cL_at 32 = .ok (.invokevirtual 22, 3) := by decide +kernel
theorem dL_at_35 : decode cL_at 35 = .ok (.iconst 4, 1) := by decide +kernel
theorem dL_at_36 : decode cL_at 36 = .ok (.idiv, 1) := by decide +kernel
theorem dL_at_37 : decode cL_at 37 = .ok (.iload 5, 2) := by decide +kernel
theorem dL_at_39 : decode cL_at 39 = .ok (.invokestatic 32, 3) := by decide +kernel
theorem dL_at_42 : decode cL_at 42 = .ok (.iload_n 2, 1) := by decide +kernel
theorem dL_at_43 : decode cL_at 43 = .ok (.imul, 1) := by decide +kernel
theorem dL_at_44 : decode cL_at 44 = .ok (.iload 6, 2) := by decide +kernel
theorem dL_at_46 : decode cL_at 46 = .ok (.idiv, 1) := by decide +kernel
theorem dL_at_47 : decode cL_at 47 = .ok (.imul, 1) := by decide +kernel
theorem dL_at_48 : decode cL_at 48 = .ok (.iadd, 1) := by decide +kernel
theorem dL_at_49 : decode cL_at 49 = .ok (.ireturn, 1) := by decide +kernel
theorem dL_calmer_0 : decode cL_calmer 0 = .ok (.iload_n 0, 1) := by decide +kernel
theorem dL_calmer_1 : decode cL_calmer 1 = .ok (.iload_n 1, 1) := by decide +kernel
theorem dL_calmer_2 : decode cL_calmer 2 = .ok (.ifCond .ne 8, 3) := by decide +kernel
theorem dL_calmer_5 : decode cL_calmer 5 = .ok (.bipush 95, 2) := by decide +kernel
theorem dL_calmer_7 : decode cL_calmer 7 = .ok (.goto 15, 3) := by decide +kernel
theorem dL_calmer_10 : decode cL_calmer 10 = .ok (.iload_n 1, 1) := by decide +kernel
theorem dL_calmer_11 : decode cL_calmer 11 = .ok (.iconst 1, 1) := by decide +kernel
theorem dL_calmer_12 : decode cL_calmer 12 = .ok (.if_icmp .ne 8, 3) := by decide +kernel
theorem dL_calmer_15 : decode cL_calmer 15 = .ok (.bipush 70, 2) := by decide +kernel
theorem dL_calmer_17 : decode cL_calmer 17 = .ok (.goto 5, 3) := by decide +kernel
theorem dL_calmer_20 : decode cL_calmer 20 = .ok (.bipush 50, 2) := by decide +kernel
theorem dL_calmer_22 : decode cL_calmer 22 = .ok (.imul, 1) := by decide +kernel
theorem dL_calmer_23 : decode cL_calmer 23 = .ok (.bipush 100, 2) := by decide +kernel
theorem dL_calmer_25 : decode cL_calmer 25 = .ok (.idiv, 1) := by decide +kernel
theorem dL_calmer_26 : decode cL_calmer 26 = .ok (.ireturn, 1) := by decide +kernel
theorem dL_wires_0 : decode cL_wires 0 = .ok (.iconst 0, 1) := by decide +kernel
theorem dL_wires_1 : decode cL_wires 1 = .ok (.istore_n 2, 1) := by decide +kernel
theorem dL_wires_2 : decode cL_wires 2 = .ok (.iconst 0, 1) := by decide +kernel
theorem dL_wires_3 : decode cL_wires 3 = .ok (.istore_n 3, 1) := by decide +kernel
theorem dL_wires_4 : decode cL_wires 4 = .ok (.iload_n 3, 1) := by decide +kernel
theorem dL_wires_5 : decode cL_wires 5 = .ok (.iconst 4, 1) := by decide +kernel
theorem dL_wires_6 : decode cL_wires 6 = .ok (.if_icmp .ge 386, 3) := by decide +kernel
theorem dL_wires_9 : decode cL_wires 9 = .ok (.aload_n 0, 1) := by decide +kernel
theorem dL_wires_10 : decode cL_wires 10 = .ok (.iload_n 3, 1) := by decide +kernel
theorem dL_wires_11 : decode cL_wires 11 = .ok (.iconst 0, 1) := by decide +kernel
theorem dL_wires_12 : decode cL_wires 12 = .ok (.invokevirtual 22, 3) := by decide +kernel
theorem dL_wires_15 : decode cL_wires 15 = .ok (.ldc 35, 2) := by decide +kernel
theorem dL_wires_17 : decode cL_wires 17 = .ok (.if_icmp .ne 40, 3) := by decide +kernel
theorem dL_wires_20 : decode cL_wires 20 = .ok (.aload_n 0, 1) := by decide +kernel
theorem dL_wires_21 : decode cL_wires 21 = .ok (.iload_n 3, 1) := by decide +kernel
theorem dL_wires_22 : decode cL_wires 22 = .ok (.iconst 0, 1) := by decide +kernel
theorem dL_wires_23 : decode cL_wires 23 = .ok (.iconst 0, 1) := by decide +kernel
theorem dL_wires_24 : decode cL_wires 24 = .ok (.invokevirtual 25, 3) := by decide +kernel
theorem dL_wires_27 : decode cL_wires 27 = .ok (.ldc 35, 2) := by decide +kernel
theorem dL_wires_29 : decode cL_wires 29 = .ok (.if_icmp .ne 26, 3) := by decide +kernel
theorem dL_wires_32 : decode cL_wires 32 = .ok (.aload_n 0, 1) := by decide +kernel
theorem dL_wires_33 : decode cL_wires 33 = .ok (.iload_n 3, 1) := by decide +kernel
theorem dL_wires_34 : decode cL_wires 34 = .ok (.iconst 0, 1) := by decide +kernel
theorem dL_wires_35 : decode cL_wires 35 = .ok (.iconst 1, 1) := by decide +kernel
theorem dL_wires_36 : decode cL_wires 36 = .ok (.invokevirtual 36, 3) := by decide +kernel
theorem dL_wires_39 : decode cL_wires 39 = .ok (.ldc 35, 2) := by decide +kernel
theorem dL_wires_41 : decode cL_wires 41 = .ok (.if_icmp .ne 14, 3) := by decide +kernel
theorem dL_wires_44 : decode cL_wires 44 = .ok (.aload_n 0, 1) := by decide +kernel
theorem dL_wires_45 : decode cL_wires 45 = .ok (.iload_n 3, 1) := by decide +kernel
theorem dL_wires_46 : decode cL_wires 46 = .ok (.iconst 0, 1) := by decide +kernel
theorem dL_wires_47 : decode cL_wires 47 = .ok (.invokevirtual 39, 3) := by decide +kernel
theorem dL_wires_50 : decode cL_wires 50 = .ok (.ldc 35, 2) := by decide +kernel
theorem dL_wires_52 : decode cL_wires 52 = .ok (.if_icmp .eq 334, 3) := by decide +kernel
theorem dL_wires_55 : decode cL_wires 55 = .ok (.iconst 0, 1) := by decide +kernel
theorem dL_wires_56 : decode cL_wires 56 = .ok (.ireturn, 1) := by decide +kernel
theorem dL_wires_57 : decode cL_wires 57 = .ok (.iinc 2 1, 3) := by decide +kernel
theorem dL_wires_60 : decode cL_wires 60 = .ok (.aload_n 0, 1) := by decide +kernel
theorem dL_wires_61 : decode cL_wires 61 = .ok (.iload_n 3, 1) := by decide +kernel
theorem dL_wires_62 : decode cL_wires 62 = .ok (.iconst 3, 1) := by decide +kernel
theorem dL_wires_63 : decode cL_wires 63 = .ok (.invokevirtual 22, 3) := by decide +kernel
theorem dL_wires_66 : decode cL_wires 66 = .ok (.istore 4, 2) := by decide +kernel
theorem dL_wires_68 : decode cL_wires 68 = .ok (.aload_n 0, 1) := by decide +kernel
theorem dL_wires_69 : decode cL_wires 69 = .ok (.iload_n 3, 1) := by decide +kernel
theorem dL_wires_70 : decode cL_wires 70 = .ok (.bipush 10, 2) := by decide +kernel
theorem dL_wires_72 : decode cL_wires 72 = .ok (.invokevirtual 22, 3) := by decide +kernel
theorem dL_wires_75 : decode cL_wires 75 = .ok (.istore 5, 2) := by decide +kernel
theorem dL_wires_77 : decode cL_wires 77 = .ok (.aload_n 0, 1) := by decide +kernel
theorem dL_wires_78 : decode cL_wires 78 = .ok (.iload_n 3, 1) := by decide +kernel
theorem dL_wires_79 : decode cL_wires 79 = .ok (.bipush 9, 2) := by decide +kernel
theorem dL_wires_81 : decode cL_wires 81 = .ok (.invokevirtual 22, 3) := by decide +kernel
theorem dL_wires_84 : decode cL_wires 84 = .ok (.istore 6, 2) := by decide +kernel
theorem dL_wires_86 : decode cL_wires 86 = .ok (.aload_n 0, 1) := by decide +kernel
theorem dL_wires_87 : decode cL_wires 87 = .ok (.iload_n 3, 1) := by decide +kernel
theorem dL_wires_88 : decode cL_wires 88 = .ok (.bipush 8, 2) := by decide +kernel
theorem dL_wires_90 : decode cL_wires 90 = .ok (.invokevirtual 22, 3) := by decide +kernel
theorem dL_wires_93 : decode cL_wires 93 = .ok (.istore 7, 2) := by decide +kernel
theorem dL_wires_95 : decode cL_wires 95 = .ok (.iload_n 1, 1) := by decide +kernel
theorem dL_wires_96 : decode cL_wires 96 = .ok (.iload 4, 2) := by decide +kernel
theorem dL_wires_98 : decode cL_wires 98 = .ok (.iconst 1, 1) := by decide +kernel
theorem dL_wires_99 : decode cL_wires 99 = .ok (.iadd, 1) := by decide +kernel
theorem dL_wires_100 : decode cL_wires 100 = .ok (.irem, 1) := by decide +kernel
theorem dL_wires_101 : decode cL_wires 101 = .ok (.istore 8, 2) := by decide +kernel
theorem dL_wires_103 : decode cL_wires 103 = .ok (.iload 5, 2) := by decide +kernel
theorem dL_wires_105 : decode cL_wires 105 = .ok (.iconst 4, 1) := by decide +kernel
theorem dL_wires_106 : decode cL_wires 106 = .ok (.iconst 4, 1) := by decide +kernel
theorem dL_wires_107 : decode cL_wires 107 = .ok (.iload 4, 2) := by decide +kernel
theorem dL_wires_109 : decode cL_wires 109 = .ok (.bipush 100, 2) := by decide +kernel
theorem dL_wires_111 : decode cL_wires 111 = .ok (.idiv, 1) := by decide +kernel
theorem dL_wires_112 : decode cL_wires 112 = .ok (.imul, 1) := by decide +kernel
theorem dL_wires_113 : decode cL_wires 113 = .ok (.iadd, 1) := by decide +kernel
theorem dL_wires_114 : decode cL_wires 114 = .ok (.if_icmp .ne 32, 3) := by decide +kernel
theorem dL_wires_117 : decode cL_wires 117 = .ok (.iload 6, 2) := by decide +kernel
theorem dL_wires_119 : decode cL_wires 119 = .ok (.ifCond .lt 27, 3) := by decide +kernel
theorem dL_wires_122 : decode cL_wires 122 = .ok (.iload 6, 2) := by decide +kernel
theorem dL_wires_124 : decode cL_wires 124 = .ok (.iload 5, 2) := by decide +kernel
theorem dL_wires_126 : decode cL_wires 126 = .ok (.if_icmp .ge 20, 3) := by decide +kernel
theorem dL_wires_129 : decode cL_wires 129 = .ok (.iload 7, 2) := by decide +kernel
theorem dL_wires_131 : decode cL_wires 131 = .ok (.ifCond .lt 15, 3) := by decide +kernel
theorem dL_wires_134 : decode cL_wires 134 = .ok (.iload 7, 2) := by decide +kernel
theorem dL_wires_136 : decode cL_wires 136 = .ok (.sipush 500, 3) := by decide +kernel
theorem dL_wires_139 : decode cL_wires 139 = .ok (.if_icmp .gt 7, 3) := by decide +kernel
theorem dL_wires_142 : decode cL_wires 142 = .ok (.iconst 1, 1) := by decide +kernel
theorem dL_wires_143 : decode cL_wires 143 = .ok (.goto 4, 3) := by decide +kernel
theorem dL_wires_146 : decode cL_wires 146 = .ok (.iconst 0, 1) := by decide +kernel
theorem dL_wires_147 : decode cL_wires 147 = .ok (.istore 9, 2) := by decide +kernel
theorem dL_wires_149 : decode cL_wires 149 = .ok (.iconst 0, 1) := by decide +kernel
theorem dL_wires_150 : decode cL_wires 150 = .ok (.istore 10, 2) := by decide +kernel
theorem dL_wires_152 : decode cL_wires 152 = .ok (.iload 10, 2) := by decide +kernel
theorem dL_wires_154 : decode cL_wires 154 = .ok (.iconst 2, 1) := by decide +kernel
theorem dL_wires_155 : decode cL_wires 155 = .ok (.if_icmp .ge 117, 3) := by decide +kernel
theorem dL_wires_158 : decode cL_wires 158 = .ok (.iload 9, 2) := by decide +kernel
theorem dL_wires_160 : decode cL_wires 160 = .ok (.ifCond .eq 103, 3) := by decide +kernel
theorem dL_wires_163 : decode cL_wires 163 = .ok (.aload_n 0, 1) := by decide +kernel
theorem dL_wires_164 : decode cL_wires 164 = .ok (.iload_n 3, 1) := by decide +kernel
theorem dL_wires_165 : decode cL_wires 165 = .ok (.iload 8, 2) := by decide +kernel
theorem dL_wires_167 : decode cL_wires 167 = .ok (.iload 10, 2) := by decide +kernel
theorem dL_wires_169 : decode cL_wires 169 = .ok (.invokevirtual 36, 3) := by decide +kernel
theorem dL_wires_172 : decode cL_wires 172 = .ok (.aload_n 0, 1) := by decide +kernel
theorem dL_wires_173 : decode cL_wires 173 = .ok (.iload_n 3, 1) := by decide +kernel
theorem dL_wires_174 : decode cL_wires 174 = .ok (.iload 8, 2) := by decide +kernel
theorem dL_wires_176 : decode cL_wires 176 = .ok (.iload 10, 2) := by decide +kernel
theorem dL_wires_178 : decode cL_wires 178 = .ok (.iload 7, 2) := by decide +kernel
theorem dL_wires_180 : decode cL_wires 180 = .ok (.iload 6, 2) := by decide +kernel
theorem dL_wires_182 : decode cL_wires 182 = .ok (.invokestatic 42, 3) := by decide +kernel
theorem dL_wires_185 : decode cL_wires 185 = .ok (.if_icmp .ne 78, 3) := by decide +kernel
theorem dL_wires_188 : decode cL_wires 188 = .ok (.aload_n 0, 1) := by decide +kernel
theorem dL_wires_189 : decode cL_wires 189 = .ok (.iload_n 3, 1) := by decide +kernel
theorem dL_wires_190 : decode cL_wires 190 = .ok (.iconst 0, 1) := by decide +kernel
theorem dL_wires_191 : decode cL_wires 191 = .ok (.iload 10, 2) := by decide +kernel
theorem dL_wires_193 : decode cL_wires 193 = .ok (.invokevirtual 25, 3) := by decide +kernel
theorem dL_wires_196 : decode cL_wires 196 = .ok (.aload_n 0, 1) := by decide +kernel
theorem dL_wires_197 : decode cL_wires 197 = .ok (.iload_n 3, 1) := by decide +kernel
theorem dL_wires_198 : decode cL_wires 198 = .ok (.iload 10, 2) := by decide +kernel
theorem dL_wires_200 : decode cL_wires 200 = .ok (.invokevirtual 22, 3) := by decide +kernel
theorem dL_wires_203 : decode cL_wires 203 = .ok (.aload_n 0, 1) := by decide +kernel
theorem dL_wires_204 : decode cL_wires 204 = .ok (.iload_n 3, 1) := by decide +kernel
theorem dL_wires_205 : decode cL_wires 205 = .ok (.iconst 4, 1) := by decide +kernel
theorem dL_wires_206 : decode cL_wires 206 = .ok (.iload 10, 2) := by decide +kernel
theorem dL_wires_208 : decode cL_wires 208 = .ok (.iadd, 1) := by decide +kernel
theorem dL_wires_209 : decode cL_wires 209 = .ok (.invokevirtual 22, 3) := by decide +kernel
theorem dL_wires_212 : decode cL_wires 212 = .ok (.iadd, 1) := by decide +kernel
theorem dL_wires_213 : decode cL_wires 213 = .ok (.if_icmp .ne 50, 3) := by decide +kernel
theorem dL_wires_216 : decode cL_wires 216 = .ok (.aload_n 0, 1) := by decide +kernel
theorem dL_wires_217 : decode cL_wires 217 = .ok (.iload_n 3, 1) := by decide +kernel
theorem dL_wires_218 : decode cL_wires 218 = .ok (.iconst 0, 1) := by decide +kernel
theorem dL_wires_219 : decode cL_wires 219 = .ok (.iload 10, 2) := by decide +kernel
theorem dL_wires_221 : decode cL_wires 221 = .ok (.invokevirtual 36, 3) := by decide +kernel
theorem dL_wires_224 : decode cL_wires 224 = .ok (.aload_n 0, 1) := by decide +kernel
theorem dL_wires_225 : decode cL_wires 225 = .ok (.iload_n 3, 1) := by decide +kernel
theorem dL_wires_226 : decode cL_wires 226 = .ok (.iconst 0, 1) := by decide +kernel
theorem dL_wires_227 : decode cL_wires 227 = .ok (.iload 10, 2) := by decide +kernel
theorem dL_wires_229 : decode cL_wires 229 = .ok (.invokevirtual 25, 3) := by decide +kernel
theorem dL_wires_232 : decode cL_wires 232 = .ok (.if_icmp .ne 31, 3) := by decide +kernel
theorem dL_wires_235 : decode cL_wires 235 = .ok (.iload 4, 2) := by decide +kernel
theorem dL_wires_237 : decode cL_wires 237 = .ok (.sipush 800, 3) := by decide +kernel
theorem dL_wires_240 : decode cL_wires 240 = .ok (.if_icmp .eq 19, 3) := by decide +kernel
theorem dL_wires_243 : decode cL_wires 243 = .ok (.aload_n 0, 1) := by decide +kernel
theorem dL_wires_244 : decode cL_wires 244 = .ok (.iload_n 3, 1) := by decide +kernel
theorem dL_wires_245 : decode cL_wires 245 = .ok (.iload 4, 2) := by decide +kernel
theorem dL_wires_247 : decode cL_wires 247 = .ok (.iconst 1, 1) := by decide +kernel
theorem dL_wires_248 : decode cL_wires 248 = .ok (.iadd, 1) := by decide +kernel
theorem dL_wires_249 : decode cL_wires 249 = .ok (.iload 10, 2) := by decide +kernel
theorem dL_wires_251 : decode cL_wires 251 = .ok (.invokevirtual 25, 3) := by decide +kernel
theorem dL_wires_254 : decode cL_wires 254 = .ok (.ldc 35, 2) := by decide +kernel
theorem dL_wires_256 : decode cL_wires 256 = .ok (.if_icmp .ne 7, 3) := by decide +kernel
theorem dL_wires_259 : decode cL_wires 259 = .ok (.iconst 1, 1) := by decide +kernel
theorem dL_wires_260 : decode cL_wires 260 = .ok (.goto 4, 3) := by decide +kernel
theorem dL_wires_263 : decode cL_wires 263 = .ok (.iconst 0, 1) := by decide +kernel
theorem dL_wires_264 : decode cL_wires 264 = .ok (.istore 9, 2) := by decide +kernel
theorem dL_wires_266 : decode cL_wires 266 = .ok (.iinc 10 1, 3) := by decide +kernel
theorem dL_wires_269 : decode cL_wires 269 = .ok (.goto (-117), 3) := by decide +kernel
theorem dL_wires_272 : decode cL_wires 272 = .ok (.iload_n 1, 1) := by decide +kernel
theorem dL_wires_273 : decode cL_wires 273 = .ok (.bipush 100, 2) := by decide +kernel
theorem dL_wires_275 : decode cL_wires 275 = .ok (.irem, 1) := by decide +kernel
theorem dL_wires_276 : decode cL_wires 276 = .ok (.istore 10, 2) := by decide +kernel
theorem dL_wires_278 : decode cL_wires 278 = .ok (.iconst 0, 1) := by decide +kernel
theorem dL_wires_279 : decode cL_wires 279 = .ok (.istore 11, 2) := by decide +kernel
theorem dL_wires_281 : decode cL_wires 281 = .ok (.iload 7, 2) := by decide +kernel
theorem dL_wires_283 : decode cL_wires 283 = .ok (.istore 12, 2) := by decide +kernel
theorem dL_wires_285 : decode cL_wires 285 = .ok (.iload 12, 2) := by decide +kernel
theorem dL_wires_287 : decode cL_wires 287 = .ok (.iload 10, 2) := by decide +kernel
theorem dL_wires_289 : decode cL_wires 289 = .ok (.if_icmp .le 40, 3) := by decide +kernel
theorem dL_wires_292 : decode cL_wires 292 = .ok (.iload 12, 2) := by decide +kernel
theorem dL_wires_294 : decode cL_wires 294 = .ok (.aload_n 0, 1) := by decide +kernel
theorem dL_wires_295 : decode cL_wires 295 = .ok (.iload_n 3, 1) := by decide +kernel
theorem dL_wires_296 : decode cL_wires 296 = .ok (.bipush 6, 2) := by decide +kernel
theorem dL_wires_298 : decode cL_wires 298 = .ok (.invokevirtual 22, 3) := by decide +kernel
theorem dL_wires_301 : decode cL_wires 301 = .ok (.invokestatic 46, 3) := by decide +kernel
theorem dL_wires_304 : decode cL_wires 304 = .ok (.istore 12, 2) := by decide +kernel
theorem dL_wires_306 : decode cL_wires 306 = .ok (.iload 11, 2) := by decide +kernel
theorem dL_wires_308 : decode cL_wires 308 = .ok (.ifCond .ne 11, 3) := by decide +kernel
theorem dL_wires_311 : decode cL_wires 311 = .ok (.iload 5, 2) := by decide +kernel
theorem dL_wires_313 : decode cL_wires 313 = .ok (.iload 6, 2) := by decide +kernel
theorem dL_wires_315 : decode cL_wires 315 = .ok (.isub, 1) := by decide +kernel
theorem dL_wires_316 : decode cL_wires 316 = .ok (.goto 8, 3) := by decide +kernel
theorem dL_wires_319 : decode cL_wires 319 = .ok (.iload 11, 2) := by decide +kernel
theorem dL_wires_321 : decode cL_wires 321 = .ok (.iload 5, 2) := by decide +kernel
theorem dL_wires_323 : decode cL_wires 323 = .ok (.iadd, 1) := by decide +kernel
theorem dL_wires_324 : decode cL_wires 324 = .ok (.istore 11, 2) := by decide +kernel
theorem dL_wires_326 : decode cL_wires 326 = .ok (.goto (-41), 3) := by decide +kernel
theorem dL_wires_329 : decode cL_wires 329 = .ok (.iload 9, 2) := by decide +kernel
theorem dL_wires_331 : decode cL_wires 331 = .ok (.ifCond .eq 53, 3) := by decide +kernel
theorem dL_wires_334 : decode cL_wires 334 = .ok (.aload_n 0, 1) := by decide +kernel
theorem dL_wires_335 : decode cL_wires 335 = .ok (.iload_n 3, 1) := by decide +kernel
theorem dL_wires_336 : decode cL_wires 336 = .ok (.iload 10, 2) := by decide +kernel
theorem dL_wires_338 : decode cL_wires 338 = .ok (.invokevirtual 39, 3) := by decide +kernel
theorem dL_wires_341 : decode cL_wires 341 = .ok (.iload 11, 2) := by decide +kernel
theorem dL_wires_343 : decode cL_wires 343 = .ok (.if_icmp .ne 41, 3) := by decide +kernel
theorem dL_wires_346 : decode cL_wires 346 = .ok (.aload_n 0, 1) := by decide +kernel
theorem dL_wires_347 : decode cL_wires 347 = .ok (.iload_n 3, 1) := by decide +kernel
theorem dL_wires_348 : decode cL_wires 348 = .ok (.sipush 801, 3) := by decide +kernel
theorem dL_wires_351 : decode cL_wires 351 = .ok (.iconst 0, 1) := by decide +kernel
theorem dL_wires_352 : decode cL_wires 352 = .ok (.invokevirtual 25, 3) := by decide +kernel
theorem dL_wires_355 : decode cL_wires 355 = .ok (.ldc 15, 2) := by decide +kernel
theorem dL_wires_357 : decode cL_wires 357 = .ok (.if_icmp .ne 27, 3) := by decide +kernel
theorem dL_wires_360 : decode cL_wires 360 = .ok (.aload_n 0, 1) := by decide +kernel
theorem dL_wires_361 : decode cL_wires 361 = .ok (.iload_n 3, 1) := by decide +kernel
theorem dL_wires_362 : decode cL_wires 362 = .ok (.iconst 0, 1) := by decide +kernel
theorem dL_wires_363 : decode cL_wires 363 = .ok (.iconst 2, 1) := by decide +kernel
theorem dL_wires_364 : decode cL_wires 364 = .ok (.invokevirtual 25, 3) := by decide +kernel
theorem dL_wires_367 : decode cL_wires 367 = .ok (.ldc 15, 2) := by decide +kernel
theorem dL_wires_369 : decode cL_wires 369 = .ok (.if_icmp .ne 15, 3) := by decide +kernel
theorem dL_wires_372 : decode cL_wires 372 = .ok (.aload_n 0, 1) := by decide +kernel
theorem dL_wires_373 : decode cL_wires 373 = .ok (.iload_n 3, 1) := by decide +kernel
theorem dL_wires_374 : decode cL_wires 374 = .ok (.bipush 11, 2) := by decide +kernel
theorem dL_wires_376 : decode cL_wires 376 = .ok (.invokevirtual 22, 3) := by decide +kernel
theorem dL_wires_379 : decode cL_wires 379 = .ok (.ldc 15, 2) := by decide +kernel
theorem dL_wires_381 : decode cL_wires 381 = .ok (.if_icmp .eq 5, 3) := by decide +kernel
theorem dL_wires_384 : decode cL_wires 384 = .ok (.iconst 0, 1) := by decide +kernel
theorem dL_wires_385 : decode cL_wires 385 = .ok (.ireturn, 1) := by decide +kernel
theorem dL_wires_386 : decode cL_wires 386 = .ok (.iinc 3 1, 3) := by decide +kernel
theorem dL_wires_389 : decode cL_wires 389 = .ok (.goto (-385), 3) := by decide +kernel
theorem dL_wires_392 : decode cL_wires 392 = .ok (.aload_n 0, 1) := by decide +kernel
theorem dL_wires_393 : decode cL_wires 393 = .ok (.iconst 1, 1) := by decide +kernel
theorem dL_wires_394 : decode cL_wires 394 = .ok (.invokevirtual 49, 3) := by decide +kernel
theorem dL_wires_397 : decode cL_wires 397 = .ok (.iload_n 2, 1) := by decide +kernel
theorem dL_wires_398 : decode cL_wires 398 = .ok (.if_icmp .ne 18, 3) := by decide +kernel
theorem dL_wires_401 : decode cL_wires 401 = .ok (.aload_n 0, 1) := by decide +kernel
theorem dL_wires_402 : decode cL_wires 402 = .ok (.iconst 4, 1) := by decide +kernel
theorem dL_wires_403 : decode cL_wires 403 = .ok (.iconst 0, 1) := by decide +kernel
theorem dL_wires_404 : decode cL_wires 404 = .ok (.invokevirtual 22, 3) := by decide +kernel
theorem dL_wires_407 : decode cL_wires 407 = .ok (.ldc 52, 2) := by decide +kernel
theorem dL_wires_409 : decode cL_wires 409 = .ok (.if_icmp .ne 7, 3) := by decide +kernel
theorem dL_wires_412 : decode cL_wires 412 = .ok (.iconst 1, 1) := by decide +kernel
theorem dL_wires_413 : decode cL_wires 413 = .ok (.goto 4, 3) := by decide +kernel
theorem dL_wires_416 : decode cL_wires 416 = .ok (.iconst 0, 1) := by decide +kernel
theorem dL_wires_417 : decode cL_wires 417 = .ok (.ireturn, 1) := by decide +kernel
theorem dL_stations_0 : decode cL_stations 0 = .ok (.iconst 0, 1) := by decide +kernel
theorem dL_stations_1 : decode cL_stations 1 = .ok (.istore_n 1, 1) := by decide +kernel
theorem dL_stations_2 : decode cL_stations 2 = .ok (.iconst 0, 1) := by decide +kernel
theorem dL_stations_3 : decode cL_stations 3 = .ok (.istore_n 2, 1) := by decide +kernel
theorem dL_stations_4 : decode cL_stations 4 = .ok (.iconst 0, 1) := by decide +kernel
theorem dL_stations_5 : decode cL_stations 5 = .ok (.istore_n 3, 1) := by decide +kernel
theorem dL_stations_6 : decode cL_stations 6 = .ok (.iload_n 3, 1) := by decide +kernel
theorem dL_stations_7 : decode cL_stations 7 = .ok (.aload_n 0, 1) := by decide +kernel
theorem dL_stations_8 : decode cL_stations 8 = .ok (.iconst 3, 1) := by decide +kernel
theorem dL_stations_9 : decode cL_stations 9 = .ok (.invokevirtual 49, 3) := by decide +kernel
theorem dL_stations_12 : decode cL_stations 12 = .ok (.if_icmp .ge 470, 3) := by decide +kernel
theorem dL_stations_15 : decode cL_stations 15 = .ok (.iconst 0, 1) := by decide +kernel
theorem dL_stations_16 : decode cL_stations 16 = .ok (.istore 4, 2) := by decide +kernel
theorem dL_stations_18 : decode cL_stations 18 = .ok (.iconst 0, 1) := by decide +kernel
theorem dL_stations_19 : decode cL_stations 19 = .ok (.istore 5, 2) := by decide +kernel
theorem dL_stations_21 : decode cL_stations 21 = .ok (.iload 5, 2) := by decide +kernel
theorem dL_stations_23 : decode cL_stations 23 = .ok (.iconst 4, 1) := by decide +kernel
theorem dL_stations_24 : decode cL_stations 24 = .ok (.if_icmp .ge 159, 3) := by decide +kernel
theorem dL_stations_27 : decode cL_stations 27 = .ok (.aload_n 0, 1) := by decide +kernel
theorem dL_stations_28 : decode cL_stations 28 = .ok (.iload_n 3, 1) := by decide +kernel
theorem dL_stations_29 : decode cL_stations 29 = .ok (.iload 5, 2) := by decide +kernel
theorem dL_stations_31 : decode cL_stations 31 = .ok (.iconst 3, 1) := by decide +kernel
theorem dL_stations_32 : decode cL_stations 32 = .ok (.invokevirtual 53, 3) := by decide +kernel
theorem dL_stations_35 : decode cL_stations 35 = .ok (.ifCond .lt 7, 3) := by decide +kernel
theorem dL_stations_38 : decode cL_stations 38 = .ok (.iconst 1, 1) := by decide +kernel
theorem dL_stations_39 : decode cL_stations 39 = .ok (.goto 4, 3) := by decide +kernel
theorem dL_stations_42 : decode cL_stations 42 = .ok (.iconst 0, 1) := by decide +kernel
theorem dL_stations_43 : decode cL_stations 43 = .ok (.istore 6, 2) := by decide +kernel
theorem dL_stations_45 : decode cL_stations 45 = .ok (.iload 4, 2) := by decide +kernel
theorem dL_stations_47 : decode cL_stations 47 = .ok (.iload 6, 2) := by decide +kernel
theorem dL_stations_49 : decode cL_stations 49 = .ok (.ifCond .eq 7, 3) := by decide +kernel
theorem dL_stations_52 : decode cL_stations 52 = .ok (.iconst 1, 1) := by decide +kernel
theorem dL_stations_53 : decode cL_stations 53 = .ok (.goto 4, 3) := by decide +kernel
theorem dL_stations_56 : decode cL_stations 56 = .ok (.iconst 0, 1) := by decide +kernel
theorem dL_stations_57 : decode cL_stations 57 = .ok (.iadd, 1) := by decide +kernel
theorem dL_stations_58 : decode cL_stations 58 = .ok (.istore 4, 2) := by decide +kernel
theorem dL_stations_60 : decode cL_stations 60 = .ok (.iload 6, 2) := by decide +kernel
theorem dL_stations_62 : decode cL_stations 62 = .ok (.ifCond .eq 69, 3) := by decide +kernel
theorem dL_stations_65 : decode cL_stations 65 = .ok (.aload_n 0, 1) := by decide +kernel
theorem dL_stations_66 : decode cL_stations 66 = .ok (.iload 5, 2) := by decide +kernel
theorem dL_stations_68 : decode cL_stations 68 = .ok (.iconst 0, 1) := by decide +kernel
theorem dL_stations_69 : decode cL_stations 69 = .ok (.invokevirtual 22, 3) := by decide +kernel
theorem dL_stations_72 : decode cL_stations 72 = .ok (.ldc 35, 2) := by decide +kernel
theorem dL_stations_74 : decode cL_stations 74 = .ok (.if_icmp .eq 55, 3) := by decide +kernel
theorem dL_stations_77 : decode cL_stations 77 = .ok (.aload_n 0, 1) := by decide +kernel
theorem dL_stations_78 : decode cL_stations 78 = .ok (.iload_n 3, 1) := by decide +kernel
theorem dL_stations_79 : decode cL_stations 79 = .ok (.iload 5, 2) := by decide +kernel
theorem dL_stations_81 : decode cL_stations 81 = .ok (.iconst 2, 1) := by decide +kernel
theorem dL_stations_82 : decode cL_stations 82 = .ok (.invokevirtual 53, 3) := by decide +kernel
theorem dL_stations_85 : decode cL_stations 85 = .ok (.ifCond .lt 44, 3) := by decide +kernel
theorem dL_stations_88 : decode cL_stations 88 = .ok (.aload_n 0, 1) := by decide +kernel
theorem dL_stations_89 : decode cL_stations 89 = .ok (.iload_n 3, 1) := by decide +kernel
theorem dL_stations_90 : decode cL_stations 90 = .ok (.iload 5, 2) := by decide +kernel
theorem dL_stations_92 : decode cL_stations 92 = .ok (.iconst 4, 1) := by decide +kernel
theorem dL_stations_93 : decode cL_stations 93 = .ok (.invokevirtual 53, 3) := by decide +kernel
theorem dL_stations_96 : decode cL_stations 96 = .ok (.aload_n 0, 1) := by decide +kernel
theorem dL_stations_97 : decode cL_stations 97 = .ok (.iconst 0, 1) := by decide +kernel
theorem dL_stations_98 : decode cL_stations 98 = .ok (.invokevirtual 49, 3) := by decide +kernel
theorem dL_stations_101 : decode cL_stations 101 = .ok (.if_icmp .gt 28, 3) := by decide +kernel
theorem dL_stations_104 : decode cL_stations 104 = .ok (.aload_n 0, 1) := by decide +kernel
theorem dL_stations_105 : decode cL_stations 105 = .ok (.iload_n 3, 1) := by decide +kernel
theorem dL_stations_106 : decode cL_stations 106 = .ok (.iload 5, 2) := by decide +kernel
theorem dL_stations_108 : decode cL_stations 108 = .ok (.iconst 3, 1) := by decide +kernel
theorem dL_stations_109 : decode cL_stations 109 = .ok (.invokevirtual 53, 3) := by decide +kernel
theorem dL_stations_112 : decode cL_stations 112 = .ok (.iconst 1, 1) := by decide +kernel
theorem dL_stations_113 : decode cL_stations 113 = .ok (.if_icmp .lt 16, 3) := by decide +kernel
theorem dL_stations_116 : decode cL_stations 116 = .ok (.aload_n 0, 1) := by decide +kernel
theorem dL_stations_117 : decode cL_stations 117 = .ok (.iload_n 3, 1) := by decide +kernel
theorem dL_stations_118 : decode cL_stations 118 = .ok (.iload 5, 2) := by decide +kernel
theorem dL_stations_120 : decode cL_stations 120 = .ok (.iconst 3, 1) := by decide +kernel
theorem dL_stations_121 : decode cL_stations 121 = .ok (.invokevirtual 53, 3) := by decide +kernel
theorem dL_stations_124 : decode cL_stations 124 = .ok (.bipush 60, 2) := by decide +kernel
theorem dL_stations_126 : decode cL_stations 126 = .ok (.if_icmp .le 5, 3) := by decide +kernel
theorem dL_stations_129 : decode cL_stations 129 = .ok (.iconst 0, 1) := by decide +kernel
theorem dL_stations_130 : decode cL_stations 130 = .ok (.ireturn, 1) := by decide +kernel
theorem dL_stations_131 : decode cL_stations 131 = .ok (.iload 6, 2) := by decide +kernel
theorem dL_stations_133 : decode cL_stations 133 = .ok (.ifCond .ne 29, 3) := by decide +kernel
theorem dL_stations_136 : decode cL_stations 136 = .ok (.aload_n 0, 1) := by decide +kernel
theorem dL_stations_137 : decode cL_stations 137 = .ok (.iload_n 3, 1) := by decide +kernel
theorem dL_stations_138 : decode cL_stations 138 = .ok (.iload 5, 2) := by decide +kernel
theorem dL_stations_140 : decode cL_stations 140 = .ok (.iconst 0, 1) := by decide +kernel
theorem dL_stations_141 : decode cL_stations 141 = .ok (.invokevirtual 53, 3) := by decide +kernel
theorem dL_stations_144 : decode cL_stations 144 = .ok (.ldc 35, 2) := by decide +kernel
theorem dL_stations_146 : decode cL_stations 146 = .ok (.if_icmp .ne 29, 3) := by decide +kernel
theorem dL_stations_149 : decode cL_stations 149 = .ok (.aload_n 0, 1) := by decide +kernel
theorem dL_stations_150 : decode cL_stations 150 = .ok (.iload_n 3, 1) := by decide +kernel
theorem dL_stations_151 : decode cL_stations 151 = .ok (.iload 5, 2) := by decide +kernel
theorem dL_stations_153 : decode cL_stations 153 = .ok (.iconst 4, 1) := by decide +kernel
theorem dL_stations_154 : decode cL_stations 154 = .ok (.invokevirtual 53, 3) := by decide +kernel
theorem dL_stations_157 : decode cL_stations 157 = .ok (.ldc 35, 2) := by decide +kernel
theorem dL_stations_159 : decode cL_stations 159 = .ok (.if_icmp .ne 16, 3) := by decide +kernel
theorem dL_stations_162 : decode cL_stations 162 = .ok (.aload_n 0, 1) := by decide +kernel
theorem dL_stations_163 : decode cL_stations 163 = .ok (.iload_n 3, 1) := by decide +kernel
theorem dL_stations_164 : decode cL_stations 164 = .ok (.iload 5, 2) := by decide +kernel
theorem dL_stations_166 : decode cL_stations 166 = .ok (.iconst 5, 1) := by decide +kernel
theorem dL_stations_167 : decode cL_stations 167 = .ok (.invokevirtual 53, 3) := by decide +kernel
theorem dL_stations_170 : decode cL_stations 170 = .ok (.ldc 15, 2) := by decide +kernel
theorem dL_stations_172 : decode cL_stations 172 = .ok (.if_icmp .eq 5, 3) := by decide +kernel
theorem dL_stations_175 : decode cL_stations 175 = .ok (.iconst 0, 1) := by decide +kernel
theorem dL_stations_176 : decode cL_stations 176 = .ok (.ireturn, 1) := by decide +kernel
theorem dL_stations_177 : decode cL_stations 177 = .ok (.iinc 5 1, 3) := by decide +kernel
theorem dL_stations_180 : decode cL_stations 180 = .ok (.goto (-159), 3) := by decide +kernel
theorem dL_stations_183 : decode cL_stations 183 = .ok (.iconst 0, 1) := by decide +kernel
theorem dL_stations_184 : decode cL_stations 184 = .ok (.istore 5, 2) := by decide +kernel
theorem dL_stations_186 : decode cL_stations 186 = .ok (.iload 5, 2) := by decide +kernel
theorem dL_stations_188 : decode cL_stations 188 = .ok (.iconst 2, 1) := by decide +kernel
theorem dL_stations_189 : decode cL_stations 189 = .ok (.if_icmp .ge 218, 3) := by decide +kernel
theorem dL_stations_192 : decode cL_stations 192 = .ok (.iconst 2, 1) := by decide +kernel
theorem dL_stations_193 : decode cL_stations 193 = .ok (.iload 5, 2) := by decide +kernel
theorem dL_stations_195 : decode cL_stations 195 = .ok (.imul, 1) := by decide +kernel
theorem dL_stations_196 : decode cL_stations 196 = .ok (.istore 6, 2) := by decide +kernel
theorem dL_stations_198 : decode cL_stations 198 = .ok (.aload_n 0, 1) := by decide +kernel
theorem dL_stations_199 : decode cL_stations 199 = .ok (.iload_n 3, 1) := by decide +kernel
theorem dL_stations_200 : decode cL_stations 200 = .ok (.iload 6, 2) := by decide +kernel
theorem dL_stations_202 : decode cL_stations 202 = .ok (.iconst 3, 1) := by decide +kernel
theorem dL_stations_203 : decode cL_stations 203 = .ok (.invokevirtual 53, 3) := by decide +kernel
theorem dL_stations_206 : decode cL_stations 206 = .ok (.ifCond .lt 29, 3) := by decide +kernel
theorem dL_stations_209 : decode cL_stations 209 = .ok (.aload_n 0, 1) := by decide +kernel
theorem dL_stations_210 : decode cL_stations 210 = .ok (.iload_n 3, 1) := by decide +kernel
theorem dL_stations_211 : decode cL_stations 211 = .ok (.iload 6, 2) := by decide +kernel
theorem dL_stations_213 : decode cL_stations 213 = .ok (.iconst 1, 1) := by decide +kernel
theorem dL_stations_214 : decode cL_stations 214 = .ok (.iadd, 1) := by decide +kernel
theorem dL_stations_215 : decode cL_stations 215 = .ok (.iconst 3, 1) := by decide +kernel
theorem dL_stations_216 : decode cL_stations 216 = .ok (.invokevirtual 53, 3) := by decide +kernel
theorem dL_stations_219 : decode cL_stations 219 = .ok (.ifCond .lt 16, 3) := by decide +kernel
theorem dL_stations_222 : decode cL_stations 222 = .ok (.aload_n 0, 1) := by decide +kernel
theorem dL_stations_223 : decode cL_stations 223 = .ok (.iload 5, 2) := by decide +kernel
theorem dL_stations_225 : decode cL_stations 225 = .ok (.invokevirtual 56, 3) := by decide +kernel
theorem dL_stations_228 : decode cL_stations 228 = .ok (.ifCond .lt 7, 3) := by decide +kernel
theorem dL_stations_231 : decode cL_stations 231 = .ok (.iconst 1, 1) := by decide +kernel
theorem dL_stations_232 : decode cL_stations 232 = .ok (.goto 4, 3) := by decide +kernel
theorem dL_stations_235 : decode cL_stations 235 = .ok (.iconst 0, 1) := by decide +kernel
theorem dL_stations_236 : decode cL_stations 236 = .ok (.istore 7, 2) := by decide +kernel
theorem dL_stations_238 : decode cL_stations 238 = .ok (.iload 7, 2) := by decide +kernel
theorem dL_stations_240 : decode cL_stations 240 = .ok (.ifCond .eq 25, 3) := by decide +kernel
theorem dL_stations_243 : decode cL_stations 243 = .ok (.aload_n 0, 1) := by decide +kernel
theorem dL_stations_244 : decode cL_stations 244 = .ok (.iload_n 3, 1) := by decide +kernel
theorem dL_stations_245 : decode cL_stations 245 = .ok (.iload 6, 2) := by decide +kernel
theorem dL_stations_247 : decode cL_stations 247 = .ok (.iconst 1, 1) := by decide +kernel
theorem dL_stations_248 : decode cL_stations 248 = .ok (.iadd, 1) := by decide +kernel
theorem dL_stations_249 : decode cL_stations 249 = .ok (.iconst 0, 1) := by decide +kernel
theorem dL_stations_250 : decode cL_stations 250 = .ok (.invokevirtual 53, 3) := by decide +kernel
theorem dL_stations_253 : decode cL_stations 253 = .ok (.aload_n 0, 1) := by decide +kernel
theorem dL_stations_254 : decode cL_stations 254 = .ok (.iload_n 3, 1) := by decide +kernel
theorem dL_stations_255 : decode cL_stations 255 = .ok (.iload 6, 2) := by decide +kernel
theorem dL_stations_257 : decode cL_stations 257 = .ok (.iconst 0, 1) := by decide +kernel
theorem dL_stations_258 : decode cL_stations 258 = .ok (.invokevirtual 53, 3) := by decide +kernel
theorem dL_stations_261 : decode cL_stations 261 = .ok (.isub, 1) := by decide +kernel
theorem dL_stations_262 : decode cL_stations 262 = .ok (.goto 4, 3) := by decide +kernel
theorem dL_stations_265 : decode cL_stations 265 = .ok (.iconst 0, 1) := by decide +kernel
theorem dL_stations_266 : decode cL_stations 266 = .ok (.istore 8, 2) := by decide +kernel
theorem dL_stations_268 : decode cL_stations 268 = .ok (.iload 7, 2) := by decide +kernel
theorem dL_stations_270 : decode cL_stations 270 = .ok (.ifCond .eq 25, 3) := by decide +kernel
theorem dL_stations_273 : decode cL_stations 273 = .ok (.aload_n 0, 1) := by decide +kernel
theorem dL_stations_274 : decode cL_stations 274 = .ok (.iload_n 3, 1) := by decide +kernel
theorem dL_stations_275 : decode cL_stations 275 = .ok (.iload 6, 2) := by decide +kernel
theorem dL_stations_277 : decode cL_stations 277 = .ok (.iconst 1, 1) := by decide +kernel
theorem dL_stations_278 : decode cL_stations 278 = .ok (.iadd, 1) := by decide +kernel
theorem dL_stations_279 : decode cL_stations 279 = .ok (.iconst 1, 1) := by decide +kernel
theorem dL_stations_280 : decode cL_stations 280 = .ok (.invokevirtual 53, 3) := by decide +kernel
theorem dL_stations_283 : decode cL_stations 283 = .ok (.aload_n 0, 1) := by decide +kernel
theorem dL_stations_284 : decode cL_stations 284 = .ok (.iload_n 3, 1) := by decide +kernel
theorem dL_stations_285 : decode cL_stations 285 = .ok (.iload 6, 2) := by decide +kernel
theorem dL_stations_287 : decode cL_stations 287 = .ok (.iconst 1, 1) := by decide +kernel
theorem dL_stations_288 : decode cL_stations 288 = .ok (.invokevirtual 53, 3) := by decide +kernel
theorem dL_stations_291 : decode cL_stations 291 = .ok (.isub, 1) := by decide +kernel
theorem dL_stations_292 : decode cL_stations 292 = .ok (.goto 4, 3) := by decide +kernel
theorem dL_stations_295 : decode cL_stations 295 = .ok (.iconst 0, 1) := by decide +kernel
theorem dL_stations_296 : decode cL_stations 296 = .ok (.istore 9, 2) := by decide +kernel
theorem dL_stations_298 : decode cL_stations 298 = .ok (.iload 8, 2) := by decide +kernel
theorem dL_stations_300 : decode cL_stations 300 = .ok (.invokestatic 16, 3) := by decide +kernel
theorem dL_stations_303 : decode cL_stations 303 = .ok (.sipush 20000, 3) := by decide +kernel
theorem dL_stations_306 : decode cL_stations 306 = .ok (.if_icmp .gt 18, 3) := by decide +kernel
theorem dL_stations_309 : decode cL_stations 309 = .ok (.iload 9, 2) := by decide +kernel
theorem dL_stations_311 : decode cL_stations 311 = .ok (.invokestatic 16, 3) := by decide +kernel
theorem dL_stations_314 : decode cL_stations 314 = .ok (.sipush 20000, 3) := by decide +kernel
theorem dL_stations_317 : decode cL_stations 317 = .ok (.if_icmp .gt 7, 3) := by decide +kernel
theorem dL_stations_320 : decode cL_stations 320 = .ok (.iconst 1, 1) := by decide +kernel
theorem dL_stations_321 : decode cL_stations 321 = .ok (.goto 4, 3) := by decide +kernel
theorem dL_stations_324 : decode cL_stations 324 = .ok (.iconst 0, 1) := by decide +kernel
theorem dL_stations_325 : decode cL_stations 325 = .ok (.istore 10, 2) := by decide +kernel
theorem dL_stations_327 : decode cL_stations 327 = .ok (.iload 7, 2) := by decide +kernel
theorem dL_stations_329 : decode cL_stations 329 = .ok (.ifCond .eq 13, 3) := by decide +kernel
theorem dL_stations_332 : decode cL_stations 332 = .ok (.iload 8, 2) := by decide +kernel
theorem dL_stations_334 : decode cL_stations 334 = .ok (.ifCond .ne 22, 3) := by decide +kernel
theorem dL_stations_337 : decode cL_stations 337 = .ok (.iload 9, 2) := by decide +kernel
theorem dL_stations_339 : decode cL_stations 339 = .ok (.ifCond .ne 17, 3) := by decide +kernel
theorem dL_stations_342 : decode cL_stations 342 = .ok (.aload_n 0, 1) := by decide +kernel
theorem dL_stations_343 : decode cL_stations 343 = .ok (.iload_n 3, 1) := by decide +kernel
theorem dL_stations_344 : decode cL_stations 344 = .ok (.iload 5, 2) := by decide +kernel
theorem dL_stations_346 : decode cL_stations 346 = .ok (.invokevirtual 59, 3) := by decide +kernel
theorem dL_stations_349 : decode cL_stations 349 = .ok (.ldc 35, 2) := by decide +kernel
theorem dL_stations_351 : decode cL_stations 351 = .ok (.if_icmp .eq 50, 3) := by decide +kernel
theorem dL_stations_354 : decode cL_stations 354 = .ok (.iconst 0, 1) := by decide +kernel
theorem dL_stations_355 : decode cL_stations 355 = .ok (.ireturn, 1) := by decide +kernel
theorem dL_stations_356 : decode cL_stations 356 = .ok (.iload 10, 2) := by decide +kernel
theorem dL_stations_358 : decode cL_stations 358 = .ok (.ifCond .eq 43, 3) := by decide +kernel
theorem dL_stations_361 : decode cL_stations 361 = .ok (.aload_n 0, 1) := by decide +kernel
theorem dL_stations_362 : decode cL_stations 362 = .ok (.iload_n 3, 1) := by decide +kernel
theorem dL_stations_363 : decode cL_stations 363 = .ok (.iload 5, 2) := by decide +kernel
theorem dL_stations_365 : decode cL_stations 365 = .ok (.invokevirtual 59, 3) := by decide +kernel
theorem dL_stations_368 : decode cL_stations 368 = .ok (.aload_n 0, 1) := by decide +kernel
theorem dL_stations_369 : decode cL_stations 369 = .ok (.iload 5, 2) := by decide +kernel
theorem dL_stations_371 : decode cL_stations 371 = .ok (.invokevirtual 56, 3) := by decide +kernel
theorem dL_stations_374 : decode cL_stations 374 = .ok (.aload_n 0, 1) := by decide +kernel
theorem dL_stations_375 : decode cL_stations 375 = .ok (.iload 8, 2) := by decide +kernel
theorem dL_stations_377 : decode cL_stations 377 = .ok (.iload 9, 2) := by decide +kernel
theorem dL_stations_379 : decode cL_stations 379 = .ok (.invokevirtual 9, 3) := by decide +kernel
theorem dL_stations_382 : decode cL_stations 382 = .ok (.aload_n 0, 1) := by decide +kernel
theorem dL_stations_383 : decode cL_stations 383 = .ok (.iload_n 3, 1) := by decide +kernel
theorem dL_stations_384 : decode cL_stations 384 = .ok (.iconst 1, 1) := by decide +kernel
theorem dL_stations_385 : decode cL_stations 385 = .ok (.invokevirtual 62, 3) := by decide +kernel
theorem dL_stations_388 : decode cL_stations 388 = .ok (.iadd, 1) := by decide +kernel
theorem dL_stations_389 : decode cL_stations 389 = .ok (.invokestatic 65, 3) := by decide +kernel
theorem dL_stations_392 : decode cL_stations 392 = .ok (.isub, 1) := by decide +kernel
theorem dL_stations_393 : decode cL_stations 393 = .ok (.invokestatic 65, 3) := by decide +kernel
theorem dL_stations_396 : decode cL_stations 396 = .ok (.if_icmp .eq 5, 3) := by decide +kernel
theorem dL_stations_399 : decode cL_stations 399 = .ok (.iconst 0, 1) := by decide +kernel
theorem dL_stations_400 : decode cL_stations 400 = .ok (.ireturn, 1) := by decide +kernel
theorem dL_stations_401 : decode cL_stations 401 = .ok (.iinc 5 1, 3) := by decide +kernel
theorem dL_stations_404 : decode cL_stations 404 = .ok (.goto (-218), 3) := by decide +kernel
theorem dL_stations_407 : decode cL_stations 407 = .ok (.iload_n 1, 1) := by decide +kernel
theorem dL_stations_408 : decode cL_stations 408 = .ok (.iload 4, 2) := by decide +kernel
theorem dL_stations_410 : decode cL_stations 410 = .ok (.iadd, 1) := by decide +kernel
theorem dL_stations_411 : decode cL_stations 411 = .ok (.istore_n 1, 1) := by decide +kernel
theorem dL_stations_412 : decode cL_stations 412 = .ok (.iload_n 2, 1) := by decide +kernel
theorem dL_stations_413 : decode cL_stations 413 = .ok (.aload_n 0, 1) := by decide +kernel
theorem dL_stations_414 : decode cL_stations 414 = .ok (.iload_n 3, 1) := by decide +kernel
theorem dL_stations_415 : decode cL_stations 415 = .ok (.iconst 2, 1) := by decide +kernel
theorem dL_stations_416 : decode cL_stations 416 = .ok (.invokevirtual 62, 3) := by decide +kernel
theorem dL_stations_419 : decode cL_stations 419 = .ok (.ifCond .lt 7, 3) := by decide +kernel
theorem dL_stations_422 : decode cL_stations 422 = .ok (.iconst 1, 1) := by decide +kernel
theorem dL_stations_423 : decode cL_stations 423 = .ok (.goto 4, 3) := by decide +kernel
theorem dL_stations_426 : decode cL_stations 426 = .ok (.iconst 0, 1) := by decide +kernel
theorem dL_stations_427 : decode cL_stations 427 = .ok (.iadd, 1) := by decide +kernel
theorem dL_stations_428 : decode cL_stations 428 = .ok (.istore_n 2, 1) := by decide +kernel
theorem dL_stations_429 : decode cL_stations 429 = .ok (.aload_n 0, 1) := by decide +kernel
theorem dL_stations_430 : decode cL_stations 430 = .ok (.iload_n 3, 1) := by decide +kernel
theorem dL_stations_431 : decode cL_stations 431 = .ok (.iconst 3, 1) := by decide +kernel
theorem dL_stations_432 : decode cL_stations 432 = .ok (.invokevirtual 62, 3) := by decide +kernel
theorem dL_stations_435 : decode cL_stations 435 = .ok (.iload 4, 2) := by decide +kernel
theorem dL_stations_437 : decode cL_stations 437 = .ok (.if_icmp .ne 37, 3) := by decide +kernel
theorem dL_stations_440 : decode cL_stations 440 = .ok (.aload_n 0, 1) := by decide +kernel
theorem dL_stations_441 : decode cL_stations 441 = .ok (.iload_n 3, 1) := by decide +kernel
theorem dL_stations_442 : decode cL_stations 442 = .ok (.iconst 4, 1) := by decide +kernel
theorem dL_stations_443 : decode cL_stations 443 = .ok (.invokevirtual 62, 3) := by decide +kernel
theorem dL_stations_446 : decode cL_stations 446 = .ok (.ldc 15, 2) := by decide +kernel
theorem dL_stations_448 : decode cL_stations 448 = .ok (.if_icmp .ne 26, 3) := by decide +kernel
theorem dL_stations_451 : decode cL_stations 451 = .ok (.aload_n 0, 1) := by decide +kernel
theorem dL_stations_452 : decode cL_stations 452 = .ok (.iload_n 3, 1) := by decide +kernel
theorem dL_stations_453 : decode cL_stations 453 = .ok (.iconst 2, 1) := by decide +kernel
theorem dL_stations_454 : decode cL_stations 454 = .ok (.invokevirtual 62, 3) := by decide +kernel
theorem dL_stations_457 : decode cL_stations 457 = .ok (.sipush 7999, 3) := by decide +kernel
theorem dL_stations_460 : decode cL_stations 460 = .ok (.if_icmp .gt 14, 3) := by decide +kernel
theorem dL_stations_463 : decode cL_stations 463 = .ok (.aload_n 0, 1) := by decide +kernel
theorem dL_stations_464 : decode cL_stations 464 = .ok (.iload_n 3, 1) := by decide +kernel
theorem dL_stations_465 : decode cL_stations 465 = .ok (.iconst 2, 1) := by decide +kernel
theorem dL_stations_466 : decode cL_stations 466 = .ok (.invokevirtual 59, 3) := by decide +kernel
theorem dL_stations_469 : decode cL_stations 469 = .ok (.ldc 52, 2) := by decide +kernel
theorem dL_stations_471 : decode cL_stations 471 = .ok (.if_icmp .eq 5, 3) := by decide +kernel
theorem dL_stations_474 : decode cL_stations 474 = .ok (.iconst 0, 1) := by decide +kernel
theorem dL_stations_475 : decode cL_stations 475 = .ok (.ireturn, 1) := by decide +kernel
theorem dL_stations_476 : decode cL_stations 476 = .ok (.iinc 3 1, 3) := by decide +kernel
theorem dL_stations_479 : decode cL_stations 479 = .ok (.goto (-473), 3) := by decide +kernel
theorem dL_stations_482 : decode cL_stations 482 = .ok (.iconst 0, 1) := by decide +kernel
theorem dL_stations_483 : decode cL_stations 483 = .ok (.istore_n 3, 1) := by decide +kernel
theorem dL_stations_484 : decode cL_stations 484 = .ok (.iload_n 3, 1) := by decide +kernel
theorem dL_stations_485 : decode cL_stations 485 = .ok (.iconst 2, 1) := by decide +kernel
theorem dL_stations_486 : decode cL_stations 486 = .ok (.if_icmp .ge 132, 3) := by decide +kernel
theorem dL_stations_489 : decode cL_stations 489 = .ok (.iconst 2, 1) := by decide +kernel
theorem dL_stations_490 : decode cL_stations 490 = .ok (.iload_n 3, 1) := by decide +kernel
theorem dL_stations_491 : decode cL_stations 491 = .ok (.imul, 1) := by decide +kernel
theorem dL_stations_492 : decode cL_stations 492 = .ok (.istore 4, 2) := by decide +kernel
theorem dL_stations_494 : decode cL_stations 494 = .ok (.aload_n 0, 1) := by decide +kernel
theorem dL_stations_495 : decode cL_stations 495 = .ok (.iload 4, 2) := by decide +kernel
theorem dL_stations_497 : decode cL_stations 497 = .ok (.iconst 2, 1) := by decide +kernel
theorem dL_stations_498 : decode cL_stations 498 = .ok (.invokevirtual 22, 3) := by decide +kernel
theorem dL_stations_501 : decode cL_stations 501 = .ok (.ifCond .le 19, 3) := by decide +kernel
theorem dL_stations_504 : decode cL_stations 504 = .ok (.aload_n 0, 1) := by decide +kernel
theorem dL_stations_505 : decode cL_stations 505 = .ok (.iload 4, 2) := by decide +kernel
theorem dL_stations_507 : decode cL_stations 507 = .ok (.iconst 1, 1) := by decide +kernel
theorem dL_stations_508 : decode cL_stations 508 = .ok (.iadd, 1) := by decide +kernel
theorem dL_stations_509 : decode cL_stations 509 = .ok (.iconst 2, 1) := by decide +kernel
theorem dL_stations_510 : decode cL_stations 510 = .ok (.invokevirtual 22, 3) := by decide +kernel
theorem dL_stations_513 : decode cL_stations 513 = .ok (.ifCond .le 7, 3) := by decide +kernel
theorem dL_stations_516 : decode cL_stations 516 = .ok (.iconst 1, 1) := by decide +kernel
theorem dL_stations_517 : decode cL_stations 517 = .ok (.goto 4, 3) := by decide +kernel
theorem dL_stations_520 : decode cL_stations 520 = .ok (.iconst 0, 1) := by decide +kernel
theorem dL_stations_521 : decode cL_stations 521 = .ok (.istore 5, 2) := by decide +kernel
theorem dL_stations_523 : decode cL_stations 523 = .ok (.iload 5, 2) := by decide +kernel
theorem dL_stations_525 : decode cL_stations 525 = .ok (.ifCond .eq 23, 3) := by decide +kernel
theorem dL_stations_528 : decode cL_stations 528 = .ok (.aload_n 0, 1) := by decide +kernel
theorem dL_stations_529 : decode cL_stations 529 = .ok (.iload 4, 2) := by decide +kernel
theorem dL_stations_531 : decode cL_stations 531 = .ok (.iconst 1, 1) := by decide +kernel
theorem dL_stations_532 : decode cL_stations 532 = .ok (.iadd, 1) := by decide +kernel
theorem dL_stations_533 : decode cL_stations 533 = .ok (.iconst 0, 1) := by decide +kernel
theorem dL_stations_534 : decode cL_stations 534 = .ok (.invokevirtual 22, 3) := by decide +kernel
theorem dL_stations_537 : decode cL_stations 537 = .ok (.aload_n 0, 1) := by decide +kernel
theorem dL_stations_538 : decode cL_stations 538 = .ok (.iload 4, 2) := by decide +kernel
theorem dL_stations_540 : decode cL_stations 540 = .ok (.iconst 0, 1) := by decide +kernel
theorem dL_stations_541 : decode cL_stations 541 = .ok (.invokevirtual 22, 3) := by decide +kernel
theorem dL_stations_544 : decode cL_stations 544 = .ok (.isub, 1) := by decide +kernel
theorem dL_stations_545 : decode cL_stations 545 = .ok (.goto 4, 3) := by decide +kernel
theorem dL_stations_548 : decode cL_stations 548 = .ok (.iconst 0, 1) := by decide +kernel
theorem dL_stations_549 : decode cL_stations 549 = .ok (.istore 6, 2) := by decide +kernel
theorem dL_stations_551 : decode cL_stations 551 = .ok (.iload 5, 2) := by decide +kernel
theorem dL_stations_553 : decode cL_stations 553 = .ok (.ifCond .eq 23, 3) := by decide +kernel
theorem dL_stations_556 : decode cL_stations 556 = .ok (.aload_n 0, 1) := by decide +kernel
theorem dL_stations_557 : decode cL_stations 557 = .ok (.iload 4, 2) := by decide +kernel
theorem dL_stations_559 : decode cL_stations 559 = .ok (.iconst 1, 1) := by decide +kernel
theorem dL_stations_560 : decode cL_stations 560 = .ok (.iadd, 1) := by decide +kernel
theorem dL_stations_561 : decode cL_stations 561 = .ok (.iconst 1, 1) := by decide +kernel
theorem dL_stations_562 : decode cL_stations 562 = .ok (.invokevirtual 22, 3) := by decide +kernel
theorem dL_stations_565 : decode cL_stations 565 = .ok (.aload_n 0, 1) := by decide +kernel
theorem dL_stations_566 : decode cL_stations 566 = .ok (.iload 4, 2) := by decide +kernel
theorem dL_stations_568 : decode cL_stations 568 = .ok (.iconst 1, 1) := by decide +kernel
theorem dL_stations_569 : decode cL_stations 569 = .ok (.invokevirtual 22, 3) := by decide +kernel
theorem dL_stations_572 : decode cL_stations 572 = .ok (.isub, 1) := by decide +kernel
theorem dL_stations_573 : decode cL_stations 573 = .ok (.goto 4, 3) := by decide +kernel
theorem dL_stations_576 : decode cL_stations 576 = .ok (.iconst 0, 1) := by decide +kernel
theorem dL_stations_577 : decode cL_stations 577 = .ok (.istore 7, 2) := by decide +kernel
theorem dL_stations_579 : decode cL_stations 579 = .ok (.aload_n 0, 1) := by decide +kernel
theorem dL_stations_580 : decode cL_stations 580 = .ok (.iload_n 3, 1) := by decide +kernel
theorem dL_stations_581 : decode cL_stations 581 = .ok (.invokevirtual 56, 3) := by decide +kernel
theorem dL_stations_584 : decode cL_stations 584 = .ok (.iload 6, 2) := by decide +kernel
theorem dL_stations_586 : decode cL_stations 586 = .ok (.ifCond .ne 13, 3) := by decide +kernel
theorem dL_stations_589 : decode cL_stations 589 = .ok (.iload 7, 2) := by decide +kernel
theorem dL_stations_591 : decode cL_stations 591 = .ok (.ifCond .ne 8, 3) := by decide +kernel
theorem dL_stations_594 : decode cL_stations 594 = .ok (.ldc 35, 2) := by decide +kernel
theorem dL_stations_596 : decode cL_stations 596 = .ok (.goto 11, 3) := by decide +kernel
theorem dL_stations_599 : decode cL_stations 599 = .ok (.aload_n 0, 1) := by decide +kernel
theorem dL_stations_600 : decode cL_stations 600 = .ok (.iload 6, 2) := by decide +kernel
theorem dL_stations_602 : decode cL_stations 602 = .ok (.iload 7, 2) := by decide +kernel
theorem dL_stations_604 : decode cL_stations 604 = .ok (.invokevirtual 9, 3) := by decide +kernel
theorem dL_stations_607 : decode cL_stations 607 = .ok (.if_icmp .eq 5, 3) := by decide +kernel
theorem dL_stations_610 : decode cL_stations 610 = .ok (.iconst 0, 1) := by decide +kernel
theorem dL_stations_611 : decode cL_stations 611 = .ok (.ireturn, 1) := by decide +kernel
theorem dL_stations_612 : decode cL_stations 612 = .ok (.iinc 3 1, 3) := by decide +kernel
theorem dL_stations_615 : decode cL_stations 615 = .ok (.goto (-131), 3) := by decide +kernel
theorem dL_stations_618 : decode cL_stations 618 = .ok (.aload_n 0, 1) := by decide +kernel
theorem dL_stations_619 : decode cL_stations 619 = .ok (.iconst 4, 1) := by decide +kernel
theorem dL_stations_620 : decode cL_stations 620 = .ok (.invokevirtual 49, 3) := by decide +kernel
theorem dL_stations_623 : decode cL_stations 623 = .ok (.iload_n 2, 1) := by decide +kernel
theorem dL_stations_624 : decode cL_stations 624 = .ok (.if_icmp .ne 37, 3) := by decide +kernel
theorem dL_stations_627 : decode cL_stations 627 = .ok (.aload_n 0, 1) := by decide +kernel
theorem dL_stations_628 : decode cL_stations 628 = .ok (.iconst 5, 1) := by decide +kernel
theorem dL_stations_629 : decode cL_stations 629 = .ok (.invokevirtual 49, 3) := by decide +kernel
theorem dL_stations_632 : decode cL_stations 632 = .ok (.iload_n 1, 1) := by decide +kernel
theorem dL_stations_633 : decode cL_stations 633 = .ok (.if_icmp .ne 28, 3) := by decide +kernel
theorem dL_stations_636 : decode cL_stations 636 = .ok (.aload_n 0, 1) := by decide +kernel
theorem dL_stations_637 : decode cL_stations 637 = .ok (.iconst 2, 1) := by decide +kernel
theorem dL_stations_638 : decode cL_stations 638 = .ok (.invokevirtual 56, 3) := by decide +kernel
theorem dL_stations_641 : decode cL_stations 641 = .ok (.ldc 52, 2) := by decide +kernel
theorem dL_stations_643 : decode cL_stations 643 = .ok (.if_icmp .ne 18, 3) := by decide +kernel
theorem dL_stations_646 : decode cL_stations 646 = .ok (.aload_n 0, 1) := by decide +kernel
theorem dL_stations_647 : decode cL_stations 647 = .ok (.bipush 11, 2) := by decide +kernel
theorem dL_stations_649 : decode cL_stations 649 = .ok (.invokevirtual 49, 3) := by decide +kernel
theorem dL_stations_652 : decode cL_stations 652 = .ok (.ldc 15, 2) := by decide +kernel
theorem dL_stations_654 : decode cL_stations 654 = .ok (.if_icmp .ne 7, 3) := by decide +kernel
theorem dL_stations_657 : decode cL_stations 657 = .ok (.iconst 1, 1) := by decide +kernel
theorem dL_stations_658 : decode cL_stations 658 = .ok (.goto 4, 3) := by decide +kernel
theorem dL_stations_661 : decode cL_stations 661 = .ok (.iconst 0, 1) := by decide +kernel
theorem dL_stations_662 : decode cL_stations 662 = .ok (.ireturn, 1) := by decide +kernel
theorem dL_passes_0 : decode cL_passes 0 = .ok (.iconst 4, 1) := by decide +kernel
theorem dL_passes_1 : decode cL_passes 1 = .ok (.newarray .int, 2) := by decide +kernel
theorem dL_passes_3 : decode cL_passes 3 = .ok (.astore_n 2, 1) := by decide +kernel
theorem dL_passes_4 : decode cL_passes 4 = .ok (.iconst 4, 1) := by decide +kernel
theorem dL_passes_5 : decode cL_passes 5 = .ok (.newarray .int, 2) := by decide +kernel
theorem dL_passes_7 : decode cL_passes 7 = .ok (.astore_n 3, 1) := by decide +kernel
theorem dL_passes_8 : decode cL_passes 8 = .ok (.aload_n 0, 1) := by decide +kernel
theorem dL_passes_9 : decode cL_passes 9 = .ok (.iconst 0, 1) := by decide +kernel
theorem dL_passes_10 : decode cL_passes 10 = .ok (.invokevirtual 49, 3) := by decide +kernel
theorem dL_passes_13 : decode cL_passes 13 = .ok (.istore 4, 2) := by decide +kernel
theorem dL_passes_15 : decode cL_passes 15 = .ok (.iconst 0, 1) := by decide +kernel
theorem dL_passes_16 : decode cL_passes 16 = .ok (.istore 5, 2) := by decide +kernel
theorem dL_passes_18 : decode cL_passes 18 = .ok (.iload 5, 2) := by decide +kernel
theorem dL_passes_20 : decode cL_passes 20 = .ok (.iconst 4, 1) := by decide +kernel
theorem dL_passes_21 : decode cL_passes 21 = .ok (.if_icmp .ge 107, 3) := by decide +kernel
theorem dL_passes_24 : decode cL_passes 24 = .ok (.aload_n 2, 1) := by decide +kernel
theorem dL_passes_25 : decode cL_passes 25 = .ok (.iload 5, 2) := by decide +kernel
theorem dL_passes_27 : decode cL_passes 27 = .ok (.aload_n 0, 1) := by decide +kernel
theorem dL_passes_28 : decode cL_passes 28 = .ok (.iload 5, 2) := by decide +kernel
theorem dL_passes_30 : decode cL_passes 30 = .ok (.bipush 9, 2) := by decide +kernel
theorem dL_passes_32 : decode cL_passes 32 = .ok (.invokevirtual 22, 3) := by decide +kernel
theorem dL_passes_35 : decode cL_passes 35 = .ok (.iastore, 1) := by decide +kernel
theorem dL_passes_36 : decode cL_passes 36 = .ok (.aload_n 3, 1) := by decide +kernel
theorem dL_passes_37 : decode cL_passes 37 = .ok (.iload 5, 2) := by decide +kernel
theorem dL_passes_39 : decode cL_passes 39 = .ok (.aload_n 0, 1) := by decide +kernel
theorem dL_passes_40 : decode cL_passes 40 = .ok (.iload 5, 2) := by decide +kernel
theorem dL_passes_42 : decode cL_passes 42 = .ok (.bipush 8, 2) := by decide +kernel
theorem dL_passes_44 : decode cL_passes 44 = .ok (.invokevirtual 22, 3) := by decide +kernel
theorem dL_passes_47 : decode cL_passes 47 = .ok (.iastore, 1) := by decide +kernel
theorem dL_passes_48 : decode cL_passes 48 = .ok (.iconst 0, 1) := by decide +kernel
theorem dL_passes_49 : decode cL_passes 49 = .ok (.istore 6, 2) := by decide +kernel
theorem dL_passes_51 : decode cL_passes 51 = .ok (.iload 6, 2) := by decide +kernel
theorem dL_passes_53 : decode cL_passes 53 = .ok (.iload_n 1, 1) := by decide +kernel
theorem dL_passes_54 : decode cL_passes 54 = .ok (.if_icmp .ge 68, 3) := by decide +kernel
theorem dL_passes_57 : decode cL_passes 57 = .ok (.aload_n 2, 1) := by decide +kernel
theorem dL_passes_58 : decode cL_passes 58 = .ok (.iload 5, 2) := by decide +kernel
theorem dL_passes_60 : decode cL_passes 60 = .ok (.iaload, 1) := by decide +kernel
theorem dL_passes_61 : decode cL_passes 61 = .ok (.ifCond .lt 61, 3) := by decide +kernel
theorem dL_passes_64 : decode cL_passes 64 = .ok (.aload_n 2, 1) := by decide +kernel
theorem dL_passes_65 : decode cL_passes 65 = .ok (.iload 5, 2) := by decide +kernel
theorem dL_passes_67 : decode cL_passes 67 = .ok (.aload_n 2, 1) := by decide +kernel
theorem dL_passes_68 : decode cL_passes 68 = .ok (.iload 5, 2) := by decide +kernel
theorem dL_passes_70 : decode cL_passes 70 = .ok (.iaload, 1) := by decide +kernel
theorem dL_passes_71 : decode cL_passes 71 = .ok (.iconst 1, 1) := by decide +kernel
theorem dL_passes_72 : decode cL_passes 72 = .ok (.iadd, 1) := by decide +kernel
theorem dL_passes_73 : decode cL_passes 73 = .ok (.aload_n 0, 1) := by decide +kernel
theorem dL_passes_74 : decode cL_passes 74 = .ok (.iload 5, 2) := by decide +kernel
theorem dL_passes_76 : decode cL_passes 76 = .ok (.bipush 10, 2) := by decide +kernel
theorem dL_passes_78 : decode cL_passes 78 = .ok (.invokevirtual 22, 3) := by decide +kernel
theorem dL_passes_81 : decode cL_passes 81 = .ok (.irem, 1) := by decide +kernel
theorem dL_passes_82 : decode cL_passes 82 = .ok (.iastore, 1) := by decide +kernel
theorem dL_passes_83 : decode cL_passes 83 = .ok (.aload_n 3, 1) := by decide +kernel
theorem dL_passes_84 : decode cL_passes 84 = .ok (.iload 5, 2) := by decide +kernel
theorem dL_passes_86 : decode cL_passes 86 = .ok (.aload_n 2, 1) := by decide +kernel
theorem dL_passes_87 : decode cL_passes 87 = .ok (.iload 5, 2) := by decide +kernel
theorem dL_passes_89 : decode cL_passes 89 = .ok (.iaload, 1) := by decide +kernel
theorem dL_passes_90 : decode cL_passes 90 = .ok (.ifCond .ne 21, 3) := by decide +kernel
theorem dL_passes_93 : decode cL_passes 93 = .ok (.aload_n 3, 1) := by decide +kernel
theorem dL_passes_94 : decode cL_passes 94 = .ok (.iload 5, 2) := by decide +kernel
theorem dL_passes_96 : decode cL_passes 96 = .ok (.iaload, 1) := by decide +kernel
theorem dL_passes_97 : decode cL_passes 97 = .ok (.aload_n 0, 1) := by decide +kernel
theorem dL_passes_98 : decode cL_passes 98 = .ok (.iload 5, 2) := by decide +kernel
theorem dL_passes_100 : decode cL_passes 100 = .ok (.bipush 6, 2) := by decide +kernel
theorem dL_passes_102 : decode cL_passes 102 = .ok (.invokevirtual 22, 3) := by decide +kernel
theorem dL_passes_105 : decode cL_passes 105 = .ok (.invokestatic 46, 3) := by decide +kernel
theorem dL_passes_108 : decode cL_passes 108 = .ok (.goto 7, 3) := by decide +kernel
theorem dL_passes_111 : decode cL_passes 111 = .ok (.aload_n 3, 1) := by decide +kernel
theorem dL_passes_112 : decode cL_passes 112 = .ok (.iload 5, 2) := by decide +kernel
theorem dL_passes_114 : decode cL_passes 114 = .ok (.iaload, 1) := by decide +kernel
theorem dL_passes_115 : decode cL_passes 115 = .ok (.iastore, 1) := by decide +kernel
theorem dL_passes_116 : decode cL_passes 116 = .ok (.iinc 6 1, 3) := by decide +kernel
theorem dL_passes_119 : decode cL_passes 119 = .ok (.goto (-68), 3) := by decide +kernel
theorem dL_passes_122 : decode cL_passes 122 = .ok (.iinc 5 1, 3) := by decide +kernel
theorem dL_passes_125 : decode cL_passes 125 = .ok (.goto (-107), 3) := by decide +kernel
theorem dL_passes_128 : decode cL_passes 128 = .ok (.aload_n 0, 1) := by decide +kernel
theorem dL_passes_129 : decode cL_passes 129 = .ok (.iload_n 1, 1) := by decide +kernel
theorem dL_passes_130 : decode cL_passes 130 = .ok (.invokevirtual 68, 3) := by decide +kernel
theorem dL_passes_133 : decode cL_passes 133 = .ok (.iload 4, 2) := by decide +kernel
theorem dL_passes_135 : decode cL_passes 135 = .ok (.iload_n 1, 1) := by decide +kernel
theorem dL_passes_136 : decode cL_passes 136 = .ok (.iadd, 1) := by decide +kernel
theorem dL_passes_137 : decode cL_passes 137 = .ok (.if_icmp .ne 36, 3) := by decide +kernel
theorem dL_passes_140 : decode cL_passes 140 = .ok (.aload_n 0, 1) := by decide +kernel
theorem dL_passes_141 : decode cL_passes 141 = .ok (.iconst 0, 1) := by decide +kernel
theorem dL_passes_142 : decode cL_passes 142 = .ok (.invokevirtual 49, 3) := by decide +kernel
theorem dL_passes_145 : decode cL_passes 145 = .ok (.iload 4, 2) := by decide +kernel
theorem dL_passes_147 : decode cL_passes 147 = .ok (.iload_n 1, 1) := by decide +kernel
theorem dL_passes_148 : decode cL_passes 148 = .ok (.iadd, 1) := by decide +kernel
theorem dL_passes_149 : decode cL_passes 149 = .ok (.if_icmp .ne 24, 3) := by decide +kernel
theorem dL_passes_152 : decode cL_passes 152 = .ok (.aload_n 0, 1) := by decide +kernel
theorem dL_passes_153 : decode cL_passes 153 = .ok (.iconst 0, 1) := by decide +kernel
theorem dL_passes_154 : decode cL_passes 154 = .ok (.invokevirtual 68, 3) := by decide +kernel
theorem dL_passes_157 : decode cL_passes 157 = .ok (.ldc 15, 2) := by decide +kernel
theorem dL_passes_159 : decode cL_passes 159 = .ok (.if_icmp .ne 14, 3) := by decide +kernel
theorem dL_passes_162 : decode cL_passes 162 = .ok (.aload_n 0, 1) := by decide +kernel
theorem dL_passes_163 : decode cL_passes 163 = .ok (.bipush 61, 2) := by decide +kernel
theorem dL_passes_165 : decode cL_passes 165 = .ok (.invokevirtual 68, 3) := by decide +kernel
theorem dL_passes_168 : decode cL_passes 168 = .ok (.ldc 15, 2) := by decide +kernel
theorem dL_passes_170 : decode cL_passes 170 = .ok (.if_icmp .eq 5, 3) := by decide +kernel
theorem dL_passes_173 : decode cL_passes 173 = .ok (.iconst 0, 1) := by decide +kernel
theorem dL_passes_174 : decode cL_passes 174 = .ok (.ireturn, 1) := by decide +kernel
theorem dL_passes_175 : decode cL_passes 175 = .ok (.iconst 0, 1) := by decide +kernel
theorem dL_passes_176 : decode cL_passes 176 = .ok (.istore 5, 2) := by decide +kernel
theorem dL_passes_178 : decode cL_passes 178 = .ok (.iload 5, 2) := by decide +kernel
theorem dL_passes_180 : decode cL_passes 180 = .ok (.iconst 4, 1) := by decide +kernel
theorem dL_passes_181 : decode cL_passes 181 = .ok (.if_icmp .ge 41, 3) := by decide +kernel
theorem dL_passes_184 : decode cL_passes 184 = .ok (.aload_n 0, 1) := by decide +kernel
theorem dL_passes_185 : decode cL_passes 185 = .ok (.iload 5, 2) := by decide +kernel
theorem dL_passes_187 : decode cL_passes 187 = .ok (.bipush 9, 2) := by decide +kernel
theorem dL_passes_189 : decode cL_passes 189 = .ok (.invokevirtual 22, 3) := by decide +kernel
theorem dL_passes_192 : decode cL_passes 192 = .ok (.aload_n 2, 1) := by decide +kernel
theorem dL_passes_193 : decode cL_passes 193 = .ok (.iload 5, 2) := by decide +kernel
theorem dL_passes_195 : decode cL_passes 195 = .ok (.iaload, 1) := by decide +kernel
theorem dL_passes_196 : decode cL_passes 196 = .ok (.if_icmp .ne 18, 3) := by decide +kernel
theorem dL_passes_199 : decode cL_passes 199 = .ok (.aload_n 0, 1) := by decide +kernel
theorem dL_passes_200 : decode cL_passes 200 = .ok (.iload 5, 2) := by decide +kernel
theorem dL_passes_202 : decode cL_passes 202 = .ok (.bipush 8, 2) := by decide +kernel
theorem dL_passes_204 : decode cL_passes 204 = .ok (.invokevirtual 22, 3) := by decide +kernel
theorem dL_passes_207 : decode cL_passes 207 = .ok (.aload_n 3, 1) := by decide +kernel
theorem dL_passes_208 : decode cL_passes 208 = .ok (.iload 5, 2) := by decide +kernel
theorem dL_passes_210 : decode cL_passes 210 = .ok (.iaload, 1) := by decide +kernel
theorem dL_passes_211 : decode cL_passes 211 = .ok (.if_icmp .eq 5, 3) := by decide +kernel
theorem dL_passes_214 : decode cL_passes 214 = .ok (.iconst 0, 1) := by decide +kernel
theorem dL_passes_215 : decode cL_passes 215 = .ok (.ireturn, 1) := by decide +kernel
theorem dL_passes_216 : decode cL_passes 216 = .ok (.iinc 5 1, 3) := by decide +kernel
theorem dL_passes_219 : decode cL_passes 219 = .ok (.goto (-41), 3) := by decide +kernel
theorem dL_passes_222 : decode cL_passes 222 = .ok (.iconst 1, 1) := by decide +kernel
theorem dL_passes_223 : decode cL_passes 223 = .ok (.ireturn, 1) := by decide +kernel
theorem dL_observes_0 : decode cL_observes 0 = .ok (.aload_n 0, 1) := by decide +kernel
theorem dL_observes_1 : decode cL_observes 1 = .ok (.iconst 0, 1) := by decide +kernel
theorem dL_observes_2 : decode cL_observes 2 = .ok (.invokevirtual 49, 3) := by decide +kernel
theorem dL_observes_5 : decode cL_observes 5 = .ok (.istore 4, 2) := by decide +kernel
theorem dL_observes_7 : decode cL_observes 7 = .ok (.aload_n 0, 1) := by decide +kernel
theorem dL_observes_8 : decode cL_observes 8 = .ok (.bipush 7, 2) := by decide +kernel
theorem dL_observes_10 : decode cL_observes 10 = .ok (.invokevirtual 49, 3) := by decide +kernel
theorem dL_observes_13 : decode cL_observes 13 = .ok (.istore 5, 2) := by decide +kernel
theorem dL_observes_15 : decode cL_observes 15 = .ok (.aload_n 0, 1) := by decide +kernel
theorem dL_observes_16 : decode cL_observes 16 = .ok (.iload_n 2, 1) := by decide +kernel
theorem dL_observes_17 : decode cL_observes 17 = .ok (.iconst 0, 1) := by decide +kernel
theorem dL_observes_18 : decode cL_observes 18 = .ok (.invokevirtual 62, 3) := by decide +kernel
theorem dL_observes_21 : decode cL_observes 21 = .ok (.istore 6, 2) := by decide +kernel
theorem dL_observes_23 : decode cL_observes 23 = .ok (.aload_n 0, 1) := by decide +kernel
theorem dL_observes_24 : decode cL_observes 24 = .ok (.iload_n 1, 1) := by decide +kernel
theorem dL_observes_25 : decode cL_observes 25 = .ok (.iconst 2, 1) := by decide +kernel
theorem dL_observes_26 : decode cL_observes 26 = .ok (.invokevirtual 22, 3) := by decide +kernel
theorem dL_observes_29 : decode cL_observes 29 = .ok (.ifCond .ge 7, 3) := by decide +kernel
theorem dL_observes_32 : decode cL_observes 32 = .ok (.iconst 1, 1) := by decide +kernel
theorem dL_observes_33 : decode cL_observes 33 = .ok (.goto 19, 3) := by decide +kernel
theorem dL_observes_36 : decode cL_observes 36 = .ok (.iload 6, 2) := by decide +kernel
theorem dL_observes_38 : decode cL_observes 38 = .ok (.aload_n 0, 1) := by decide +kernel
theorem dL_observes_39 : decode cL_observes 39 = .ok (.iload_n 1, 1) := by decide +kernel
theorem dL_observes_40 : decode cL_observes 40 = .ok (.iconst 3, 1) := by decide +kernel
theorem dL_observes_41 : decode cL_observes 41 = .ok (.invokevirtual 22, 3) := by decide +kernel
theorem dL_observes_44 : decode cL_observes 44 = .ok (.if_icmp .le 7, 3) := by decide +kernel
theorem dL_observes_47 : decode cL_observes 47 = .ok (.iconst 2, 1) := by decide +kernel
theorem dL_observes_48 : decode cL_observes 48 = .ok (.goto 4, 3) := by decide +kernel
theorem dL_observes_51 : decode cL_observes 51 = .ok (.iconst 0, 1) := by decide +kernel
theorem dL_observes_52 : decode cL_observes 52 = .ok (.istore 7, 2) := by decide +kernel
theorem dL_observes_54 : decode cL_observes 54 = .ok (.aload_n 0, 1) := by decide +kernel
theorem dL_observes_55 : decode cL_observes 55 = .ok (.iload_n 1, 1) := by decide +kernel
theorem dL_observes_56 : decode cL_observes 56 = .ok (.bipush 8, 2) := by decide +kernel
theorem dL_observes_58 : decode cL_observes 58 = .ok (.invokevirtual 22, 3) := by decide +kernel
theorem dL_observes_61 : decode cL_observes 61 = .ok (.istore 8, 2) := by decide +kernel
theorem dL_observes_63 : decode cL_observes 63 = .ok (.aload_n 0, 1) := by decide +kernel
theorem dL_observes_64 : decode cL_observes 64 = .ok (.iload_n 1, 1) := by decide +kernel
theorem dL_observes_65 : decode cL_observes 65 = .ok (.bipush 9, 2) := by decide +kernel
theorem dL_observes_67 : decode cL_observes 67 = .ok (.invokevirtual 22, 3) := by decide +kernel
theorem dL_observes_70 : decode cL_observes 70 = .ok (.istore 9, 2) := by decide +kernel
theorem dL_observes_72 : decode cL_observes 72 = .ok (.iconst 2, 1) := by decide +kernel
theorem dL_observes_73 : decode cL_observes 73 = .ok (.newarray .int, 2) := by decide +kernel
theorem dL_observes_75 : decode cL_observes 75 = .ok (.astore 10, 2) := by decide +kernel
theorem dL_observes_77 : decode cL_observes 77 = .ok (.iconst 2, 1) := by decide +kernel
theorem dL_observes_78 : decode cL_observes 78 = .ok (.newarray .int, 2) := by decide +kernel
theorem dL_observes_80 : decode cL_observes 80 = .ok (.astore 11, 2) := by decide +kernel
theorem dL_observes_82 : decode cL_observes 82 = .ok (.iconst 2, 1) := by decide +kernel
theorem dL_observes_83 : decode cL_observes 83 = .ok (.newarray .int, 2) := by decide +kernel
theorem dL_observes_85 : decode cL_observes 85 = .ok (.astore 12, 2) := by decide +kernel
theorem dL_observes_87 : decode cL_observes 87 = .ok (.aload_n 0, 1) := by decide +kernel
theorem dL_observes_88 : decode cL_observes 88 = .ok (.iload_n 2, 1) := by decide +kernel
theorem dL_observes_89 : decode cL_observes 89 = .ok (.iload_n 1, 1) := by decide +kernel
theorem dL_observes_90 : decode cL_observes 90 = .ok (.iconst 3, 1) := by decide +kernel
theorem dL_observes_91 : decode cL_observes 91 = .ok (.invokevirtual 53, 3) := by decide +kernel
theorem dL_observes_94 : decode cL_observes 94 = .ok (.ifCond .lt 7, 3) := by decide +kernel
theorem dL_observes_97 : decode cL_observes 97 = .ok (.iconst 0, 1) := by decide +kernel
theorem dL_observes_98 : decode cL_observes 98 = .ok (.goto 4, 3) := by decide +kernel
theorem dL_observes_101 : decode cL_observes 101 = .ok (.iconst 1, 1) := by decide +kernel
theorem dL_observes_102 : decode cL_observes 102 = .ok (.istore 13, 2) := by decide +kernel
theorem dL_observes_104 : decode cL_observes 104 = .ok (.aload_n 0, 1) := by decide +kernel
theorem dL_observes_105 : decode cL_observes 105 = .ok (.iconst 5, 1) := by decide +kernel
theorem dL_observes_106 : decode cL_observes 106 = .ok (.invokevirtual 49, 3) := by decide +kernel
theorem dL_observes_109 : decode cL_observes 109 = .ok (.istore 14, 2) := by decide +kernel
theorem dL_observes_111 : decode cL_observes 111 = .ok (.iconst 0, 1) := by decide +kernel
theorem dL_observes_112 : decode cL_observes 112 = .ok (.istore 15, 2) := by decide +kernel
theorem dL_observes_114 : decode cL_observes 114 = .ok (.iload 15, 2) := by decide +kernel
theorem dL_observes_116 : decode cL_observes 116 = .ok (.iload_n 3, 1) := by decide +kernel
theorem dL_observes_117 : decode cL_observes 117 = .ok (.if_icmp .ge 152, 3) := by decide +kernel
theorem dL_observes_120 : decode cL_observes 120 = .ok (.iload 7, 2) := by decide +kernel
theorem dL_observes_122 : decode cL_observes 122 = .ok (.ifCond .ne 147, 3) := by decide +kernel
theorem dL_observes_125 : decode cL_observes 125 = .ok (.iconst 0, 1) := by decide +kernel
theorem dL_observes_126 : decode cL_observes 126 = .ok (.istore 16, 2) := by decide +kernel
theorem dL_observes_128 : decode cL_observes 128 = .ok (.iload 16, 2) := by decide +kernel
theorem dL_observes_130 : decode cL_observes 130 = .ok (.iconst 2, 1) := by decide +kernel
theorem dL_observes_131 : decode cL_observes 131 = .ok (.if_icmp .ge 94, 3) := by decide +kernel
theorem dL_observes_134 : decode cL_observes 134 = .ok (.aload_n 0, 1) := by decide +kernel
theorem dL_observes_135 : decode cL_observes 135 = .ok (.iload_n 1, 1) := by decide +kernel
theorem dL_observes_136 : decode cL_observes 136 = .ok (.iload 6, 2) := by decide +kernel
theorem dL_observes_138 : decode cL_observes 138 = .ok (.iload 16, 2) := by decide +kernel
theorem dL_observes_140 : decode cL_observes 140 = .ok (.iload 8, 2) := by decide +kernel
theorem dL_observes_142 : decode cL_observes 142 = .ok (.iload 9, 2) := by decide +kernel
theorem dL_observes_144 : decode cL_observes 144 = .ok (.invokestatic 42, 3) := by decide +kernel
theorem dL_observes_147 : decode cL_observes 147 = .ok (.istore 17, 2) := by decide +kernel
theorem dL_observes_149 : decode cL_observes 149 = .ok (.aload 10, 2) := by decide +kernel
theorem dL_observes_151 : decode cL_observes 151 = .ok (.iload 16, 2) := by decide +kernel
theorem dL_observes_153 : decode cL_observes 153 = .ok (.dup2, 1) := by decide +kernel
theorem dL_observes_154 : decode cL_observes 154 = .ok (.iaload, 1) := by decide +kernel
theorem dL_observes_155 : decode cL_observes 155 = .ok (.iload 17, 2) := by decide +kernel
theorem dL_observes_157 : decode cL_observes 157 = .ok (.iadd, 1) := by decide +kernel
theorem dL_observes_158 : decode cL_observes 158 = .ok (.iastore, 1) := by decide +kernel
theorem dL_observes_159 : decode cL_observes 159 = .ok (.aload 11, 2) := by decide +kernel
theorem dL_observes_161 : decode cL_observes 161 = .ok (.iload 16, 2) := by decide +kernel
theorem dL_observes_163 : decode cL_observes 163 = .ok (.iload 15, 2) := by decide +kernel
theorem dL_observes_165 : decode cL_observes 165 = .ok (.ifCond .eq 13, 3) := by decide +kernel
theorem dL_observes_168 : decode cL_observes 168 = .ok (.iload 17, 2) := by decide +kernel
theorem dL_observes_170 : decode cL_observes 170 = .ok (.aload 11, 2) := by decide +kernel
theorem dL_observes_172 : decode cL_observes 172 = .ok (.iload 16, 2) := by decide +kernel
theorem dL_observes_174 : decode cL_observes 174 = .ok (.iaload, 1) := by decide +kernel
theorem dL_observes_175 : decode cL_observes 175 = .ok (.if_icmp .ge 8, 3) := by decide +kernel
theorem dL_observes_178 : decode cL_observes 178 = .ok (.iload 17, 2) := by decide +kernel
theorem dL_observes_180 : decode cL_observes 180 = .ok (.goto 8, 3) := by decide +kernel
theorem dL_observes_183 : decode cL_observes 183 = .ok (.aload 11, 2) := by decide +kernel
theorem dL_observes_185 : decode cL_observes 185 = .ok (.iload 16, 2) := by decide +kernel
theorem dL_observes_187 : decode cL_observes 187 = .ok (.iaload, 1) := by decide +kernel
theorem dL_observes_188 : decode cL_observes 188 = .ok (.iastore, 1) := by decide +kernel
theorem dL_observes_189 : decode cL_observes 189 = .ok (.aload 12, 2) := by decide +kernel
theorem dL_observes_191 : decode cL_observes 191 = .ok (.iload 16, 2) := by decide +kernel
theorem dL_observes_193 : decode cL_observes 193 = .ok (.iload 15, 2) := by decide +kernel
theorem dL_observes_195 : decode cL_observes 195 = .ok (.ifCond .eq 13, 3) := by decide +kernel
theorem dL_observes_198 : decode cL_observes 198 = .ok (.iload 17, 2) := by decide +kernel
theorem dL_observes_200 : decode cL_observes 200 = .ok (.aload 12, 2) := by decide +kernel
theorem dL_observes_202 : decode cL_observes 202 = .ok (.iload 16, 2) := by decide +kernel
theorem dL_observes_204 : decode cL_observes 204 = .ok (.iaload, 1) := by decide +kernel
theorem dL_observes_205 : decode cL_observes 205 = .ok (.if_icmp .le 8, 3) := by decide +kernel
theorem dL_observes_208 : decode cL_observes 208 = .ok (.iload 17, 2) := by decide +kernel
theorem dL_observes_210 : decode cL_observes 210 = .ok (.goto 8, 3) := by decide +kernel
theorem dL_observes_213 : decode cL_observes 213 = .ok (.aload 12, 2) := by decide +kernel
theorem dL_observes_215 : decode cL_observes 215 = .ok (.iload 16, 2) := by decide +kernel
theorem dL_observes_217 : decode cL_observes 217 = .ok (.iaload, 1) := by decide +kernel
theorem dL_observes_218 : decode cL_observes 218 = .ok (.iastore, 1) := by decide +kernel
theorem dL_observes_219 : decode cL_observes 219 = .ok (.iinc 16 1, 3) := by decide +kernel
theorem dL_observes_222 : decode cL_observes 222 = .ok (.goto (-94), 3) := by decide +kernel
theorem dL_observes_225 : decode cL_observes 225 = .ok (.iload 9, 2) := by decide +kernel
theorem dL_observes_227 : decode cL_observes 227 = .ok (.iconst 1, 1) := by decide +kernel
theorem dL_observes_228 : decode cL_observes 228 = .ok (.iadd, 1) := by decide +kernel
theorem dL_observes_229 : decode cL_observes 229 = .ok (.aload_n 0, 1) := by decide +kernel
theorem dL_observes_230 : decode cL_observes 230 = .ok (.iload_n 1, 1) := by decide +kernel
theorem dL_observes_231 : decode cL_observes 231 = .ok (.bipush 10, 2) := by decide +kernel
theorem dL_observes_233 : decode cL_observes 233 = .ok (.invokevirtual 22, 3) := by decide +kernel
theorem dL_observes_236 : decode cL_observes 236 = .ok (.irem, 1) := by decide +kernel
theorem dL_observes_237 : decode cL_observes 237 = .ok (.istore 9, 2) := by decide +kernel
theorem dL_observes_239 : decode cL_observes 239 = .ok (.iload 9, 2) := by decide +kernel
theorem dL_observes_241 : decode cL_observes 241 = .ok (.ifCond .ne 18, 3) := by decide +kernel
theorem dL_observes_244 : decode cL_observes 244 = .ok (.iload 8, 2) := by decide +kernel
theorem dL_observes_246 : decode cL_observes 246 = .ok (.aload_n 0, 1) := by decide +kernel
theorem dL_observes_247 : decode cL_observes 247 = .ok (.iload_n 1, 1) := by decide +kernel
theorem dL_observes_248 : decode cL_observes 248 = .ok (.bipush 6, 2) := by decide +kernel
theorem dL_observes_250 : decode cL_observes 250 = .ok (.invokevirtual 22, 3) := by decide +kernel
theorem dL_observes_253 : decode cL_observes 253 = .ok (.invokestatic 46, 3) := by decide +kernel
theorem dL_observes_256 : decode cL_observes 256 = .ok (.goto 5, 3) := by decide +kernel
theorem dL_observes_259 : decode cL_observes 259 = .ok (.iload 8, 2) := by decide +kernel
theorem dL_observes_261 : decode cL_observes 261 = .ok (.istore 8, 2) := by decide +kernel
theorem dL_observes_263 : decode cL_observes 263 = .ok (.iinc 15 1, 3) := by decide +kernel
theorem dL_observes_266 : decode cL_observes 266 = .ok (.goto (-152), 3) := by decide +kernel
theorem dL_observes_269 : decode cL_observes 269 = .ok (.aload 12, 2) := by decide +kernel
theorem dL_observes_271 : decode cL_observes 271 = .ok (.iconst 0, 1) := by decide +kernel
theorem dL_observes_272 : decode cL_observes 272 = .ok (.iaload, 1) := by decide +kernel
theorem dL_observes_273 : decode cL_observes 273 = .ok (.aload 11, 2) := by decide +kernel
theorem dL_observes_275 : decode cL_observes 275 = .ok (.iconst 0, 1) := by decide +kernel
theorem dL_observes_276 : decode cL_observes 276 = .ok (.iaload, 1) := by decide +kernel
theorem dL_observes_277 : decode cL_observes 277 = .ok (.isub, 1) := by decide +kernel
theorem dL_observes_278 : decode cL_observes 278 = .ok (.aload 12, 2) := by decide +kernel
theorem dL_observes_280 : decode cL_observes 280 = .ok (.iconst 1, 1) := by decide +kernel
theorem dL_observes_281 : decode cL_observes 281 = .ok (.iaload, 1) := by decide +kernel
theorem dL_observes_282 : decode cL_observes 282 = .ok (.aload 11, 2) := by decide +kernel
theorem dL_observes_284 : decode cL_observes 284 = .ok (.iconst 1, 1) := by decide +kernel
theorem dL_observes_285 : decode cL_observes 285 = .ok (.iaload, 1) := by decide +kernel
theorem dL_observes_286 : decode cL_observes 286 = .ok (.isub, 1) := by decide +kernel
theorem dL_observes_287 : decode cL_observes 287 = .ok (.if_icmp .le 15, 3) := by decide +kernel
theorem dL_observes_290 : decode cL_observes 290 = .ok (.aload 12, 2) := by decide +kernel
theorem dL_observes_292 : decode cL_observes 292 = .ok (.iconst 0, 1) := by decide +kernel
theorem dL_observes_293 : decode cL_observes 293 = .ok (.iaload, 1) := by decide +kernel
theorem dL_observes_294 : decode cL_observes 294 = .ok (.aload 11, 2) := by decide +kernel
theorem dL_observes_296 : decode cL_observes 296 = .ok (.iconst 0, 1) := by decide +kernel
theorem dL_observes_297 : decode cL_observes 297 = .ok (.iaload, 1) := by decide +kernel
theorem dL_observes_298 : decode cL_observes 298 = .ok (.isub, 1) := by decide +kernel
theorem dL_observes_299 : decode cL_observes 299 = .ok (.goto 12, 3) := by decide +kernel
theorem dL_observes_302 : decode cL_observes 302 = .ok (.aload 12, 2) := by decide +kernel
theorem dL_observes_304 : decode cL_observes 304 = .ok (.iconst 1, 1) := by decide +kernel
theorem dL_observes_305 : decode cL_observes 305 = .ok (.iaload, 1) := by decide +kernel
theorem dL_observes_306 : decode cL_observes 306 = .ok (.aload 11, 2) := by decide +kernel
theorem dL_observes_308 : decode cL_observes 308 = .ok (.iconst 1, 1) := by decide +kernel
theorem dL_observes_309 : decode cL_observes 309 = .ok (.iaload, 1) := by decide +kernel
theorem dL_observes_310 : decode cL_observes 310 = .ok (.isub, 1) := by decide +kernel
theorem dL_observes_311 : decode cL_observes 311 = .ok (.istore 15, 2) := by decide +kernel
theorem dL_observes_313 : decode cL_observes 313 = .ok (.aload_n 0, 1) := by decide +kernel
theorem dL_observes_314 : decode cL_observes 314 = .ok (.iload_n 1, 1) := by decide +kernel
theorem dL_observes_315 : decode cL_observes 315 = .ok (.iload_n 2, 1) := by decide +kernel
theorem dL_observes_316 : decode cL_observes 316 = .ok (.iload_n 3, 1) := by decide +kernel
theorem dL_observes_317 : decode cL_observes 317 = .ok (.invokevirtual 71, 3) := by decide +kernel
theorem dL_observes_320 : decode cL_observes 320 = .ok (.istore 16, 2) := by decide +kernel
theorem dL_observes_322 : decode cL_observes 322 = .ok (.iload 7, 2) := by decide +kernel
theorem dL_observes_324 : decode cL_observes 324 = .ok (.ifCond .le 37, 3) := by decide +kernel
theorem dL_observes_327 : decode cL_observes 327 = .ok (.iload 16, 2) := by decide +kernel
theorem dL_observes_329 : decode cL_observes 329 = .ok (.ldc 74, 2) := by decide +kernel
theorem dL_observes_331 : decode cL_observes 331 = .ok (.if_icmp .ne 28, 3) := by decide +kernel
theorem dL_observes_334 : decode cL_observes 334 = .ok (.aload_n 0, 1) := by decide +kernel
theorem dL_observes_335 : decode cL_observes 335 = .ok (.bipush 8, 2) := by decide +kernel
theorem dL_observes_337 : decode cL_observes 337 = .ok (.invokevirtual 49, 3) := by decide +kernel
theorem dL_observes_340 : decode cL_observes 340 = .ok (.iload 7, 2) := by decide +kernel
theorem dL_observes_342 : decode cL_observes 342 = .ok (.if_icmp .ne 17, 3) := by decide +kernel
theorem dL_observes_345 : decode cL_observes 345 = .ok (.aload_n 0, 1) := by decide +kernel
theorem dL_observes_346 : decode cL_observes 346 = .ok (.iconst 0, 1) := by decide +kernel
theorem dL_observes_347 : decode cL_observes 347 = .ok (.invokevirtual 49, 3) := by decide +kernel
theorem dL_observes_350 : decode cL_observes 350 = .ok (.iload 4, 2) := by decide +kernel
theorem dL_observes_352 : decode cL_observes 352 = .ok (.if_icmp .ne 7, 3) := by decide +kernel
theorem dL_observes_355 : decode cL_observes 355 = .ok (.iconst 1, 1) := by decide +kernel
theorem dL_observes_356 : decode cL_observes 356 = .ok (.goto 4, 3) := by decide +kernel
theorem dL_observes_359 : decode cL_observes 359 = .ok (.iconst 0, 1) := by decide +kernel
theorem dL_observes_360 : decode cL_observes 360 = .ok (.ireturn, 1) := by decide +kernel
theorem dL_observes_361 : decode cL_observes 361 = .ok (.iconst 1, 1) := by decide +kernel
theorem dL_observes_362 : decode cL_observes 362 = .ok (.istore 17, 2) := by decide +kernel
theorem dL_observes_364 : decode cL_observes 364 = .ok (.iconst 0, 1) := by decide +kernel
theorem dL_observes_365 : decode cL_observes 365 = .ok (.istore 18, 2) := by decide +kernel
theorem dL_observes_367 : decode cL_observes 367 = .ok (.iload 18, 2) := by decide +kernel
theorem dL_observes_369 : decode cL_observes 369 = .ok (.iconst 2, 1) := by decide +kernel
theorem dL_observes_370 : decode cL_observes 370 = .ok (.if_icmp .ge 57, 3) := by decide +kernel
theorem dL_observes_373 : decode cL_observes 373 = .ok (.aload_n 0, 1) := by decide +kernel
theorem dL_observes_374 : decode cL_observes 374 = .ok (.iload_n 2, 1) := by decide +kernel
theorem dL_observes_375 : decode cL_observes 375 = .ok (.iload_n 1, 1) := by decide +kernel
theorem dL_observes_376 : decode cL_observes 376 = .ok (.iload 18, 2) := by decide +kernel
theorem dL_observes_378 : decode cL_observes 378 = .ok (.invokevirtual 53, 3) := by decide +kernel
theorem dL_observes_381 : decode cL_observes 381 = .ok (.istore 19, 2) := by decide +kernel
theorem dL_observes_383 : decode cL_observes 383 = .ok (.iload 17, 2) := by decide +kernel
theorem dL_observes_385 : decode cL_observes 385 = .ok (.ifCond .eq 33, 3) := by decide +kernel
theorem dL_observes_388 : decode cL_observes 388 = .ok (.iload 19, 2) := by decide +kernel
theorem dL_observes_390 : decode cL_observes 390 = .ok (.iload_n 3, 1) := by decide +kernel
theorem dL_observes_391 : decode cL_observes 391 = .ok (.imul, 1) := by decide +kernel
theorem dL_observes_392 : decode cL_observes 392 = .ok (.aload 10, 2) := by decide +kernel
theorem dL_observes_394 : decode cL_observes 394 = .ok (.iload 18, 2) := by decide +kernel
theorem dL_observes_396 : decode cL_observes 396 = .ok (.iaload, 1) := by decide +kernel
theorem dL_observes_397 : decode cL_observes 397 = .ok (.if_icmp .gt 21, 3) := by decide +kernel
theorem dL_observes_400 : decode cL_observes 400 = .ok (.iload 19, 2) := by decide +kernel
theorem dL_observes_402 : decode cL_observes 402 = .ok (.iconst 1, 1) := by decide +kernel
theorem dL_observes_403 : decode cL_observes 403 = .ok (.iadd, 1) := by decide +kernel
theorem dL_observes_404 : decode cL_observes 404 = .ok (.iload_n 3, 1) := by decide +kernel
theorem dL_observes_405 : decode cL_observes 405 = .ok (.imul, 1) := by decide +kernel
theorem dL_observes_406 : decode cL_observes 406 = .ok (.aload 10, 2) := by decide +kernel
theorem dL_observes_408 : decode cL_observes 408 = .ok (.iload 18, 2) := by decide +kernel
theorem dL_observes_410 : decode cL_observes 410 = .ok (.iaload, 1) := by decide +kernel
theorem dL_observes_411 : decode cL_observes 411 = .ok (.if_icmp .le 7, 3) := by decide +kernel
theorem dL_observes_414 : decode cL_observes 414 = .ok (.iconst 1, 1) := by decide +kernel
theorem dL_observes_415 : decode cL_observes 415 = .ok (.goto 4, 3) := by decide +kernel
theorem dL_observes_418 : decode cL_observes 418 = .ok (.iconst 0, 1) := by decide +kernel
theorem dL_observes_419 : decode cL_observes 419 = .ok (.istore 17, 2) := by decide +kernel
theorem dL_observes_421 : decode cL_observes 421 = .ok (.iinc 18 1, 3) := by decide +kernel
theorem dL_observes_424 : decode cL_observes 424 = .ok (.goto (-57), 3) := by decide +kernel
theorem dL_observes_427 : decode cL_observes 427 = .ok (.iload 16, 2) := by decide +kernel
theorem dL_observes_429 : decode cL_observes 429 = .ok (.iload 15, 2) := by decide +kernel
theorem dL_observes_431 : decode cL_observes 431 = .ok (.if_icmp .ne 111, 3) := by decide +kernel
theorem dL_observes_434 : decode cL_observes 434 = .ok (.iload 17, 2) := by decide +kernel
theorem dL_observes_436 : decode cL_observes 436 = .ok (.ifCond .eq 106, 3) := by decide +kernel
theorem dL_observes_439 : decode cL_observes 439 = .ok (.aload_n 0, 1) := by decide +kernel
theorem dL_observes_440 : decode cL_observes 440 = .ok (.iload_n 2, 1) := by decide +kernel
theorem dL_observes_441 : decode cL_observes 441 = .ok (.iload_n 1, 1) := by decide +kernel
theorem dL_observes_442 : decode cL_observes 442 = .ok (.iconst 2, 1) := by decide +kernel
theorem dL_observes_443 : decode cL_observes 443 = .ok (.invokevirtual 53, 3) := by decide +kernel
theorem dL_observes_446 : decode cL_observes 446 = .ok (.iload 15, 2) := by decide +kernel
theorem dL_observes_448 : decode cL_observes 448 = .ok (.if_icmp .ne 94, 3) := by decide +kernel
theorem dL_observes_451 : decode cL_observes 451 = .ok (.aload_n 0, 1) := by decide +kernel
theorem dL_observes_452 : decode cL_observes 452 = .ok (.iload_n 2, 1) := by decide +kernel
theorem dL_observes_453 : decode cL_observes 453 = .ok (.iload_n 1, 1) := by decide +kernel
theorem dL_observes_454 : decode cL_observes 454 = .ok (.iconst 3, 1) := by decide +kernel
theorem dL_observes_455 : decode cL_observes 455 = .ok (.invokevirtual 53, 3) := by decide +kernel
theorem dL_observes_458 : decode cL_observes 458 = .ok (.iload_n 3, 1) := by decide +kernel
theorem dL_observes_459 : decode cL_observes 459 = .ok (.if_icmp .ne 83, 3) := by decide +kernel
theorem dL_observes_462 : decode cL_observes 462 = .ok (.aload_n 0, 1) := by decide +kernel
theorem dL_observes_463 : decode cL_observes 463 = .ok (.iload_n 2, 1) := by decide +kernel
theorem dL_observes_464 : decode cL_observes 464 = .ok (.iload_n 1, 1) := by decide +kernel
theorem dL_observes_465 : decode cL_observes 465 = .ok (.iconst 4, 1) := by decide +kernel
theorem dL_observes_466 : decode cL_observes 466 = .ok (.invokevirtual 53, 3) := by decide +kernel
theorem dL_observes_469 : decode cL_observes 469 = .ok (.iload 4, 2) := by decide +kernel
theorem dL_observes_471 : decode cL_observes 471 = .ok (.iload_n 3, 1) := by decide +kernel
theorem dL_observes_472 : decode cL_observes 472 = .ok (.iadd, 1) := by decide +kernel
theorem dL_observes_473 : decode cL_observes 473 = .ok (.if_icmp .ne 69, 3) := by decide +kernel
theorem dL_observes_476 : decode cL_observes 476 = .ok (.aload_n 0, 1) := by decide +kernel
theorem dL_observes_477 : decode cL_observes 477 = .ok (.iconst 0, 1) := by decide +kernel
theorem dL_observes_478 : decode cL_observes 478 = .ok (.invokevirtual 49, 3) := by decide +kernel
theorem dL_observes_481 : decode cL_observes 481 = .ok (.iload 4, 2) := by decide +kernel
theorem dL_observes_483 : decode cL_observes 483 = .ok (.iload_n 3, 1) := by decide +kernel
theorem dL_observes_484 : decode cL_observes 484 = .ok (.iadd, 1) := by decide +kernel
theorem dL_observes_485 : decode cL_observes 485 = .ok (.if_icmp .ne 57, 3) := by decide +kernel
theorem dL_observes_488 : decode cL_observes 488 = .ok (.aload_n 0, 1) := by decide +kernel
theorem dL_observes_489 : decode cL_observes 489 = .ok (.bipush 7, 2) := by decide +kernel
theorem dL_observes_491 : decode cL_observes 491 = .ok (.invokevirtual 49, 3) := by decide +kernel
theorem dL_observes_494 : decode cL_observes 494 = .ok (.iload 5, 2) := by decide +kernel
theorem dL_observes_496 : decode cL_observes 496 = .ok (.iload_n 3, 1) := by decide +kernel
theorem dL_observes_497 : decode cL_observes 497 = .ok (.iadd, 1) := by decide +kernel
theorem dL_observes_498 : decode cL_observes 498 = .ok (.if_icmp .ne 44, 3) := by decide +kernel
theorem dL_observes_501 : decode cL_observes 501 = .ok (.aload_n 0, 1) := by decide +kernel
theorem dL_observes_502 : decode cL_observes 502 = .ok (.iconst 5, 1) := by decide +kernel
theorem dL_observes_503 : decode cL_observes 503 = .ok (.invokevirtual 49, 3) := by decide +kernel
theorem dL_observes_506 : decode cL_observes 506 = .ok (.iload 14, 2) := by decide +kernel
theorem dL_observes_508 : decode cL_observes 508 = .ok (.iload 13, 2) := by decide +kernel
theorem dL_observes_510 : decode cL_observes 510 = .ok (.iadd, 1) := by decide +kernel
theorem dL_observes_511 : decode cL_observes 511 = .ok (.if_icmp .ne 31, 3) := by decide +kernel
theorem dL_observes_514 : decode cL_observes 514 = .ok (.aload_n 0, 1) := by decide +kernel
theorem dL_observes_515 : decode cL_observes 515 = .ok (.iload_n 1, 1) := by decide +kernel
theorem dL_observes_516 : decode cL_observes 516 = .ok (.bipush 9, 2) := by decide +kernel
theorem dL_observes_518 : decode cL_observes 518 = .ok (.invokevirtual 22, 3) := by decide +kernel
theorem dL_observes_521 : decode cL_observes 521 = .ok (.iload 9, 2) := by decide +kernel
theorem dL_observes_523 : decode cL_observes 523 = .ok (.if_icmp .ne 19, 3) := by decide +kernel
theorem dL_observes_526 : decode cL_observes 526 = .ok (.aload_n 0, 1) := by decide +kernel
theorem dL_observes_527 : decode cL_observes 527 = .ok (.iload_n 1, 1) := by decide +kernel
theorem dL_observes_528 : decode cL_observes 528 = .ok (.bipush 8, 2) := by decide +kernel
theorem dL_observes_530 : decode cL_observes 530 = .ok (.invokevirtual 22, 3) := by decide +kernel
theorem dL_observes_533 : decode cL_observes 533 = .ok (.iload 8, 2) := by decide +kernel
theorem dL_observes_535 : decode cL_observes 535 = .ok (.if_icmp .ne 7, 3) := by decide +kernel
theorem dL_observes_538 : decode cL_observes 538 = .ok (.iconst 1, 1) := by decide +kernel
theorem dL_observes_539 : decode cL_observes 539 = .ok (.goto 4, 3) := by decide +kernel
theorem dL_observes_542 : decode cL_observes 542 = .ok (.iconst 0, 1) := by decide +kernel
theorem dL_observes_543 : decode cL_observes 543 = .ok (.ireturn, 1) := by decide +kernel
theorem dL_orients_0 : decode cL_orients 0 = .ok (.aload_n 0, 1) := by decide +kernel
theorem dL_orients_1 : decode cL_orients 1 = .ok (.iload_n 1, 1) := by decide +kernel
theorem dL_orients_2 : decode cL_orients 2 = .ok (.iconst 2, 1) := by decide +kernel
theorem dL_orients_3 : decode cL_orients 3 = .ok (.invokevirtual 62, 3) := by decide +kernel
theorem dL_orients_6 : decode cL_orients 6 = .ok (.istore_n 2, 1) := by decide +kernel
theorem dL_orients_7 : decode cL_orients 7 = .ok (.iconst 0, 1) := by decide +kernel
theorem dL_orients_8 : decode cL_orients 8 = .ok (.istore_n 3, 1) := by decide +kernel
theorem dL_orients_9 : decode cL_orients 9 = .ok (.iconst 0, 1) := by decide +kernel
theorem dL_orients_10 : decode cL_orients 10 = .ok (.istore 4, 2) := by decide +kernel
theorem dL_orients_12 : decode cL_orients 12 = .ok (.iload 4, 2) := by decide +kernel
theorem dL_orients_14 : decode cL_orients 14 = .ok (.iconst 2, 1) := by decide +kernel
theorem dL_orients_15 : decode cL_orients 15 = .ok (.if_icmp .ge 108, 3) := by decide +kernel
theorem dL_orients_18 : decode cL_orients 18 = .ok (.iconst 2, 1) := by decide +kernel
theorem dL_orients_19 : decode cL_orients 19 = .ok (.iload 4, 2) := by decide +kernel
theorem dL_orients_21 : decode cL_orients 21 = .ok (.imul, 1) := by decide +kernel
theorem dL_orients_22 : decode cL_orients 22 = .ok (.istore 5, 2) := by decide +kernel
theorem dL_orients_24 : decode cL_orients 24 = .ok (.aload_n 0, 1) := by decide +kernel
theorem dL_orients_25 : decode cL_orients 25 = .ok (.iload 5, 2) := by decide +kernel
theorem dL_orients_27 : decode cL_orients 27 = .ok (.iconst 2, 1) := by decide +kernel
theorem dL_orients_28 : decode cL_orients 28 = .ok (.invokevirtual 22, 3) := by decide +kernel
theorem dL_orients_31 : decode cL_orients 31 = .ok (.ifCond .lt 15, 3) := by decide +kernel
theorem dL_orients_34 : decode cL_orients 34 = .ok (.aload_n 0, 1) := by decide +kernel
theorem dL_orients_35 : decode cL_orients 35 = .ok (.iload 5, 2) := by decide +kernel
theorem dL_orients_37 : decode cL_orients 37 = .ok (.iconst 1, 1) := by decide +kernel
theorem dL_orients_38 : decode cL_orients 38 = .ok (.iadd, 1) := by decide +kernel
theorem dL_orients_39 : decode cL_orients 39 = .ok (.iconst 2, 1) := by decide +kernel
theorem dL_orients_40 : decode cL_orients 40 = .ok (.invokevirtual 22, 3) := by decide +kernel
theorem dL_orients_43 : decode cL_orients 43 = .ok (.ifCond .ge 7, 3) := by decide +kernel
theorem dL_orients_46 : decode cL_orients 46 = .ok (.iconst 1, 1) := by decide +kernel
theorem dL_orients_47 : decode cL_orients 47 = .ok (.goto 46, 3) := by decide +kernel
theorem dL_orients_50 : decode cL_orients 50 = .ok (.aload_n 0, 1) := by decide +kernel
theorem dL_orients_51 : decode cL_orients 51 = .ok (.iload_n 1, 1) := by decide +kernel
theorem dL_orients_52 : decode cL_orients 52 = .ok (.iload 5, 2) := by decide +kernel
theorem dL_orients_54 : decode cL_orients 54 = .ok (.iconst 3, 1) := by decide +kernel
theorem dL_orients_55 : decode cL_orients 55 = .ok (.invokevirtual 53, 3) := by decide +kernel
theorem dL_orients_58 : decode cL_orients 58 = .ok (.ifCond .lt 16, 3) := by decide +kernel
theorem dL_orients_61 : decode cL_orients 61 = .ok (.aload_n 0, 1) := by decide +kernel
theorem dL_orients_62 : decode cL_orients 62 = .ok (.iload_n 1, 1) := by decide +kernel
theorem dL_orients_63 : decode cL_orients 63 = .ok (.iload 5, 2) := by decide +kernel
theorem dL_orients_65 : decode cL_orients 65 = .ok (.iconst 1, 1) := by decide +kernel
theorem dL_orients_66 : decode cL_orients 66 = .ok (.iadd, 1) := by decide +kernel
theorem dL_orients_67 : decode cL_orients 67 = .ok (.iconst 3, 1) := by decide +kernel
theorem dL_orients_68 : decode cL_orients 68 = .ok (.invokevirtual 53, 3) := by decide +kernel
theorem dL_orients_71 : decode cL_orients 71 = .ok (.ifCond .ge 7, 3) := by decide +kernel
theorem dL_orients_74 : decode cL_orients 74 = .ok (.iconst 3, 1) := by decide +kernel
theorem dL_orients_75 : decode cL_orients 75 = .ok (.goto 18, 3) := by decide +kernel
theorem dL_orients_78 : decode cL_orients 78 = .ok (.aload_n 0, 1) := by decide +kernel
theorem dL_orients_79 : decode cL_orients 79 = .ok (.iload_n 1, 1) := by decide +kernel
theorem dL_orients_80 : decode cL_orients 80 = .ok (.iload 4, 2) := by decide +kernel
theorem dL_orients_82 : decode cL_orients 82 = .ok (.invokevirtual 59, 3) := by decide +kernel
theorem dL_orients_85 : decode cL_orients 85 = .ok (.ifCond .ge 7, 3) := by decide +kernel
theorem dL_orients_88 : decode cL_orients 88 = .ok (.iconst 4, 1) := by decide +kernel
theorem dL_orients_89 : decode cL_orients 89 = .ok (.goto 4, 3) := by decide +kernel
theorem dL_orients_92 : decode cL_orients 92 = .ok (.iconst 0, 1) := by decide +kernel
theorem dL_orients_93 : decode cL_orients 93 = .ok (.istore 6, 2) := by decide +kernel
theorem dL_orients_95 : decode cL_orients 95 = .ok (.iload 6, 2) := by decide +kernel
theorem dL_orients_97 : decode cL_orients 97 = .ok (.ifCond .le 18, 3) := by decide +kernel
theorem dL_orients_100 : decode cL_orients 100 = .ok (.iload_n 3, 1) := by decide +kernel
theorem dL_orients_101 : decode cL_orients 101 = .ok (.ifCond .eq 9, 3) := by decide +kernel
theorem dL_orients_104 : decode cL_orients 104 = .ok (.iload 6, 2) := by decide +kernel
theorem dL_orients_106 : decode cL_orients 106 = .ok (.iload_n 3, 1) := by decide +kernel
theorem dL_orients_107 : decode cL_orients 107 = .ok (.if_icmp .ge 8, 3) := by decide +kernel
theorem dL_orients_110 : decode cL_orients 110 = .ok (.iload 6, 2) := by decide +kernel
theorem dL_orients_112 : decode cL_orients 112 = .ok (.goto 4, 3) := by decide +kernel
theorem dL_orients_115 : decode cL_orients 115 = .ok (.iload_n 3, 1) := by decide +kernel
theorem dL_orients_116 : decode cL_orients 116 = .ok (.istore_n 3, 1) := by decide +kernel
theorem dL_orients_117 : decode cL_orients 117 = .ok (.iinc 4 1, 3) := by decide +kernel
theorem dL_orients_120 : decode cL_orients 120 = .ok (.goto (-108), 3) := by decide +kernel
theorem dL_orients_123 : decode cL_orients 123 = .ok (.aload_n 0, 1) := by decide +kernel
theorem dL_orients_124 : decode cL_orients 124 = .ok (.iload_n 1, 1) := by decide +kernel
theorem dL_orients_125 : decode cL_orients 125 = .ok (.iconst 0, 1) := by decide +kernel
theorem dL_orients_126 : decode cL_orients 126 = .ok (.invokevirtual 59, 3) := by decide +kernel
theorem dL_orients_129 : decode cL_orients 129 = .ok (.istore 4, 2) := by decide +kernel
theorem dL_orients_131 : decode cL_orients 131 = .ok (.aload_n 0, 1) := by decide +kernel
theorem dL_orients_132 : decode cL_orients 132 = .ok (.iload_n 1, 1) := by decide +kernel
theorem dL_orients_133 : decode cL_orients 133 = .ok (.iconst 1, 1) := by decide +kernel
theorem dL_orients_134 : decode cL_orients 134 = .ok (.invokevirtual 59, 3) := by decide +kernel
theorem dL_orients_137 : decode cL_orients 137 = .ok (.iload 4, 2) := by decide +kernel
theorem dL_orients_139 : decode cL_orients 139 = .ok (.isub, 1) := by decide +kernel
theorem dL_orients_140 : decode cL_orients 140 = .ok (.sipush 4000, 3) := by decide +kernel
theorem dL_orients_143 : decode cL_orients 143 = .ok (.iadd, 1) := by decide +kernel
theorem dL_orients_144 : decode cL_orients 144 = .ok (.invokestatic 65, 3) := by decide +kernel
theorem dL_orients_147 : decode cL_orients 147 = .ok (.sipush 4000, 3) := by decide +kernel
theorem dL_orients_150 : decode cL_orients 150 = .ok (.isub, 1) := by decide +kernel
theorem dL_orients_151 : decode cL_orients 151 = .ok (.istore 5, 2) := by decide +kernel
theorem dL_orients_153 : decode cL_orients 153 = .ok (.iload_n 3, 1) := by decide +kernel
theorem dL_orients_154 : decode cL_orients 154 = .ok (.ifCond .ne 21, 3) := by decide +kernel
theorem dL_orients_157 : decode cL_orients 157 = .ok (.iload 5, 2) := by decide +kernel
theorem dL_orients_159 : decode cL_orients 159 = .ok (.invokestatic 16, 3) := by decide +kernel
theorem dL_orients_162 : decode cL_orients 162 = .ok (.aload_n 0, 1) := by decide +kernel
theorem dL_orients_163 : decode cL_orients 163 = .ok (.bipush 6, 2) := by decide +kernel
theorem dL_orients_165 : decode cL_orients 165 = .ok (.invokevirtual 49, 3) := by decide +kernel
theorem dL_orients_168 : decode cL_orients 168 = .ok (.if_icmp .le 7, 3) := by decide +kernel
theorem dL_orients_171 : decode cL_orients 171 = .ok (.iconst 5, 1) := by decide +kernel
theorem dL_orients_172 : decode cL_orients 172 = .ok (.goto 4, 3) := by decide +kernel
theorem dL_orients_175 : decode cL_orients 175 = .ok (.iload_n 3, 1) := by decide +kernel
theorem dL_orients_176 : decode cL_orients 176 = .ok (.istore_n 3, 1) := by decide +kernel
theorem dL_orients_177 : decode cL_orients 177 = .ok (.aload_n 0, 1) := by decide +kernel
theorem dL_orients_178 : decode cL_orients 178 = .ok (.iload_n 1, 1) := by decide +kernel
theorem dL_orients_179 : decode cL_orients 179 = .ok (.invokevirtual 75, 3) := by decide +kernel
theorem dL_orients_182 : decode cL_orients 182 = .ok (.istore 6, 2) := by decide +kernel
theorem dL_orients_184 : decode cL_orients 184 = .ok (.iload_n 3, 1) := by decide +kernel
theorem dL_orients_185 : decode cL_orients 185 = .ok (.ifCond .le 36, 3) := by decide +kernel
theorem dL_orients_188 : decode cL_orients 188 = .ok (.iload 6, 2) := by decide +kernel
theorem dL_orients_190 : decode cL_orients 190 = .ok (.ldc 74, 2) := by decide +kernel
theorem dL_orients_192 : decode cL_orients 192 = .ok (.if_icmp .ne 27, 3) := by decide +kernel
theorem dL_orients_195 : decode cL_orients 195 = .ok (.aload_n 0, 1) := by decide +kernel
theorem dL_orients_196 : decode cL_orients 196 = .ok (.bipush 8, 2) := by decide +kernel
theorem dL_orients_198 : decode cL_orients 198 = .ok (.invokevirtual 49, 3) := by decide +kernel
theorem dL_orients_201 : decode cL_orients 201 = .ok (.iload_n 3, 1) := by decide +kernel
theorem dL_orients_202 : decode cL_orients 202 = .ok (.if_icmp .ne 17, 3) := by decide +kernel
theorem dL_orients_205 : decode cL_orients 205 = .ok (.aload_n 0, 1) := by decide +kernel
theorem dL_orients_206 : decode cL_orients 206 = .ok (.iload_n 1, 1) := by decide +kernel
theorem dL_orients_207 : decode cL_orients 207 = .ok (.iconst 2, 1) := by decide +kernel
theorem dL_orients_208 : decode cL_orients 208 = .ok (.invokevirtual 62, 3) := by decide +kernel
theorem dL_orients_211 : decode cL_orients 211 = .ok (.iload_n 2, 1) := by decide +kernel
theorem dL_orients_212 : decode cL_orients 212 = .ok (.if_icmp .ne 7, 3) := by decide +kernel
theorem dL_orients_215 : decode cL_orients 215 = .ok (.iconst 1, 1) := by decide +kernel
theorem dL_orients_216 : decode cL_orients 216 = .ok (.goto 4, 3) := by decide +kernel
theorem dL_orients_219 : decode cL_orients 219 = .ok (.iconst 0, 1) := by decide +kernel
theorem dL_orients_220 : decode cL_orients 220 = .ok (.ireturn, 1) := by decide +kernel
theorem dL_orients_221 : decode cL_orients 221 = .ok (.iload 5, 2) := by decide +kernel
theorem dL_orients_223 : decode cL_orients 223 = .ok (.ifCond .ge 13, 3) := by decide +kernel
theorem dL_orients_226 : decode cL_orients 226 = .ok (.iconst 1, 1) := by decide +kernel
theorem dL_orients_227 : decode cL_orients 227 = .ok (.iload 5, 2) := by decide +kernel
theorem dL_orients_229 : decode cL_orients 229 = .ok (.isub, 1) := by decide +kernel
theorem dL_orients_230 : decode cL_orients 230 = .ok (.iconst 2, 1) := by decide +kernel
theorem dL_orients_231 : decode cL_orients 231 = .ok (.idiv, 1) := by decide +kernel
theorem dL_orients_232 : decode cL_orients 232 = .ok (.ineg, 1) := by decide +kernel
theorem dL_orients_233 : decode cL_orients 233 = .ok (.goto 7, 3) := by decide +kernel
theorem dL_orients_236 : decode cL_orients 236 = .ok (.iload 5, 2) := by decide +kernel
theorem dL_orients_238 : decode cL_orients 238 = .ok (.iconst 2, 1) := by decide +kernel
theorem dL_orients_239 : decode cL_orients 239 = .ok (.idiv, 1) := by decide +kernel
theorem dL_orients_240 : decode cL_orients 240 = .ok (.istore 7, 2) := by decide +kernel
theorem dL_orients_242 : decode cL_orients 242 = .ok (.iload 6, 2) := by decide +kernel
theorem dL_orients_244 : decode cL_orients 244 = .ok (.iload 4, 2) := by decide +kernel
theorem dL_orients_246 : decode cL_orients 246 = .ok (.iload 7, 2) := by decide +kernel
theorem dL_orients_248 : decode cL_orients 248 = .ok (.iadd, 1) := by decide +kernel
theorem dL_orients_249 : decode cL_orients 249 = .ok (.invokestatic 65, 3) := by decide +kernel
theorem dL_orients_252 : decode cL_orients 252 = .ok (.if_icmp .ne 18, 3) := by decide +kernel
theorem dL_orients_255 : decode cL_orients 255 = .ok (.aload_n 0, 1) := by decide +kernel
theorem dL_orients_256 : decode cL_orients 256 = .ok (.iload_n 1, 1) := by decide +kernel
theorem dL_orients_257 : decode cL_orients 257 = .ok (.iconst 2, 1) := by decide +kernel
theorem dL_orients_258 : decode cL_orients 258 = .ok (.invokevirtual 62, 3) := by decide +kernel
theorem dL_orients_261 : decode cL_orients 261 = .ok (.iload 6, 2) := by decide +kernel
theorem dL_orients_263 : decode cL_orients 263 = .ok (.if_icmp .ne 7, 3) := by decide +kernel
theorem dL_orients_266 : decode cL_orients 266 = .ok (.iconst 1, 1) := by decide +kernel
theorem dL_orients_267 : decode cL_orients 267 = .ok (.goto 4, 3) := by decide +kernel
theorem dL_orients_270 : decode cL_orients 270 = .ok (.iconst 0, 1) := by decide +kernel
theorem dL_orients_271 : decode cL_orients 271 = .ok (.ireturn, 1) := by decide +kernel
theorem dL_swaps_0 : decode cL_swaps 0 = .ok (.aload_n 0, 1) := by decide +kernel
theorem dL_swaps_1 : decode cL_swaps 1 = .ok (.iload_n 1, 1) := by decide +kernel
theorem dL_swaps_2 : decode cL_swaps 2 = .ok (.iconst 2, 1) := by decide +kernel
theorem dL_swaps_3 : decode cL_swaps 3 = .ok (.invokevirtual 22, 3) := by decide +kernel
theorem dL_swaps_6 : decode cL_swaps 6 = .ok (.ifCond .le 16, 3) := by decide +kernel
theorem dL_swaps_9 : decode cL_swaps 9 = .ok (.aload_n 0, 1) := by decide +kernel
theorem dL_swaps_10 : decode cL_swaps 10 = .ok (.iload_n 2, 1) := by decide +kernel
theorem dL_swaps_11 : decode cL_swaps 11 = .ok (.iconst 2, 1) := by decide +kernel
theorem dL_swaps_12 : decode cL_swaps 12 = .ok (.invokevirtual 22, 3) := by decide +kernel
theorem dL_swaps_15 : decode cL_swaps 15 = .ok (.ifCond .le 7, 3) := by decide +kernel
theorem dL_swaps_18 : decode cL_swaps 18 = .ok (.iconst 1, 1) := by decide +kernel
theorem dL_swaps_19 : decode cL_swaps 19 = .ok (.goto 4, 3) := by decide +kernel
theorem dL_swaps_22 : decode cL_swaps 22 = .ok (.iconst 0, 1) := by decide +kernel
theorem dL_swaps_23 : decode cL_swaps 23 = .ok (.istore_n 3, 1) := by decide +kernel
theorem dL_swaps_24 : decode cL_swaps 24 = .ok (.aload_n 0, 1) := by decide +kernel
theorem dL_swaps_25 : decode cL_swaps 25 = .ok (.iload_n 1, 1) := by decide +kernel
theorem dL_swaps_26 : decode cL_swaps 26 = .ok (.iconst 0, 1) := by decide +kernel
theorem dL_swaps_27 : decode cL_swaps 27 = .ok (.invokevirtual 22, 3) := by decide +kernel
theorem dL_swaps_30 : decode cL_swaps 30 = .ok (.istore 4, 2) := by decide +kernel
theorem dL_swaps_32 : decode cL_swaps 32 = .ok (.aload_n 0, 1) := by decide +kernel
theorem dL_swaps_33 : decode cL_swaps 33 = .ok (.iload_n 2, 1) := by decide +kernel
theorem dL_swaps_34 : decode cL_swaps 34 = .ok (.iconst 1, 1) := by decide +kernel
theorem dL_swaps_35 : decode cL_swaps 35 = .ok (.invokevirtual 22, 3) := by decide +kernel
theorem dL_swaps_38 : decode cL_swaps 38 = .ok (.istore 5, 2) := by decide +kernel
theorem dL_swaps_40 : decode cL_swaps 40 = .ok (.aload_n 0, 1) := by decide +kernel
theorem dL_swaps_41 : decode cL_swaps 41 = .ok (.iload_n 1, 1) := by decide +kernel
theorem dL_swaps_42 : decode cL_swaps 42 = .ok (.iconst 2, 1) := by decide +kernel
theorem dL_swaps_43 : decode cL_swaps 43 = .ok (.invokevirtual 22, 3) := by decide +kernel
theorem dL_swaps_46 : decode cL_swaps 46 = .ok (.istore 6, 2) := by decide +kernel
theorem dL_swaps_48 : decode cL_swaps 48 = .ok (.iconst 0, 1) := by decide +kernel
theorem dL_swaps_49 : decode cL_swaps 49 = .ok (.istore 7, 2) := by decide +kernel
theorem dL_swaps_51 : decode cL_swaps 51 = .ok (.aload_n 0, 1) := by decide +kernel
theorem dL_swaps_52 : decode cL_swaps 52 = .ok (.iconst 5, 1) := by decide +kernel
theorem dL_swaps_53 : decode cL_swaps 53 = .ok (.invokevirtual 49, 3) := by decide +kernel
theorem dL_swaps_56 : decode cL_swaps 56 = .ok (.istore 8, 2) := by decide +kernel
theorem dL_swaps_58 : decode cL_swaps 58 = .ok (.iconst 0, 1) := by decide +kernel
theorem dL_swaps_59 : decode cL_swaps 59 = .ok (.istore 9, 2) := by decide +kernel
theorem dL_swaps_61 : decode cL_swaps 61 = .ok (.iload 9, 2) := by decide +kernel
theorem dL_swaps_63 : decode cL_swaps 63 = .ok (.aload_n 0, 1) := by decide +kernel
theorem dL_swaps_64 : decode cL_swaps 64 = .ok (.iconst 3, 1) := by decide +kernel
theorem dL_swaps_65 : decode cL_swaps 65 = .ok (.invokevirtual 49, 3) := by decide +kernel
theorem dL_swaps_68 : decode cL_swaps 68 = .ok (.if_icmp .ge 47, 3) := by decide +kernel
theorem dL_swaps_71 : decode cL_swaps 71 = .ok (.iload 7, 2) := by decide +kernel
theorem dL_swaps_73 : decode cL_swaps 73 = .ok (.aload_n 0, 1) := by decide +kernel
theorem dL_swaps_74 : decode cL_swaps 74 = .ok (.iload 9, 2) := by decide +kernel
theorem dL_swaps_76 : decode cL_swaps 76 = .ok (.iload_n 1, 1) := by decide +kernel
theorem dL_swaps_77 : decode cL_swaps 77 = .ok (.iconst 3, 1) := by decide +kernel
theorem dL_swaps_78 : decode cL_swaps 78 = .ok (.invokevirtual 53, 3) := by decide +kernel
theorem dL_swaps_81 : decode cL_swaps 81 = .ok (.ifCond .lt 7, 3) := by decide +kernel
theorem dL_swaps_84 : decode cL_swaps 84 = .ok (.iconst 1, 1) := by decide +kernel
theorem dL_swaps_85 : decode cL_swaps 85 = .ok (.goto 4, 3) := by decide +kernel
theorem dL_swaps_88 : decode cL_swaps 88 = .ok (.iconst 0, 1) := by decide +kernel
theorem dL_swaps_89 : decode cL_swaps 89 = .ok (.aload_n 0, 1) := by decide +kernel
theorem dL_swaps_90 : decode cL_swaps 90 = .ok (.iload 9, 2) := by decide +kernel
theorem dL_swaps_92 : decode cL_swaps 92 = .ok (.iload_n 2, 1) := by decide +kernel
theorem dL_swaps_93 : decode cL_swaps 93 = .ok (.iconst 3, 1) := by decide +kernel
theorem dL_swaps_94 : decode cL_swaps 94 = .ok (.invokevirtual 53, 3) := by decide +kernel
theorem dL_swaps_97 : decode cL_swaps 97 = .ok (.ifCond .lt 7, 3) := by decide +kernel
theorem dL_swaps_100 : decode cL_swaps 100 = .ok (.iconst 1, 1) := by decide +kernel
theorem dL_swaps_101 : decode cL_swaps 101 = .ok (.goto 4, 3) := by decide +kernel
theorem dL_swaps_104 : decode cL_swaps 104 = .ok (.iconst 0, 1) := by decide +kernel
theorem dL_swaps_105 : decode cL_swaps 105 = .ok (.iadd, 1) := by decide +kernel
theorem dL_swaps_106 : decode cL_swaps 106 = .ok (.iadd, 1) := by decide +kernel
theorem dL_swaps_107 : decode cL_swaps 107 = .ok (.istore 7, 2) := by decide +kernel
theorem dL_swaps_109 : decode cL_swaps 109 = .ok (.iinc 9 1, 3) := by decide +kernel
theorem dL_swaps_112 : decode cL_swaps 112 = .ok (.goto (-51), 3) := by decide +kernel
theorem dL_swaps_115 : decode cL_swaps 115 = .ok (.aload_n 0, 1) := by decide +kernel
theorem dL_swaps_116 : decode cL_swaps 116 = .ok (.iload_n 1, 1) := by decide +kernel
theorem dL_swaps_117 : decode cL_swaps 117 = .ok (.iload_n 2, 1) := by decide +kernel
theorem dL_swaps_118 : decode cL_swaps 118 = .ok (.invokevirtual 78, 3) := by decide +kernel
theorem dL_swaps_121 : decode cL_swaps 121 = .ok (.istore 9, 2) := by decide +kernel
theorem dL_swaps_123 : decode cL_swaps 123 = .ok (.iload_n 1, 1) := by decide +kernel
theorem dL_swaps_124 : decode cL_swaps 124 = .ok (.iload_n 2, 1) := by decide +kernel
theorem dL_swaps_125 : decode cL_swaps 125 = .ok (.if_icmp .eq 7, 3) := by decide +kernel
theorem dL_swaps_128 : decode cL_swaps 128 = .ok (.iload_n 3, 1) := by decide +kernel
theorem dL_swaps_129 : decode cL_swaps 129 = .ok (.ifCond .ne 36, 3) := by decide +kernel
theorem dL_swaps_132 : decode cL_swaps 132 = .ok (.iload 9, 2) := by decide +kernel
theorem dL_swaps_134 : decode cL_swaps 134 = .ok (.iload_n 1, 1) := by decide +kernel
theorem dL_swaps_135 : decode cL_swaps 135 = .ok (.iload_n 2, 1) := by decide +kernel
theorem dL_swaps_136 : decode cL_swaps 136 = .ok (.if_icmp .ne 8, 3) := by decide +kernel
theorem dL_swaps_139 : decode cL_swaps 139 = .ok (.ldc 15, 2) := by decide +kernel
theorem dL_swaps_141 : decode cL_swaps 141 = .ok (.goto 5, 3) := by decide +kernel
theorem dL_swaps_144 : decode cL_swaps 144 = .ok (.ldc 74, 2) := by decide +kernel
theorem dL_swaps_146 : decode cL_swaps 146 = .ok (.if_icmp .ne 17, 3) := by decide +kernel
theorem dL_swaps_149 : decode cL_swaps 149 = .ok (.aload_n 0, 1) := by decide +kernel
theorem dL_swaps_150 : decode cL_swaps 150 = .ok (.iconst 5, 1) := by decide +kernel
theorem dL_swaps_151 : decode cL_swaps 151 = .ok (.invokevirtual 49, 3) := by decide +kernel
theorem dL_swaps_154 : decode cL_swaps 154 = .ok (.iload 8, 2) := by decide +kernel
theorem dL_swaps_156 : decode cL_swaps 156 = .ok (.if_icmp .ne 7, 3) := by decide +kernel
theorem dL_swaps_159 : decode cL_swaps 159 = .ok (.iconst 1, 1) := by decide +kernel
theorem dL_swaps_160 : decode cL_swaps 160 = .ok (.goto 4, 3) := by decide +kernel
theorem dL_swaps_163 : decode cL_swaps 163 = .ok (.iconst 0, 1) := by decide +kernel
theorem dL_swaps_164 : decode cL_swaps 164 = .ok (.ireturn, 1) := by decide +kernel
theorem dL_swaps_165 : decode cL_swaps 165 = .ok (.iload 9, 2) := by decide +kernel
theorem dL_swaps_167 : decode cL_swaps 167 = .ok (.iload 7, 2) := by decide +kernel
theorem dL_swaps_169 : decode cL_swaps 169 = .ok (.if_icmp .ne 93, 3) := by decide +kernel
theorem dL_swaps_172 : decode cL_swaps 172 = .ok (.aload_n 0, 1) := by decide +kernel
theorem dL_swaps_173 : decode cL_swaps 173 = .ok (.iconst 5, 1) := by decide +kernel
theorem dL_swaps_174 : decode cL_swaps 174 = .ok (.invokevirtual 49, 3) := by decide +kernel
theorem dL_swaps_177 : decode cL_swaps 177 = .ok (.iload 8, 2) := by decide +kernel
theorem dL_swaps_179 : decode cL_swaps 179 = .ok (.iload 7, 2) := by decide +kernel
theorem dL_swaps_181 : decode cL_swaps 181 = .ok (.isub, 1) := by decide +kernel
theorem dL_swaps_182 : decode cL_swaps 182 = .ok (.if_icmp .ne 80, 3) := by decide +kernel
theorem dL_swaps_185 : decode cL_swaps 185 = .ok (.aload_n 0, 1) := by decide +kernel
theorem dL_swaps_186 : decode cL_swaps 186 = .ok (.iload_n 2, 1) := by decide +kernel
theorem dL_swaps_187 : decode cL_swaps 187 = .ok (.iconst 0, 1) := by decide +kernel
theorem dL_swaps_188 : decode cL_swaps 188 = .ok (.invokevirtual 22, 3) := by decide +kernel
theorem dL_swaps_191 : decode cL_swaps 191 = .ok (.iload 4, 2) := by decide +kernel
theorem dL_swaps_193 : decode cL_swaps 193 = .ok (.if_icmp .ne 69, 3) := by decide +kernel
theorem dL_swaps_196 : decode cL_swaps 196 = .ok (.aload_n 0, 1) := by decide +kernel
theorem dL_swaps_197 : decode cL_swaps 197 = .ok (.iload_n 1, 1) := by decide +kernel
theorem dL_swaps_198 : decode cL_swaps 198 = .ok (.iconst 1, 1) := by decide +kernel
theorem dL_swaps_199 : decode cL_swaps 199 = .ok (.invokevirtual 22, 3) := by decide +kernel
theorem dL_swaps_202 : decode cL_swaps 202 = .ok (.iload 5, 2) := by decide +kernel
theorem dL_swaps_204 : decode cL_swaps 204 = .ok (.if_icmp .ne 58, 3) := by decide +kernel
theorem dL_swaps_207 : decode cL_swaps 207 = .ok (.aload_n 0, 1) := by decide +kernel
theorem dL_swaps_208 : decode cL_swaps 208 = .ok (.iload_n 1, 1) := by decide +kernel
theorem dL_swaps_209 : decode cL_swaps 209 = .ok (.iconst 2, 1) := by decide +kernel
theorem dL_swaps_210 : decode cL_swaps 210 = .ok (.invokevirtual 22, 3) := by decide +kernel
theorem dL_swaps_213 : decode cL_swaps 213 = .ok (.iload 6, 2) := by decide +kernel
theorem dL_swaps_215 : decode cL_swaps 215 = .ok (.if_icmp .ne 47, 3) := by decide +kernel
theorem dL_swaps_218 : decode cL_swaps 218 = .ok (.aload_n 0, 1) := by decide +kernel
theorem dL_swaps_219 : decode cL_swaps 219 = .ok (.iload_n 1, 1) := by decide +kernel
theorem dL_swaps_220 : decode cL_swaps 220 = .ok (.bipush 8, 2) := by decide +kernel
theorem dL_swaps_222 : decode cL_swaps 222 = .ok (.invokevirtual 22, 3) := by decide +kernel
theorem dL_swaps_225 : decode cL_swaps 225 = .ok (.ifCond .ne 37, 3) := by decide +kernel
theorem dL_swaps_228 : decode cL_swaps 228 = .ok (.aload_n 0, 1) := by decide +kernel
theorem dL_swaps_229 : decode cL_swaps 229 = .ok (.iload_n 2, 1) := by decide +kernel
theorem dL_swaps_230 : decode cL_swaps 230 = .ok (.bipush 8, 2) := by decide +kernel
theorem dL_swaps_232 : decode cL_swaps 232 = .ok (.invokevirtual 22, 3) := by decide +kernel
theorem dL_swaps_235 : decode cL_swaps 235 = .ok (.ifCond .ne 27, 3) := by decide +kernel
theorem dL_swaps_238 : decode cL_swaps 238 = .ok (.aload_n 0, 1) := by decide +kernel
theorem dL_swaps_239 : decode cL_swaps 239 = .ok (.iload_n 1, 1) := by decide +kernel
theorem dL_swaps_240 : decode cL_swaps 240 = .ok (.bipush 9, 2) := by decide +kernel
theorem dL_swaps_242 : decode cL_swaps 242 = .ok (.invokevirtual 22, 3) := by decide +kernel
theorem dL_swaps_245 : decode cL_swaps 245 = .ok (.ifCond .ne 17, 3) := by decide +kernel
theorem dL_swaps_248 : decode cL_swaps 248 = .ok (.aload_n 0, 1) := by decide +kernel
theorem dL_swaps_249 : decode cL_swaps 249 = .ok (.iload_n 2, 1) := by decide +kernel
theorem dL_swaps_250 : decode cL_swaps 250 = .ok (.bipush 9, 2) := by decide +kernel
theorem dL_swaps_252 : decode cL_swaps 252 = .ok (.invokevirtual 22, 3) := by decide +kernel
theorem dL_swaps_255 : decode cL_swaps 255 = .ok (.ifCond .ne 7, 3) := by decide +kernel
theorem dL_swaps_258 : decode cL_swaps 258 = .ok (.iconst 1, 1) := by decide +kernel
theorem dL_swaps_259 : decode cL_swaps 259 = .ok (.goto 4, 3) := by decide +kernel
theorem dL_swaps_262 : decode cL_swaps 262 = .ok (.iconst 0, 1) := by decide +kernel
theorem dL_swaps_263 : decode cL_swaps 263 = .ok (.ireturn, 1) := by decide +kernel
theorem dL_errors_0 : decode cL_errors 0 = .ok (.ldc 52, 2) := by decide +kernel
theorem dL_errors_2 : decode cL_errors 2 = .ok (.istore_n 1, 1) := by decide +kernel
theorem dL_errors_3 : decode cL_errors 3 = .ok (.ldc 15, 2) := by decide +kernel
theorem dL_errors_5 : decode cL_errors 5 = .ok (.istore_n 2, 1) := by decide +kernel
theorem dL_errors_6 : decode cL_errors 6 = .ok (.aload_n 0, 1) := by decide +kernel
theorem dL_errors_7 : decode cL_errors 7 = .ok (.iconst 3, 1) := by decide +kernel
theorem dL_errors_8 : decode cL_errors 8 = .ok (.invokevirtual 49, 3) := by decide +kernel
theorem dL_errors_11 : decode cL_errors 11 = .ok (.istore_n 3, 1) := by decide +kernel
theorem dL_errors_12 : decode cL_errors 12 = .ok (.aload_n 0, 1) := by decide +kernel
theorem dL_errors_13 : decode cL_errors 13 = .ok (.iconst 4, 1) := by decide +kernel
theorem dL_errors_14 : decode cL_errors 14 = .ok (.iconst 0, 1) := by decide +kernel
theorem dL_errors_15 : decode cL_errors 15 = .ok (.iconst 0, 1) := by decide +kernel
theorem dL_errors_16 : decode cL_errors 16 = .ok (.iconst 1, 1) := by decide +kernel
theorem dL_errors_17 : decode cL_errors 17 = .ok (.bipush 10, 2) := by decide +kernel
theorem dL_errors_19 : decode cL_errors 19 = .ok (.invokevirtual 81, 3) := by decide +kernel
theorem dL_errors_22 : decode cL_errors 22 = .ok (.iload_n 1, 1) := by decide +kernel
theorem dL_errors_23 : decode cL_errors 23 = .ok (.if_icmp .ne 143, 3) := by decide +kernel
theorem dL_errors_26 : decode cL_errors 26 = .ok (.aload_n 0, 1) := by decide +kernel
theorem dL_errors_27 : decode cL_errors 27 = .ok (.iconst 0, 1) := by decide +kernel
theorem dL_errors_28 : decode cL_errors 28 = .ok (.sipush 5001, 3) := by decide +kernel
theorem dL_errors_31 : decode cL_errors 31 = .ok (.iconst 0, 1) := by decide +kernel
theorem dL_errors_32 : decode cL_errors 32 = .ok (.iconst 1, 1) := by decide +kernel
theorem dL_errors_33 : decode cL_errors 33 = .ok (.bipush 10, 2) := by decide +kernel
theorem dL_errors_35 : decode cL_errors 35 = .ok (.invokevirtual 81, 3) := by decide +kernel
theorem dL_errors_38 : decode cL_errors 38 = .ok (.iload_n 2, 1) := by decide +kernel
theorem dL_errors_39 : decode cL_errors 39 = .ok (.if_icmp .ne 127, 3) := by decide +kernel
theorem dL_errors_42 : decode cL_errors 42 = .ok (.aload_n 0, 1) := by decide +kernel
theorem dL_errors_43 : decode cL_errors 43 = .ok (.iconst 0, 1) := by decide +kernel
theorem dL_errors_44 : decode cL_errors 44 = .ok (.iconst 0, 1) := by decide +kernel
theorem dL_errors_45 : decode cL_errors 45 = .ok (.iconst 0, 1) := by decide +kernel
theorem dL_errors_46 : decode cL_errors 46 = .ok (.iconst 0, 1) := by decide +kernel
theorem dL_errors_47 : decode cL_errors 47 = .ok (.bipush 10, 2) := by decide +kernel
theorem dL_errors_49 : decode cL_errors 49 = .ok (.invokevirtual 81, 3) := by decide +kernel
theorem dL_errors_52 : decode cL_errors 52 = .ok (.iload_n 2, 1) := by decide +kernel
theorem dL_errors_53 : decode cL_errors 53 = .ok (.if_icmp .ne 113, 3) := by decide +kernel
theorem dL_errors_56 : decode cL_errors 56 = .ok (.aload_n 0, 1) := by decide +kernel
theorem dL_errors_57 : decode cL_errors 57 = .ok (.iconst 0, 1) := by decide +kernel
theorem dL_errors_58 : decode cL_errors 58 = .ok (.iconst 0, 1) := by decide +kernel
theorem dL_errors_59 : decode cL_errors 59 = .ok (.iconst 0, 1) := by decide +kernel
theorem dL_errors_60 : decode cL_errors 60 = .ok (.iconst 1, 1) := by decide +kernel
theorem dL_errors_61 : decode cL_errors 61 = .ok (.sipush 801, 3) := by decide +kernel
theorem dL_errors_64 : decode cL_errors 64 = .ok (.invokevirtual 81, 3) := by decide +kernel
theorem dL_errors_67 : decode cL_errors 67 = .ok (.iload_n 2, 1) := by decide +kernel
theorem dL_errors_68 : decode cL_errors 68 = .ok (.if_icmp .ne 98, 3) := by decide +kernel
theorem dL_errors_71 : decode cL_errors 71 = .ok (.aload_n 0, 1) := by decide +kernel
theorem dL_errors_72 : decode cL_errors 72 = .ok (.iconst 0, 1) := by decide +kernel
theorem dL_errors_73 : decode cL_errors 73 = .ok (.iconst 0, 1) := by decide +kernel
theorem dL_errors_74 : decode cL_errors 74 = .ok (.iconst 0, 1) := by decide +kernel
theorem dL_errors_75 : decode cL_errors 75 = .ok (.iconst 1, 1) := by decide +kernel
theorem dL_errors_76 : decode cL_errors 76 = .ok (.bipush 9, 2) := by decide +kernel
theorem dL_errors_78 : decode cL_errors 78 = .ok (.invokevirtual 81, 3) := by decide +kernel
theorem dL_errors_81 : decode cL_errors 81 = .ok (.iload_n 2, 1) := by decide +kernel
theorem dL_errors_82 : decode cL_errors 82 = .ok (.if_icmp .ne 84, 3) := by decide +kernel
theorem dL_errors_85 : decode cL_errors 85 = .ok (.aload_n 0, 1) := by decide +kernel
theorem dL_errors_86 : decode cL_errors 86 = .ok (.iconst (-1), 1) := by decide +kernel
theorem dL_errors_87 : decode cL_errors 87 = .ok (.invokevirtual 85, 3) := by decide +kernel
theorem dL_errors_90 : decode cL_errors 90 = .ok (.iload_n 1, 1) := by decide +kernel
theorem dL_errors_91 : decode cL_errors 91 = .ok (.if_icmp .ne 75, 3) := by decide +kernel
theorem dL_errors_94 : decode cL_errors 94 = .ok (.aload_n 0, 1) := by decide +kernel
theorem dL_errors_95 : decode cL_errors 95 = .ok (.iconst 4, 1) := by decide +kernel
theorem dL_errors_96 : decode cL_errors 96 = .ok (.iconst 0, 1) := by decide +kernel
theorem dL_errors_97 : decode cL_errors 97 = .ok (.iconst 0, 1) := by decide +kernel
theorem dL_errors_98 : decode cL_errors 98 = .ok (.invokevirtual 88, 3) := by decide +kernel
theorem dL_errors_101 : decode cL_errors 101 = .ok (.iload_n 1, 1) := by decide +kernel
theorem dL_errors_102 : decode cL_errors 102 = .ok (.if_icmp .ne 64, 3) := by decide +kernel
theorem dL_errors_105 : decode cL_errors 105 = .ok (.aload_n 0, 1) := by decide +kernel
theorem dL_errors_106 : decode cL_errors 106 = .ok (.iconst 0, 1) := by decide +kernel
theorem dL_errors_107 : decode cL_errors 107 = .ok (.bipush 21, 2) := by decide +kernel
theorem dL_errors_109 : decode cL_errors 109 = .ok (.iconst 0, 1) := by decide +kernel
theorem dL_errors_110 : decode cL_errors 110 = .ok (.invokevirtual 88, 3) := by decide +kernel
theorem dL_errors_113 : decode cL_errors 113 = .ok (.iload_n 2, 1) := by decide +kernel
theorem dL_errors_114 : decode cL_errors 114 = .ok (.if_icmp .ne 52, 3) := by decide +kernel
theorem dL_errors_117 : decode cL_errors 117 = .ok (.aload_n 0, 1) := by decide +kernel
theorem dL_errors_118 : decode cL_errors 118 = .ok (.iconst 0, 1) := by decide +kernel
theorem dL_errors_119 : decode cL_errors 119 = .ok (.iconst 3, 1) := by decide +kernel
theorem dL_errors_120 : decode cL_errors 120 = .ok (.invokevirtual 91, 3) := by decide +kernel
theorem dL_errors_123 : decode cL_errors 123 = .ok (.iload_n 2, 1) := by decide +kernel
theorem dL_errors_124 : decode cL_errors 124 = .ok (.if_icmp .ne 42, 3) := by decide +kernel
theorem dL_errors_127 : decode cL_errors 127 = .ok (.aload_n 0, 1) := by decide +kernel
theorem dL_errors_128 : decode cL_errors 128 = .ok (.iconst 0, 1) := by decide +kernel
theorem dL_errors_129 : decode cL_errors 129 = .ok (.bipush 8, 2) := by decide +kernel
theorem dL_errors_131 : decode cL_errors 131 = .ok (.iconst 1, 1) := by decide +kernel
theorem dL_errors_132 : decode cL_errors 132 = .ok (.invokevirtual 94, 3) := by decide +kernel
theorem dL_errors_135 : decode cL_errors 135 = .ok (.iload_n 2, 1) := by decide +kernel
theorem dL_errors_136 : decode cL_errors 136 = .ok (.if_icmp .ne 30, 3) := by decide +kernel
theorem dL_errors_139 : decode cL_errors 139 = .ok (.aload_n 0, 1) := by decide +kernel
theorem dL_errors_140 : decode cL_errors 140 = .ok (.iconst 0, 1) := by decide +kernel
theorem dL_errors_141 : decode cL_errors 141 = .ok (.iconst 0, 1) := by decide +kernel
theorem dL_errors_142 : decode cL_errors 142 = .ok (.sipush 501, 3) := by decide +kernel
theorem dL_errors_145 : decode cL_errors 145 = .ok (.invokevirtual 94, 3) := by decide +kernel
theorem dL_errors_148 : decode cL_errors 148 = .ok (.iload_n 2, 1) := by decide +kernel
theorem dL_errors_149 : decode cL_errors 149 = .ok (.if_icmp .ne 17, 3) := by decide +kernel
theorem dL_errors_152 : decode cL_errors 152 = .ok (.aload_n 0, 1) := by decide +kernel
theorem dL_errors_153 : decode cL_errors 153 = .ok (.iconst 0, 1) := by decide +kernel
theorem dL_errors_154 : decode cL_errors 154 = .ok (.iconst 4, 1) := by decide +kernel
theorem dL_errors_155 : decode cL_errors 155 = .ok (.invokevirtual 78, 3) := by decide +kernel
theorem dL_errors_158 : decode cL_errors 158 = .ok (.iload_n 1, 1) := by decide +kernel
theorem dL_errors_159 : decode cL_errors 159 = .ok (.if_icmp .ne 7, 3) := by decide +kernel
theorem dL_errors_162 : decode cL_errors 162 = .ok (.iconst 1, 1) := by decide +kernel
theorem dL_errors_163 : decode cL_errors 163 = .ok (.goto 4, 3) := by decide +kernel
theorem dL_errors_166 : decode cL_errors 166 = .ok (.iconst 0, 1) := by decide +kernel
theorem dL_errors_167 : decode cL_errors 167 = .ok (.istore 4, 2) := by decide +kernel
theorem dL_errors_169 : decode cL_errors 169 = .ok (.iload 4, 2) := by decide +kernel
theorem dL_errors_171 : decode cL_errors 171 = .ok (.ifCond .eq 161, 3) := by decide +kernel
theorem dL_errors_174 : decode cL_errors 174 = .ok (.aload_n 0, 1) := by decide +kernel
theorem dL_errors_175 : decode cL_errors 175 = .ok (.iconst 5, 1) := by decide +kernel
theorem dL_errors_176 : decode cL_errors 176 = .ok (.iconst 5, 1) := by decide +kernel
theorem dL_errors_177 : decode cL_errors 177 = .ok (.iconst 0, 1) := by decide +kernel
theorem dL_errors_178 : decode cL_errors 178 = .ok (.iconst 0, 1) := by decide +kernel
theorem dL_errors_179 : decode cL_errors 179 = .ok (.invokevirtual 97, 3) := by decide +kernel
theorem dL_errors_182 : decode cL_errors 182 = .ok (.iload_n 2, 1) := by decide +kernel
theorem dL_errors_183 : decode cL_errors 183 = .ok (.if_icmp .ne 149, 3) := by decide +kernel
theorem dL_errors_186 : decode cL_errors 186 = .ok (.aload_n 0, 1) := by decide +kernel
theorem dL_errors_187 : decode cL_errors 187 = .ok (.iconst (-1), 1) := by decide +kernel
theorem dL_errors_188 : decode cL_errors 188 = .ok (.iconst 5, 1) := by decide +kernel
theorem dL_errors_189 : decode cL_errors 189 = .ok (.iconst 0, 1) := by decide +kernel
theorem dL_errors_190 : decode cL_errors 190 = .ok (.iconst 0, 1) := by decide +kernel
theorem dL_errors_191 : decode cL_errors 191 = .ok (.invokevirtual 97, 3) := by decide +kernel
theorem dL_errors_194 : decode cL_errors 194 = .ok (.iload_n 2, 1) := by decide +kernel
theorem dL_errors_195 : decode cL_errors 195 = .ok (.if_icmp .ne 137, 3) := by decide +kernel
theorem dL_errors_198 : decode cL_errors 198 = .ok (.aload_n 0, 1) := by decide +kernel
theorem dL_errors_199 : decode cL_errors 199 = .ok (.iconst 0, 1) := by decide +kernel
theorem dL_errors_200 : decode cL_errors 200 = .ok (.sipush 801, 3) := by decide +kernel
theorem dL_errors_203 : decode cL_errors 203 = .ok (.iconst 0, 1) := by decide +kernel
theorem dL_errors_204 : decode cL_errors 204 = .ok (.iconst 0, 1) := by decide +kernel
theorem dL_errors_205 : decode cL_errors 205 = .ok (.invokevirtual 97, 3) := by decide +kernel
theorem dL_errors_208 : decode cL_errors 208 = .ok (.iload_n 2, 1) := by decide +kernel
theorem dL_errors_209 : decode cL_errors 209 = .ok (.if_icmp .ne 123, 3) := by decide +kernel
theorem dL_errors_212 : decode cL_errors 212 = .ok (.aload_n 0, 1) := by decide +kernel
theorem dL_errors_213 : decode cL_errors 213 = .ok (.iconst 0, 1) := by decide +kernel
theorem dL_errors_214 : decode cL_errors 214 = .ok (.iconst 1, 1) := by decide +kernel
theorem dL_errors_215 : decode cL_errors 215 = .ok (.bipush 51, 2) := by decide +kernel
theorem dL_errors_217 : decode cL_errors 217 = .ok (.iconst 0, 1) := by decide +kernel
theorem dL_errors_218 : decode cL_errors 218 = .ok (.invokevirtual 97, 3) := by decide +kernel
theorem dL_errors_221 : decode cL_errors 221 = .ok (.iload_n 2, 1) := by decide +kernel
theorem dL_errors_222 : decode cL_errors 222 = .ok (.if_icmp .ne 110, 3) := by decide +kernel
theorem dL_errors_225 : decode cL_errors 225 = .ok (.aload_n 0, 1) := by decide +kernel
theorem dL_errors_226 : decode cL_errors 226 = .ok (.iconst 0, 1) := by decide +kernel
theorem dL_errors_227 : decode cL_errors 227 = .ok (.iconst 0, 1) := by decide +kernel
theorem dL_errors_228 : decode cL_errors 228 = .ok (.invokevirtual 101, 3) := by decide +kernel
theorem dL_errors_231 : decode cL_errors 231 = .ok (.iload_n 2, 1) := by decide +kernel
theorem dL_errors_232 : decode cL_errors 232 = .ok (.if_icmp .ne 100, 3) := by decide +kernel
theorem dL_errors_235 : decode cL_errors 235 = .ok (.aload_n 0, 1) := by decide +kernel
theorem dL_errors_236 : decode cL_errors 236 = .ok (.iconst 1, 1) := by decide +kernel
theorem dL_errors_237 : decode cL_errors 237 = .ok (.sipush 8000, 3) := by decide +kernel
theorem dL_errors_240 : decode cL_errors 240 = .ok (.invokevirtual 101, 3) := by decide +kernel
theorem dL_errors_243 : decode cL_errors 243 = .ok (.iload_n 2, 1) := by decide +kernel
theorem dL_errors_244 : decode cL_errors 244 = .ok (.if_icmp .ne 88, 3) := by decide +kernel
theorem dL_errors_247 : decode cL_errors 247 = .ok (.aload_n 0, 1) := by decide +kernel
theorem dL_errors_248 : decode cL_errors 248 = .ok (.sipush 501, 3) := by decide +kernel
theorem dL_errors_251 : decode cL_errors 251 = .ok (.invokevirtual 104, 3) := by decide +kernel
theorem dL_errors_254 : decode cL_errors 254 = .ok (.iload_n 2, 1) := by decide +kernel
theorem dL_errors_255 : decode cL_errors 255 = .ok (.if_icmp .ne 77, 3) := by decide +kernel
theorem dL_errors_258 : decode cL_errors 258 = .ok (.aload_n 0, 1) := by decide +kernel
theorem dL_errors_259 : decode cL_errors 259 = .ok (.iconst 0, 1) := by decide +kernel
theorem dL_errors_260 : decode cL_errors 260 = .ok (.iload_n 3, 1) := by decide +kernel
theorem dL_errors_261 : decode cL_errors 261 = .ok (.iconst 1, 1) := by decide +kernel
theorem dL_errors_262 : decode cL_errors 262 = .ok (.invokevirtual 71, 3) := by decide +kernel
theorem dL_errors_265 : decode cL_errors 265 = .ok (.iload_n 1, 1) := by decide +kernel
theorem dL_errors_266 : decode cL_errors 266 = .ok (.if_icmp .ne 66, 3) := by decide +kernel
theorem dL_errors_269 : decode cL_errors 269 = .ok (.aload_n 0, 1) := by decide +kernel
theorem dL_errors_270 : decode cL_errors 270 = .ok (.iconst 4, 1) := by decide +kernel
theorem dL_errors_271 : decode cL_errors 271 = .ok (.iconst 0, 1) := by decide +kernel
theorem dL_errors_272 : decode cL_errors 272 = .ok (.iconst 1, 1) := by decide +kernel
theorem dL_errors_273 : decode cL_errors 273 = .ok (.invokevirtual 71, 3) := by decide +kernel
theorem dL_errors_276 : decode cL_errors 276 = .ok (.iload_n 1, 1) := by decide +kernel
theorem dL_errors_277 : decode cL_errors 277 = .ok (.if_icmp .ne 55, 3) := by decide +kernel
theorem dL_errors_280 : decode cL_errors 280 = .ok (.aload_n 0, 1) := by decide +kernel
theorem dL_errors_281 : decode cL_errors 281 = .ok (.iload_n 3, 1) := by decide +kernel
theorem dL_errors_282 : decode cL_errors 282 = .ok (.invokevirtual 75, 3) := by decide +kernel
theorem dL_errors_285 : decode cL_errors 285 = .ok (.iload_n 1, 1) := by decide +kernel
theorem dL_errors_286 : decode cL_errors 286 = .ok (.if_icmp .ne 46, 3) := by decide +kernel
theorem dL_errors_289 : decode cL_errors 289 = .ok (.aload_n 0, 1) := by decide +kernel
theorem dL_errors_290 : decode cL_errors 290 = .ok (.iload_n 3, 1) := by decide +kernel
theorem dL_errors_291 : decode cL_errors 291 = .ok (.iconst 0, 1) := by decide +kernel
theorem dL_errors_292 : decode cL_errors 292 = .ok (.invokevirtual 62, 3) := by decide +kernel
theorem dL_errors_295 : decode cL_errors 295 = .ok (.iload_n 1, 1) := by decide +kernel
theorem dL_errors_296 : decode cL_errors 296 = .ok (.if_icmp .ne 36, 3) := by decide +kernel
theorem dL_errors_299 : decode cL_errors 299 = .ok (.aload_n 0, 1) := by decide +kernel
theorem dL_errors_300 : decode cL_errors 300 = .ok (.iload_n 3, 1) := by decide +kernel
theorem dL_errors_301 : decode cL_errors 301 = .ok (.iconst 0, 1) := by decide +kernel
theorem dL_errors_302 : decode cL_errors 302 = .ok (.iconst 0, 1) := by decide +kernel
theorem dL_errors_303 : decode cL_errors 303 = .ok (.invokevirtual 53, 3) := by decide +kernel
theorem dL_errors_306 : decode cL_errors 306 = .ok (.iload_n 1, 1) := by decide +kernel
theorem dL_errors_307 : decode cL_errors 307 = .ok (.if_icmp .ne 25, 3) := by decide +kernel
theorem dL_errors_310 : decode cL_errors 310 = .ok (.aload_n 0, 1) := by decide +kernel
theorem dL_errors_311 : decode cL_errors 311 = .ok (.iconst 2, 1) := by decide +kernel
theorem dL_errors_312 : decode cL_errors 312 = .ok (.invokevirtual 107, 3) := by decide +kernel
theorem dL_errors_315 : decode cL_errors 315 = .ok (.iload_n 1, 1) := by decide +kernel
theorem dL_errors_316 : decode cL_errors 316 = .ok (.if_icmp .ne 16, 3) := by decide +kernel
theorem dL_errors_319 : decode cL_errors 319 = .ok (.aload_n 0, 1) := by decide +kernel
theorem dL_errors_320 : decode cL_errors 320 = .ok (.iconst (-1), 1) := by decide +kernel
theorem dL_errors_321 : decode cL_errors 321 = .ok (.invokevirtual 110, 3) := by decide +kernel
theorem dL_errors_324 : decode cL_errors 324 = .ok (.iload_n 1, 1) := by decide +kernel
theorem dL_errors_325 : decode cL_errors 325 = .ok (.if_icmp .ne 7, 3) := by decide +kernel
theorem dL_errors_328 : decode cL_errors 328 = .ok (.iconst 1, 1) := by decide +kernel
theorem dL_errors_329 : decode cL_errors 329 = .ok (.goto 4, 3) := by decide +kernel
theorem dL_errors_332 : decode cL_errors 332 = .ok (.iconst 0, 1) := by decide +kernel
theorem dL_errors_333 : decode cL_errors 333 = .ok (.ireturn, 1) := by decide +kernel
theorem dL_law_0 : decode cL_law 0 = .ok (.new 10, 3) := by decide +kernel
theorem dL_law_3 : decode cL_law 3 = .ok (.dup, 1) := by decide +kernel
theorem dL_law_4 : decode cL_law 4 = .ok (.invokespecial 113, 3) := by decide +kernel
theorem dL_law_7 : decode cL_law 7 = .ok (.astore_n 1, 1) := by decide +kernel
theorem dL_law_8 : decode cL_law 8 = .ok (.aload_n 1, 1) := by decide +kernel
theorem dL_law_9 : decode cL_law 9 = .ok (.bipush 100, 2) := by decide +kernel
theorem dL_law_11 : decode cL_law 11 = .ok (.sipush 500, 3) := by decide +kernel
theorem dL_law_14 : decode cL_law 14 = .ok (.invokevirtual 101, 3) := by decide +kernel
theorem dL_law_17 : decode cL_law 17 = .ok (.ifCond .ne 22, 3) := by decide +kernel
theorem dL_law_20 : decode cL_law 20 = .ok (.aload_n 1, 1) := by decide +kernel
theorem dL_law_21 : decode cL_law 21 = .ok (.iconst 0, 1) := by decide +kernel
theorem dL_law_22 : decode cL_law 22 = .ok (.sipush (-400), 3) := by decide +kernel
theorem dL_law_25 : decode cL_law 25 = .ok (.bipush 20, 2) := by decide +kernel
theorem dL_law_27 : decode cL_law 27 = .ok (.bipush 30, 2) := by decide +kernel
theorem dL_law_29 : decode cL_law 29 = .ok (.sipush 300, 3) := by decide +kernel
theorem dL_law_32 : decode cL_law 32 = .ok (.invokevirtual 81, 3) := by decide +kernel
theorem dL_law_35 : decode cL_law 35 = .ok (.iconst 1, 1) := by decide +kernel
theorem dL_law_36 : decode cL_law 36 = .ok (.if_icmp .eq 5, 3) := by decide +kernel
theorem dL_law_39 : decode cL_law 39 = .ok (.iconst 0, 1) := by decide +kernel
theorem dL_law_40 : decode cL_law 40 = .ok (.ireturn, 1) := by decide +kernel
theorem dL_law_41 : decode cL_law 41 = .ok (.iconst 0, 1) := by decide +kernel
theorem dL_law_42 : decode cL_law 42 = .ok (.istore_n 2, 1) := by decide +kernel
theorem dL_law_43 : decode cL_law 43 = .ok (.iload_n 2, 1) := by decide +kernel
theorem dL_law_44 : decode cL_law 44 = .ok (.bipush 40, 2) := by decide +kernel
theorem dL_law_46 : decode cL_law 46 = .ok (.if_icmp .ge 882, 3) := by decide +kernel
theorem dL_law_49 : decode cL_law 49 = .ok (.aload_n 0, 1) := by decide +kernel
theorem dL_law_50 : decode cL_law 50 = .ok (.iconst 2, 1) := by decide +kernel
theorem dL_law_51 : decode cL_law 51 = .ok (.iload_n 2, 1) := by decide +kernel
theorem dL_law_52 : decode cL_law 52 = .ok (.imul, 1) := by decide +kernel
theorem dL_law_53 : decode cL_law 53 = .ok (.invokestatic 114, 3) := by decide +kernel
theorem dL_law_56 : decode cL_law 56 = .ok (.istore_n 3, 1) := by decide +kernel
theorem dL_law_57 : decode cL_law 57 = .ok (.aload_n 0, 1) := by decide +kernel
theorem dL_law_58 : decode cL_law 58 = .ok (.iconst 2, 1) := by decide +kernel
theorem dL_law_59 : decode cL_law 59 = .ok (.iload_n 2, 1) := by decide +kernel
theorem dL_law_60 : decode cL_law 60 = .ok (.imul, 1) := by decide +kernel
theorem dL_law_61 : decode cL_law 61 = .ok (.iconst 1, 1) := by decide +kernel
theorem dL_law_62 : decode cL_law 62 = .ok (.iadd, 1) := by decide +kernel
theorem dL_law_63 : decode cL_law 63 = .ok (.invokestatic 114, 3) := by decide +kernel
theorem dL_law_66 : decode cL_law 66 = .ok (.istore 4, 2) := by decide +kernel
theorem dL_law_68 : decode cL_law 68 = .ok (.iload_n 3, 1) := by decide +kernel
theorem dL_law_69 : decode cL_law 69 = .ok (.bipush 15, 2) := by decide +kernel
theorem dL_law_71 : decode cL_law 71 = .ok (.invokestatic 118, 3) := by decide +kernel
theorem dL_law_74 : decode cL_law 74 = .ok (.istore 5, 2) := by decide +kernel
theorem dL_law_76 : decode cL_law 76 = .ok (.iload_n 3, 1) := by decide +kernel
theorem dL_law_77 : decode cL_law 77 = .ok (.iconst 4, 1) := by decide +kernel
theorem dL_law_78 : decode cL_law 78 = .ok (.ishr, 1) := by decide +kernel
theorem dL_law_79 : decode cL_law 79 = .ok (.istore_n 3, 1) := by decide +kernel
theorem dL_law_80 : decode cL_law 80 = .ok (.iload_n 3, 1) := by decide +kernel
theorem dL_law_81 : decode cL_law 81 = .ok (.iconst 4, 1) := by decide +kernel
theorem dL_law_82 : decode cL_law 82 = .ok (.invokestatic 118, 3) := by decide +kernel
theorem dL_law_85 : decode cL_law 85 = .ok (.istore 6, 2) := by decide +kernel
theorem dL_law_87 : decode cL_law 87 = .ok (.iload 4, 2) := by decide +kernel
theorem dL_law_89 : decode cL_law 89 = .ok (.aload_n 1, 1) := by decide +kernel
theorem dL_law_90 : decode cL_law 90 = .ok (.iconst 3, 1) := by decide +kernel
theorem dL_law_91 : decode cL_law 91 = .ok (.invokevirtual 49, 3) := by decide +kernel
theorem dL_law_94 : decode cL_law 94 = .ok (.invokestatic 118, 3) := by decide +kernel
theorem dL_law_97 : decode cL_law 97 = .ok (.istore 7, 2) := by decide +kernel
theorem dL_law_99 : decode cL_law 99 = .ok (.iload 5, 2) := by decide +kernel
theorem dL_law_101 : decode cL_law 101 = .ok (.iconst 3, 1) := by decide +kernel
theorem dL_law_102 : decode cL_law 102 = .ok (.if_icmp .ge 126, 3) := by decide +kernel
theorem dL_law_105 : decode cL_law 105 = .ok (.aload_n 1, 1) := by decide +kernel
theorem dL_law_106 : decode cL_law 106 = .ok (.iconst 1, 1) := by decide +kernel
theorem dL_law_107 : decode cL_law 107 = .ok (.invokevirtual 49, 3) := by decide +kernel
theorem dL_law_110 : decode cL_law 110 = .ok (.aload_n 1, 1) := by decide +kernel
theorem dL_law_111 : decode cL_law 111 = .ok (.iload 6, 2) := by decide +kernel
theorem dL_law_113 : decode cL_law 113 = .ok (.iconst 2, 1) := by decide +kernel
theorem dL_law_114 : decode cL_law 114 = .ok (.invokevirtual 22, 3) := by decide +kernel
theorem dL_law_117 : decode cL_law 117 = .ok (.ifCond .ge 7, 3) := by decide +kernel
theorem dL_law_120 : decode cL_law 120 = .ok (.iconst 1, 1) := by decide +kernel
theorem dL_law_121 : decode cL_law 121 = .ok (.goto 4, 3) := by decide +kernel
theorem dL_law_124 : decode cL_law 124 = .ok (.iconst 0, 1) := by decide +kernel
theorem dL_law_125 : decode cL_law 125 = .ok (.iadd, 1) := by decide +kernel
theorem dL_law_126 : decode cL_law 126 = .ok (.istore 8, 2) := by decide +kernel
theorem dL_law_128 : decode cL_law 128 = .ok (.aload_n 1, 1) := by decide +kernel
theorem dL_law_129 : decode cL_law 129 = .ok (.iload 6, 2) := by decide +kernel
theorem dL_law_131 : decode cL_law 131 = .ok (.iload 4, 2) := by decide +kernel
theorem dL_law_133 : decode cL_law 133 = .ok (.sipush 2001, 3) := by decide +kernel
theorem dL_law_136 : decode cL_law 136 = .ok (.invokestatic 118, 3) := by decide +kernel
theorem dL_law_139 : decode cL_law 139 = .ok (.sipush 1000, 3) := by decide +kernel
theorem dL_law_142 : decode cL_law 142 = .ok (.isub, 1) := by decide +kernel
theorem dL_law_143 : decode cL_law 143 = .ok (.iload 4, 2) := by decide +kernel
theorem dL_law_145 : decode cL_law 145 = .ok (.bipush 11, 2) := by decide +kernel
theorem dL_law_147 : decode cL_law 147 = .ok (.ishr, 1) := by decide +kernel
theorem dL_law_148 : decode cL_law 148 = .ok (.sipush 2001, 3) := by decide +kernel
theorem dL_law_151 : decode cL_law 151 = .ok (.invokestatic 118, 3) := by decide +kernel
theorem dL_law_154 : decode cL_law 154 = .ok (.sipush 1000, 3) := by decide +kernel
theorem dL_law_157 : decode cL_law 157 = .ok (.isub, 1) := by decide +kernel
theorem dL_law_158 : decode cL_law 158 = .ok (.iconst 1, 1) := by decide +kernel
theorem dL_law_159 : decode cL_law 159 = .ok (.iload_n 3, 1) := by decide +kernel
theorem dL_law_160 : decode cL_law 160 = .ok (.iconst 2, 1) := by decide +kernel
theorem dL_law_161 : decode cL_law 161 = .ok (.ishr, 1) := by decide +kernel
theorem dL_law_162 : decode cL_law 162 = .ok (.sipush 200, 3) := by decide +kernel
theorem dL_law_165 : decode cL_law 165 = .ok (.invokestatic 118, 3) := by decide +kernel
theorem dL_law_168 : decode cL_law 168 = .ok (.iadd, 1) := by decide +kernel
theorem dL_law_169 : decode cL_law 169 = .ok (.bipush 10, 2) := by decide +kernel
theorem dL_law_171 : decode cL_law 171 = .ok (.iload_n 3, 1) := by decide +kernel
theorem dL_law_172 : decode cL_law 172 = .ok (.bipush 10, 2) := by decide +kernel
theorem dL_law_174 : decode cL_law 174 = .ok (.ishr, 1) := by decide +kernel
theorem dL_law_175 : decode cL_law 175 = .ok (.sipush 791, 3) := by decide +kernel
theorem dL_law_178 : decode cL_law 178 = .ok (.invokestatic 118, 3) := by decide +kernel
theorem dL_law_181 : decode cL_law 181 = .ok (.iadd, 1) := by decide +kernel
theorem dL_law_182 : decode cL_law 182 = .ok (.invokevirtual 81, 3) := by decide +kernel
theorem dL_law_185 : decode cL_law 185 = .ok (.iload 8, 2) := by decide +kernel
theorem dL_law_187 : decode cL_law 187 = .ok (.if_icmp .ne 36, 3) := by decide +kernel
theorem dL_law_190 : decode cL_law 190 = .ok (.aload_n 1, 1) := by decide +kernel
theorem dL_law_191 : decode cL_law 191 = .ok (.iload 6, 2) := by decide +kernel
theorem dL_law_193 : decode cL_law 193 = .ok (.bipush 8, 2) := by decide +kernel
theorem dL_law_195 : decode cL_law 195 = .ok (.invokevirtual 22, 3) := by decide +kernel
theorem dL_law_198 : decode cL_law 198 = .ok (.ifCond .ne 25, 3) := by decide +kernel
theorem dL_law_201 : decode cL_law 201 = .ok (.aload_n 1, 1) := by decide +kernel
theorem dL_law_202 : decode cL_law 202 = .ok (.iload 6, 2) := by decide +kernel
theorem dL_law_204 : decode cL_law 204 = .ok (.bipush 9, 2) := by decide +kernel
theorem dL_law_206 : decode cL_law 206 = .ok (.invokevirtual 22, 3) := by decide +kernel
theorem dL_law_209 : decode cL_law 209 = .ok (.ifCond .ne 14, 3) := by decide +kernel
theorem dL_law_212 : decode cL_law 212 = .ok (.aload_n 1, 1) := by decide +kernel
theorem dL_law_213 : decode cL_law 213 = .ok (.iload 6, 2) := by decide +kernel
theorem dL_law_215 : decode cL_law 215 = .ok (.bipush 6, 2) := by decide +kernel
theorem dL_law_217 : decode cL_law 217 = .ok (.invokevirtual 22, 3) := by decide +kernel
theorem dL_law_220 : decode cL_law 220 = .ok (.ifCond .eq 5, 3) := by decide +kernel
theorem dL_law_223 : decode cL_law 223 = .ok (.iconst 0, 1) := by decide +kernel
theorem dL_law_224 : decode cL_law 224 = .ok (.ireturn, 1) := by decide +kernel
theorem dL_law_225 : decode cL_law 225 = .ok (.goto 643, 3) := by decide +kernel
theorem dL_law_228 : decode cL_law 228 = .ok (.iload 5, 2) := by decide +kernel
theorem dL_law_230 : decode cL_law 230 = .ok (.iconst 3, 1) := by decide +kernel
theorem dL_law_231 : decode cL_law 231 = .ok (.if_icmp .ne 108, 3) := by decide +kernel
theorem dL_law_234 : decode cL_law 234 = .ok (.aload_n 1, 1) := by decide +kernel
theorem dL_law_235 : decode cL_law 235 = .ok (.iload 6, 2) := by decide +kernel
theorem dL_law_237 : decode cL_law 237 = .ok (.bipush 10, 2) := by decide +kernel
theorem dL_law_239 : decode cL_law 239 = .ok (.invokevirtual 22, 3) := by decide +kernel
theorem dL_law_242 : decode cL_law 242 = .ok (.istore 8, 2) := by decide +kernel
theorem dL_law_244 : decode cL_law 244 = .ok (.iload 4, 2) := by decide +kernel
theorem dL_law_246 : decode cL_law 246 = .ok (.bipush 8, 2) := by decide +kernel
theorem dL_law_248 : decode cL_law 248 = .ok (.invokestatic 118, 3) := by decide +kernel
theorem dL_law_251 : decode cL_law 251 = .ok (.istore 9, 2) := by decide +kernel
theorem dL_law_253 : decode cL_law 253 = .ok (.iconst 1, 1) := by decide +kernel
theorem dL_law_254 : decode cL_law 254 = .ok (.iload 4, 2) := by decide +kernel
theorem dL_law_256 : decode cL_law 256 = .ok (.iconst 3, 1) := by decide +kernel
theorem dL_law_257 : decode cL_law 257 = .ok (.ishr, 1) := by decide +kernel
theorem dL_law_258 : decode cL_law 258 = .ok (.sipush 500, 3) := by decide +kernel
theorem dL_law_261 : decode cL_law 261 = .ok (.invokestatic 118, 3) := by decide +kernel
theorem dL_law_264 : decode cL_law 264 = .ok (.iadd, 1) := by decide +kernel
theorem dL_law_265 : decode cL_law 265 = .ok (.istore 10, 2) := by decide +kernel
theorem dL_law_267 : decode cL_law 267 = .ok (.aload_n 1, 1) := by decide +kernel
theorem dL_law_268 : decode cL_law 268 = .ok (.iload 6, 2) := by decide +kernel
theorem dL_law_270 : decode cL_law 270 = .ok (.iload 9, 2) := by decide +kernel
theorem dL_law_272 : decode cL_law 272 = .ok (.iload 10, 2) := by decide +kernel
theorem dL_law_274 : decode cL_law 274 = .ok (.invokevirtual 94, 3) := by decide +kernel
theorem dL_law_277 : decode cL_law 277 = .ok (.iload 8, 2) := by decide +kernel
theorem dL_law_279 : decode cL_law 279 = .ok (.ifCond .ge 8, 3) := by decide +kernel
theorem dL_law_282 : decode cL_law 282 = .ok (.ldc 74, 2) := by decide +kernel
theorem dL_law_284 : decode cL_law 284 = .ok (.goto 5, 3) := by decide +kernel
theorem dL_law_287 : decode cL_law 287 = .ok (.iload 8, 2) := by decide +kernel
theorem dL_law_289 : decode cL_law 289 = .ok (.if_icmp .ne 45, 3) := by decide +kernel
theorem dL_law_292 : decode cL_law 292 = .ok (.iload 8, 2) := by decide +kernel
theorem dL_law_294 : decode cL_law 294 = .ok (.ifCond .le 42, 3) := by decide +kernel
theorem dL_law_297 : decode cL_law 297 = .ok (.aload_n 1, 1) := by decide +kernel
theorem dL_law_298 : decode cL_law 298 = .ok (.iload 6, 2) := by decide +kernel
theorem dL_law_300 : decode cL_law 300 = .ok (.bipush 7, 2) := by decide +kernel
theorem dL_law_302 : decode cL_law 302 = .ok (.invokevirtual 22, 3) := by decide +kernel
theorem dL_law_305 : decode cL_law 305 = .ok (.iload 9, 2) := by decide +kernel
theorem dL_law_307 : decode cL_law 307 = .ok (.if_icmp .ne 27, 3) := by decide +kernel
theorem dL_law_310 : decode cL_law 310 = .ok (.aload_n 1, 1) := by decide +kernel
theorem dL_law_311 : decode cL_law 311 = .ok (.iload 6, 2) := by decide +kernel
theorem dL_law_313 : decode cL_law 313 = .ok (.bipush 8, 2) := by decide +kernel
theorem dL_law_315 : decode cL_law 315 = .ok (.invokevirtual 22, 3) := by decide +kernel
theorem dL_law_318 : decode cL_law 318 = .ok (.iload 10, 2) := by decide +kernel
theorem dL_law_320 : decode cL_law 320 = .ok (.if_icmp .ne 14, 3) := by decide +kernel
theorem dL_law_323 : decode cL_law 323 = .ok (.aload_n 1, 1) := by decide +kernel
theorem dL_law_324 : decode cL_law 324 = .ok (.iload 6, 2) := by decide +kernel
theorem dL_law_326 : decode cL_law 326 = .ok (.bipush 9, 2) := by decide +kernel
theorem dL_law_328 : decode cL_law 328 = .ok (.invokevirtual 22, 3) := by decide +kernel
theorem dL_law_331 : decode cL_law 331 = .ok (.ifCond .eq 5, 3) := by decide +kernel
theorem dL_law_334 : decode cL_law 334 = .ok (.iconst 0, 1) := by decide +kernel
theorem dL_law_335 : decode cL_law 335 = .ok (.ireturn, 1) := by decide +kernel
theorem dL_law_336 : decode cL_law 336 = .ok (.goto 532, 3) := by decide +kernel
theorem dL_law_339 : decode cL_law 339 = .ok (.iload 5, 2) := by decide +kernel
theorem dL_law_341 : decode cL_law 341 = .ok (.iconst 4, 1) := by decide +kernel
theorem dL_law_342 : decode cL_law 342 = .ok (.if_icmp .ne 115, 3) := by decide +kernel
theorem dL_law_345 : decode cL_law 345 = .ok (.aload_n 1, 1) := by decide +kernel
theorem dL_law_346 : decode cL_law 346 = .ok (.iload 6, 2) := by decide +kernel
theorem dL_law_348 : decode cL_law 348 = .ok (.bipush 6, 2) := by decide +kernel
theorem dL_law_350 : decode cL_law 350 = .ok (.invokevirtual 22, 3) := by decide +kernel
theorem dL_law_353 : decode cL_law 353 = .ok (.istore 8, 2) := by decide +kernel
theorem dL_law_355 : decode cL_law 355 = .ok (.iload 4, 2) := by decide +kernel
theorem dL_law_357 : decode cL_law 357 = .ok (.bipush 41, 2) := by decide +kernel
theorem dL_law_359 : decode cL_law 359 = .ok (.invokestatic 118, 3) := by decide +kernel
theorem dL_law_362 : decode cL_law 362 = .ok (.bipush 20, 2) := by decide +kernel
theorem dL_law_364 : decode cL_law 364 = .ok (.isub, 1) := by decide +kernel
theorem dL_law_365 : decode cL_law 365 = .ok (.istore 9, 2) := by decide +kernel
theorem dL_law_367 : decode cL_law 367 = .ok (.iload 4, 2) := by decide +kernel
theorem dL_law_369 : decode cL_law 369 = .ok (.bipush 6, 2) := by decide +kernel
theorem dL_law_371 : decode cL_law 371 = .ok (.ishr, 1) := by decide +kernel
theorem dL_law_372 : decode cL_law 372 = .ok (.bipush 41, 2) := by decide +kernel
theorem dL_law_374 : decode cL_law 374 = .ok (.invokestatic 118, 3) := by decide +kernel
theorem dL_law_377 : decode cL_law 377 = .ok (.bipush 20, 2) := by decide +kernel
theorem dL_law_379 : decode cL_law 379 = .ok (.isub, 1) := by decide +kernel
theorem dL_law_380 : decode cL_law 380 = .ok (.istore 10, 2) := by decide +kernel
theorem dL_law_382 : decode cL_law 382 = .ok (.iload_n 3, 1) := by decide +kernel
theorem dL_law_383 : decode cL_law 383 = .ok (.iconst 4, 1) := by decide +kernel
theorem dL_law_384 : decode cL_law 384 = .ok (.iand, 1) := by decide +kernel
theorem dL_law_385 : decode cL_law 385 = .ok (.ifCond .ne 18, 3) := by decide +kernel
theorem dL_law_388 : decode cL_law 388 = .ok (.aload_n 1, 1) := by decide +kernel
theorem dL_law_389 : decode cL_law 389 = .ok (.iload 6, 2) := by decide +kernel
theorem dL_law_391 : decode cL_law 391 = .ok (.iload 4, 2) := by decide +kernel
theorem dL_law_393 : decode cL_law 393 = .ok (.iconst 3, 1) := by decide +kernel
theorem dL_law_394 : decode cL_law 394 = .ok (.invokestatic 118, 3) := by decide +kernel
theorem dL_law_397 : decode cL_law 397 = .ok (.invokevirtual 91, 3) := by decide +kernel
theorem dL_law_400 : decode cL_law 400 = .ok (.goto 13, 3) := by decide +kernel
theorem dL_law_403 : decode cL_law 403 = .ok (.aload_n 1, 1) := by decide +kernel
theorem dL_law_404 : decode cL_law 404 = .ok (.iload 6, 2) := by decide +kernel
theorem dL_law_406 : decode cL_law 406 = .ok (.iload 9, 2) := by decide +kernel
theorem dL_law_408 : decode cL_law 408 = .ok (.iload 10, 2) := by decide +kernel
theorem dL_law_410 : decode cL_law 410 = .ok (.invokevirtual 88, 3) := by decide +kernel
theorem dL_law_413 : decode cL_law 413 = .ok (.istore 11, 2) := by decide +kernel
theorem dL_law_415 : decode cL_law 415 = .ok (.iload 11, 2) := by decide +kernel
theorem dL_law_417 : decode cL_law 417 = .ok (.iload 8, 2) := by decide +kernel
theorem dL_law_419 : decode cL_law 419 = .ok (.ifCond .ge 8, 3) := by decide +kernel
theorem dL_law_422 : decode cL_law 422 = .ok (.ldc 74, 2) := by decide +kernel
theorem dL_law_424 : decode cL_law 424 = .ok (.goto 25, 3) := by decide +kernel
theorem dL_law_427 : decode cL_law 427 = .ok (.iload_n 3, 1) := by decide +kernel
theorem dL_law_428 : decode cL_law 428 = .ok (.iconst 4, 1) := by decide +kernel
theorem dL_law_429 : decode cL_law 429 = .ok (.iand, 1) := by decide +kernel
theorem dL_law_430 : decode cL_law 430 = .ok (.ifCond .ne 8, 3) := by decide +kernel
theorem dL_law_433 : decode cL_law 433 = .ok (.iload 8, 2) := by decide +kernel
theorem dL_law_435 : decode cL_law 435 = .ok (.goto 14, 3) := by decide +kernel
theorem dL_law_438 : decode cL_law 438 = .ok (.iload 9, 2) := by decide +kernel
theorem dL_law_440 : decode cL_law 440 = .ok (.invokestatic 16, 3) := by decide +kernel
theorem dL_law_443 : decode cL_law 443 = .ok (.iload 10, 2) := by decide +kernel
theorem dL_law_445 : decode cL_law 445 = .ok (.invokestatic 16, 3) := by decide +kernel
theorem dL_law_448 : decode cL_law 448 = .ok (.iadd, 1) := by decide +kernel
theorem dL_law_449 : decode cL_law 449 = .ok (.if_icmp .eq 5, 3) := by decide +kernel
theorem dL_law_452 : decode cL_law 452 = .ok (.iconst 0, 1) := by decide +kernel
theorem dL_law_453 : decode cL_law 453 = .ok (.ireturn, 1) := by decide +kernel
theorem dL_law_454 : decode cL_law 454 = .ok (.goto 414, 3) := by decide +kernel
theorem dL_law_457 : decode cL_law 457 = .ok (.iload 5, 2) := by decide +kernel
theorem dL_law_459 : decode cL_law 459 = .ok (.iconst 5, 1) := by decide +kernel
theorem dL_law_460 : decode cL_law 460 = .ok (.if_icmp .ne 144, 3) := by decide +kernel
theorem dL_law_463 : decode cL_law 463 = .ok (.aload_n 1, 1) := by decide +kernel
theorem dL_law_464 : decode cL_law 464 = .ok (.iconst 2, 1) := by decide +kernel
theorem dL_law_465 : decode cL_law 465 = .ok (.invokevirtual 49, 3) := by decide +kernel
theorem dL_law_468 : decode cL_law 468 = .ok (.istore 8, 2) := by decide +kernel
theorem dL_law_470 : decode cL_law 470 = .ok (.iload 4, 2) := by decide +kernel
theorem dL_law_472 : decode cL_law 472 = .ok (.sipush 700, 3) := by decide +kernel
theorem dL_law_475 : decode cL_law 475 = .ok (.invokestatic 118, 3) := by decide +kernel
theorem dL_law_478 : decode cL_law 478 = .ok (.istore 9, 2) := by decide +kernel
theorem dL_law_480 : decode cL_law 480 = .ok (.iload_n 3, 1) := by decide +kernel
theorem dL_law_481 : decode cL_law 481 = .ok (.bipush 12, 2) := by decide +kernel
theorem dL_law_483 : decode cL_law 483 = .ok (.iand, 1) := by decide +kernel
theorem dL_law_484 : decode cL_law 484 = .ok (.ifCond .ne 10, 3) := by decide +kernel
theorem dL_law_487 : decode cL_law 487 = .ok (.aload_n 1, 1) := by decide +kernel
theorem dL_law_488 : decode cL_law 488 = .ok (.invokevirtual 121, 3) := by decide +kernel
theorem dL_law_491 : decode cL_law 491 = .ok (.goto 47, 3) := by decide +kernel
theorem dL_law_494 : decode cL_law 494 = .ok (.aload_n 1, 1) := by decide +kernel
theorem dL_law_495 : decode cL_law 495 = .ok (.iload 9, 2) := by decide +kernel
theorem dL_law_497 : decode cL_law 497 = .ok (.iload 9, 2) := by decide +kernel
theorem dL_law_499 : decode cL_law 499 = .ok (.iconst 1, 1) := by decide +kernel
theorem dL_law_500 : decode cL_law 500 = .ok (.iadd, 1) := by decide +kernel
theorem dL_law_501 : decode cL_law 501 = .ok (.iload 4, 2) := by decide +kernel
theorem dL_law_503 : decode cL_law 503 = .ok (.bipush 10, 2) := by decide +kernel
theorem dL_law_505 : decode cL_law 505 = .ok (.ishr, 1) := by decide +kernel
theorem dL_law_506 : decode cL_law 506 = .ok (.bipush 100, 2) := by decide +kernel
theorem dL_law_508 : decode cL_law 508 = .ok (.invokestatic 118, 3) := by decide +kernel
theorem dL_law_511 : decode cL_law 511 = .ok (.iadd, 1) := by decide +kernel
theorem dL_law_512 : decode cL_law 512 = .ok (.iload_n 3, 1) := by decide +kernel
theorem dL_law_513 : decode cL_law 513 = .ok (.iconst 4, 1) := by decide +kernel
theorem dL_law_514 : decode cL_law 514 = .ok (.ishr, 1) := by decide +kernel
theorem dL_law_515 : decode cL_law 515 = .ok (.bipush 101, 2) := by decide +kernel
theorem dL_law_517 : decode cL_law 517 = .ok (.invokestatic 118, 3) := by decide +kernel
theorem dL_law_520 : decode cL_law 520 = .ok (.bipush 50, 2) := by decide +kernel
theorem dL_law_522 : decode cL_law 522 = .ok (.isub, 1) := by decide +kernel
theorem dL_law_523 : decode cL_law 523 = .ok (.iload_n 3, 1) := by decide +kernel
theorem dL_law_524 : decode cL_law 524 = .ok (.bipush 11, 2) := by decide +kernel
theorem dL_law_526 : decode cL_law 526 = .ok (.ishr, 1) := by decide +kernel
theorem dL_law_527 : decode cL_law 527 = .ok (.bipush 101, 2) := by decide +kernel
theorem dL_law_529 : decode cL_law 529 = .ok (.invokestatic 118, 3) := by decide +kernel
theorem dL_law_532 : decode cL_law 532 = .ok (.bipush 50, 2) := by decide +kernel
theorem dL_law_534 : decode cL_law 534 = .ok (.isub, 1) := by decide +kernel
theorem dL_law_535 : decode cL_law 535 = .ok (.invokevirtual 97, 3) := by decide +kernel
theorem dL_law_538 : decode cL_law 538 = .ok (.istore 10, 2) := by decide +kernel
theorem dL_law_540 : decode cL_law 540 = .ok (.iload_n 3, 1) := by decide +kernel
theorem dL_law_541 : decode cL_law 541 = .ok (.bipush 12, 2) := by decide +kernel
theorem dL_law_543 : decode cL_law 543 = .ok (.iand, 1) := by decide +kernel
theorem dL_law_544 : decode cL_law 544 = .ok (.ifCond .ne 18, 3) := by decide +kernel
theorem dL_law_547 : decode cL_law 547 = .ok (.iload 8, 2) := by decide +kernel
theorem dL_law_549 : decode cL_law 549 = .ok (.ifCond .ne 8, 3) := by decide +kernel
theorem dL_law_552 : decode cL_law 552 = .ok (.ldc 35, 2) := by decide +kernel
theorem dL_law_554 : decode cL_law 554 = .ok (.goto 23, 3) := by decide +kernel
theorem dL_law_557 : decode cL_law 557 = .ok (.iload 8, 2) := by decide +kernel
theorem dL_law_559 : decode cL_law 559 = .ok (.goto 18, 3) := by decide +kernel
theorem dL_law_562 : decode cL_law 562 = .ok (.iload 8, 2) := by decide +kernel
theorem dL_law_564 : decode cL_law 564 = .ok (.iconst 5, 1) := by decide +kernel
theorem dL_law_565 : decode cL_law 565 = .ok (.if_icmp .ne 8, 3) := by decide +kernel
theorem dL_law_568 : decode cL_law 568 = .ok (.ldc 125, 2) := by decide +kernel
theorem dL_law_570 : decode cL_law 570 = .ok (.goto 7, 3) := by decide +kernel
theorem dL_law_573 : decode cL_law 573 = .ok (.iload 8, 2) := by decide +kernel
theorem dL_law_575 : decode cL_law 575 = .ok (.iconst 1, 1) := by decide +kernel
theorem dL_law_576 : decode cL_law 576 = .ok (.iadd, 1) := by decide +kernel
theorem dL_law_577 : decode cL_law 577 = .ok (.istore 11, 2) := by decide +kernel
theorem dL_law_579 : decode cL_law 579 = .ok (.iload 10, 2) := by decide +kernel
theorem dL_law_581 : decode cL_law 581 = .ok (.iload 11, 2) := by decide +kernel
theorem dL_law_583 : decode cL_law 583 = .ok (.if_icmp .ne 16, 3) := by decide +kernel
theorem dL_law_586 : decode cL_law 586 = .ok (.iload 10, 2) := by decide +kernel
theorem dL_law_588 : decode cL_law 588 = .ok (.ifCond .le 13, 3) := by decide +kernel
theorem dL_law_591 : decode cL_law 591 = .ok (.aload_n 1, 1) := by decide +kernel
theorem dL_law_592 : decode cL_law 592 = .ok (.iconst 5, 1) := by decide +kernel
theorem dL_law_593 : decode cL_law 593 = .ok (.invokevirtual 49, 3) := by decide +kernel
theorem dL_law_596 : decode cL_law 596 = .ok (.ifCond .eq 5, 3) := by decide +kernel
theorem dL_law_599 : decode cL_law 599 = .ok (.iconst 0, 1) := by decide +kernel
theorem dL_law_600 : decode cL_law 600 = .ok (.ireturn, 1) := by decide +kernel
theorem dL_law_601 : decode cL_law 601 = .ok (.goto 267, 3) := by decide +kernel
theorem dL_law_604 : decode cL_law 604 = .ok (.iload 5, 2) := by decide +kernel
theorem dL_law_606 : decode cL_law 606 = .ok (.bipush 6, 2) := by decide +kernel
theorem dL_law_608 : decode cL_law 608 = .ok (.if_icmp .ne 56, 3) := by decide +kernel
theorem dL_law_611 : decode cL_law 611 = .ok (.aload_n 1, 1) := by decide +kernel
theorem dL_law_612 : decode cL_law 612 = .ok (.iconst 3, 1) := by decide +kernel
theorem dL_law_613 : decode cL_law 613 = .ok (.invokevirtual 49, 3) := by decide +kernel
theorem dL_law_616 : decode cL_law 616 = .ok (.istore 8, 2) := by decide +kernel
theorem dL_law_618 : decode cL_law 618 = .ok (.aload_n 1, 1) := by decide +kernel
theorem dL_law_619 : decode cL_law 619 = .ok (.iconst 1, 1) := by decide +kernel
theorem dL_law_620 : decode cL_law 620 = .ok (.iload 4, 2) := by decide +kernel
theorem dL_law_622 : decode cL_law 622 = .ok (.sipush 400, 3) := by decide +kernel
theorem dL_law_625 : decode cL_law 625 = .ok (.invokestatic 118, 3) := by decide +kernel
theorem dL_law_628 : decode cL_law 628 = .ok (.iadd, 1) := by decide +kernel
theorem dL_law_629 : decode cL_law 629 = .ok (.iload 4, 2) := by decide +kernel
theorem dL_law_631 : decode cL_law 631 = .ok (.bipush 9, 2) := by decide +kernel
theorem dL_law_633 : decode cL_law 633 = .ok (.ishr, 1) := by decide +kernel
theorem dL_law_634 : decode cL_law 634 = .ok (.sipush 8000, 3) := by decide +kernel
theorem dL_law_637 : decode cL_law 637 = .ok (.invokestatic 118, 3) := by decide +kernel
theorem dL_law_640 : decode cL_law 640 = .ok (.invokevirtual 101, 3) := by decide +kernel
theorem dL_law_643 : decode cL_law 643 = .ok (.iload 8, 2) := by decide +kernel
theorem dL_law_645 : decode cL_law 645 = .ok (.iconst 5, 1) := by decide +kernel
theorem dL_law_646 : decode cL_law 646 = .ok (.if_icmp .ne 8, 3) := by decide +kernel
theorem dL_law_649 : decode cL_law 649 = .ok (.ldc 125, 2) := by decide +kernel
theorem dL_law_651 : decode cL_law 651 = .ok (.goto 5, 3) := by decide +kernel
theorem dL_law_654 : decode cL_law 654 = .ok (.iload 8, 2) := by decide +kernel
theorem dL_law_656 : decode cL_law 656 = .ok (.if_icmp .eq 5, 3) := by decide +kernel
theorem dL_law_659 : decode cL_law 659 = .ok (.iconst 0, 1) := by decide +kernel
theorem dL_law_660 : decode cL_law 660 = .ok (.ireturn, 1) := by decide +kernel
theorem dL_law_661 : decode cL_law 661 = .ok (.goto 207, 3) := by decide +kernel
theorem dL_law_664 : decode cL_law 664 = .ok (.iload 5, 2) := by decide +kernel
theorem dL_law_666 : decode cL_law 666 = .ok (.bipush 9, 2) := by decide +kernel
theorem dL_law_668 : decode cL_law 668 = .ok (.if_icmp .ge 21, 3) := by decide +kernel
theorem dL_law_671 : decode cL_law 671 = .ok (.aload_n 1, 1) := by decide +kernel
theorem dL_law_672 : decode cL_law 672 = .ok (.iconst 1, 1) := by decide +kernel
theorem dL_law_673 : decode cL_law 673 = .ok (.iload 4, 2) := by decide +kernel
theorem dL_law_675 : decode cL_law 675 = .ok (.bipush 60, 2) := by decide +kernel
theorem dL_law_677 : decode cL_law 677 = .ok (.invokestatic 118, 3) := by decide +kernel
theorem dL_law_680 : decode cL_law 680 = .ok (.iadd, 1) := by decide +kernel
theorem dL_law_681 : decode cL_law 681 = .ok (.invokestatic 126, 3) := by decide +kernel
theorem dL_law_684 : decode cL_law 684 = .ok (.ifCond .ne 184, 3) := by decide +kernel
theorem dL_law_687 : decode cL_law 687 = .ok (.iconst 0, 1) := by decide +kernel
theorem dL_law_688 : decode cL_law 688 = .ok (.ireturn, 1) := by decide +kernel
theorem dL_law_689 : decode cL_law 689 = .ok (.iload 5, 2) := by decide +kernel
theorem dL_law_691 : decode cL_law 691 = .ok (.bipush 12, 2) := by decide +kernel
theorem dL_law_693 : decode cL_law 693 = .ok (.if_icmp .ge 37, 3) := by decide +kernel
theorem dL_law_696 : decode cL_law 696 = .ok (.aload_n 1, 1) := by decide +kernel
theorem dL_law_697 : decode cL_law 697 = .ok (.iload 6, 2) := by decide +kernel
theorem dL_law_699 : decode cL_law 699 = .ok (.iload 7, 2) := by decide +kernel
theorem dL_law_701 : decode cL_law 701 = .ok (.iconst 1, 1) := by decide +kernel
theorem dL_law_702 : decode cL_law 702 = .ok (.iload 4, 2) := by decide +kernel
theorem dL_law_704 : decode cL_law 704 = .ok (.iconst 3, 1) := by decide +kernel
theorem dL_law_705 : decode cL_law 705 = .ok (.ishr, 1) := by decide +kernel
theorem dL_law_706 : decode cL_law 706 = .ok (.iload_n 3, 1) := by decide +kernel
theorem dL_law_707 : decode cL_law 707 = .ok (.iconst 4, 1) := by decide +kernel
theorem dL_law_708 : decode cL_law 708 = .ok (.iand, 1) := by decide +kernel
theorem dL_law_709 : decode cL_law 709 = .ok (.ifCond .ne 7, 3) := by decide +kernel
theorem dL_law_712 : decode cL_law 712 = .ok (.iconst 4, 1) := by decide +kernel
theorem dL_law_713 : decode cL_law 713 = .ok (.goto 5, 3) := by decide +kernel
theorem dL_law_716 : decode cL_law 716 = .ok (.bipush 60, 2) := by decide +kernel
theorem dL_law_718 : decode cL_law 718 = .ok (.invokestatic 118, 3) := by decide +kernel
theorem dL_law_721 : decode cL_law 721 = .ok (.iadd, 1) := by decide +kernel
theorem dL_law_722 : decode cL_law 722 = .ok (.invokestatic 130, 3) := by decide +kernel
theorem dL_law_725 : decode cL_law 725 = .ok (.ifCond .ne 143, 3) := by decide +kernel
theorem dL_law_728 : decode cL_law 728 = .ok (.iconst 0, 1) := by decide +kernel
theorem dL_law_729 : decode cL_law 729 = .ok (.ireturn, 1) := by decide +kernel
theorem dL_law_730 : decode cL_law 730 = .ok (.iload 5, 2) := by decide +kernel
theorem dL_law_732 : decode cL_law 732 = .ok (.bipush 12, 2) := by decide +kernel
theorem dL_law_734 : decode cL_law 734 = .ok (.if_icmp .ne 42, 3) := by decide +kernel
theorem dL_law_737 : decode cL_law 737 = .ok (.aload_n 1, 1) := by decide +kernel
theorem dL_law_738 : decode cL_law 738 = .ok (.bipush 6, 2) := by decide +kernel
theorem dL_law_740 : decode cL_law 740 = .ok (.invokevirtual 49, 3) := by decide +kernel
theorem dL_law_743 : decode cL_law 743 = .ok (.istore 8, 2) := by decide +kernel
theorem dL_law_745 : decode cL_law 745 = .ok (.aload_n 1, 1) := by decide +kernel
theorem dL_law_746 : decode cL_law 746 = .ok (.iload 4, 2) := by decide +kernel
theorem dL_law_748 : decode cL_law 748 = .ok (.sipush 501, 3) := by decide +kernel
theorem dL_law_751 : decode cL_law 751 = .ok (.invokestatic 118, 3) := by decide +kernel
theorem dL_law_754 : decode cL_law 754 = .ok (.invokevirtual 104, 3) := by decide +kernel
theorem dL_law_757 : decode cL_law 757 = .ok (.iload 8, 2) := by decide +kernel
theorem dL_law_759 : decode cL_law 759 = .ok (.if_icmp .ne 12, 3) := by decide +kernel
theorem dL_law_762 : decode cL_law 762 = .ok (.aload_n 1, 1) := by decide +kernel
theorem dL_law_763 : decode cL_law 763 = .ok (.iload 7, 2) := by decide +kernel
theorem dL_law_765 : decode cL_law 765 = .ok (.invokestatic 134, 3) := by decide +kernel
theorem dL_law_768 : decode cL_law 768 = .ok (.ifCond .ne 5, 3) := by decide +kernel
theorem dL_law_771 : decode cL_law 771 = .ok (.iconst 0, 1) := by decide +kernel
theorem dL_law_772 : decode cL_law 772 = .ok (.ireturn, 1) := by decide +kernel
theorem dL_law_773 : decode cL_law 773 = .ok (.goto 95, 3) := by decide +kernel
theorem dL_law_776 : decode cL_law 776 = .ok (.iload 5, 2) := by decide +kernel
theorem dL_law_778 : decode cL_law 778 = .ok (.bipush 13, 2) := by decide +kernel
theorem dL_law_780 : decode cL_law 780 = .ok (.if_icmp .ne 20, 3) := by decide +kernel
theorem dL_law_783 : decode cL_law 783 = .ok (.aload_n 1, 1) := by decide +kernel
theorem dL_law_784 : decode cL_law 784 = .ok (.iload 6, 2) := by decide +kernel
theorem dL_law_786 : decode cL_law 786 = .ok (.iload 4, 2) := by decide +kernel
theorem dL_law_788 : decode cL_law 788 = .ok (.iconst 4, 1) := by decide +kernel
theorem dL_law_789 : decode cL_law 789 = .ok (.invokestatic 118, 3) := by decide +kernel
theorem dL_law_792 : decode cL_law 792 = .ok (.invokestatic 137, 3) := by decide +kernel
theorem dL_law_795 : decode cL_law 795 = .ok (.ifCond .ne 73, 3) := by decide +kernel
theorem dL_law_798 : decode cL_law 798 = .ok (.iconst 0, 1) := by decide +kernel
theorem dL_law_799 : decode cL_law 799 = .ok (.ireturn, 1) := by decide +kernel
theorem dL_law_800 : decode cL_law 800 = .ok (.iload 4, 2) := by decide +kernel
theorem dL_law_802 : decode cL_law 802 = .ok (.iconst 3, 1) := by decide +kernel
theorem dL_law_803 : decode cL_law 803 = .ok (.iand, 1) := by decide +kernel
theorem dL_law_804 : decode cL_law 804 = .ok (.ifCond .ne 64, 3) := by decide +kernel
theorem dL_law_807 : decode cL_law 807 = .ok (.aload_n 1, 1) := by decide +kernel
theorem dL_law_808 : decode cL_law 808 = .ok (.iload 6, 2) := by decide +kernel
theorem dL_law_810 : decode cL_law 810 = .ok (.iconst 2, 1) := by decide +kernel
theorem dL_law_811 : decode cL_law 811 = .ok (.invokevirtual 22, 3) := by decide +kernel
theorem dL_law_814 : decode cL_law 814 = .ok (.ifCond .le 7, 3) := by decide +kernel
theorem dL_law_817 : decode cL_law 817 = .ok (.iconst 1, 1) := by decide +kernel
theorem dL_law_818 : decode cL_law 818 = .ok (.goto 4, 3) := by decide +kernel
theorem dL_law_821 : decode cL_law 821 = .ok (.iconst 0, 1) := by decide +kernel
theorem dL_law_822 : decode cL_law 822 = .ok (.istore 8, 2) := by decide +kernel
theorem dL_law_824 : decode cL_law 824 = .ok (.aload_n 1, 1) := by decide +kernel
theorem dL_law_825 : decode cL_law 825 = .ok (.iconst 1, 1) := by decide +kernel
theorem dL_law_826 : decode cL_law 826 = .ok (.invokevirtual 49, 3) := by decide +kernel
theorem dL_law_829 : decode cL_law 829 = .ok (.istore 9, 2) := by decide +kernel
theorem dL_law_831 : decode cL_law 831 = .ok (.aload_n 1, 1) := by decide +kernel
theorem dL_law_832 : decode cL_law 832 = .ok (.iload 6, 2) := by decide +kernel
theorem dL_law_834 : decode cL_law 834 = .ok (.invokevirtual 85, 3) := by decide +kernel
theorem dL_law_837 : decode cL_law 837 = .ok (.iload 8, 2) := by decide +kernel
theorem dL_law_839 : decode cL_law 839 = .ok (.ifCond .eq 10, 3) := by decide +kernel
theorem dL_law_842 : decode cL_law 842 = .ok (.iload 9, 2) := by decide +kernel
theorem dL_law_844 : decode cL_law 844 = .ok (.iconst 1, 1) := by decide +kernel
theorem dL_law_845 : decode cL_law 845 = .ok (.isub, 1) := by decide +kernel
theorem dL_law_846 : decode cL_law 846 = .ok (.goto 5, 3) := by decide +kernel
theorem dL_law_849 : decode cL_law 849 = .ok (.ldc 74, 2) := by decide +kernel
theorem dL_law_851 : decode cL_law 851 = .ok (.if_icmp .ne 15, 3) := by decide +kernel
theorem dL_law_854 : decode cL_law 854 = .ok (.aload_n 1, 1) := by decide +kernel
theorem dL_law_855 : decode cL_law 855 = .ok (.iload 6, 2) := by decide +kernel
theorem dL_law_857 : decode cL_law 857 = .ok (.iconst 0, 1) := by decide +kernel
theorem dL_law_858 : decode cL_law 858 = .ok (.invokevirtual 22, 3) := by decide +kernel
theorem dL_law_861 : decode cL_law 861 = .ok (.ldc 35, 2) := by decide +kernel
theorem dL_law_863 : decode cL_law 863 = .ok (.if_icmp .eq 5, 3) := by decide +kernel
theorem dL_law_866 : decode cL_law 866 = .ok (.iconst 0, 1) := by decide +kernel
theorem dL_law_867 : decode cL_law 867 = .ok (.ireturn, 1) := by decide +kernel
theorem dL_law_868 : decode cL_law 868 = .ok (.aload_n 1, 1) := by decide +kernel
theorem dL_law_869 : decode cL_law 869 = .ok (.iload 4, 2) := by decide +kernel
theorem dL_law_871 : decode cL_law 871 = .ok (.sipush 801, 3) := by decide +kernel
theorem dL_law_874 : decode cL_law 874 = .ok (.invokestatic 118, 3) := by decide +kernel
theorem dL_law_877 : decode cL_law 877 = .ok (.invokestatic 141, 3) := by decide +kernel
theorem dL_law_880 : decode cL_law 880 = .ok (.ifCond .eq 40, 3) := by decide +kernel
theorem dL_law_883 : decode cL_law 883 = .ok (.aload_n 1, 1) := by decide +kernel
theorem dL_law_884 : decode cL_law 884 = .ok (.invokestatic 144, 3) := by decide +kernel
theorem dL_law_887 : decode cL_law 887 = .ok (.ifCond .eq 33, 3) := by decide +kernel
theorem dL_law_890 : decode cL_law 890 = .ok (.aload_n 1, 1) := by decide +kernel
theorem dL_law_891 : decode cL_law 891 = .ok (.iload_n 3, 1) := by decide +kernel
theorem dL_law_892 : decode cL_law 892 = .ok (.sipush 4001, 3) := by decide +kernel
theorem dL_law_895 : decode cL_law 895 = .ok (.invokestatic 118, 3) := by decide +kernel
theorem dL_law_898 : decode cL_law 898 = .ok (.sipush 2000, 3) := by decide +kernel
theorem dL_law_901 : decode cL_law 901 = .ok (.isub, 1) := by decide +kernel
theorem dL_law_902 : decode cL_law 902 = .ok (.iload 4, 2) := by decide +kernel
theorem dL_law_904 : decode cL_law 904 = .ok (.sipush 4001, 3) := by decide +kernel
theorem dL_law_907 : decode cL_law 907 = .ok (.invokestatic 118, 3) := by decide +kernel
theorem dL_law_910 : decode cL_law 910 = .ok (.sipush 2000, 3) := by decide +kernel
theorem dL_law_913 : decode cL_law 913 = .ok (.isub, 1) := by decide +kernel
theorem dL_law_914 : decode cL_law 914 = .ok (.invokestatic 148, 3) := by decide +kernel
theorem dL_law_917 : decode cL_law 917 = .ok (.ifCond .ne 5, 3) := by decide +kernel
theorem dL_law_920 : decode cL_law 920 = .ok (.iconst 0, 1) := by decide +kernel
theorem dL_law_921 : decode cL_law 921 = .ok (.ireturn, 1) := by decide +kernel
theorem dL_law_922 : decode cL_law 922 = .ok (.iinc 2 1, 3) := by decide +kernel
theorem dL_law_925 : decode cL_law 925 = .ok (.goto (-882), 3) := by decide +kernel
theorem dL_law_928 : decode cL_law 928 = .ok (.aload_n 1, 1) := by decide +kernel
theorem dL_law_929 : decode cL_law 929 = .ok (.invokestatic 151, 3) := by decide +kernel
theorem dL_law_932 : decode cL_law 932 = .ok (.ireturn, 1) := by decide +kernel
