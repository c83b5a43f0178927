theorem dX8_init_0 : decode cX8_init 0 = .ok (.aload_n 0, 1) := by decide +kernel
theorem dX8_init_1 : decode cX8_init 1 = .ok (.invokespecial 1, 3) := by decide +kernel
theorem dX8_init_4 : decode cX8_init 4 = .ok (.aload_n 0, 1) := by decide +kernel
theorem dX8_init_5 : decode cX8_init 5 = .ok (.sipush 204, 3) := by decide +kernel
theorem dX8_init_8 : decode cX8_init 8 = .ok (.newarray .int, 2) := by decide +kernel
theorem dX8_init_10 : decode cX8_init 10 = .ok (.putfield 7, 3) := by decide +kernel
theorem dX8_init_13 : decode cX8_init 13 = .ok (.aload_n 0, 1) := by decide +kernel
theorem dX8_init_14 : decode cX8_init 14 = .ok (.sipush 204, 3) := by decide +kernel
theorem dX8_init_17 : decode cX8_init 17 = .ok (.newarray .int, 2) := by decide +kernel
theorem dX8_init_19 : decode cX8_init 19 = .ok (.putfield 13, 3) := by decide +kernel
theorem dX8_init_22 : decode cX8_init 22 = .ok (.aload_n 0, 1) := by decide +kernel
theorem dX8_init_23 : decode cX8_init 23 = .ok (.sipush 1020, 3) := by decide +kernel
theorem dX8_init_26 : decode cX8_init 26 = .ok (.newarray .int, 2) := by decide +kernel
theorem dX8_init_28 : decode cX8_init 28 = .ok (.putfield 16, 3) := by decide +kernel
theorem dX8_init_31 : decode cX8_init 31 = .ok (.aload_n 0, 1) := by decide +kernel
theorem dX8_init_32 : decode cX8_init 32 = .ok (.sipush 408, 3) := by decide +kernel
theorem dX8_init_35 : decode cX8_init 35 = .ok (.newarray .int, 2) := by decide +kernel
theorem dX8_init_37 : decode cX8_init 37 = .ok (.putfield 19, 3) := by decide +kernel
theorem dX8_init_40 : decode cX8_init 40 = .ok (.aload_n 0, 1) := by decide +kernel
theorem dX8_init_41 : decode cX8_init 41 = .ok (.iconst 2, 1) := by decide +kernel
theorem dX8_init_42 : decode cX8_init 42 = .ok (.newarray .boolean, 2) := by decide +kernel
theorem dX8_init_44 : decode cX8_init 44 = .ok (.putfield 22, 3) := by decide +kernel
theorem dX8_init_47 : decode cX8_init 47 = .ok (.aload_n 0, 1) := by decide +kernel
theorem dX8_init_48 : decode cX8_init 48 = .ok (.bipush 70, 2) := by decide +kernel
theorem dX8_init_50 : decode cX8_init 50 = .ok (.newarray .char, 2) := by decide +kernel
theorem dX8_init_52 : decode cX8_init 52 = .ok (.putfield 26, 3) := by decide +kernel
theorem dX8_init_55 : decode cX8_init 55 = .ok (.aload_n 0, 1) := by decide +kernel
theorem dX8_init_56 : decode cX8_init 56 = .ok (.sipush 140, 3) := by decide +kernel
theorem dX8_init_59 : decode cX8_init 59 = .ok (.newarray .int, 2) := by decide +kernel
theorem dX8_init_61 : decode cX8_init 61 = .ok (.putfield 30, 3) := by decide +kernel
theorem dX8_init_64 : decode cX8_init 64 = .ok (.aload_n 0, 1) := by decide +kernel
theorem dX8_init_65 : decode cX8_init 65 = .ok (.getfield 7, 3) := by decide +kernel
theorem dX8_init_68 : decode cX8_init 68 = .ok (.iconst 1, 1) := by decide +kernel
theorem dX8_init_69 : decode cX8_init 69 = .ok (.bipush 10, 2) := by decide +kernel
theorem dX8_init_71 : decode cX8_init 71 = .ok (.iastore, 1) := by decide +kernel
theorem dX8_init_72 : decode cX8_init 72 = .ok (.return_, 1) := by decide +kernel
theorem dX8_in_0 : decode cX8_in 0 = .ok (.iload_n 0, 1) := by decide +kernel
theorem dX8_in_1 : decode cX8_in 1 = .ok (.iload_n 1, 1) := by decide +kernel
theorem dX8_in_2 : decode cX8_in 2 = .ok (.if_icmp .lt 12, 3) := by decide +kernel
theorem dX8_in_5 : decode cX8_in 5 = .ok (.iload_n 0, 1) := by decide +kernel
theorem dX8_in_6 : decode cX8_in 6 = .ok (.iload_n 2, 1) := by decide +kernel
theorem dX8_in_7 : decode cX8_in 7 = .ok (.if_icmp .gt 7, 3) := by decide +kernel
theorem dX8_in_10 : decode cX8_in 10 = .ok (.iconst 1, 1) := by decide +kernel
theorem dX8_in_11 : decode cX8_in 11 = .ok (.goto 4, 3) := by decide +kernel
theorem dX8_in_14 : decode cX8_in 14 = .ok (.iconst 0, 1) := by decide +kernel
theorem dX8_in_15 : decode cX8_in 15 = .ok (.ireturn, 1) := by decide +kernel
theorem dX8_size_0 : decode cX8_size 0 = .ok (.iload_n 0, 1) := by decide +kernel
theorem dX8_size_1 : decode cX8_size 1 = .ok (.ifCond .ge 8, 3) := by decide +kernel
theorem dX8_size_4 : decode cX8_size 4 = .ok (.iload_n 0, 1) := by decide +kernel
theorem dX8_size_5 : decode cX8_size 5 = .ok (.ineg, 1) := by decide +kernel
theorem dX8_size_6 : decode cX8_size 6 = .ok (.goto 4, 3) := by decide +kernel
theorem dX8_size_9 : decode cX8_size 9 = .ok (.iload_n 0, 1) := by decide +kernel
theorem dX8_size_10 : decode cX8_size 10 = .ok (.ireturn, 1) := by decide +kernel
theorem dX8_down_0 : decode cX8_down 0 = .ok (.lload_n 0, 1) := by decide +kernel
theorem dX8_down_1 : decode cX8_down 1 = .ok (.lload_n 2, 1) := by decide +kernel
theorem dX8_down_2 : decode cX8_down 2 = .ok (.ldiv, 1) := by decide +kernel
theorem dX8_down_3 : decode cX8_down 3 = .ok (.lstore 4, 2) := by decide +kernel
theorem dX8_down_5 : decode cX8_down 5 = .ok (.lload_n 0, 1) := by decide +kernel
theorem dX8_down_6 : decode cX8_down 6 = .ok (.lload_n 2, 1) := by decide +kernel
theorem dX8_down_7 : decode cX8_down 7 = .ok (.lrem, 1) := by decide +kernel
theorem dX8_down_8 : decode cX8_down 8 = .ok (.lconst 0, 1) := by decide +kernel
theorem dX8_down_9 : decode cX8_down 9 = .ok (.lcmp, 1) := by decide +kernel
theorem dX8_down_10 : decode cX8_down 10 = .ok (.ifCond .ge 10, 3) := by decide +kernel
theorem dX8_down_13 : decode cX8_down 13 = .ok (.lload 4, 2) := by decide +kernel
theorem dX8_down_15 : decode cX8_down 15 = .ok (.lconst 1, 1) := by decide +kernel
theorem dX8_down_16 : decode cX8_down 16 = .ok (.lsub, 1) := by decide +kernel
theorem dX8_down_17 : decode cX8_down 17 = .ok (.goto 5, 3) := by decide +kernel
theorem dX8_down_20 : decode cX8_down 20 = .ok (.lload 4, 2) := by decide +kernel
theorem dX8_down_22 : decode cX8_down 22 = .ok (.lreturn, 1) := by decide +kernel
theorem dX8_round_0 : decode cX8_round 0 = .ok (.lload_n 0, 1) := by decide +kernel
theorem dX8_round_1 : decode cX8_round 1 = .ok (.ldc2_w 33, 3) := by decide +kernel
theorem dX8_round_4 : decode cX8_round 4 = .ok (.lrem, 1) := by decide +kernel
theorem dX8_round_5 : decode cX8_round 5 = .ok (.lstore_n 2, 1) := by decide +kernel
theorem dX8_round_6 : decode cX8_round 6 = .ok (.lload_n 2, 1) := by decide +kernel
theorem dX8_round_7 : decode cX8_round 7 = .ok (.lconst 0, 1) := by decide +kernel
theorem dX8_round_8 : decode cX8_round 8 = .ok (.lcmp, 1) := by decide +kernel
theorem dX8_round_9 : decode cX8_round 9 = .ok (.ifCond .ge 11, 3) := by decide +kernel
theorem dX8_round_12 : decode cX8_round 12 = .ok (.lload_n 2, 1) := by decide +kernel
theorem dX8_round_13 : decode cX8_round 13 = .ok (.ldc2_w 33, 3) := by decide +kernel
theorem dX8_round_16 : decode cX8_round 16 = .ok (.ladd, 1) := by decide +kernel
theorem dX8_round_17 : decode cX8_round 17 = .ok (.goto 4, 3) := by decide +kernel
theorem dX8_round_20 : decode cX8_round 20 = .ok (.lload_n 2, 1) := by decide +kernel
theorem dX8_round_21 : decode cX8_round 21 = .ok (.l2i, 1) := by decide +kernel
theorem dX8_round_22 : decode cX8_round 22 = .ok (.ireturn, 1) := by decide +kernel
theorem dX8_refuse_0 : decode cX8_refuse 0 = .ok (.aload_n 0, 1) := by decide +kernel
theorem dX8_refuse_1 : decode cX8_refuse 1 = .ok (.iload_n 1, 1) := by decide +kernel
theorem dX8_refuse_2 : decode cX8_refuse 2 = .ok (.putfield 35, 3) := by decide +kernel
theorem dX8_refuse_5 : decode cX8_refuse 5 = .ok (.ldc 39, 2) := by decide +kernel
theorem dX8_refuse_7 : decode cX8_refuse 7 = .ok (.ireturn, 1) := by decide +kernel
theorem dX8_begin_0 : decode cX8_begin 0 = .ok (.iconst 0, 1) := by decide +kernel
theorem dX8_begin_1 : decode cX8_begin 1 = .ok (.istore_n 1, 1) := by decide +kernel
theorem dX8_begin_2 : decode cX8_begin 2 = .ok (.iload_n 1, 1) := by decide +kernel
theorem dX8_begin_3 : decode cX8_begin 3 = .ok (.sipush 204, 3) := by decide +kernel
theorem dX8_begin_6 : decode cX8_begin 6 = .ok (.if_icmp .ge 21, 3) := by decide +kernel
theorem dX8_begin_9 : decode cX8_begin 9 = .ok (.aload_n 0, 1) := by decide +kernel
theorem dX8_begin_10 : decode cX8_begin 10 = .ok (.getfield 13, 3) := by decide +kernel
theorem dX8_begin_13 : decode cX8_begin 13 = .ok (.iload_n 1, 1) := by decide +kernel
theorem dX8_begin_14 : decode cX8_begin 14 = .ok (.aload_n 0, 1) := by decide +kernel
theorem dX8_begin_15 : decode cX8_begin 15 = .ok (.getfield 7, 3) := by decide +kernel
theorem dX8_begin_18 : decode cX8_begin 18 = .ok (.iload_n 1, 1) := by decide +kernel
theorem dX8_begin_19 : decode cX8_begin 19 = .ok (.iaload, 1) := by decide +kernel
theorem dX8_begin_20 : decode cX8_begin 20 = .ok (.iastore, 1) := by decide +kernel
theorem dX8_begin_21 : decode cX8_begin 21 = .ok (.iinc 1 1, 3) := by decide +kernel
theorem dX8_begin_24 : decode cX8_begin 24 = .ok (.goto (-22), 3) := by decide +kernel
theorem dX8_begin_27 : decode cX8_begin 27 = .ok (.return_, 1) := by decide +kernel
theorem dX8_done_0 : decode cX8_done 0 = .ok (.iload_n 1, 1) := by decide +kernel
theorem dX8_done_1 : decode cX8_done 1 = .ok (.ldc 40, 2) := by decide +kernel
theorem dX8_done_3 : decode cX8_done 3 = .ok (.if_icmp .gt 5, 3) := by decide +kernel
theorem dX8_done_6 : decode cX8_done 6 = .ok (.iload_n 1, 1) := by decide +kernel
theorem dX8_done_7 : decode cX8_done 7 = .ok (.ireturn, 1) := by decide +kernel
theorem dX8_done_8 : decode cX8_done 8 = .ok (.aload_n 0, 1) := by decide +kernel
theorem dX8_done_9 : decode cX8_done 9 = .ok (.getfield 41, 3) := by decide +kernel
theorem dX8_done_12 : decode cX8_done 12 = .ok (.iconst 5, 1) := by decide +kernel
theorem dX8_done_13 : decode cX8_done 13 = .ok (.if_icmp .ne 49, 3) := by decide +kernel
theorem dX8_done_16 : decode cX8_done 16 = .ok (.aload_n 0, 1) := by decide +kernel
theorem dX8_done_17 : decode cX8_done 17 = .ok (.dup, 1) := by decide +kernel
theorem dX8_done_18 : decode cX8_done 18 = .ok (.getfield 41, 3) := by decide +kernel
theorem dX8_done_21 : decode cX8_done 21 = .ok (.iconst 1, 1) := by decide +kernel
theorem dX8_done_22 : decode cX8_done 22 = .ok (.isub, 1) := by decide +kernel
theorem dX8_done_23 : decode cX8_done 23 = .ok (.putfield 41, 3) := by decide +kernel
theorem dX8_done_26 : decode cX8_done 26 = .ok (.iconst 0, 1) := by decide +kernel
theorem dX8_done_27 : decode cX8_done 27 = .ok (.istore_n 2, 1) := by decide +kernel
theorem dX8_done_28 : decode cX8_done 28 = .ok (.iload_n 2, 1) := by decide +kernel
theorem dX8_done_29 : decode cX8_done 29 = .ok (.sipush 204, 3) := by decide +kernel
theorem dX8_done_32 : decode cX8_done 32 = .ok (.aload_n 0, 1) := by decide +kernel
theorem dX8_done_33 : decode cX8_done 33 = .ok (.getfield 41, 3) := by decide +kernel
theorem dX8_done_36 : decode cX8_done 36 = .ok (.imul, 1) := by decide +kernel
theorem dX8_done_37 : decode cX8_done 37 = .ok (.if_icmp .ge 25, 3) := by decide +kernel
theorem dX8_done_40 : decode cX8_done 40 = .ok (.aload_n 0, 1) := by decide +kernel
theorem dX8_done_41 : decode cX8_done 41 = .ok (.getfield 16, 3) := by decide +kernel
theorem dX8_done_44 : decode cX8_done 44 = .ok (.iload_n 2, 1) := by decide +kernel
theorem dX8_done_45 : decode cX8_done 45 = .ok (.aload_n 0, 1) := by decide +kernel
theorem dX8_done_46 : decode cX8_done 46 = .ok (.getfield 16, 3) := by decide +kernel
theorem dX8_done_49 : decode cX8_done 49 = .ok (.iload_n 2, 1) := by decide +kernel
theorem dX8_done_50 : decode cX8_done 50 = .ok (.sipush 204, 3) := by decide +kernel
theorem dX8_done_53 : decode cX8_done 53 = .ok (.iadd, 1) := by decide +kernel
theorem dX8_done_54 : decode cX8_done 54 = .ok (.iaload, 1) := by decide +kernel
theorem dX8_done_55 : decode cX8_done 55 = .ok (.iastore, 1) := by decide +kernel
theorem dX8_done_56 : decode cX8_done 56 = .ok (.iinc 2 1, 3) := by decide +kernel
theorem dX8_done_59 : decode cX8_done 59 = .ok (.goto (-31), 3) := by decide +kernel
theorem dX8_done_62 : decode cX8_done 62 = .ok (.iconst 0, 1) := by decide +kernel
theorem dX8_done_63 : decode cX8_done 63 = .ok (.istore_n 2, 1) := by decide +kernel
theorem dX8_done_64 : decode cX8_done 64 = .ok (.iload_n 2, 1) := by decide +kernel
theorem dX8_done_65 : decode cX8_done 65 = .ok (.sipush 204, 3) := by decide +kernel
theorem dX8_done_68 : decode cX8_done 68 = .ok (.if_icmp .ge 30, 3) := by decide +kernel
theorem dX8_done_71 : decode cX8_done 71 = .ok (.aload_n 0, 1) := by decide +kernel
theorem dX8_done_72 : decode cX8_done 72 = .ok (.getfield 16, 3) := by decide +kernel
theorem dX8_done_75 : decode cX8_done 75 = .ok (.sipush 204, 3) := by decide +kernel
theorem dX8_done_78 : decode cX8_done 78 = .ok (.aload_n 0, 1) := by decide +kernel
theorem dX8_done_79 : decode cX8_done 79 = .ok (.getfield 41, 3) := by decide +kernel
theorem dX8_done_82 : decode cX8_done 82 = .ok (.imul, 1) := by decide +kernel
theorem dX8_done_83 : decode cX8_done 83 = .ok (.iload_n 2, 1) := by decide +kernel
theorem dX8_done_84 : decode cX8_done 84 = .ok (.iadd, 1) := by decide +kernel
theorem dX8_done_85 : decode cX8_done 85 = .ok (.aload_n 0, 1) := by decide +kernel
theorem dX8_done_86 : decode cX8_done 86 = .ok (.getfield 13, 3) := by decide +kernel
theorem dX8_done_89 : decode cX8_done 89 = .ok (.iload_n 2, 1) := by decide +kernel
theorem dX8_done_90 : decode cX8_done 90 = .ok (.iaload, 1) := by decide +kernel
theorem dX8_done_91 : decode cX8_done 91 = .ok (.iastore, 1) := by decide +kernel
theorem dX8_done_92 : decode cX8_done 92 = .ok (.iinc 2 1, 3) := by decide +kernel
theorem dX8_done_95 : decode cX8_done 95 = .ok (.goto (-31), 3) := by decide +kernel
theorem dX8_done_98 : decode cX8_done 98 = .ok (.aload_n 0, 1) := by decide +kernel
theorem dX8_done_99 : decode cX8_done 99 = .ok (.dup, 1) := by decide +kernel
theorem dX8_done_100 : decode cX8_done 100 = .ok (.getfield 41, 3) := by decide +kernel
theorem dX8_done_103 : decode cX8_done 103 = .ok (.iconst 1, 1) := by decide +kernel
theorem dX8_done_104 : decode cX8_done 104 = .ok (.iadd, 1) := by decide +kernel
theorem dX8_done_105 : decode cX8_done 105 = .ok (.putfield 41, 3) := by decide +kernel
theorem dX8_done_108 : decode cX8_done 108 = .ok (.iload_n 1, 1) := by decide +kernel
theorem dX8_done_109 : decode cX8_done 109 = .ok (.ireturn, 1) := by decide +kernel
theorem dX8_undo_0 : decode cX8_undo 0 = .ok (.aload_n 0, 1) := by decide +kernel
theorem dX8_undo_1 : decode cX8_undo 1 = .ok (.getfield 41, 3) := by decide +kernel
theorem dX8_undo_4 : decode cX8_undo 4 = .ok (.ifCond .ne 6, 3) := by decide +kernel
theorem dX8_undo_7 : decode cX8_undo 7 = .ok (.ldc 44, 2) := by decide +kernel
theorem dX8_undo_9 : decode cX8_undo 9 = .ok (.ireturn, 1) := by decide +kernel
theorem dX8_undo_10 : decode cX8_undo 10 = .ok (.aload_n 0, 1) := by decide +kernel
theorem dX8_undo_11 : decode cX8_undo 11 = .ok (.dup, 1) := by decide +kernel
theorem dX8_undo_12 : decode cX8_undo 12 = .ok (.getfield 41, 3) := by decide +kernel
theorem dX8_undo_15 : decode cX8_undo 15 = .ok (.iconst 1, 1) := by decide +kernel
theorem dX8_undo_16 : decode cX8_undo 16 = .ok (.isub, 1) := by decide +kernel
theorem dX8_undo_17 : decode cX8_undo 17 = .ok (.putfield 41, 3) := by decide +kernel
theorem dX8_undo_20 : decode cX8_undo 20 = .ok (.iconst 0, 1) := by decide +kernel
theorem dX8_undo_21 : decode cX8_undo 21 = .ok (.istore_n 1, 1) := by decide +kernel
theorem dX8_undo_22 : decode cX8_undo 22 = .ok (.iload_n 1, 1) := by decide +kernel
theorem dX8_undo_23 : decode cX8_undo 23 = .ok (.sipush 204, 3) := by decide +kernel
theorem dX8_undo_26 : decode cX8_undo 26 = .ok (.if_icmp .ge 30, 3) := by decide +kernel
theorem dX8_undo_29 : decode cX8_undo 29 = .ok (.aload_n 0, 1) := by decide +kernel
theorem dX8_undo_30 : decode cX8_undo 30 = .ok (.getfield 7, 3) := by decide +kernel
theorem dX8_undo_33 : decode cX8_undo 33 = .ok (.iload_n 1, 1) := by decide +kernel
theorem dX8_undo_34 : decode cX8_undo 34 = .ok (.aload_n 0, 1) := by decide +kernel
theorem dX8_undo_35 : decode cX8_undo 35 = .ok (.getfield 16, 3) := by decide +kernel
theorem dX8_undo_38 : decode cX8_undo 38 = .ok (.sipush 204, 3) := by decide +kernel
theorem dX8_undo_41 : decode cX8_undo 41 = .ok (.aload_n 0, 1) := by decide +kernel
theorem dX8_undo_42 : decode cX8_undo 42 = .ok (.getfield 41, 3) := by decide +kernel
theorem dX8_undo_45 : decode cX8_undo 45 = .ok (.imul, 1) := by decide +kernel
theorem dX8_undo_46 : decode cX8_undo 46 = .ok (.iload_n 1, 1) := by decide +kernel
theorem dX8_undo_47 : decode cX8_undo 47 = .ok (.iadd, 1) := by decide +kernel
theorem dX8_undo_48 : decode cX8_undo 48 = .ok (.iaload, 1) := by decide +kernel
theorem dX8_undo_49 : decode cX8_undo 49 = .ok (.iastore, 1) := by decide +kernel
theorem dX8_undo_50 : decode cX8_undo 50 = .ok (.iinc 1 1, 3) := by decide +kernel
theorem dX8_undo_53 : decode cX8_undo 53 = .ok (.goto (-31), 3) := by decide +kernel
theorem dX8_undo_56 : decode cX8_undo 56 = .ok (.aload_n 0, 1) := by decide +kernel
theorem dX8_undo_57 : decode cX8_undo 57 = .ok (.getfield 41, 3) := by decide +kernel
theorem dX8_undo_60 : decode cX8_undo 60 = .ok (.ireturn, 1) := by decide +kernel
theorem dX8_keep_0 : decode cX8_keep 0 = .ok (.iload_n 1, 1) := by decide +kernel
theorem dX8_keep_1 : decode cX8_keep 1 = .ok (.iconst 0, 1) := by decide +kernel
theorem dX8_keep_2 : decode cX8_keep 2 = .ok (.iconst 1, 1) := by decide +kernel
theorem dX8_keep_3 : decode cX8_keep 3 = .ok (.invokestatic 45, 3) := by decide +kernel
theorem dX8_keep_6 : decode cX8_keep 6 = .ok (.ifCond .ne 6, 3) := by decide +kernel
theorem dX8_keep_9 : decode cX8_keep 9 = .ok (.ldc 40, 2) := by decide +kernel
theorem dX8_keep_11 : decode cX8_keep 11 = .ok (.ireturn, 1) := by decide +kernel
theorem dX8_keep_12 : decode cX8_keep 12 = .ok (.aload_n 0, 1) := by decide +kernel
theorem dX8_keep_13 : decode cX8_keep 13 = .ok (.getfield 22, 3) := by decide +kernel
theorem dX8_keep_16 : decode cX8_keep 16 = .ok (.iload_n 1, 1) := by decide +kernel
theorem dX8_keep_17 : decode cX8_keep 17 = .ok (.iconst 1, 1) := by decide +kernel
theorem dX8_keep_18 : decode cX8_keep 18 = .ok (.bastore, 1) := by decide +kernel
theorem dX8_keep_19 : decode cX8_keep 19 = .ok (.iconst 0, 1) := by decide +kernel
theorem dX8_keep_20 : decode cX8_keep 20 = .ok (.istore_n 2, 1) := by decide +kernel
theorem dX8_keep_21 : decode cX8_keep 21 = .ok (.iload_n 2, 1) := by decide +kernel
theorem dX8_keep_22 : decode cX8_keep 22 = .ok (.sipush 204, 3) := by decide +kernel
theorem dX8_keep_25 : decode cX8_keep 25 = .ok (.if_icmp .ge 27, 3) := by decide +kernel
theorem dX8_keep_28 : decode cX8_keep 28 = .ok (.aload_n 0, 1) := by decide +kernel
theorem dX8_keep_29 : decode cX8_keep 29 = .ok (.getfield 19, 3) := by decide +kernel
theorem dX8_keep_32 : decode cX8_keep 32 = .ok (.sipush 204, 3) := by decide +kernel
theorem dX8_keep_35 : decode cX8_keep 35 = .ok (.iload_n 1, 1) := by decide +kernel
theorem dX8_keep_36 : decode cX8_keep 36 = .ok (.imul, 1) := by decide +kernel
theorem dX8_keep_37 : decode cX8_keep 37 = .ok (.iload_n 2, 1) := by decide +kernel
theorem dX8_keep_38 : decode cX8_keep 38 = .ok (.iadd, 1) := by decide +kernel
theorem dX8_keep_39 : decode cX8_keep 39 = .ok (.aload_n 0, 1) := by decide +kernel
theorem dX8_keep_40 : decode cX8_keep 40 = .ok (.getfield 7, 3) := by decide +kernel
theorem dX8_keep_43 : decode cX8_keep 43 = .ok (.iload_n 2, 1) := by decide +kernel
theorem dX8_keep_44 : decode cX8_keep 44 = .ok (.iaload, 1) := by decide +kernel
theorem dX8_keep_45 : decode cX8_keep 45 = .ok (.iastore, 1) := by decide +kernel
theorem dX8_keep_46 : decode cX8_keep 46 = .ok (.iinc 2 1, 3) := by decide +kernel
theorem dX8_keep_49 : decode cX8_keep 49 = .ok (.goto (-28), 3) := by decide +kernel
theorem dX8_keep_52 : decode cX8_keep 52 = .ok (.aload_n 0, 1) := by decide +kernel
theorem dX8_keep_53 : decode cX8_keep 53 = .ok (.getfield 7, 3) := by decide +kernel
theorem dX8_keep_56 : decode cX8_keep 56 = .ok (.iconst 0, 1) := by decide +kernel
theorem dX8_keep_57 : decode cX8_keep 57 = .ok (.iaload, 1) := by decide +kernel
theorem dX8_keep_58 : decode cX8_keep 58 = .ok (.ireturn, 1) := by decide +kernel
theorem dX8_restore_0 : decode cX8_restore 0 = .ok (.iload_n 1, 1) := by decide +kernel
theorem dX8_restore_1 : decode cX8_restore 1 = .ok (.iconst 0, 1) := by decide +kernel
theorem dX8_restore_2 : decode cX8_restore 2 = .ok (.iconst 1, 1) := by decide +kernel
theorem dX8_restore_3 : decode cX8_restore 3 = .ok (.invokestatic 45, 3) := by decide +kernel
theorem dX8_restore_6 : decode cX8_restore 6 = .ok (.ifCond .ne 6, 3) := by decide +kernel
theorem dX8_restore_9 : decode cX8_restore 9 = .ok (.ldc 40, 2) := by decide +kernel
theorem dX8_restore_11 : decode cX8_restore 11 = .ok (.ireturn, 1) := by decide +kernel
theorem dX8_restore_12 : decode cX8_restore 12 = .ok (.aload_n 0, 1) := by decide +kernel
theorem dX8_restore_13 : decode cX8_restore 13 = .ok (.getfield 22, 3) := by decide +kernel
theorem dX8_restore_16 : decode cX8_restore 16 = .ok (.iload_n 1, 1) := by decide +kernel
theorem dX8_restore_17 : decode cX8_restore 17 = .ok (.baload, 1) := by decide +kernel
theorem dX8_restore_18 : decode cX8_restore 18 = .ok (.ifCond .ne 6, 3) := by decide +kernel
theorem dX8_restore_21 : decode cX8_restore 21 = .ok (.ldc 44, 2) := by decide +kernel
theorem dX8_restore_23 : decode cX8_restore 23 = .ok (.ireturn, 1) := by decide +kernel
theorem dX8_restore_24 : decode cX8_restore 24 = .ok (.aload_n 0, 1) := by decide +kernel
theorem dX8_restore_25 : decode cX8_restore 25 = .ok (.invokevirtual 49, 3) := by decide +kernel
theorem dX8_restore_28 : decode cX8_restore 28 = .ok (.iconst 0, 1) := by decide +kernel
theorem dX8_restore_29 : decode cX8_restore 29 = .ok (.istore_n 2, 1) := by decide +kernel
theorem dX8_restore_30 : decode cX8_restore 30 = .ok (.iload_n 2, 1) := by decide +kernel
theorem dX8_restore_31 : decode cX8_restore 31 = .ok (.sipush 204, 3) := by decide +kernel
theorem dX8_restore_34 : decode cX8_restore 34 = .ok (.if_icmp .ge 27, 3) := by decide +kernel
theorem dX8_restore_37 : decode cX8_restore 37 = .ok (.aload_n 0, 1) := by decide +kernel
theorem dX8_restore_38 : decode cX8_restore 38 = .ok (.getfield 7, 3) := by decide +kernel
theorem dX8_restore_41 : decode cX8_restore 41 = .ok (.iload_n 2, 1) := by decide +kernel
theorem dX8_restore_42 : decode cX8_restore 42 = .ok (.aload_n 0, 1) := by decide +kernel
theorem dX8_restore_43 : decode cX8_restore 43 = .ok (.getfield 19, 3) := by decide +kernel
theorem dX8_restore_46 : decode cX8_restore 46 = .ok (.sipush 204, 3) := by decide +kernel
theorem dX8_restore_49 : decode cX8_restore 49 = .ok (.iload_n 1, 1) := by decide +kernel
theorem dX8_restore_50 : decode cX8_restore 50 = .ok (.imul, 1) := by decide +kernel
theorem dX8_restore_51 : decode cX8_restore 51 = .ok (.iload_n 2, 1) := by decide +kernel
theorem dX8_restore_52 : decode cX8_restore 52 = .ok (.iadd, 1) := by decide +kernel
theorem dX8_restore_53 : decode cX8_restore 53 = .ok (.iaload, 1) := by decide +kernel
theorem dX8_restore_54 : decode cX8_restore 54 = .ok (.iastore, 1) := by decide +kernel
theorem dX8_restore_55 : decode cX8_restore 55 = .ok (.iinc 2 1, 3) := by decide +kernel
theorem dX8_restore_58 : decode cX8_restore 58 = .ok (.goto (-28), 3) := by decide +kernel
theorem dX8_restore_61 : decode cX8_restore 61 = .ok (.aload_n 0, 1) := by decide +kernel
theorem dX8_restore_62 : decode cX8_restore 62 = .ok (.aload_n 0, 1) := by decide +kernel
theorem dX8_restore_63 : decode cX8_restore 63 = .ok (.getfield 7, 3) := by decide +kernel
theorem dX8_restore_66 : decode cX8_restore 66 = .ok (.iconst 0, 1) := by decide +kernel
theorem dX8_restore_67 : decode cX8_restore 67 = .ok (.iaload, 1) := by decide +kernel
theorem dX8_restore_68 : decode cX8_restore 68 = .ok (.invokevirtual 52, 3) := by decide +kernel
theorem dX8_restore_71 : decode cX8_restore 71 = .ok (.ireturn, 1) := by decide +kernel
theorem dX8_of_0 : decode cX8_of 0 = .ok (.aload_n 0, 1) := by decide +kernel
theorem dX8_of_1 : decode cX8_of 1 = .ok (.getfield 7, 3) := by decide +kernel
theorem dX8_of_4 : decode cX8_of 4 = .ok (.iconst 5, 1) := by decide +kernel
theorem dX8_of_5 : decode cX8_of 5 = .ok (.bipush 11, 2) := by decide +kernel
theorem dX8_of_7 : decode cX8_of 7 = .ok (.iload_n 1, 1) := by decide +kernel
theorem dX8_of_8 : decode cX8_of 8 = .ok (.imul, 1) := by decide +kernel
theorem dX8_of_9 : decode cX8_of 9 = .ok (.iadd, 1) := by decide +kernel
theorem dX8_of_10 : decode cX8_of 10 = .ok (.iload_n 2, 1) := by decide +kernel
theorem dX8_of_11 : decode cX8_of 11 = .ok (.iadd, 1) := by decide +kernel
theorem dX8_of_12 : decode cX8_of 12 = .ok (.iaload, 1) := by decide +kernel
theorem dX8_of_13 : decode cX8_of 13 = .ok (.ireturn, 1) := by decide +kernel
theorem dX8_put_0 : decode cX8_put 0 = .ok (.aload_n 0, 1) := by decide +kernel
theorem dX8_put_1 : decode cX8_put 1 = .ok (.getfield 7, 3) := by decide +kernel
theorem dX8_put_4 : decode cX8_put 4 = .ok (.iconst 5, 1) := by decide +kernel
theorem dX8_put_5 : decode cX8_put 5 = .ok (.bipush 11, 2) := by decide +kernel
theorem dX8_put_7 : decode cX8_put 7 = .ok (.iload_n 1, 1) := by decide +kernel
theorem dX8_put_8 : decode cX8_put 8 = .ok (.imul, 1) := by decide +kernel
theorem dX8_put_9 : decode cX8_put 9 = .ok (.iadd, 1) := by decide +kernel
theorem dX8_put_10 : decode cX8_put 10 = .ok (.iload_n 2, 1) := by decide +kernel
theorem dX8_put_11 : decode cX8_put 11 = .ok (.iadd, 1) := by decide +kernel
theorem dX8_put_12 : decode cX8_put 12 = .ok (.iload_n 3, 1) := by decide +kernel
theorem dX8_put_13 : decode cX8_put 13 = .ok (.iastore, 1) := by decide +kernel
theorem dX8_put_14 : decode cX8_put 14 = .ok (.return_, 1) := by decide +kernel
theorem dX8_noWire_0 : decode cX8_noWire 0 = .ok (.iload_n 0, 1) := by decide +kernel
theorem dX8_noWire_1 : decode cX8_noWire 1 = .ok (.iconst 0, 1) := by decide +kernel
theorem dX8_noWire_2 : decode cX8_noWire 2 = .ok (.iconst 3, 1) := by decide +kernel
theorem dX8_noWire_3 : decode cX8_noWire 3 = .ok (.invokestatic 45, 3) := by decide +kernel
theorem dX8_noWire_6 : decode cX8_noWire 6 = .ok (.ifCond .ne 7, 3) := by decide +kernel
theorem dX8_noWire_9 : decode cX8_noWire 9 = .ok (.iconst 1, 1) := by decide +kernel
theorem dX8_noWire_10 : decode cX8_noWire 10 = .ok (.goto 4, 3) := by decide +kernel
theorem dX8_noWire_13 : decode cX8_noWire 13 = .ok (.iconst 0, 1) := by decide +kernel
theorem dX8_noWire_14 : decode cX8_noWire 14 = .ok (.ireturn, 1) := by decide +kernel
theorem dX8_noStation_0 : decode cX8_noStation 0 = .ok (.iload_n 1, 1) := by decide +kernel
theorem dX8_noStation_1 : decode cX8_noStation 1 = .ok (.iconst 0, 1) := by decide +kernel
theorem dX8_noStation_2 : decode cX8_noStation 2 = .ok (.aload_n 0, 1) := by decide +kernel
theorem dX8_noStation_3 : decode cX8_noStation 3 = .ok (.getfield 7, 3) := by decide +kernel
theorem dX8_noStation_6 : decode cX8_noStation 6 = .ok (.iconst 4, 1) := by decide +kernel
theorem dX8_noStation_7 : decode cX8_noStation 7 = .ok (.iaload, 1) := by decide +kernel
theorem dX8_noStation_8 : decode cX8_noStation 8 = .ok (.iconst 1, 1) := by decide +kernel
theorem dX8_noStation_9 : decode cX8_noStation 9 = .ok (.isub, 1) := by decide +kernel
theorem dX8_noStation_10 : decode cX8_noStation 10 = .ok (.invokestatic 45, 3) := by decide +kernel
theorem dX8_noStation_13 : decode cX8_noStation 13 = .ok (.ifCond .ne 7, 3) := by decide +kernel
theorem dX8_noStation_16 : decode cX8_noStation 16 = .ok (.iconst 1, 1) := by decide +kernel
theorem dX8_noStation_17 : decode cX8_noStation 17 = .ok (.goto 4, 3) := by decide +kernel
theorem dX8_noStation_20 : decode cX8_noStation 20 = .ok (.iconst 0, 1) := by decide +kernel
theorem dX8_noStation_21 : decode cX8_noStation 21 = .ok (.ireturn, 1) := by decide +kernel
theorem dX8_isHung_0 : decode cX8_isHung 0 = .ok (.aload_n 0, 1) := by decide +kernel
theorem dX8_isHung_1 : decode cX8_isHung 1 = .ok (.iload_n 1, 1) := by decide +kernel
theorem dX8_isHung_2 : decode cX8_isHung 2 = .ok (.iconst 0, 1) := by decide +kernel
theorem dX8_isHung_3 : decode cX8_isHung 3 = .ok (.invokevirtual 56, 3) := by decide +kernel
theorem dX8_isHung_6 : decode cX8_isHung 6 = .ok (.iconst 1, 1) := by decide +kernel
theorem dX8_isHung_7 : decode cX8_isHung 7 = .ok (.if_icmp .ne 7, 3) := by decide +kernel
theorem dX8_isHung_10 : decode cX8_isHung 10 = .ok (.iconst 1, 1) := by decide +kernel
theorem dX8_isHung_11 : decode cX8_isHung 11 = .ok (.goto 4, 3) := by decide +kernel
theorem dX8_isHung_14 : decode cX8_isHung 14 = .ok (.iconst 0, 1) := by decide +kernel
theorem dX8_isHung_15 : decode cX8_isHung 15 = .ok (.ireturn, 1) := by decide +kernel
theorem dX8_hungOnes_0 : decode cX8_hungOnes 0 = .ok (.iconst 0, 1) := by decide +kernel
theorem dX8_hungOnes_1 : decode cX8_hungOnes 1 = .ok (.istore_n 1, 1) := by decide +kernel
theorem dX8_hungOnes_2 : decode cX8_hungOnes 2 = .ok (.iconst 0, 1) := by decide +kernel
theorem dX8_hungOnes_3 : decode cX8_hungOnes 3 = .ok (.istore_n 2, 1) := by decide +kernel
theorem dX8_hungOnes_4 : decode cX8_hungOnes 4 = .ok (.iload_n 2, 1) := by decide +kernel
theorem dX8_hungOnes_5 : decode cX8_hungOnes 5 = .ok (.iconst 4, 1) := by decide +kernel
theorem dX8_hungOnes_6 : decode cX8_hungOnes 6 = .ok (.if_icmp .ge 18, 3) := by decide +kernel
theorem dX8_hungOnes_9 : decode cX8_hungOnes 9 = .ok (.iload_n 1, 1) := by decide +kernel
theorem dX8_hungOnes_10 : decode cX8_hungOnes 10 = .ok (.aload_n 0, 1) := by decide +kernel
theorem dX8_hungOnes_11 : decode cX8_hungOnes 11 = .ok (.iload_n 2, 1) := by decide +kernel
theorem dX8_hungOnes_12 : decode cX8_hungOnes 12 = .ok (.iconst 0, 1) := by decide +kernel
theorem dX8_hungOnes_13 : decode cX8_hungOnes 13 = .ok (.invokevirtual 56, 3) := by decide +kernel
theorem dX8_hungOnes_16 : decode cX8_hungOnes 16 = .ok (.iadd, 1) := by decide +kernel
theorem dX8_hungOnes_17 : decode cX8_hungOnes 17 = .ok (.istore_n 1, 1) := by decide +kernel
theorem dX8_hungOnes_18 : decode cX8_hungOnes 18 = .ok (.iinc 2 1, 3) := by decide +kernel
theorem dX8_hungOnes_21 : decode cX8_hungOnes 21 = .ok (.goto (-17), 3) := by decide +kernel
theorem dX8_hungOnes_24 : decode cX8_hungOnes 24 = .ok (.iload_n 1, 1) := by decide +kernel
theorem dX8_hungOnes_25 : decode cX8_hungOnes 25 = .ok (.ireturn, 1) := by decide +kernel
theorem dX8_seenAt_0 : decode cX8_seenAt 0 = .ok (.bipush 84, 2) := by decide +kernel
theorem dX8_seenAt_2 : decode cX8_seenAt 2 = .ok (.bipush 6, 2) := by decide +kernel
theorem dX8_seenAt_4 : decode cX8_seenAt 4 = .ok (.iconst 4, 1) := by decide +kernel
theorem dX8_seenAt_5 : decode cX8_seenAt 5 = .ok (.iload_n 0, 1) := by decide +kernel
theorem dX8_seenAt_6 : decode cX8_seenAt 6 = .ok (.imul, 1) := by decide +kernel
theorem dX8_seenAt_7 : decode cX8_seenAt 7 = .ok (.iload_n 1, 1) := by decide +kernel
theorem dX8_seenAt_8 : decode cX8_seenAt 8 = .ok (.iadd, 1) := by decide +kernel
theorem dX8_seenAt_9 : decode cX8_seenAt 9 = .ok (.imul, 1) := by decide +kernel
theorem dX8_seenAt_10 : decode cX8_seenAt 10 = .ok (.iadd, 1) := by decide +kernel
theorem dX8_seenAt_11 : decode cX8_seenAt 11 = .ok (.ireturn, 1) := by decide +kernel
theorem dX8_voidOf_0 : decode cX8_voidOf 0 = .ok (.iconst 0, 1) := by decide +kernel
theorem dX8_voidOf_1 : decode cX8_voidOf 1 = .ok (.istore_n 2, 1) := by decide +kernel
theorem dX8_voidOf_2 : decode cX8_voidOf 2 = .ok (.iconst 0, 1) := by decide +kernel
theorem dX8_voidOf_3 : decode cX8_voidOf 3 = .ok (.istore_n 3, 1) := by decide +kernel
theorem dX8_voidOf_4 : decode cX8_voidOf 4 = .ok (.iload_n 3, 1) := by decide +kernel
theorem dX8_voidOf_5 : decode cX8_voidOf 5 = .ok (.iconst 5, 1) := by decide +kernel
theorem dX8_voidOf_6 : decode cX8_voidOf 6 = .ok (.if_icmp .ge 37, 3) := by decide +kernel
theorem dX8_voidOf_9 : decode cX8_voidOf 9 = .ok (.iload_n 2, 1) := by decide +kernel
theorem dX8_voidOf_10 : decode cX8_voidOf 10 = .ok (.aload_n 0, 1) := by decide +kernel
theorem dX8_voidOf_11 : decode cX8_voidOf 11 = .ok (.getfield 7, 3) := by decide +kernel
theorem dX8_voidOf_14 : decode cX8_voidOf 14 = .ok (.iload_n 3, 1) := by decide +kernel
theorem dX8_voidOf_15 : decode cX8_voidOf 15 = .ok (.iload_n 1, 1) := by decide +kernel
theorem dX8_voidOf_16 : decode cX8_voidOf 16 = .ok (.invokestatic 60, 3) := by decide +kernel
theorem dX8_voidOf_19 : decode cX8_voidOf 19 = .ok (.iconst 0, 1) := by decide +kernel
theorem dX8_voidOf_20 : decode cX8_voidOf 20 = .ok (.iadd, 1) := by decide +kernel
theorem dX8_voidOf_21 : decode cX8_voidOf 21 = .ok (.iaload, 1) := by decide +kernel
theorem dX8_voidOf_22 : decode cX8_voidOf 22 = .ok (.iadd, 1) := by decide +kernel
theorem dX8_voidOf_23 : decode cX8_voidOf 23 = .ok (.istore_n 2, 1) := by decide +kernel
theorem dX8_voidOf_24 : decode cX8_voidOf 24 = .ok (.aload_n 0, 1) := by decide +kernel
theorem dX8_voidOf_25 : decode cX8_voidOf 25 = .ok (.getfield 7, 3) := by decide +kernel
theorem dX8_voidOf_28 : decode cX8_voidOf 28 = .ok (.iload_n 3, 1) := by decide +kernel
theorem dX8_voidOf_29 : decode cX8_voidOf 29 = .ok (.iload_n 1, 1) := by decide +kernel
theorem dX8_voidOf_30 : decode cX8_voidOf 30 = .ok (.invokestatic 60, 3) := by decide +kernel
theorem dX8_voidOf_33 : decode cX8_voidOf 33 = .ok (.iconst 0, 1) := by decide +kernel
theorem dX8_voidOf_34 : decode cX8_voidOf 34 = .ok (.iadd, 1) := by decide +kernel
theorem dX8_voidOf_35 : decode cX8_voidOf 35 = .ok (.iconst 0, 1) := by decide +kernel
theorem dX8_voidOf_36 : decode cX8_voidOf 36 = .ok (.iastore, 1) := by decide +kernel
theorem dX8_voidOf_37 : decode cX8_voidOf 37 = .ok (.iinc 3 1, 3) := by decide +kernel
theorem dX8_voidOf_40 : decode cX8_voidOf 40 = .ok (.goto (-36), 3) := by decide +kernel
theorem dX8_voidOf_43 : decode cX8_voidOf 43 = .ok (.iload_n 2, 1) := by decide +kernel
theorem dX8_voidOf_44 : decode cX8_voidOf 44 = .ok (.ireturn, 1) := by decide +kernel
theorem dX8_voidAll_0 : decode cX8_voidAll 0 = .ok (.iconst 0, 1) := by decide +kernel
theorem dX8_voidAll_1 : decode cX8_voidAll 1 = .ok (.istore_n 1, 1) := by decide +kernel
theorem dX8_voidAll_2 : decode cX8_voidAll 2 = .ok (.iconst 0, 1) := by decide +kernel
theorem dX8_voidAll_3 : decode cX8_voidAll 3 = .ok (.istore_n 2, 1) := by decide +kernel
theorem dX8_voidAll_4 : decode cX8_voidAll 4 = .ok (.iload_n 2, 1) := by decide +kernel
theorem dX8_voidAll_5 : decode cX8_voidAll 5 = .ok (.iconst 4, 1) := by decide +kernel
theorem dX8_voidAll_6 : decode cX8_voidAll 6 = .ok (.if_icmp .ge 17, 3) := by decide +kernel
theorem dX8_voidAll_9 : decode cX8_voidAll 9 = .ok (.iload_n 1, 1) := by decide +kernel
theorem dX8_voidAll_10 : decode cX8_voidAll 10 = .ok (.aload_n 0, 1) := by decide +kernel
theorem dX8_voidAll_11 : decode cX8_voidAll 11 = .ok (.iload_n 2, 1) := by decide +kernel
theorem dX8_voidAll_12 : decode cX8_voidAll 12 = .ok (.invokevirtual 63, 3) := by decide +kernel
theorem dX8_voidAll_15 : decode cX8_voidAll 15 = .ok (.iadd, 1) := by decide +kernel
theorem dX8_voidAll_16 : decode cX8_voidAll 16 = .ok (.istore_n 1, 1) := by decide +kernel
theorem dX8_voidAll_17 : decode cX8_voidAll 17 = .ok (.iinc 2 1, 3) := by decide +kernel
theorem dX8_voidAll_20 : decode cX8_voidAll 20 = .ok (.goto (-16), 3) := by decide +kernel
theorem dX8_voidAll_23 : decode cX8_voidAll 23 = .ok (.return_, 1) := by decide +kernel
theorem dX8_hang_0 : decode cX8_hang 0 = .ok (.iload_n 1, 1) := by decide +kernel
theorem dX8_hang_1 : decode cX8_hang 1 = .ok (.invokestatic 66, 3) := by decide +kernel
theorem dX8_hang_4 : decode cX8_hang 4 = .ok (.ifCond .eq 6, 3) := by decide +kernel
theorem dX8_hang_7 : decode cX8_hang 7 = .ok (.ldc 40, 2) := by decide +kernel
theorem dX8_hang_9 : decode cX8_hang 9 = .ok (.ireturn, 1) := by decide +kernel
theorem dX8_hang_10 : decode cX8_hang 10 = .ok (.iload_n 2, 1) := by decide +kernel
theorem dX8_hang_11 : decode cX8_hang 11 = .ok (.sipush (-5000), 3) := by decide +kernel
theorem dX8_hang_14 : decode cX8_hang 14 = .ok (.sipush 5000, 3) := by decide +kernel
theorem dX8_hang_17 : decode cX8_hang 17 = .ok (.invokestatic 45, 3) := by decide +kernel
theorem dX8_hang_20 : decode cX8_hang 20 = .ok (.ifCond .eq 41, 3) := by decide +kernel
theorem dX8_hang_23 : decode cX8_hang 23 = .ok (.iload_n 3, 1) := by decide +kernel
theorem dX8_hang_24 : decode cX8_hang 24 = .ok (.sipush (-5000), 3) := by decide +kernel
theorem dX8_hang_27 : decode cX8_hang 27 = .ok (.sipush 5000, 3) := by decide +kernel
theorem dX8_hang_30 : decode cX8_hang 30 = .ok (.invokestatic 45, 3) := by decide +kernel
theorem dX8_hang_33 : decode cX8_hang 33 = .ok (.ifCond .eq 28, 3) := by decide +kernel
theorem dX8_hang_36 : decode cX8_hang 36 = .ok (.iload 4, 2) := by decide +kernel
theorem dX8_hang_38 : decode cX8_hang 38 = .ok (.iconst 1, 1) := by decide +kernel
theorem dX8_hang_39 : decode cX8_hang 39 = .ok (.sipush 200, 3) := by decide +kernel
theorem dX8_hang_42 : decode cX8_hang 42 = .ok (.invokestatic 45, 3) := by decide +kernel
theorem dX8_hang_45 : decode cX8_hang 45 = .ok (.ifCond .eq 16, 3) := by decide +kernel
theorem dX8_hang_48 : decode cX8_hang 48 = .ok (.iload 5, 2) := by decide +kernel
theorem dX8_hang_50 : decode cX8_hang 50 = .ok (.bipush 10, 2) := by decide +kernel
theorem dX8_hang_52 : decode cX8_hang 52 = .ok (.sipush 800, 3) := by decide +kernel
theorem dX8_hang_55 : decode cX8_hang 55 = .ok (.invokestatic 45, 3) := by decide +kernel
theorem dX8_hang_58 : decode cX8_hang 58 = .ok (.ifCond .ne 6, 3) := by decide +kernel
theorem dX8_hang_61 : decode cX8_hang 61 = .ok (.ldc 70, 2) := by decide +kernel
theorem dX8_hang_63 : decode cX8_hang 63 = .ok (.ireturn, 1) := by decide +kernel
theorem dX8_hang_64 : decode cX8_hang 64 = .ok (.aload_n 0, 1) := by decide +kernel
theorem dX8_hang_65 : decode cX8_hang 65 = .ok (.invokevirtual 49, 3) := by decide +kernel
theorem dX8_hang_68 : decode cX8_hang 68 = .ok (.iconst 0, 1) := by decide +kernel
theorem dX8_hang_69 : decode cX8_hang 69 = .ok (.istore 6, 2) := by decide +kernel
theorem dX8_hang_71 : decode cX8_hang 71 = .ok (.iload 6, 2) := by decide +kernel
theorem dX8_hang_73 : decode cX8_hang 73 = .ok (.bipush 11, 2) := by decide +kernel
theorem dX8_hang_75 : decode cX8_hang 75 = .ok (.if_icmp .ge 17, 3) := by decide +kernel
theorem dX8_hang_78 : decode cX8_hang 78 = .ok (.aload_n 0, 1) := by decide +kernel
theorem dX8_hang_79 : decode cX8_hang 79 = .ok (.iload_n 1, 1) := by decide +kernel
theorem dX8_hang_80 : decode cX8_hang 80 = .ok (.iload 6, 2) := by decide +kernel
theorem dX8_hang_82 : decode cX8_hang 82 = .ok (.iconst 0, 1) := by decide +kernel
theorem dX8_hang_83 : decode cX8_hang 83 = .ok (.invokevirtual 71, 3) := by decide +kernel
theorem dX8_hang_86 : decode cX8_hang 86 = .ok (.iinc 6 1, 3) := by decide +kernel
theorem dX8_hang_89 : decode cX8_hang 89 = .ok (.goto (-18), 3) := by decide +kernel
theorem dX8_hang_92 : decode cX8_hang 92 = .ok (.aload_n 0, 1) := by decide +kernel
theorem dX8_hang_93 : decode cX8_hang 93 = .ok (.iload_n 1, 1) := by decide +kernel
theorem dX8_hang_94 : decode cX8_hang 94 = .ok (.iconst 0, 1) := by decide +kernel
theorem dX8_hang_95 : decode cX8_hang 95 = .ok (.iconst 1, 1) := by decide +kernel
theorem dX8_hang_96 : decode cX8_hang 96 = .ok (.invokevirtual 71, 3) := by decide +kernel
theorem dX8_hang_99 : decode cX8_hang 99 = .ok (.aload_n 0, 1) := by decide +kernel
theorem dX8_hang_100 : decode cX8_hang 100 = .ok (.iload_n 1, 1) := by decide +kernel
theorem dX8_hang_101 : decode cX8_hang 101 = .ok (.iconst 1, 1) := by decide +kernel
theorem dX8_hang_102 : decode cX8_hang 102 = .ok (.iload_n 2, 1) := by decide +kernel
theorem dX8_hang_103 : decode cX8_hang 103 = .ok (.invokevirtual 71, 3) := by decide +kernel
theorem dX8_hang_106 : decode cX8_hang 106 = .ok (.aload_n 0, 1) := by decide +kernel
theorem dX8_hang_107 : decode cX8_hang 107 = .ok (.iload_n 1, 1) := by decide +kernel
theorem dX8_hang_108 : decode cX8_hang 108 = .ok (.iconst 2, 1) := by decide +kernel
theorem dX8_hang_109 : decode cX8_hang 109 = .ok (.iload_n 3, 1) := by decide +kernel
theorem dX8_hang_110 : decode cX8_hang 110 = .ok (.invokevirtual 71, 3) := by decide +kernel
theorem dX8_hang_113 : decode cX8_hang 113 = .ok (.aload_n 0, 1) := by decide +kernel
theorem dX8_hang_114 : decode cX8_hang 114 = .ok (.iload_n 1, 1) := by decide +kernel
theorem dX8_hang_115 : decode cX8_hang 115 = .ok (.iconst 3, 1) := by decide +kernel
theorem dX8_hang_116 : decode cX8_hang 116 = .ok (.iload 4, 2) := by decide +kernel
theorem dX8_hang_118 : decode cX8_hang 118 = .ok (.invokevirtual 71, 3) := by decide +kernel
theorem dX8_hang_121 : decode cX8_hang 121 = .ok (.aload_n 0, 1) := by decide +kernel
theorem dX8_hang_122 : decode cX8_hang 122 = .ok (.iload_n 1, 1) := by decide +kernel
theorem dX8_hang_123 : decode cX8_hang 123 = .ok (.iconst 4, 1) := by decide +kernel
theorem dX8_hang_124 : decode cX8_hang 124 = .ok (.iload 5, 2) := by decide +kernel
theorem dX8_hang_126 : decode cX8_hang 126 = .ok (.invokevirtual 71, 3) := by decide +kernel
theorem dX8_hang_129 : decode cX8_hang 129 = .ok (.aload_n 0, 1) := by decide +kernel
theorem dX8_hang_130 : decode cX8_hang 130 = .ok (.iload_n 1, 1) := by decide +kernel
theorem dX8_hang_131 : decode cX8_hang 131 = .ok (.invokevirtual 63, 3) := by decide +kernel
theorem dX8_hang_134 : decode cX8_hang 134 = .ok (.istore 6, 2) := by decide +kernel
theorem dX8_hang_136 : decode cX8_hang 136 = .ok (.aload_n 0, 1) := by decide +kernel
theorem dX8_hang_137 : decode cX8_hang 137 = .ok (.aload_n 0, 1) := by decide +kernel
theorem dX8_hang_138 : decode cX8_hang 138 = .ok (.invokevirtual 75, 3) := by decide +kernel
theorem dX8_hang_141 : decode cX8_hang 141 = .ok (.invokevirtual 52, 3) := by decide +kernel
theorem dX8_hang_144 : decode cX8_hang 144 = .ok (.ireturn, 1) := by decide +kernel
theorem dX8_lift_0 : decode cX8_lift 0 = .ok (.iload_n 1, 1) := by decide +kernel
theorem dX8_lift_1 : decode cX8_lift 1 = .ok (.invokestatic 66, 3) := by decide +kernel
theorem dX8_lift_4 : decode cX8_lift 4 = .ok (.ifCond .eq 6, 3) := by decide +kernel
theorem dX8_lift_7 : decode cX8_lift 7 = .ok (.ldc 40, 2) := by decide +kernel
theorem dX8_lift_9 : decode cX8_lift 9 = .ok (.ireturn, 1) := by decide +kernel
theorem dX8_lift_10 : decode cX8_lift 10 = .ok (.aload_n 0, 1) := by decide +kernel
theorem dX8_lift_11 : decode cX8_lift 11 = .ok (.iload_n 1, 1) := by decide +kernel
theorem dX8_lift_12 : decode cX8_lift 12 = .ok (.invokevirtual 79, 3) := by decide +kernel
theorem dX8_lift_15 : decode cX8_lift 15 = .ok (.ifCond .ne 9, 3) := by decide +kernel
theorem dX8_lift_18 : decode cX8_lift 18 = .ok (.aload_n 0, 1) := by decide +kernel
theorem dX8_lift_19 : decode cX8_lift 19 = .ok (.iconst 1, 1) := by decide +kernel
theorem dX8_lift_20 : decode cX8_lift 20 = .ok (.invokevirtual 82, 3) := by decide +kernel
theorem dX8_lift_23 : decode cX8_lift 23 = .ok (.ireturn, 1) := by decide +kernel
theorem dX8_lift_24 : decode cX8_lift 24 = .ok (.aload_n 0, 1) := by decide +kernel
theorem dX8_lift_25 : decode cX8_lift 25 = .ok (.invokevirtual 49, 3) := by decide +kernel
theorem dX8_lift_28 : decode cX8_lift 28 = .ok (.aload_n 0, 1) := by decide +kernel
theorem dX8_lift_29 : decode cX8_lift 29 = .ok (.iload_n 1, 1) := by decide +kernel
theorem dX8_lift_30 : decode cX8_lift 30 = .ok (.iconst 0, 1) := by decide +kernel
theorem dX8_lift_31 : decode cX8_lift 31 = .ok (.iconst 0, 1) := by decide +kernel
theorem dX8_lift_32 : decode cX8_lift 32 = .ok (.invokevirtual 71, 3) := by decide +kernel
theorem dX8_lift_35 : decode cX8_lift 35 = .ok (.aload_n 0, 1) := by decide +kernel
theorem dX8_lift_36 : decode cX8_lift 36 = .ok (.iload_n 1, 1) := by decide +kernel
theorem dX8_lift_37 : decode cX8_lift 37 = .ok (.invokevirtual 63, 3) := by decide +kernel
theorem dX8_lift_40 : decode cX8_lift 40 = .ok (.istore_n 2, 1) := by decide +kernel
theorem dX8_lift_41 : decode cX8_lift 41 = .ok (.aload_n 0, 1) := by decide +kernel
theorem dX8_lift_42 : decode cX8_lift 42 = .ok (.aload_n 0, 1) := by decide +kernel
theorem dX8_lift_43 : decode cX8_lift 43 = .ok (.invokevirtual 75, 3) := by decide +kernel
theorem dX8_lift_46 : decode cX8_lift 46 = .ok (.invokevirtual 52, 3) := by decide +kernel
theorem dX8_lift_49 : decode cX8_lift 49 = .ok (.ireturn, 1) := by decide +kernel
theorem dX8_setClamp_0 : decode cX8_setClamp 0 = .ok (.iload_n 1, 1) := by decide +kernel
theorem dX8_setClamp_1 : decode cX8_setClamp 1 = .ok (.invokestatic 66, 3) := by decide +kernel
theorem dX8_setClamp_4 : decode cX8_setClamp 4 = .ok (.ifCond .eq 6, 3) := by decide +kernel
theorem dX8_setClamp_7 : decode cX8_setClamp 7 = .ok (.ldc 40, 2) := by decide +kernel
theorem dX8_setClamp_9 : decode cX8_setClamp 9 = .ok (.ireturn, 1) := by decide +kernel
theorem dX8_setClamp_10 : decode cX8_setClamp 10 = .ok (.iload_n 2, 1) := by decide +kernel
theorem dX8_setClamp_11 : decode cX8_setClamp 11 = .ok (.bipush (-20), 2) := by decide +kernel
theorem dX8_setClamp_13 : decode cX8_setClamp 13 = .ok (.bipush 20, 2) := by decide +kernel
theorem dX8_setClamp_15 : decode cX8_setClamp 15 = .ok (.invokestatic 45, 3) := by decide +kernel
theorem dX8_setClamp_18 : decode cX8_setClamp 18 = .ok (.ifCond .eq 14, 3) := by decide +kernel
theorem dX8_setClamp_21 : decode cX8_setClamp 21 = .ok (.iload_n 3, 1) := by decide +kernel
theorem dX8_setClamp_22 : decode cX8_setClamp 22 = .ok (.bipush (-20), 2) := by decide +kernel
theorem dX8_setClamp_24 : decode cX8_setClamp 24 = .ok (.bipush 20, 2) := by decide +kernel
theorem dX8_setClamp_26 : decode cX8_setClamp 26 = .ok (.invokestatic 45, 3) := by decide +kernel
theorem dX8_setClamp_29 : decode cX8_setClamp 29 = .ok (.ifCond .ne 6, 3) := by decide +kernel
theorem dX8_setClamp_32 : decode cX8_setClamp 32 = .ok (.ldc 70, 2) := by decide +kernel
theorem dX8_setClamp_34 : decode cX8_setClamp 34 = .ok (.ireturn, 1) := by decide +kernel
theorem dX8_setClamp_35 : decode cX8_setClamp 35 = .ok (.aload_n 0, 1) := by decide +kernel
theorem dX8_setClamp_36 : decode cX8_setClamp 36 = .ok (.iload_n 1, 1) := by decide +kernel
theorem dX8_setClamp_37 : decode cX8_setClamp 37 = .ok (.invokevirtual 79, 3) := by decide +kernel
theorem dX8_setClamp_40 : decode cX8_setClamp 40 = .ok (.ifCond .ne 9, 3) := by decide +kernel
theorem dX8_setClamp_43 : decode cX8_setClamp 43 = .ok (.aload_n 0, 1) := by decide +kernel
theorem dX8_setClamp_44 : decode cX8_setClamp 44 = .ok (.iconst 1, 1) := by decide +kernel
theorem dX8_setClamp_45 : decode cX8_setClamp 45 = .ok (.invokevirtual 82, 3) := by decide +kernel
theorem dX8_setClamp_48 : decode cX8_setClamp 48 = .ok (.ireturn, 1) := by decide +kernel
theorem dX8_setClamp_49 : decode cX8_setClamp 49 = .ok (.aload_n 0, 1) := by decide +kernel
theorem dX8_setClamp_50 : decode cX8_setClamp 50 = .ok (.invokevirtual 49, 3) := by decide +kernel
theorem dX8_setClamp_53 : decode cX8_setClamp 53 = .ok (.aload_n 0, 1) := by decide +kernel
theorem dX8_setClamp_54 : decode cX8_setClamp 54 = .ok (.iload_n 1, 1) := by decide +kernel
theorem dX8_setClamp_55 : decode cX8_setClamp 55 = .ok (.iconst 5, 1) := by decide +kernel
theorem dX8_setClamp_56 : decode cX8_setClamp 56 = .ok (.invokevirtual 56, 3) := by decide +kernel
theorem dX8_setClamp_59 : decode cX8_setClamp 59 = .ok (.iload_n 2, 1) := by decide +kernel
theorem dX8_setClamp_60 : decode cX8_setClamp 60 = .ok (.if_icmp .ne 14, 3) := by decide +kernel
theorem dX8_setClamp_63 : decode cX8_setClamp 63 = .ok (.aload_n 0, 1) := by decide +kernel
theorem dX8_setClamp_64 : decode cX8_setClamp 64 = .ok (.iload_n 1, 1) := by decide +kernel
theorem dX8_setClamp_65 : decode cX8_setClamp 65 = .ok (.bipush 6, 2) := by decide +kernel
theorem dX8_setClamp_67 : decode cX8_setClamp 67 = .ok (.invokevirtual 56, 3) := by decide +kernel
theorem dX8_setClamp_70 : decode cX8_setClamp 70 = .ok (.iload_n 3, 1) := by decide +kernel
theorem dX8_setClamp_71 : decode cX8_setClamp 71 = .ok (.if_icmp .eq 11, 3) := by decide +kernel
theorem dX8_setClamp_74 : decode cX8_setClamp 74 = .ok (.aload_n 0, 1) := by decide +kernel
theorem dX8_setClamp_75 : decode cX8_setClamp 75 = .ok (.iload_n 1, 1) := by decide +kernel
theorem dX8_setClamp_76 : decode cX8_setClamp 76 = .ok (.invokevirtual 63, 3) := by decide +kernel
theorem dX8_setClamp_79 : decode cX8_setClamp 79 = .ok (.goto 4, 3) := by decide +kernel
theorem dX8_setClamp_82 : decode cX8_setClamp 82 = .ok (.iconst 0, 1) := by decide +kernel
theorem dX8_setClamp_83 : decode cX8_setClamp 83 = .ok (.istore 4, 2) := by decide +kernel
theorem dX8_setClamp_85 : decode cX8_setClamp 85 = .ok (.aload_n 0, 1) := by decide +kernel
theorem dX8_setClamp_86 : decode cX8_setClamp 86 = .ok (.iload_n 1, 1) := by decide +kernel
theorem dX8_setClamp_87 : decode cX8_setClamp 87 = .ok (.iconst 5, 1) := by decide +kernel
theorem dX8_setClamp_88 : decode cX8_setClamp 88 = .ok (.iload_n 2, 1) := by decide +kernel
theorem dX8_setClamp_89 : decode cX8_setClamp 89 = .ok (.invokevirtual 71, 3) := by decide +kernel
theorem dX8_setClamp_92 : decode cX8_setClamp 92 = .ok (.aload_n 0, 1) := by decide +kernel
theorem dX8_setClamp_93 : decode cX8_setClamp 93 = .ok (.iload_n 1, 1) := by decide +kernel
theorem dX8_setClamp_94 : decode cX8_setClamp 94 = .ok (.bipush 6, 2) := by decide +kernel
theorem dX8_setClamp_96 : decode cX8_setClamp 96 = .ok (.iload_n 3, 1) := by decide +kernel
theorem dX8_setClamp_97 : decode cX8_setClamp 97 = .ok (.invokevirtual 71, 3) := by decide +kernel
theorem dX8_setClamp_100 : decode cX8_setClamp 100 = .ok (.aload_n 0, 1) := by decide +kernel
theorem dX8_setClamp_101 : decode cX8_setClamp 101 = .ok (.iload_n 2, 1) := by decide +kernel
theorem dX8_setClamp_102 : decode cX8_setClamp 102 = .ok (.invokestatic 85, 3) := by decide +kernel
theorem dX8_setClamp_105 : decode cX8_setClamp 105 = .ok (.iload_n 3, 1) := by decide +kernel
theorem dX8_setClamp_106 : decode cX8_setClamp 106 = .ok (.invokestatic 85, 3) := by decide +kernel
theorem dX8_setClamp_109 : decode cX8_setClamp 109 = .ok (.iadd, 1) := by decide +kernel
theorem dX8_setClamp_110 : decode cX8_setClamp 110 = .ok (.invokevirtual 52, 3) := by decide +kernel
theorem dX8_setClamp_113 : decode cX8_setClamp 113 = .ok (.ireturn, 1) := by decide +kernel
theorem dX8_setBucket_0 : decode cX8_setBucket 0 = .ok (.iload_n 1, 1) := by decide +kernel
theorem dX8_setBucket_1 : decode cX8_setBucket 1 = .ok (.invokestatic 66, 3) := by decide +kernel
theorem dX8_setBucket_4 : decode cX8_setBucket 4 = .ok (.ifCond .eq 6, 3) := by decide +kernel
theorem dX8_setBucket_7 : decode cX8_setBucket 7 = .ok (.ldc 40, 2) := by decide +kernel
theorem dX8_setBucket_9 : decode cX8_setBucket 9 = .ok (.ireturn, 1) := by decide +kernel
theorem dX8_setBucket_10 : decode cX8_setBucket 10 = .ok (.iload_n 2, 1) := by decide +kernel
theorem dX8_setBucket_11 : decode cX8_setBucket 11 = .ok (.iconst 0, 1) := by decide +kernel
theorem dX8_setBucket_12 : decode cX8_setBucket 12 = .ok (.iconst 2, 1) := by decide +kernel
theorem dX8_setBucket_13 : decode cX8_setBucket 13 = .ok (.invokestatic 45, 3) := by decide +kernel
theorem dX8_setBucket_16 : decode cX8_setBucket 16 = .ok (.ifCond .ne 6, 3) := by decide +kernel
theorem dX8_setBucket_19 : decode cX8_setBucket 19 = .ok (.ldc 70, 2) := by decide +kernel
theorem dX8_setBucket_21 : decode cX8_setBucket 21 = .ok (.ireturn, 1) := by decide +kernel
theorem dX8_setBucket_22 : decode cX8_setBucket 22 = .ok (.aload_n 0, 1) := by decide +kernel
theorem dX8_setBucket_23 : decode cX8_setBucket 23 = .ok (.iload_n 1, 1) := by decide +kernel
theorem dX8_setBucket_24 : decode cX8_setBucket 24 = .ok (.invokevirtual 79, 3) := by decide +kernel
theorem dX8_setBucket_27 : decode cX8_setBucket 27 = .ok (.ifCond .ne 9, 3) := by decide +kernel
theorem dX8_setBucket_30 : decode cX8_setBucket 30 = .ok (.aload_n 0, 1) := by decide +kernel
theorem dX8_setBucket_31 : decode cX8_setBucket 31 = .ok (.iconst 1, 1) := by decide +kernel
theorem dX8_setBucket_32 : decode cX8_setBucket 32 = .ok (.invokevirtual 82, 3) := by decide +kernel
theorem dX8_setBucket_35 : decode cX8_setBucket 35 = .ok (.ireturn, 1) := by decide +kernel
theorem dX8_setBucket_36 : decode cX8_setBucket 36 = .ok (.aload_n 0, 1) := by decide +kernel
theorem dX8_setBucket_37 : decode cX8_setBucket 37 = .ok (.invokevirtual 49, 3) := by decide +kernel
theorem dX8_setBucket_40 : decode cX8_setBucket 40 = .ok (.aload_n 0, 1) := by decide +kernel
theorem dX8_setBucket_41 : decode cX8_setBucket 41 = .ok (.iload_n 1, 1) := by decide +kernel
theorem dX8_setBucket_42 : decode cX8_setBucket 42 = .ok (.bipush 7, 2) := by decide +kernel
theorem dX8_setBucket_44 : decode cX8_setBucket 44 = .ok (.invokevirtual 56, 3) := by decide +kernel
theorem dX8_setBucket_47 : decode cX8_setBucket 47 = .ok (.istore_n 3, 1) := by decide +kernel
theorem dX8_setBucket_48 : decode cX8_setBucket 48 = .ok (.iload_n 3, 1) := by decide +kernel
theorem dX8_setBucket_49 : decode cX8_setBucket 49 = .ok (.iload_n 2, 1) := by decide +kernel
theorem dX8_setBucket_50 : decode cX8_setBucket 50 = .ok (.if_icmp .eq 11, 3) := by decide +kernel
theorem dX8_setBucket_53 : decode cX8_setBucket 53 = .ok (.aload_n 0, 1) := by decide +kernel
theorem dX8_setBucket_54 : decode cX8_setBucket 54 = .ok (.iload_n 1, 1) := by decide +kernel
theorem dX8_setBucket_55 : decode cX8_setBucket 55 = .ok (.invokevirtual 63, 3) := by decide +kernel
theorem dX8_setBucket_58 : decode cX8_setBucket 58 = .ok (.goto 4, 3) := by decide +kernel
theorem dX8_setBucket_61 : decode cX8_setBucket 61 = .ok (.iconst 0, 1) := by decide +kernel
theorem dX8_setBucket_62 : decode cX8_setBucket 62 = .ok (.istore 4, 2) := by decide +kernel
theorem dX8_setBucket_64 : decode cX8_setBucket 64 = .ok (.aload_n 0, 1) := by decide +kernel
theorem dX8_setBucket_65 : decode cX8_setBucket 65 = .ok (.iload_n 1, 1) := by decide +kernel
theorem dX8_setBucket_66 : decode cX8_setBucket 66 = .ok (.bipush 7, 2) := by decide +kernel
theorem dX8_setBucket_68 : decode cX8_setBucket 68 = .ok (.iload_n 2, 1) := by decide +kernel
theorem dX8_setBucket_69 : decode cX8_setBucket 69 = .ok (.invokevirtual 71, 3) := by decide +kernel
theorem dX8_setBucket_72 : decode cX8_setBucket 72 = .ok (.aload_n 0, 1) := by decide +kernel
theorem dX8_setBucket_73 : decode cX8_setBucket 73 = .ok (.iload_n 3, 1) := by decide +kernel
theorem dX8_setBucket_74 : decode cX8_setBucket 74 = .ok (.invokevirtual 52, 3) := by decide +kernel
theorem dX8_setBucket_77 : decode cX8_setBucket 77 = .ok (.ireturn, 1) := by decide +kernel
theorem dX8_quarter_0 : decode cX8_quarter 0 = .ok (.iconst 1, 1) := by decide +kernel
theorem dX8_quarter_1 : decode cX8_quarter 1 = .ok (.aload_n 0, 1) := by decide +kernel
theorem dX8_quarter_2 : decode cX8_quarter 2 = .ok (.iload_n 1, 1) := by decide +kernel
theorem dX8_quarter_3 : decode cX8_quarter 3 = .ok (.iconst 4, 1) := by decide +kernel
theorem dX8_quarter_4 : decode cX8_quarter 4 = .ok (.invokevirtual 56, 3) := by decide +kernel
theorem dX8_quarter_7 : decode cX8_quarter 7 = .ok (.bipush 100, 2) := by decide +kernel
theorem dX8_quarter_9 : decode cX8_quarter 9 = .ok (.idiv, 1) := by decide +kernel
theorem dX8_quarter_10 : decode cX8_quarter 10 = .ok (.iadd, 1) := by decide +kernel
theorem dX8_quarter_11 : decode cX8_quarter 11 = .ok (.ireturn, 1) := by decide +kernel
theorem dX8_doPush_0 : decode cX8_doPush 0 = .ok (.iload_n 1, 1) := by decide +kernel
theorem dX8_doPush_1 : decode cX8_doPush 1 = .ok (.invokestatic 66, 3) := by decide +kernel
theorem dX8_doPush_4 : decode cX8_doPush 4 = .ok (.ifCond .eq 6, 3) := by decide +kernel
theorem dX8_doPush_7 : decode cX8_doPush 7 = .ok (.ldc 40, 2) := by decide +kernel
theorem dX8_doPush_9 : decode cX8_doPush 9 = .ok (.ireturn, 1) := by decide +kernel
theorem dX8_doPush_10 : decode cX8_doPush 10 = .ok (.iload_n 2, 1) := by decide +kernel
theorem dX8_doPush_11 : decode cX8_doPush 11 = .ok (.iconst 0, 1) := by decide +kernel
theorem dX8_doPush_12 : decode cX8_doPush 12 = .ok (.bipush 7, 2) := by decide +kernel
theorem dX8_doPush_14 : decode cX8_doPush 14 = .ok (.invokestatic 45, 3) := by decide +kernel
theorem dX8_doPush_17 : decode cX8_doPush 17 = .ok (.ifCond .eq 14, 3) := by decide +kernel
theorem dX8_doPush_20 : decode cX8_doPush 20 = .ok (.iload_n 3, 1) := by decide +kernel
theorem dX8_doPush_21 : decode cX8_doPush 21 = .ok (.iconst 1, 1) := by decide +kernel
theorem dX8_doPush_22 : decode cX8_doPush 22 = .ok (.sipush 500, 3) := by decide +kernel
theorem dX8_doPush_25 : decode cX8_doPush 25 = .ok (.invokestatic 45, 3) := by decide +kernel
theorem dX8_doPush_28 : decode cX8_doPush 28 = .ok (.ifCond .ne 6, 3) := by decide +kernel
theorem dX8_doPush_31 : decode cX8_doPush 31 = .ok (.ldc 70, 2) := by decide +kernel
theorem dX8_doPush_33 : decode cX8_doPush 33 = .ok (.ireturn, 1) := by decide +kernel
theorem dX8_doPush_34 : decode cX8_doPush 34 = .ok (.aload_n 0, 1) := by decide +kernel
theorem dX8_doPush_35 : decode cX8_doPush 35 = .ok (.iload_n 1, 1) := by decide +kernel
theorem dX8_doPush_36 : decode cX8_doPush 36 = .ok (.invokevirtual 79, 3) := by decide +kernel
theorem dX8_doPush_39 : decode cX8_doPush 39 = .ok (.ifCond .ne 9, 3) := by decide +kernel
theorem dX8_doPush_42 : decode cX8_doPush 42 = .ok (.aload_n 0, 1) := by decide +kernel
theorem dX8_doPush_43 : decode cX8_doPush 43 = .ok (.iconst 1, 1) := by decide +kernel
theorem dX8_doPush_44 : decode cX8_doPush 44 = .ok (.invokevirtual 82, 3) := by decide +kernel
theorem dX8_doPush_47 : decode cX8_doPush 47 = .ok (.ireturn, 1) := by decide +kernel
theorem dX8_doPush_48 : decode cX8_doPush 48 = .ok (.aload_n 0, 1) := by decide +kernel
theorem dX8_doPush_49 : decode cX8_doPush 49 = .ok (.iload_n 1, 1) := by decide +kernel
theorem dX8_doPush_50 : decode cX8_doPush 50 = .ok (.bipush 8, 2) := by decide +kernel
theorem dX8_doPush_52 : decode cX8_doPush 52 = .ok (.iload_n 2, 1) := by decide +kernel
theorem dX8_doPush_53 : decode cX8_doPush 53 = .ok (.invokevirtual 71, 3) := by decide +kernel
theorem dX8_doPush_56 : decode cX8_doPush 56 = .ok (.aload_n 0, 1) := by decide +kernel
theorem dX8_doPush_57 : decode cX8_doPush 57 = .ok (.iload_n 1, 1) := by decide +kernel
theorem dX8_doPush_58 : decode cX8_doPush 58 = .ok (.bipush 9, 2) := by decide +kernel
theorem dX8_doPush_60 : decode cX8_doPush 60 = .ok (.iload_n 3, 1) := by decide +kernel
theorem dX8_doPush_61 : decode cX8_doPush 61 = .ok (.invokevirtual 71, 3) := by decide +kernel
theorem dX8_doPush_64 : decode cX8_doPush 64 = .ok (.aload_n 0, 1) := by decide +kernel
theorem dX8_doPush_65 : decode cX8_doPush 65 = .ok (.iload_n 1, 1) := by decide +kernel
theorem dX8_doPush_66 : decode cX8_doPush 66 = .ok (.bipush 10, 2) := by decide +kernel
theorem dX8_doPush_68 : decode cX8_doPush 68 = .ok (.iconst 0, 1) := by decide +kernel
theorem dX8_doPush_69 : decode cX8_doPush 69 = .ok (.invokevirtual 71, 3) := by decide +kernel
theorem dX8_doPush_72 : decode cX8_doPush 72 = .ok (.aload_n 0, 1) := by decide +kernel
theorem dX8_doPush_73 : decode cX8_doPush 73 = .ok (.iload_n 1, 1) := by decide +kernel
theorem dX8_doPush_74 : decode cX8_doPush 74 = .ok (.invokevirtual 63, 3) := by decide +kernel
theorem dX8_doPush_77 : decode cX8_doPush 77 = .ok (.istore 4, 2) := by decide +kernel
theorem dX8_doPush_79 : decode cX8_doPush 79 = .ok (.iconst 4, 1) := by decide +kernel
theorem dX8_doPush_80 : decode cX8_doPush 80 = .ok (.aload_n 0, 1) := by decide +kernel
theorem dX8_doPush_81 : decode cX8_doPush 81 = .ok (.iload_n 1, 1) := by decide +kernel
theorem dX8_doPush_82 : decode cX8_doPush 82 = .ok (.invokevirtual 88, 3) := by decide +kernel
theorem dX8_doPush_85 : decode cX8_doPush 85 = .ok (.imul, 1) := by decide +kernel
theorem dX8_doPush_86 : decode cX8_doPush 86 = .ok (.ireturn, 1) := by decide +kernel
theorem dX8_push_0 : decode cX8_push 0 = .ok (.aload_n 0, 1) := by decide +kernel
theorem dX8_push_1 : decode cX8_push 1 = .ok (.invokevirtual 49, 3) := by decide +kernel
theorem dX8_push_4 : decode cX8_push 4 = .ok (.aload_n 0, 1) := by decide +kernel
theorem dX8_push_5 : decode cX8_push 5 = .ok (.aload_n 0, 1) := by decide +kernel
theorem dX8_push_6 : decode cX8_push 6 = .ok (.iload_n 1, 1) := by decide +kernel
theorem dX8_push_7 : decode cX8_push 7 = .ok (.iload_n 2, 1) := by decide +kernel
theorem dX8_push_8 : decode cX8_push 8 = .ok (.iload_n 3, 1) := by decide +kernel
theorem dX8_push_9 : decode cX8_push 9 = .ok (.invokevirtual 91, 3) := by decide +kernel
theorem dX8_push_12 : decode cX8_push 12 = .ok (.invokevirtual 52, 3) := by decide +kernel
theorem dX8_push_15 : decode cX8_push 15 = .ok (.ireturn, 1) := by decide +kernel
theorem dX8_doSwap_0 : decode cX8_doSwap 0 = .ok (.iload_n 1, 1) := by decide +kernel
theorem dX8_doSwap_1 : decode cX8_doSwap 1 = .ok (.invokestatic 66, 3) := by decide +kernel
theorem dX8_doSwap_4 : decode cX8_doSwap 4 = .ok (.ifCond .ne 10, 3) := by decide +kernel
theorem dX8_doSwap_7 : decode cX8_doSwap 7 = .ok (.iload_n 2, 1) := by decide +kernel
theorem dX8_doSwap_8 : decode cX8_doSwap 8 = .ok (.invokestatic 66, 3) := by decide +kernel
theorem dX8_doSwap_11 : decode cX8_doSwap 11 = .ok (.ifCond .eq 6, 3) := by decide +kernel
theorem dX8_doSwap_14 : decode cX8_doSwap 14 = .ok (.ldc 40, 2) := by decide +kernel
theorem dX8_doSwap_16 : decode cX8_doSwap 16 = .ok (.ireturn, 1) := by decide +kernel
theorem dX8_doSwap_17 : decode cX8_doSwap 17 = .ok (.iload_n 1, 1) := by decide +kernel
theorem dX8_doSwap_18 : decode cX8_doSwap 18 = .ok (.iload_n 2, 1) := by decide +kernel
theorem dX8_doSwap_19 : decode cX8_doSwap 19 = .ok (.if_icmp .ne 6, 3) := by decide +kernel
theorem dX8_doSwap_22 : decode cX8_doSwap 22 = .ok (.ldc 70, 2) := by decide +kernel
theorem dX8_doSwap_24 : decode cX8_doSwap 24 = .ok (.ireturn, 1) := by decide +kernel
theorem dX8_doSwap_25 : decode cX8_doSwap 25 = .ok (.aload_n 0, 1) := by decide +kernel
theorem dX8_doSwap_26 : decode cX8_doSwap 26 = .ok (.iload_n 1, 1) := by decide +kernel
theorem dX8_doSwap_27 : decode cX8_doSwap 27 = .ok (.invokevirtual 79, 3) := by decide +kernel
theorem dX8_doSwap_30 : decode cX8_doSwap 30 = .ok (.ifCond .eq 11, 3) := by decide +kernel
theorem dX8_doSwap_33 : decode cX8_doSwap 33 = .ok (.aload_n 0, 1) := by decide +kernel
theorem dX8_doSwap_34 : decode cX8_doSwap 34 = .ok (.iload_n 2, 1) := by decide +kernel
theorem dX8_doSwap_35 : decode cX8_doSwap 35 = .ok (.invokevirtual 79, 3) := by decide +kernel
theorem dX8_doSwap_38 : decode cX8_doSwap 38 = .ok (.ifCond .ne 9, 3) := by decide +kernel
theorem dX8_doSwap_41 : decode cX8_doSwap 41 = .ok (.aload_n 0, 1) := by decide +kernel
theorem dX8_doSwap_42 : decode cX8_doSwap 42 = .ok (.iconst 1, 1) := by decide +kernel
theorem dX8_doSwap_43 : decode cX8_doSwap 43 = .ok (.invokevirtual 82, 3) := by decide +kernel
theorem dX8_doSwap_46 : decode cX8_doSwap 46 = .ok (.ireturn, 1) := by decide +kernel
theorem dX8_doSwap_47 : decode cX8_doSwap 47 = .ok (.iconst 0, 1) := by decide +kernel
theorem dX8_doSwap_48 : decode cX8_doSwap 48 = .ok (.istore_n 3, 1) := by decide +kernel
theorem dX8_doSwap_49 : decode cX8_doSwap 49 = .ok (.iload_n 3, 1) := by decide +kernel
theorem dX8_doSwap_50 : decode cX8_doSwap 50 = .ok (.iconst 2, 1) := by decide +kernel
theorem dX8_doSwap_51 : decode cX8_doSwap 51 = .ok (.if_icmp .ge 45, 3) := by decide +kernel
theorem dX8_doSwap_54 : decode cX8_doSwap 54 = .ok (.aload_n 0, 1) := by decide +kernel
theorem dX8_doSwap_55 : decode cX8_doSwap 55 = .ok (.iload_n 1, 1) := by decide +kernel
theorem dX8_doSwap_56 : decode cX8_doSwap 56 = .ok (.iconst 1, 1) := by decide +kernel
theorem dX8_doSwap_57 : decode cX8_doSwap 57 = .ok (.iload_n 3, 1) := by decide +kernel
theorem dX8_doSwap_58 : decode cX8_doSwap 58 = .ok (.iadd, 1) := by decide +kernel
theorem dX8_doSwap_59 : decode cX8_doSwap 59 = .ok (.invokevirtual 56, 3) := by decide +kernel
theorem dX8_doSwap_62 : decode cX8_doSwap 62 = .ok (.istore 4, 2) := by decide +kernel
theorem dX8_doSwap_64 : decode cX8_doSwap 64 = .ok (.aload_n 0, 1) := by decide +kernel
theorem dX8_doSwap_65 : decode cX8_doSwap 65 = .ok (.iload_n 1, 1) := by decide +kernel
theorem dX8_doSwap_66 : decode cX8_doSwap 66 = .ok (.iconst 1, 1) := by decide +kernel
theorem dX8_doSwap_67 : decode cX8_doSwap 67 = .ok (.iload_n 3, 1) := by decide +kernel
theorem dX8_doSwap_68 : decode cX8_doSwap 68 = .ok (.iadd, 1) := by decide +kernel
theorem dX8_doSwap_69 : decode cX8_doSwap 69 = .ok (.aload_n 0, 1) := by decide +kernel
theorem dX8_doSwap_70 : decode cX8_doSwap 70 = .ok (.iload_n 2, 1) := by decide +kernel
theorem dX8_doSwap_71 : decode cX8_doSwap 71 = .ok (.iconst 1, 1) := by decide +kernel
theorem dX8_doSwap_72 : decode cX8_doSwap 72 = .ok (.iload_n 3, 1) := by decide +kernel
theorem dX8_doSwap_73 : decode cX8_doSwap 73 = .ok (.iadd, 1) := by decide +kernel
theorem dX8_doSwap_74 : decode cX8_doSwap 74 = .ok (.invokevirtual 56, 3) := by decide +kernel
theorem dX8_doSwap_77 : decode cX8_doSwap 77 = .ok (.invokevirtual 71, 3) := by decide +kernel
theorem dX8_doSwap_80 : decode cX8_doSwap 80 = .ok (.aload_n 0, 1) := by decide +kernel
theorem dX8_doSwap_81 : decode cX8_doSwap 81 = .ok (.iload_n 2, 1) := by decide +kernel
theorem dX8_doSwap_82 : decode cX8_doSwap 82 = .ok (.iconst 1, 1) := by decide +kernel
theorem dX8_doSwap_83 : decode cX8_doSwap 83 = .ok (.iload_n 3, 1) := by decide +kernel
theorem dX8_doSwap_84 : decode cX8_doSwap 84 = .ok (.iadd, 1) := by decide +kernel
theorem dX8_doSwap_85 : decode cX8_doSwap 85 = .ok (.iload 4, 2) := by decide +kernel
theorem dX8_doSwap_87 : decode cX8_doSwap 87 = .ok (.invokevirtual 71, 3) := by decide +kernel
theorem dX8_doSwap_90 : decode cX8_doSwap 90 = .ok (.iinc 3 1, 3) := by decide +kernel
theorem dX8_doSwap_93 : decode cX8_doSwap 93 = .ok (.goto (-44), 3) := by decide +kernel
theorem dX8_doSwap_96 : decode cX8_doSwap 96 = .ok (.aload_n 0, 1) := by decide +kernel
theorem dX8_doSwap_97 : decode cX8_doSwap 97 = .ok (.iload_n 1, 1) := by decide +kernel
theorem dX8_doSwap_98 : decode cX8_doSwap 98 = .ok (.bipush 9, 2) := by decide +kernel
theorem dX8_doSwap_100 : decode cX8_doSwap 100 = .ok (.iconst 0, 1) := by decide +kernel
theorem dX8_doSwap_101 : decode cX8_doSwap 101 = .ok (.invokevirtual 71, 3) := by decide +kernel
theorem dX8_doSwap_104 : decode cX8_doSwap 104 = .ok (.aload_n 0, 1) := by decide +kernel
theorem dX8_doSwap_105 : decode cX8_doSwap 105 = .ok (.iload_n 2, 1) := by decide +kernel
theorem dX8_doSwap_106 : decode cX8_doSwap 106 = .ok (.bipush 9, 2) := by decide +kernel
theorem dX8_doSwap_108 : decode cX8_doSwap 108 = .ok (.iconst 0, 1) := by decide +kernel
theorem dX8_doSwap_109 : decode cX8_doSwap 109 = .ok (.invokevirtual 71, 3) := by decide +kernel
theorem dX8_doSwap_112 : decode cX8_doSwap 112 = .ok (.aload_n 0, 1) := by decide +kernel
theorem dX8_doSwap_113 : decode cX8_doSwap 113 = .ok (.iload_n 1, 1) := by decide +kernel
theorem dX8_doSwap_114 : decode cX8_doSwap 114 = .ok (.bipush 10, 2) := by decide +kernel
theorem dX8_doSwap_116 : decode cX8_doSwap 116 = .ok (.iconst 0, 1) := by decide +kernel
theorem dX8_doSwap_117 : decode cX8_doSwap 117 = .ok (.invokevirtual 71, 3) := by decide +kernel
theorem dX8_doSwap_120 : decode cX8_doSwap 120 = .ok (.aload_n 0, 1) := by decide +kernel
theorem dX8_doSwap_121 : decode cX8_doSwap 121 = .ok (.iload_n 2, 1) := by decide +kernel
theorem dX8_doSwap_122 : decode cX8_doSwap 122 = .ok (.bipush 10, 2) := by decide +kernel
theorem dX8_doSwap_124 : decode cX8_doSwap 124 = .ok (.iconst 0, 1) := by decide +kernel
theorem dX8_doSwap_125 : decode cX8_doSwap 125 = .ok (.invokevirtual 71, 3) := by decide +kernel
theorem dX8_doSwap_128 : decode cX8_doSwap 128 = .ok (.aload_n 0, 1) := by decide +kernel
theorem dX8_doSwap_129 : decode cX8_doSwap 129 = .ok (.iload_n 1, 1) := by decide +kernel
theorem dX8_doSwap_130 : decode cX8_doSwap 130 = .ok (.invokevirtual 63, 3) := by decide +kernel
theorem dX8_doSwap_133 : decode cX8_doSwap 133 = .ok (.aload_n 0, 1) := by decide +kernel
theorem dX8_doSwap_134 : decode cX8_doSwap 134 = .ok (.iload_n 2, 1) := by decide +kernel
theorem dX8_doSwap_135 : decode cX8_doSwap 135 = .ok (.invokevirtual 63, 3) := by decide +kernel
theorem dX8_doSwap_138 : decode cX8_doSwap 138 = .ok (.iadd, 1) := by decide +kernel
theorem dX8_doSwap_139 : decode cX8_doSwap 139 = .ok (.ireturn, 1) := by decide +kernel
theorem dX8_swap_0 : decode cX8_swap 0 = .ok (.aload_n 0, 1) := by decide +kernel
theorem dX8_swap_1 : decode cX8_swap 1 = .ok (.invokevirtual 49, 3) := by decide +kernel
theorem dX8_swap_4 : decode cX8_swap 4 = .ok (.aload_n 0, 1) := by decide +kernel
theorem dX8_swap_5 : decode cX8_swap 5 = .ok (.aload_n 0, 1) := by decide +kernel
theorem dX8_swap_6 : decode cX8_swap 6 = .ok (.iload_n 1, 1) := by decide +kernel
theorem dX8_swap_7 : decode cX8_swap 7 = .ok (.iload_n 2, 1) := by decide +kernel
theorem dX8_swap_8 : decode cX8_swap 8 = .ok (.invokevirtual 95, 3) := by decide +kernel
theorem dX8_swap_11 : decode cX8_swap 11 = .ok (.invokevirtual 52, 3) := by decide +kernel
theorem dX8_swap_14 : decode cX8_swap 14 = .ok (.ireturn, 1) := by decide +kernel
theorem dX8_addCurrent_0 : decode cX8_addCurrent 0 = .ok (.iload_n 1, 1) := by decide +kernel
theorem dX8_addCurrent_1 : decode cX8_addCurrent 1 = .ok (.iconst 0, 1) := by decide +kernel
theorem dX8_addCurrent_2 : decode cX8_addCurrent 2 = .ok (.sipush 799, 3) := by decide +kernel
theorem dX8_addCurrent_5 : decode cX8_addCurrent 5 = .ok (.invokestatic 45, 3) := by decide +kernel
theorem dX8_addCurrent_8 : decode cX8_addCurrent 8 = .ok (.ifCond .eq 38, 3) := by decide +kernel
theorem dX8_addCurrent_11 : decode cX8_addCurrent 11 = .ok (.iload_n 2, 1) := by decide +kernel
theorem dX8_addCurrent_12 : decode cX8_addCurrent 12 = .ok (.iload_n 1, 1) := by decide +kernel
theorem dX8_addCurrent_13 : decode cX8_addCurrent 13 = .ok (.if_icmp .le 33, 3) := by decide +kernel
theorem dX8_addCurrent_16 : decode cX8_addCurrent 16 = .ok (.iload_n 2, 1) := by decide +kernel
theorem dX8_addCurrent_17 : decode cX8_addCurrent 17 = .ok (.sipush 800, 3) := by decide +kernel
theorem dX8_addCurrent_20 : decode cX8_addCurrent 20 = .ok (.if_icmp .gt 26, 3) := by decide +kernel
theorem dX8_addCurrent_23 : decode cX8_addCurrent 23 = .ok (.iload_n 3, 1) := by decide +kernel
theorem dX8_addCurrent_24 : decode cX8_addCurrent 24 = .ok (.bipush (-50), 2) := by decide +kernel
theorem dX8_addCurrent_26 : decode cX8_addCurrent 26 = .ok (.bipush 50, 2) := by decide +kernel
theorem dX8_addCurrent_28 : decode cX8_addCurrent 28 = .ok (.invokestatic 45, 3) := by decide +kernel
theorem dX8_addCurrent_31 : decode cX8_addCurrent 31 = .ok (.ifCond .eq 15, 3) := by decide +kernel
theorem dX8_addCurrent_34 : decode cX8_addCurrent 34 = .ok (.iload 4, 2) := by decide +kernel
theorem dX8_addCurrent_36 : decode cX8_addCurrent 36 = .ok (.bipush (-50), 2) := by decide +kernel
theorem dX8_addCurrent_38 : decode cX8_addCurrent 38 = .ok (.bipush 50, 2) := by decide +kernel
theorem dX8_addCurrent_40 : decode cX8_addCurrent 40 = .ok (.invokestatic 45, 3) := by decide +kernel
theorem dX8_addCurrent_43 : decode cX8_addCurrent 43 = .ok (.ifCond .ne 6, 3) := by decide +kernel
theorem dX8_addCurrent_46 : decode cX8_addCurrent 46 = .ok (.ldc 70, 2) := by decide +kernel
theorem dX8_addCurrent_48 : decode cX8_addCurrent 48 = .ok (.ireturn, 1) := by decide +kernel
theorem dX8_addCurrent_49 : decode cX8_addCurrent 49 = .ok (.aload_n 0, 1) := by decide +kernel
theorem dX8_addCurrent_50 : decode cX8_addCurrent 50 = .ok (.getfield 7, 3) := by decide +kernel
theorem dX8_addCurrent_53 : decode cX8_addCurrent 53 = .ok (.iconst 3, 1) := by decide +kernel
theorem dX8_addCurrent_54 : decode cX8_addCurrent 54 = .ok (.iaload, 1) := by decide +kernel
theorem dX8_addCurrent_55 : decode cX8_addCurrent 55 = .ok (.iconst 5, 1) := by decide +kernel
theorem dX8_addCurrent_56 : decode cX8_addCurrent 56 = .ok (.if_icmp .ne 6, 3) := by decide +kernel
theorem dX8_addCurrent_59 : decode cX8_addCurrent 59 = .ok (.ldc 98, 2) := by decide +kernel
theorem dX8_addCurrent_61 : decode cX8_addCurrent 61 = .ok (.ireturn, 1) := by decide +kernel
theorem dX8_addCurrent_62 : decode cX8_addCurrent 62 = .ok (.aload_n 0, 1) := by decide +kernel
theorem dX8_addCurrent_63 : decode cX8_addCurrent 63 = .ok (.invokevirtual 49, 3) := by decide +kernel
theorem dX8_addCurrent_66 : decode cX8_addCurrent 66 = .ok (.bipush 49, 2) := by decide +kernel
theorem dX8_addCurrent_68 : decode cX8_addCurrent 68 = .ok (.iconst 4, 1) := by decide +kernel
theorem dX8_addCurrent_69 : decode cX8_addCurrent 69 = .ok (.aload_n 0, 1) := by decide +kernel
theorem dX8_addCurrent_70 : decode cX8_addCurrent 70 = .ok (.getfield 7, 3) := by decide +kernel
theorem dX8_addCurrent_73 : decode cX8_addCurrent 73 = .ok (.iconst 3, 1) := by decide +kernel
theorem dX8_addCurrent_74 : decode cX8_addCurrent 74 = .ok (.iaload, 1) := by decide +kernel
theorem dX8_addCurrent_75 : decode cX8_addCurrent 75 = .ok (.imul, 1) := by decide +kernel
theorem dX8_addCurrent_76 : decode cX8_addCurrent 76 = .ok (.iadd, 1) := by decide +kernel
theorem dX8_addCurrent_77 : decode cX8_addCurrent 77 = .ok (.istore 5, 2) := by decide +kernel
theorem dX8_addCurrent_79 : decode cX8_addCurrent 79 = .ok (.aload_n 0, 1) := by decide +kernel
theorem dX8_addCurrent_80 : decode cX8_addCurrent 80 = .ok (.getfield 7, 3) := by decide +kernel
theorem dX8_addCurrent_83 : decode cX8_addCurrent 83 = .ok (.iload 5, 2) := by decide +kernel
theorem dX8_addCurrent_85 : decode cX8_addCurrent 85 = .ok (.iload_n 1, 1) := by decide +kernel
theorem dX8_addCurrent_86 : decode cX8_addCurrent 86 = .ok (.iastore, 1) := by decide +kernel
theorem dX8_addCurrent_87 : decode cX8_addCurrent 87 = .ok (.aload_n 0, 1) := by decide +kernel
theorem dX8_addCurrent_88 : decode cX8_addCurrent 88 = .ok (.getfield 7, 3) := by decide +kernel
theorem dX8_addCurrent_91 : decode cX8_addCurrent 91 = .ok (.iload 5, 2) := by decide +kernel
theorem dX8_addCurrent_93 : decode cX8_addCurrent 93 = .ok (.iconst 1, 1) := by decide +kernel
theorem dX8_addCurrent_94 : decode cX8_addCurrent 94 = .ok (.iadd, 1) := by decide +kernel
theorem dX8_addCurrent_95 : decode cX8_addCurrent 95 = .ok (.iload_n 2, 1) := by decide +kernel
theorem dX8_addCurrent_96 : decode cX8_addCurrent 96 = .ok (.iastore, 1) := by decide +kernel
theorem dX8_addCurrent_97 : decode cX8_addCurrent 97 = .ok (.aload_n 0, 1) := by decide +kernel
theorem dX8_addCurrent_98 : decode cX8_addCurrent 98 = .ok (.getfield 7, 3) := by decide +kernel
theorem dX8_addCurrent_101 : decode cX8_addCurrent 101 = .ok (.iload 5, 2) := by decide +kernel
theorem dX8_addCurrent_103 : decode cX8_addCurrent 103 = .ok (.iconst 2, 1) := by decide +kernel
theorem dX8_addCurrent_104 : decode cX8_addCurrent 104 = .ok (.iadd, 1) := by decide +kernel
theorem dX8_addCurrent_105 : decode cX8_addCurrent 105 = .ok (.iload_n 3, 1) := by decide +kernel
theorem dX8_addCurrent_106 : decode cX8_addCurrent 106 = .ok (.iastore, 1) := by decide +kernel
theorem dX8_addCurrent_107 : decode cX8_addCurrent 107 = .ok (.aload_n 0, 1) := by decide +kernel
theorem dX8_addCurrent_108 : decode cX8_addCurrent 108 = .ok (.getfield 7, 3) := by decide +kernel
theorem dX8_addCurrent_111 : decode cX8_addCurrent 111 = .ok (.iload 5, 2) := by decide +kernel
theorem dX8_addCurrent_113 : decode cX8_addCurrent 113 = .ok (.iconst 3, 1) := by decide +kernel
theorem dX8_addCurrent_114 : decode cX8_addCurrent 114 = .ok (.iadd, 1) := by decide +kernel
theorem dX8_addCurrent_115 : decode cX8_addCurrent 115 = .ok (.iload 4, 2) := by decide +kernel
theorem dX8_addCurrent_117 : decode cX8_addCurrent 117 = .ok (.iastore, 1) := by decide +kernel
theorem dX8_addCurrent_118 : decode cX8_addCurrent 118 = .ok (.aload_n 0, 1) := by decide +kernel
theorem dX8_addCurrent_119 : decode cX8_addCurrent 119 = .ok (.getfield 7, 3) := by decide +kernel
theorem dX8_addCurrent_122 : decode cX8_addCurrent 122 = .ok (.iconst 3, 1) := by decide +kernel
theorem dX8_addCurrent_123 : decode cX8_addCurrent 123 = .ok (.dup2, 1) := by decide +kernel
theorem dX8_addCurrent_124 : decode cX8_addCurrent 124 = .ok (.iaload, 1) := by decide +kernel
theorem dX8_addCurrent_125 : decode cX8_addCurrent 125 = .ok (.iconst 1, 1) := by decide +kernel
theorem dX8_addCurrent_126 : decode cX8_addCurrent 126 = .ok (.iadd, 1) := by decide +kernel
theorem dX8_addCurrent_127 : decode cX8_addCurrent 127 = .ok (.iastore, 1) := by decide +kernel
theorem dX8_addCurrent_128 : decode cX8_addCurrent 128 = .ok (.aload_n 0, 1) := by decide +kernel
theorem dX8_addCurrent_129 : decode cX8_addCurrent 129 = .ok (.invokevirtual 99, 3) := by decide +kernel
theorem dX8_addCurrent_132 : decode cX8_addCurrent 132 = .ok (.aload_n 0, 1) := by decide +kernel
theorem dX8_addCurrent_133 : decode cX8_addCurrent 133 = .ok (.aload_n 0, 1) := by decide +kernel
theorem dX8_addCurrent_134 : decode cX8_addCurrent 134 = .ok (.getfield 7, 3) := by decide +kernel
theorem dX8_addCurrent_137 : decode cX8_addCurrent 137 = .ok (.iconst 3, 1) := by decide +kernel
theorem dX8_addCurrent_138 : decode cX8_addCurrent 138 = .ok (.iaload, 1) := by decide +kernel
theorem dX8_addCurrent_139 : decode cX8_addCurrent 139 = .ok (.invokevirtual 52, 3) := by decide +kernel
theorem dX8_addCurrent_142 : decode cX8_addCurrent 142 = .ok (.ireturn, 1) := by decide +kernel
theorem dX8_clearCurrents_0 : decode cX8_clearCurrents 0 = .ok (.aload_n 0, 1) := by decide +kernel
theorem dX8_clearCurrents_1 : decode cX8_clearCurrents 1 = .ok (.getfield 7, 3) := by decide +kernel
theorem dX8_clearCurrents_4 : decode cX8_clearCurrents 4 = .ok (.iconst 3, 1) := by decide +kernel
theorem dX8_clearCurrents_5 : decode cX8_clearCurrents 5 = .ok (.iaload, 1) := by decide +kernel
theorem dX8_clearCurrents_6 : decode cX8_clearCurrents 6 = .ok (.istore_n 1, 1) := by decide +kernel
theorem dX8_clearCurrents_7 : decode cX8_clearCurrents 7 = .ok (.iload_n 1, 1) := by decide +kernel
theorem dX8_clearCurrents_8 : decode cX8_clearCurrents 8 = .ok (.ifCond .ne 6, 3) := by decide +kernel
theorem dX8_clearCurrents_11 : decode cX8_clearCurrents 11 = .ok (.ldc 44, 2) := by decide +kernel
theorem dX8_clearCurrents_13 : decode cX8_clearCurrents 13 = .ok (.ireturn, 1) := by decide +kernel
theorem dX8_clearCurrents_14 : decode cX8_clearCurrents 14 = .ok (.aload_n 0, 1) := by decide +kernel
theorem dX8_clearCurrents_15 : decode cX8_clearCurrents 15 = .ok (.invokevirtual 49, 3) := by decide +kernel
theorem dX8_clearCurrents_18 : decode cX8_clearCurrents 18 = .ok (.aload_n 0, 1) := by decide +kernel
theorem dX8_clearCurrents_19 : decode cX8_clearCurrents 19 = .ok (.getfield 7, 3) := by decide +kernel
theorem dX8_clearCurrents_22 : decode cX8_clearCurrents 22 = .ok (.iconst 3, 1) := by decide +kernel
theorem dX8_clearCurrents_23 : decode cX8_clearCurrents 23 = .ok (.iconst 0, 1) := by decide +kernel
theorem dX8_clearCurrents_24 : decode cX8_clearCurrents 24 = .ok (.iastore, 1) := by decide +kernel
theorem dX8_clearCurrents_25 : decode cX8_clearCurrents 25 = .ok (.aload_n 0, 1) := by decide +kernel
theorem dX8_clearCurrents_26 : decode cX8_clearCurrents 26 = .ok (.invokevirtual 99, 3) := by decide +kernel
theorem dX8_clearCurrents_29 : decode cX8_clearCurrents 29 = .ok (.aload_n 0, 1) := by decide +kernel
theorem dX8_clearCurrents_30 : decode cX8_clearCurrents 30 = .ok (.iload_n 1, 1) := by decide +kernel
theorem dX8_clearCurrents_31 : decode cX8_clearCurrents 31 = .ok (.invokevirtual 52, 3) := by decide +kernel
theorem dX8_clearCurrents_34 : decode cX8_clearCurrents 34 = .ok (.ireturn, 1) := by decide +kernel
theorem dX8_lesser_0 : decode cX8_lesser 0 = .ok (.iload_n 0, 1) := by decide +kernel
theorem dX8_lesser_1 : decode cX8_lesser 1 = .ok (.iload_n 1, 1) := by decide +kernel
theorem dX8_lesser_2 : decode cX8_lesser 2 = .ok (.if_icmp .ge 7, 3) := by decide +kernel
theorem dX8_lesser_5 : decode cX8_lesser 5 = .ok (.iload_n 0, 1) := by decide +kernel
theorem dX8_lesser_6 : decode cX8_lesser 6 = .ok (.goto 4, 3) := by decide +kernel
theorem dX8_lesser_9 : decode cX8_lesser 9 = .ok (.iload_n 1, 1) := by decide +kernel
theorem dX8_lesser_10 : decode cX8_lesser 10 = .ok (.ireturn, 1) := by decide +kernel
theorem dX8_restAt_0 : decode cX8_restAt 0 = .ok (.aload_n 0, 1) := by decide +kernel
theorem dX8_restAt_1 : decode cX8_restAt 1 = .ok (.iload_n 1, 1) := by decide +kernel
theorem dX8_restAt_2 : decode cX8_restAt 2 = .ok (.iconst 1, 1) := by decide +kernel
theorem dX8_restAt_3 : decode cX8_restAt 3 = .ok (.iload_n 3, 1) := by decide +kernel
theorem dX8_restAt_4 : decode cX8_restAt 4 = .ok (.iadd, 1) := by decide +kernel
theorem dX8_restAt_5 : decode cX8_restAt 5 = .ok (.invokevirtual 56, 3) := by decide +kernel
theorem dX8_restAt_8 : decode cX8_restAt 8 = .ok (.aload_n 0, 1) := by decide +kernel
theorem dX8_restAt_9 : decode cX8_restAt 9 = .ok (.iload_n 1, 1) := by decide +kernel
theorem dX8_restAt_10 : decode cX8_restAt 10 = .ok (.iconst 5, 1) := by decide +kernel
theorem dX8_restAt_11 : decode cX8_restAt 11 = .ok (.iload_n 3, 1) := by decide +kernel
theorem dX8_restAt_12 : decode cX8_restAt 12 = .ok (.iadd, 1) := by decide +kernel
theorem dX8_restAt_13 : decode cX8_restAt 13 = .ok (.invokevirtual 56, 3) := by decide +kernel
theorem dX8_restAt_16 : decode cX8_restAt 16 = .ok (.iadd, 1) := by decide +kernel
theorem dX8_restAt_17 : decode cX8_restAt 17 = .ok (.i2l, 1) := by decide +kernel
theorem dX8_restAt_18 : decode cX8_restAt 18 = .ok (.lstore 4, 2) := by decide +kernel
theorem dX8_restAt_20 : decode cX8_restAt 20 = .ok (.iconst 0, 1) := by decide +kernel
theorem dX8_restAt_21 : decode cX8_restAt 21 = .ok (.istore 6, 2) := by decide +kernel
theorem dX8_restAt_23 : decode cX8_restAt 23 = .ok (.iload 6, 2) := by decide +kernel
theorem dX8_restAt_25 : decode cX8_restAt 25 = .ok (.aload_n 0, 1) := by decide +kernel
theorem dX8_restAt_26 : decode cX8_restAt 26 = .ok (.getfield 7, 3) := by decide +kernel
theorem dX8_restAt_29 : decode cX8_restAt 29 = .ok (.iconst 3, 1) := by decide +kernel
theorem dX8_restAt_30 : decode cX8_restAt 30 = .ok (.iaload, 1) := by decide +kernel
theorem dX8_restAt_31 : decode cX8_restAt 31 = .ok (.if_icmp .ge 83, 3) := by decide +kernel
theorem dX8_restAt_34 : decode cX8_restAt 34 = .ok (.bipush 49, 2) := by decide +kernel
theorem dX8_restAt_36 : decode cX8_restAt 36 = .ok (.iconst 4, 1) := by decide +kernel
theorem dX8_restAt_37 : decode cX8_restAt 37 = .ok (.iload 6, 2) := by decide +kernel
theorem dX8_restAt_39 : decode cX8_restAt 39 = .ok (.imul, 1) := by decide +kernel
theorem dX8_restAt_40 : decode cX8_restAt 40 = .ok (.iadd, 1) := by decide +kernel
theorem dX8_restAt_41 : decode cX8_restAt 41 = .ok (.istore 7, 2) := by decide +kernel
theorem dX8_restAt_43 : decode cX8_restAt 43 = .ok (.aload_n 0, 1) := by decide +kernel
theorem dX8_restAt_44 : decode cX8_restAt 44 = .ok (.getfield 7, 3) := by decide +kernel
theorem dX8_restAt_47 : decode cX8_restAt 47 = .ok (.iload 7, 2) := by decide +kernel
theorem dX8_restAt_49 : decode cX8_restAt 49 = .ok (.iconst 1, 1) := by decide +kernel
theorem dX8_restAt_50 : decode cX8_restAt 50 = .ok (.iadd, 1) := by decide +kernel
theorem dX8_restAt_51 : decode cX8_restAt 51 = .ok (.iaload, 1) := by decide +kernel
theorem dX8_restAt_52 : decode cX8_restAt 52 = .ok (.iload_n 2, 1) := by decide +kernel
theorem dX8_restAt_53 : decode cX8_restAt 53 = .ok (.invokestatic 102, 3) := by decide +kernel
theorem dX8_restAt_56 : decode cX8_restAt 56 = .ok (.aload_n 0, 1) := by decide +kernel
theorem dX8_restAt_57 : decode cX8_restAt 57 = .ok (.getfield 7, 3) := by decide +kernel
theorem dX8_restAt_60 : decode cX8_restAt 60 = .ok (.iload 7, 2) := by decide +kernel
theorem dX8_restAt_62 : decode cX8_restAt 62 = .ok (.iaload, 1) := by decide +kernel
theorem dX8_restAt_63 : decode cX8_restAt 63 = .ok (.iload_n 2, 1) := by decide +kernel
theorem dX8_restAt_64 : decode cX8_restAt 64 = .ok (.invokestatic 102, 3) := by decide +kernel
theorem dX8_restAt_67 : decode cX8_restAt 67 = .ok (.isub, 1) := by decide +kernel
theorem dX8_restAt_68 : decode cX8_restAt 68 = .ok (.i2l, 1) := by decide +kernel
theorem dX8_restAt_69 : decode cX8_restAt 69 = .ok (.lstore 8, 2) := by decide +kernel
theorem dX8_restAt_71 : decode cX8_restAt 71 = .ok (.lload 4, 2) := by decide +kernel
theorem dX8_restAt_73 : decode cX8_restAt 73 = .ok (.lload 8, 2) := by decide +kernel
theorem dX8_restAt_75 : decode cX8_restAt 75 = .ok (.aload_n 0, 1) := by decide +kernel
theorem dX8_restAt_76 : decode cX8_restAt 76 = .ok (.getfield 7, 3) := by decide +kernel
theorem dX8_restAt_79 : decode cX8_restAt 79 = .ok (.iload 7, 2) := by decide +kernel
theorem dX8_restAt_81 : decode cX8_restAt 81 = .ok (.iconst 2, 1) := by decide +kernel
theorem dX8_restAt_82 : decode cX8_restAt 82 = .ok (.iadd, 1) := by decide +kernel
theorem dX8_restAt_83 : decode cX8_restAt 83 = .ok (.iload_n 3, 1) := by decide +kernel
theorem dX8_restAt_84 : decode cX8_restAt 84 = .ok (.iadd, 1) := by decide +kernel
theorem dX8_restAt_85 : decode cX8_restAt 85 = .ok (.iaload, 1) := by decide +kernel
theorem dX8_restAt_86 : decode cX8_restAt 86 = .ok (.i2l, 1) := by decide +kernel
theorem dX8_restAt_87 : decode cX8_restAt 87 = .ok (.lmul, 1) := by decide +kernel
theorem dX8_restAt_88 : decode cX8_restAt 88 = .ok (.iload_n 2, 1) := by decide +kernel
theorem dX8_restAt_89 : decode cX8_restAt 89 = .ok (.i2l, 1) := by decide +kernel
theorem dX8_restAt_90 : decode cX8_restAt 90 = .ok (.lmul, 1) := by decide +kernel
theorem dX8_restAt_91 : decode cX8_restAt 91 = .ok (.ldc2_w 105, 3) := by decide +kernel
theorem dX8_restAt_94 : decode cX8_restAt 94 = .ok (.aload_n 0, 1) := by decide +kernel
theorem dX8_restAt_95 : decode cX8_restAt 95 = .ok (.iload_n 1, 1) := by decide +kernel
theorem dX8_restAt_96 : decode cX8_restAt 96 = .ok (.iconst 3, 1) := by decide +kernel
theorem dX8_restAt_97 : decode cX8_restAt 97 = .ok (.invokevirtual 56, 3) := by decide +kernel
theorem dX8_restAt_100 : decode cX8_restAt 100 = .ok (.i2l, 1) := by decide +kernel
theorem dX8_restAt_101 : decode cX8_restAt 101 = .ok (.lmul, 1) := by decide +kernel
theorem dX8_restAt_102 : decode cX8_restAt 102 = .ok (.invokestatic 107, 3) := by decide +kernel
theorem dX8_restAt_105 : decode cX8_restAt 105 = .ok (.ladd, 1) := by decide +kernel
theorem dX8_restAt_106 : decode cX8_restAt 106 = .ok (.lstore 4, 2) := by decide +kernel
theorem dX8_restAt_108 : decode cX8_restAt 108 = .ok (.iinc 6 1, 3) := by decide +kernel
theorem dX8_restAt_111 : decode cX8_restAt 111 = .ok (.goto (-88), 3) := by decide +kernel
theorem dX8_restAt_114 : decode cX8_restAt 114 = .ok (.lload 4, 2) := by decide +kernel
theorem dX8_restAt_116 : decode cX8_restAt 116 = .ok (.l2i, 1) := by decide +kernel
theorem dX8_restAt_117 : decode cX8_restAt 117 = .ok (.ireturn, 1) := by decide +kernel
theorem dX8_swing_0 : decode cX8_swing 0 = .ok (.aload_n 0, 1) := by decide +kernel
theorem dX8_swing_1 : decode cX8_swing 1 = .ok (.iload_n 1, 1) := by decide +kernel
theorem dX8_swing_2 : decode cX8_swing 2 = .ok (.invokevirtual 88, 3) := by decide +kernel
theorem dX8_swing_5 : decode cX8_swing 5 = .ok (.istore_n 2, 1) := by decide +kernel
theorem dX8_swing_6 : decode cX8_swing 6 = .ok (.aload_n 0, 1) := by decide +kernel
theorem dX8_swing_7 : decode cX8_swing 7 = .ok (.iload_n 1, 1) := by decide +kernel
theorem dX8_swing_8 : decode cX8_swing 8 = .ok (.bipush 10, 2) := by decide +kernel
theorem dX8_swing_10 : decode cX8_swing 10 = .ok (.invokevirtual 56, 3) := by decide +kernel
theorem dX8_swing_13 : decode cX8_swing 13 = .ok (.istore_n 3, 1) := by decide +kernel
theorem dX8_swing_14 : decode cX8_swing 14 = .ok (.aload_n 0, 1) := by decide +kernel
theorem dX8_swing_15 : decode cX8_swing 15 = .ok (.iload_n 1, 1) := by decide +kernel
theorem dX8_swing_16 : decode cX8_swing 16 = .ok (.bipush 9, 2) := by decide +kernel
theorem dX8_swing_18 : decode cX8_swing 18 = .ok (.invokevirtual 56, 3) := by decide +kernel
theorem dX8_swing_21 : decode cX8_swing 21 = .ok (.istore 4, 2) := by decide +kernel
theorem dX8_swing_23 : decode cX8_swing 23 = .ok (.iload_n 3, 1) := by decide +kernel
theorem dX8_swing_24 : decode cX8_swing 24 = .ok (.iload_n 2, 1) := by decide +kernel
theorem dX8_swing_25 : decode cX8_swing 25 = .ok (.if_icmp .ge 12, 3) := by decide +kernel
theorem dX8_swing_28 : decode cX8_swing 28 = .ok (.iload 4, 2) := by decide +kernel
theorem dX8_swing_30 : decode cX8_swing 30 = .ok (.iload_n 3, 1) := by decide +kernel
theorem dX8_swing_31 : decode cX8_swing 31 = .ok (.imul, 1) := by decide +kernel
theorem dX8_swing_32 : decode cX8_swing 32 = .ok (.iload_n 2, 1) := by decide +kernel
theorem dX8_swing_33 : decode cX8_swing 33 = .ok (.idiv, 1) := by decide +kernel
theorem dX8_swing_34 : decode cX8_swing 34 = .ok (.goto 33, 3) := by decide +kernel
theorem dX8_swing_37 : decode cX8_swing 37 = .ok (.iload_n 3, 1) := by decide +kernel
theorem dX8_swing_38 : decode cX8_swing 38 = .ok (.iconst 3, 1) := by decide +kernel
theorem dX8_swing_39 : decode cX8_swing 39 = .ok (.iload_n 2, 1) := by decide +kernel
theorem dX8_swing_40 : decode cX8_swing 40 = .ok (.imul, 1) := by decide +kernel
theorem dX8_swing_41 : decode cX8_swing 41 = .ok (.if_icmp .ge 16, 3) := by decide +kernel
theorem dX8_swing_44 : decode cX8_swing 44 = .ok (.iload 4, 2) := by decide +kernel
theorem dX8_swing_46 : decode cX8_swing 46 = .ok (.iconst 2, 1) := by decide +kernel
theorem dX8_swing_47 : decode cX8_swing 47 = .ok (.iload_n 2, 1) := by decide +kernel
theorem dX8_swing_48 : decode cX8_swing 48 = .ok (.imul, 1) := by decide +kernel
theorem dX8_swing_49 : decode cX8_swing 49 = .ok (.iload_n 3, 1) := by decide +kernel
theorem dX8_swing_50 : decode cX8_swing 50 = .ok (.isub, 1) := by decide +kernel
theorem dX8_swing_51 : decode cX8_swing 51 = .ok (.imul, 1) := by decide +kernel
theorem dX8_swing_52 : decode cX8_swing 52 = .ok (.iload_n 2, 1) := by decide +kernel
theorem dX8_swing_53 : decode cX8_swing 53 = .ok (.idiv, 1) := by decide +kernel
theorem dX8_swing_54 : decode cX8_swing 54 = .ok (.goto 13, 3) := by decide +kernel
theorem dX8_swing_57 : decode cX8_swing 57 = .ok (.iload 4, 2) := by decide +kernel
theorem dX8_swing_59 : decode cX8_swing 59 = .ok (.iload_n 3, 1) := by decide +kernel
theorem dX8_swing_60 : decode cX8_swing 60 = .ok (.iconst 4, 1) := by decide +kernel
theorem dX8_swing_61 : decode cX8_swing 61 = .ok (.iload_n 2, 1) := by decide +kernel
theorem dX8_swing_62 : decode cX8_swing 62 = .ok (.imul, 1) := by decide +kernel
theorem dX8_swing_63 : decode cX8_swing 63 = .ok (.isub, 1) := by decide +kernel
theorem dX8_swing_64 : decode cX8_swing 64 = .ok (.imul, 1) := by decide +kernel
theorem dX8_swing_65 : decode cX8_swing 65 = .ok (.iload_n 2, 1) := by decide +kernel
theorem dX8_swing_66 : decode cX8_swing 66 = .ok (.idiv, 1) := by decide +kernel
theorem dX8_swing_67 : decode cX8_swing 67 = .ok (.ireturn, 1) := by decide +kernel
theorem dX8_part_0 : decode cX8_part 0 = .ok (.iload_n 1, 1) := by decide +kernel
theorem dX8_part_1 : decode cX8_part 1 = .ok (.ifCond .ne 7, 3) := by decide +kernel
theorem dX8_part_4 : decode cX8_part 4 = .ok (.iload_n 0, 1) := by decide +kernel
theorem dX8_part_5 : decode cX8_part 5 = .ok (.goto 10, 3) := by decide +kernel
theorem dX8_part_8 : decode cX8_part 8 = .ok (.iload_n 0, 1) := by decide +kernel
theorem dX8_part_9 : decode cX8_part 9 = .ok (.bipush 6, 2) := by decide +kernel
theorem dX8_part_11 : decode cX8_part 11 = .ok (.iadd, 1) := by decide +kernel
theorem dX8_part_12 : decode cX8_part 12 = .ok (.bipush 8, 2) := by decide +kernel
theorem dX8_part_14 : decode cX8_part 14 = .ok (.irem, 1) := by decide +kernel
theorem dX8_part_15 : decode cX8_part 15 = .ok (.istore_n 2, 1) := by decide +kernel
theorem dX8_part_16 : decode cX8_part 16 = .ok (.iload_n 2, 1) := by decide +kernel
theorem dX8_part_17 : decode cX8_part 17 = .ok (.bipush 7, 2) := by decide +kernel
theorem dX8_part_19 : decode cX8_part 19 = .ok (.if_icmp .eq 8, 3) := by decide +kernel
theorem dX8_part_22 : decode cX8_part 22 = .ok (.iload_n 2, 1) := by decide +kernel
theorem dX8_part_23 : decode cX8_part 23 = .ok (.iconst 2, 1) := by decide +kernel
theorem dX8_part_24 : decode cX8_part 24 = .ok (.if_icmp .ge 7, 3) := by decide +kernel
theorem dX8_part_27 : decode cX8_part 27 = .ok (.iconst 1, 1) := by decide +kernel
theorem dX8_part_28 : decode cX8_part 28 = .ok (.goto 19, 3) := by decide +kernel
theorem dX8_part_31 : decode cX8_part 31 = .ok (.iload_n 2, 1) := by decide +kernel
theorem dX8_part_32 : decode cX8_part 32 = .ok (.iconst 2, 1) := by decide +kernel
theorem dX8_part_33 : decode cX8_part 33 = .ok (.if_icmp .le 13, 3) := by decide +kernel
theorem dX8_part_36 : decode cX8_part 36 = .ok (.iload_n 2, 1) := by decide +kernel
theorem dX8_part_37 : decode cX8_part 37 = .ok (.bipush 6, 2) := by decide +kernel
theorem dX8_part_39 : decode cX8_part 39 = .ok (.if_icmp .ge 7, 3) := by decide +kernel
theorem dX8_part_42 : decode cX8_part 42 = .ok (.iconst (-1), 1) := by decide +kernel
theorem dX8_part_43 : decode cX8_part 43 = .ok (.goto 4, 3) := by decide +kernel
theorem dX8_part_46 : decode cX8_part 46 = .ok (.iconst 0, 1) := by decide +kernel
theorem dX8_part_47 : decode cX8_part 47 = .ok (.ireturn, 1) := by decide +kernel
theorem dX8_positionAt_0 : decode cX8_positionAt 0 = .ok (.aload_n 0, 1) := by decide +kernel
theorem dX8_positionAt_1 : decode cX8_positionAt 1 = .ok (.iload_n 1, 1) := by decide +kernel
theorem dX8_positionAt_2 : decode cX8_positionAt 2 = .ok (.iload_n 2, 1) := by decide +kernel
theorem dX8_positionAt_3 : decode cX8_positionAt 3 = .ok (.iload_n 3, 1) := by decide +kernel
theorem dX8_positionAt_4 : decode cX8_positionAt 4 = .ok (.invokevirtual 111, 3) := by decide +kernel
theorem dX8_positionAt_7 : decode cX8_positionAt 7 = .ok (.aload_n 0, 1) := by decide +kernel
theorem dX8_positionAt_8 : decode cX8_positionAt 8 = .ok (.iload_n 1, 1) := by decide +kernel
theorem dX8_positionAt_9 : decode cX8_positionAt 9 = .ok (.bipush 8, 2) := by decide +kernel
theorem dX8_positionAt_11 : decode cX8_positionAt 11 = .ok (.invokevirtual 56, 3) := by decide +kernel
theorem dX8_positionAt_14 : decode cX8_positionAt 14 = .ok (.iload_n 3, 1) := by decide +kernel
theorem dX8_positionAt_15 : decode cX8_positionAt 15 = .ok (.invokestatic 114, 3) := by decide +kernel
theorem dX8_positionAt_18 : decode cX8_positionAt 18 = .ok (.aload_n 0, 1) := by decide +kernel
theorem dX8_positionAt_19 : decode cX8_positionAt 19 = .ok (.iload_n 1, 1) := by decide +kernel
theorem dX8_positionAt_20 : decode cX8_positionAt 20 = .ok (.invokevirtual 117, 3) := by decide +kernel
theorem dX8_positionAt_23 : decode cX8_positionAt 23 = .ok (.iload_n 2, 1) := by decide +kernel
theorem dX8_positionAt_24 : decode cX8_positionAt 24 = .ok (.imul, 1) := by decide +kernel
theorem dX8_positionAt_25 : decode cX8_positionAt 25 = .ok (.aload_n 0, 1) := by decide +kernel
theorem dX8_positionAt_26 : decode cX8_positionAt 26 = .ok (.iload_n 1, 1) := by decide +kernel
theorem dX8_positionAt_27 : decode cX8_positionAt 27 = .ok (.iconst 4, 1) := by decide +kernel
theorem dX8_positionAt_28 : decode cX8_positionAt 28 = .ok (.invokevirtual 56, 3) := by decide +kernel
theorem dX8_positionAt_31 : decode cX8_positionAt 31 = .ok (.idiv, 1) := by decide +kernel
theorem dX8_positionAt_32 : decode cX8_positionAt 32 = .ok (.imul, 1) := by decide +kernel
theorem dX8_positionAt_33 : decode cX8_positionAt 33 = .ok (.iadd, 1) := by decide +kernel
theorem dX8_positionAt_34 : decode cX8_positionAt 34 = .ok (.ireturn, 1) := by decide +kernel
theorem dX8_calming_0 : decode cX8_calming 0 = .ok (.iload_n 0, 1) := by decide +kernel
theorem dX8_calming_1 : decode cX8_calming 1 = .ok (.ifCond .ne 8, 3) := by decide +kernel
theorem dX8_calming_4 : decode cX8_calming 4 = .ok (.bipush 95, 2) := by decide +kernel
theorem dX8_calming_6 : decode cX8_calming 6 = .ok (.goto 15, 3) := by decide +kernel
theorem dX8_calming_9 : decode cX8_calming 9 = .ok (.iload_n 0, 1) := by decide +kernel
theorem dX8_calming_10 : decode cX8_calming 10 = .ok (.iconst 1, 1) := by decide +kernel
theorem dX8_calming_11 : decode cX8_calming 11 = .ok (.if_icmp .ne 8, 3) := by decide +kernel
theorem dX8_calming_14 : decode cX8_calming 14 = .ok (.bipush 70, 2) := by decide +kernel
theorem dX8_calming_16 : decode cX8_calming 16 = .ok (.goto 5, 3) := by decide +kernel
theorem dX8_calming_19 : decode cX8_calming 19 = .ok (.bipush 50, 2) := by decide +kernel
theorem dX8_calming_21 : decode cX8_calming 21 = .ok (.ireturn, 1) := by decide +kernel
theorem dX8_tick_0 : decode cX8_tick 0 = .ok (.aload_n 0, 1) := by decide +kernel
theorem dX8_tick_1 : decode cX8_tick 1 = .ok (.getfield 7, 3) := by decide +kernel
theorem dX8_tick_4 : decode cX8_tick 4 = .ok (.iconst 0, 1) := by decide +kernel
theorem dX8_tick_5 : decode cX8_tick 5 = .ok (.dup2, 1) := by decide +kernel
theorem dX8_tick_6 : decode cX8_tick 6 = .ok (.iaload, 1) := by decide +kernel
theorem dX8_tick_7 : decode cX8_tick 7 = .ok (.iconst 1, 1) := by decide +kernel
theorem dX8_tick_8 : decode cX8_tick 8 = .ok (.iadd, 1) := by decide +kernel
theorem dX8_tick_9 : decode cX8_tick 9 = .ok (.iastore, 1) := by decide +kernel
theorem dX8_tick_10 : decode cX8_tick 10 = .ok (.iconst 0, 1) := by decide +kernel
theorem dX8_tick_11 : decode cX8_tick 11 = .ok (.istore_n 1, 1) := by decide +kernel
theorem dX8_tick_12 : decode cX8_tick 12 = .ok (.iload_n 1, 1) := by decide +kernel
theorem dX8_tick_13 : decode cX8_tick 13 = .ok (.iconst 4, 1) := by decide +kernel
theorem dX8_tick_14 : decode cX8_tick 14 = .ok (.if_icmp .ge 79, 3) := by decide +kernel
theorem dX8_tick_17 : decode cX8_tick 17 = .ok (.aload_n 0, 1) := by decide +kernel
theorem dX8_tick_18 : decode cX8_tick 18 = .ok (.iload_n 1, 1) := by decide +kernel
theorem dX8_tick_19 : decode cX8_tick 19 = .ok (.invokevirtual 79, 3) := by decide +kernel
theorem dX8_tick_22 : decode cX8_tick 22 = .ok (.ifCond .eq 65, 3) := by decide +kernel
theorem dX8_tick_25 : decode cX8_tick 25 = .ok (.aload_n 0, 1) := by decide +kernel
theorem dX8_tick_26 : decode cX8_tick 26 = .ok (.iload_n 1, 1) := by decide +kernel
theorem dX8_tick_27 : decode cX8_tick 27 = .ok (.bipush 10, 2) := by decide +kernel
theorem dX8_tick_29 : decode cX8_tick 29 = .ok (.aload_n 0, 1) := by decide +kernel
theorem dX8_tick_30 : decode cX8_tick 30 = .ok (.iload_n 1, 1) := by decide +kernel
theorem dX8_tick_31 : decode cX8_tick 31 = .ok (.bipush 10, 2) := by decide +kernel
theorem dX8_tick_33 : decode cX8_tick 33 = .ok (.invokevirtual 56, 3) := by decide +kernel
theorem dX8_tick_36 : decode cX8_tick 36 = .ok (.iconst 1, 1) := by decide +kernel
theorem dX8_tick_37 : decode cX8_tick 37 = .ok (.iadd, 1) := by decide +kernel
theorem dX8_tick_38 : decode cX8_tick 38 = .ok (.iconst 4, 1) := by decide +kernel
theorem dX8_tick_39 : decode cX8_tick 39 = .ok (.aload_n 0, 1) := by decide +kernel
theorem dX8_tick_40 : decode cX8_tick 40 = .ok (.iload_n 1, 1) := by decide +kernel
theorem dX8_tick_41 : decode cX8_tick 41 = .ok (.invokevirtual 88, 3) := by decide +kernel
theorem dX8_tick_44 : decode cX8_tick 44 = .ok (.imul, 1) := by decide +kernel
theorem dX8_tick_45 : decode cX8_tick 45 = .ok (.irem, 1) := by decide +kernel
theorem dX8_tick_46 : decode cX8_tick 46 = .ok (.invokevirtual 71, 3) := by decide +kernel
theorem dX8_tick_49 : decode cX8_tick 49 = .ok (.aload_n 0, 1) := by decide +kernel
theorem dX8_tick_50 : decode cX8_tick 50 = .ok (.iload_n 1, 1) := by decide +kernel
theorem dX8_tick_51 : decode cX8_tick 51 = .ok (.bipush 10, 2) := by decide +kernel
theorem dX8_tick_53 : decode cX8_tick 53 = .ok (.invokevirtual 56, 3) := by decide +kernel
theorem dX8_tick_56 : decode cX8_tick 56 = .ok (.ifCond .ne 31, 3) := by decide +kernel
theorem dX8_tick_59 : decode cX8_tick 59 = .ok (.aload_n 0, 1) := by decide +kernel
theorem dX8_tick_60 : decode cX8_tick 60 = .ok (.iload_n 1, 1) := by decide +kernel
theorem dX8_tick_61 : decode cX8_tick 61 = .ok (.bipush 9, 2) := by decide +kernel
theorem dX8_tick_63 : decode cX8_tick 63 = .ok (.aload_n 0, 1) := by decide +kernel
theorem dX8_tick_64 : decode cX8_tick 64 = .ok (.iload_n 1, 1) := by decide +kernel
theorem dX8_tick_65 : decode cX8_tick 65 = .ok (.bipush 9, 2) := by decide +kernel
theorem dX8_tick_67 : decode cX8_tick 67 = .ok (.invokevirtual 56, 3) := by decide +kernel
theorem dX8_tick_70 : decode cX8_tick 70 = .ok (.aload_n 0, 1) := by decide +kernel
theorem dX8_tick_71 : decode cX8_tick 71 = .ok (.iload_n 1, 1) := by decide +kernel
theorem dX8_tick_72 : decode cX8_tick 72 = .ok (.bipush 7, 2) := by decide +kernel
theorem dX8_tick_74 : decode cX8_tick 74 = .ok (.invokevirtual 56, 3) := by decide +kernel
theorem dX8_tick_77 : decode cX8_tick 77 = .ok (.invokestatic 120, 3) := by decide +kernel
theorem dX8_tick_80 : decode cX8_tick 80 = .ok (.imul, 1) := by decide +kernel
theorem dX8_tick_81 : decode cX8_tick 81 = .ok (.bipush 100, 2) := by decide +kernel
theorem dX8_tick_83 : decode cX8_tick 83 = .ok (.idiv, 1) := by decide +kernel
theorem dX8_tick_84 : decode cX8_tick 84 = .ok (.invokevirtual 71, 3) := by decide +kernel
theorem dX8_tick_87 : decode cX8_tick 87 = .ok (.iinc 1 1, 3) := by decide +kernel
theorem dX8_tick_90 : decode cX8_tick 90 = .ok (.goto (-78), 3) := by decide +kernel
theorem dX8_tick_93 : decode cX8_tick 93 = .ok (.return_, 1) := by decide +kernel
theorem dX8_doPass_0 : decode cX8_doPass 0 = .ok (.iload_n 1, 1) := by decide +kernel
theorem dX8_doPass_1 : decode cX8_doPass 1 = .ok (.iconst 1, 1) := by decide +kernel
theorem dX8_doPass_2 : decode cX8_doPass 2 = .ok (.bipush 60, 2) := by decide +kernel
theorem dX8_doPass_4 : decode cX8_doPass 4 = .ok (.invokestatic 45, 3) := by decide +kernel
theorem dX8_doPass_7 : decode cX8_doPass 7 = .ok (.ifCond .ne 6, 3) := by decide +kernel
theorem dX8_doPass_10 : decode cX8_doPass 10 = .ok (.ldc 70, 2) := by decide +kernel
theorem dX8_doPass_12 : decode cX8_doPass 12 = .ok (.ireturn, 1) := by decide +kernel
theorem dX8_doPass_13 : decode cX8_doPass 13 = .ok (.iconst 0, 1) := by decide +kernel
theorem dX8_doPass_14 : decode cX8_doPass 14 = .ok (.istore_n 2, 1) := by decide +kernel
theorem dX8_doPass_15 : decode cX8_doPass 15 = .ok (.iload_n 2, 1) := by decide +kernel
theorem dX8_doPass_16 : decode cX8_doPass 16 = .ok (.iload_n 1, 1) := by decide +kernel
theorem dX8_doPass_17 : decode cX8_doPass 17 = .ok (.if_icmp .ge 13, 3) := by decide +kernel
theorem dX8_doPass_20 : decode cX8_doPass 20 = .ok (.aload_n 0, 1) := by decide +kernel
theorem dX8_doPass_21 : decode cX8_doPass 21 = .ok (.invokevirtual 123, 3) := by decide +kernel
theorem dX8_doPass_24 : decode cX8_doPass 24 = .ok (.iinc 2 1, 3) := by decide +kernel
theorem dX8_doPass_27 : decode cX8_doPass 27 = .ok (.goto (-12), 3) := by decide +kernel
theorem dX8_doPass_30 : decode cX8_doPass 30 = .ok (.aload_n 0, 1) := by decide +kernel
theorem dX8_doPass_31 : decode cX8_doPass 31 = .ok (.getfield 7, 3) := by decide +kernel
theorem dX8_doPass_34 : decode cX8_doPass 34 = .ok (.iconst 0, 1) := by decide +kernel
theorem dX8_doPass_35 : decode cX8_doPass 35 = .ok (.iaload, 1) := by decide +kernel
theorem dX8_doPass_36 : decode cX8_doPass 36 = .ok (.ireturn, 1) := by decide +kernel
theorem dX8_pass_0 : decode cX8_pass 0 = .ok (.aload_n 0, 1) := by decide +kernel
theorem dX8_pass_1 : decode cX8_pass 1 = .ok (.invokevirtual 49, 3) := by decide +kernel
theorem dX8_pass_4 : decode cX8_pass 4 = .ok (.aload_n 0, 1) := by decide +kernel
theorem dX8_pass_5 : decode cX8_pass 5 = .ok (.aload_n 0, 1) := by decide +kernel
theorem dX8_pass_6 : decode cX8_pass 6 = .ok (.iload_n 1, 1) := by decide +kernel
theorem dX8_pass_7 : decode cX8_pass 7 = .ok (.invokevirtual 126, 3) := by decide +kernel
theorem dX8_pass_10 : decode cX8_pass 10 = .ok (.invokevirtual 52, 3) := by decide +kernel
theorem dX8_pass_13 : decode cX8_pass 13 = .ok (.ireturn, 1) := by decide +kernel
theorem dX8_addStation_0 : decode cX8_addStation 0 = .ok (.iload_n 1, 1) := by decide +kernel
theorem dX8_addStation_1 : decode cX8_addStation 1 = .ok (.iconst 1, 1) := by decide +kernel
theorem dX8_addStation_2 : decode cX8_addStation 2 = .ok (.sipush 800, 3) := by decide +kernel
theorem dX8_addStation_5 : decode cX8_addStation 5 = .ok (.invokestatic 45, 3) := by decide +kernel
theorem dX8_addStation_8 : decode cX8_addStation 8 = .ok (.ifCond .eq 14, 3) := by decide +kernel
theorem dX8_addStation_11 : decode cX8_addStation 11 = .ok (.iload_n 2, 1) := by decide +kernel
theorem dX8_addStation_12 : decode cX8_addStation 12 = .ok (.iconst 0, 1) := by decide +kernel
theorem dX8_addStation_13 : decode cX8_addStation 13 = .ok (.sipush 7999, 3) := by decide +kernel
theorem dX8_addStation_16 : decode cX8_addStation 16 = .ok (.invokestatic 45, 3) := by decide +kernel
theorem dX8_addStation_19 : decode cX8_addStation 19 = .ok (.ifCond .ne 6, 3) := by decide +kernel
theorem dX8_addStation_22 : decode cX8_addStation 22 = .ok (.ldc 70, 2) := by decide +kernel
theorem dX8_addStation_24 : decode cX8_addStation 24 = .ok (.ireturn, 1) := by decide +kernel
theorem dX8_addStation_25 : decode cX8_addStation 25 = .ok (.aload_n 0, 1) := by decide +kernel
theorem dX8_addStation_26 : decode cX8_addStation 26 = .ok (.getfield 7, 3) := by decide +kernel
theorem dX8_addStation_29 : decode cX8_addStation 29 = .ok (.iconst 4, 1) := by decide +kernel
theorem dX8_addStation_30 : decode cX8_addStation 30 = .ok (.iaload, 1) := by decide +kernel
theorem dX8_addStation_31 : decode cX8_addStation 31 = .ok (.iconst 5, 1) := by decide +kernel
theorem dX8_addStation_32 : decode cX8_addStation 32 = .ok (.if_icmp .ne 6, 3) := by decide +kernel
theorem dX8_addStation_35 : decode cX8_addStation 35 = .ok (.ldc 98, 2) := by decide +kernel
theorem dX8_addStation_37 : decode cX8_addStation 37 = .ok (.ireturn, 1) := by decide +kernel
theorem dX8_addStation_38 : decode cX8_addStation 38 = .ok (.aload_n 0, 1) := by decide +kernel
theorem dX8_addStation_39 : decode cX8_addStation 39 = .ok (.invokevirtual 49, 3) := by decide +kernel
theorem dX8_addStation_42 : decode cX8_addStation 42 = .ok (.aload_n 0, 1) := by decide +kernel
theorem dX8_addStation_43 : decode cX8_addStation 43 = .ok (.getfield 7, 3) := by decide +kernel
theorem dX8_addStation_46 : decode cX8_addStation 46 = .ok (.iconst 4, 1) := by decide +kernel
theorem dX8_addStation_47 : decode cX8_addStation 47 = .ok (.iaload, 1) := by decide +kernel
theorem dX8_addStation_48 : decode cX8_addStation 48 = .ok (.istore_n 3, 1) := by decide +kernel
theorem dX8_addStation_49 : decode cX8_addStation 49 = .ok (.aload_n 0, 1) := by decide +kernel
theorem dX8_addStation_50 : decode cX8_addStation 50 = .ok (.getfield 7, 3) := by decide +kernel
theorem dX8_addStation_53 : decode cX8_addStation 53 = .ok (.bipush 69, 2) := by decide +kernel
theorem dX8_addStation_55 : decode cX8_addStation 55 = .ok (.iconst 3, 1) := by decide +kernel
theorem dX8_addStation_56 : decode cX8_addStation 56 = .ok (.iload_n 3, 1) := by decide +kernel
theorem dX8_addStation_57 : decode cX8_addStation 57 = .ok (.imul, 1) := by decide +kernel
theorem dX8_addStation_58 : decode cX8_addStation 58 = .ok (.iadd, 1) := by decide +kernel
theorem dX8_addStation_59 : decode cX8_addStation 59 = .ok (.iload_n 1, 1) := by decide +kernel
theorem dX8_addStation_60 : decode cX8_addStation 60 = .ok (.iastore, 1) := by decide +kernel
theorem dX8_addStation_61 : decode cX8_addStation 61 = .ok (.aload_n 0, 1) := by decide +kernel
theorem dX8_addStation_62 : decode cX8_addStation 62 = .ok (.getfield 7, 3) := by decide +kernel
theorem dX8_addStation_65 : decode cX8_addStation 65 = .ok (.bipush 69, 2) := by decide +kernel
theorem dX8_addStation_67 : decode cX8_addStation 67 = .ok (.iconst 3, 1) := by decide +kernel
theorem dX8_addStation_68 : decode cX8_addStation 68 = .ok (.iload_n 3, 1) := by decide +kernel
theorem dX8_addStation_69 : decode cX8_addStation 69 = .ok (.imul, 1) := by decide +kernel
theorem dX8_addStation_70 : decode cX8_addStation 70 = .ok (.iadd, 1) := by decide +kernel
theorem dX8_addStation_71 : decode cX8_addStation 71 = .ok (.iconst 1, 1) := by decide +kernel
theorem dX8_addStation_72 : decode cX8_addStation 72 = .ok (.iadd, 1) := by decide +kernel
theorem dX8_addStation_73 : decode cX8_addStation 73 = .ok (.iload_n 2, 1) := by decide +kernel
theorem dX8_addStation_74 : decode cX8_addStation 74 = .ok (.iastore, 1) := by decide +kernel
theorem dX8_addStation_75 : decode cX8_addStation 75 = .ok (.aload_n 0, 1) := by decide +kernel
theorem dX8_addStation_76 : decode cX8_addStation 76 = .ok (.getfield 7, 3) := by decide +kernel
theorem dX8_addStation_79 : decode cX8_addStation 79 = .ok (.bipush 69, 2) := by decide +kernel
theorem dX8_addStation_81 : decode cX8_addStation 81 = .ok (.iconst 3, 1) := by decide +kernel
theorem dX8_addStation_82 : decode cX8_addStation 82 = .ok (.iload_n 3, 1) := by decide +kernel
theorem dX8_addStation_83 : decode cX8_addStation 83 = .ok (.imul, 1) := by decide +kernel
theorem dX8_addStation_84 : decode cX8_addStation 84 = .ok (.iadd, 1) := by decide +kernel
theorem dX8_addStation_85 : decode cX8_addStation 85 = .ok (.iconst 2, 1) := by decide +kernel
theorem dX8_addStation_86 : decode cX8_addStation 86 = .ok (.iadd, 1) := by decide +kernel
theorem dX8_addStation_87 : decode cX8_addStation 87 = .ok (.ldc 44, 2) := by decide +kernel
theorem dX8_addStation_89 : decode cX8_addStation 89 = .ok (.iastore, 1) := by decide +kernel
theorem dX8_addStation_90 : decode cX8_addStation 90 = .ok (.aload_n 0, 1) := by decide +kernel
theorem dX8_addStation_91 : decode cX8_addStation 91 = .ok (.getfield 7, 3) := by decide +kernel
theorem dX8_addStation_94 : decode cX8_addStation 94 = .ok (.iconst 4, 1) := by decide +kernel
theorem dX8_addStation_95 : decode cX8_addStation 95 = .ok (.dup2, 1) := by decide +kernel
theorem dX8_addStation_96 : decode cX8_addStation 96 = .ok (.iaload, 1) := by decide +kernel
theorem dX8_addStation_97 : decode cX8_addStation 97 = .ok (.iconst 1, 1) := by decide +kernel
theorem dX8_addStation_98 : decode cX8_addStation 98 = .ok (.iadd, 1) := by decide +kernel
theorem dX8_addStation_99 : decode cX8_addStation 99 = .ok (.iastore, 1) := by decide +kernel
theorem dX8_addStation_100 : decode cX8_addStation 100 = .ok (.aload_n 0, 1) := by decide +kernel
theorem dX8_addStation_101 : decode cX8_addStation 101 = .ok (.iload_n 3, 1) := by decide +kernel
theorem dX8_addStation_102 : decode cX8_addStation 102 = .ok (.invokevirtual 52, 3) := by decide +kernel
theorem dX8_addStation_105 : decode cX8_addStation 105 = .ok (.ireturn, 1) := by decide +kernel
theorem dX8_setTolerance_0 : decode cX8_setTolerance 0 = .ok (.iload_n 1, 1) := by decide +kernel
theorem dX8_setTolerance_1 : decode cX8_setTolerance 1 = .ok (.iconst 0, 1) := by decide +kernel
theorem dX8_setTolerance_2 : decode cX8_setTolerance 2 = .ok (.sipush 500, 3) := by decide +kernel
theorem dX8_setTolerance_5 : decode cX8_setTolerance 5 = .ok (.invokestatic 45, 3) := by decide +kernel
theorem dX8_setTolerance_8 : decode cX8_setTolerance 8 = .ok (.ifCond .ne 6, 3) := by decide +kernel
theorem dX8_setTolerance_11 : decode cX8_setTolerance 11 = .ok (.ldc 70, 2) := by decide +kernel
theorem dX8_setTolerance_13 : decode cX8_setTolerance 13 = .ok (.ireturn, 1) := by decide +kernel
theorem dX8_setTolerance_14 : decode cX8_setTolerance 14 = .ok (.aload_n 0, 1) := by decide +kernel
theorem dX8_setTolerance_15 : decode cX8_setTolerance 15 = .ok (.invokevirtual 49, 3) := by decide +kernel
theorem dX8_setTolerance_18 : decode cX8_setTolerance 18 = .ok (.aload_n 0, 1) := by decide +kernel
theorem dX8_setTolerance_19 : decode cX8_setTolerance 19 = .ok (.getfield 7, 3) := by decide +kernel
theorem dX8_setTolerance_22 : decode cX8_setTolerance 22 = .ok (.iconst 1, 1) := by decide +kernel
theorem dX8_setTolerance_23 : decode cX8_setTolerance 23 = .ok (.iaload, 1) := by decide +kernel
theorem dX8_setTolerance_24 : decode cX8_setTolerance 24 = .ok (.istore_n 2, 1) := by decide +kernel
theorem dX8_setTolerance_25 : decode cX8_setTolerance 25 = .ok (.aload_n 0, 1) := by decide +kernel
theorem dX8_setTolerance_26 : decode cX8_setTolerance 26 = .ok (.getfield 7, 3) := by decide +kernel
theorem dX8_setTolerance_29 : decode cX8_setTolerance 29 = .ok (.iconst 1, 1) := by decide +kernel
theorem dX8_setTolerance_30 : decode cX8_setTolerance 30 = .ok (.iload_n 1, 1) := by decide +kernel
theorem dX8_setTolerance_31 : decode cX8_setTolerance 31 = .ok (.iastore, 1) := by decide +kernel
theorem dX8_setTolerance_32 : decode cX8_setTolerance 32 = .ok (.aload_n 0, 1) := by decide +kernel
theorem dX8_setTolerance_33 : decode cX8_setTolerance 33 = .ok (.iload_n 2, 1) := by decide +kernel
theorem dX8_setTolerance_34 : decode cX8_setTolerance 34 = .ok (.invokevirtual 52, 3) := by decide +kernel
theorem dX8_setTolerance_37 : decode cX8_setTolerance 37 = .ok (.ireturn, 1) := by decide +kernel
theorem dX8_doObserve_0 : decode cX8_doObserve 0 = .ok (.iload_n 1, 1) := by decide +kernel
theorem dX8_doObserve_1 : decode cX8_doObserve 1 = .ok (.invokestatic 66, 3) := by decide +kernel
theorem dX8_doObserve_4 : decode cX8_doObserve 4 = .ok (.ifCond .ne 11, 3) := by decide +kernel
theorem dX8_doObserve_7 : decode cX8_doObserve 7 = .ok (.aload_n 0, 1) := by decide +kernel
theorem dX8_doObserve_8 : decode cX8_doObserve 8 = .ok (.iload_n 2, 1) := by decide +kernel
theorem dX8_doObserve_9 : decode cX8_doObserve 9 = .ok (.invokevirtual 129, 3) := by decide +kernel
theorem dX8_doObserve_12 : decode cX8_doObserve 12 = .ok (.ifCond .eq 6, 3) := by decide +kernel
theorem dX8_doObserve_15 : decode cX8_doObserve 15 = .ok (.ldc 40, 2) := by decide +kernel
theorem dX8_doObserve_17 : decode cX8_doObserve 17 = .ok (.ireturn, 1) := by decide +kernel
theorem dX8_doObserve_18 : decode cX8_doObserve 18 = .ok (.iload_n 3, 1) := by decide +kernel
theorem dX8_doObserve_19 : decode cX8_doObserve 19 = .ok (.iconst 1, 1) := by decide +kernel
theorem dX8_doObserve_20 : decode cX8_doObserve 20 = .ok (.bipush 60, 2) := by decide +kernel
theorem dX8_doObserve_22 : decode cX8_doObserve 22 = .ok (.invokestatic 45, 3) := by decide +kernel
theorem dX8_doObserve_25 : decode cX8_doObserve 25 = .ok (.ifCond .ne 6, 3) := by decide +kernel
theorem dX8_doObserve_28 : decode cX8_doObserve 28 = .ok (.ldc 70, 2) := by decide +kernel
theorem dX8_doObserve_30 : decode cX8_doObserve 30 = .ok (.ireturn, 1) := by decide +kernel
theorem dX8_doObserve_31 : decode cX8_doObserve 31 = .ok (.aload_n 0, 1) := by decide +kernel
theorem dX8_doObserve_32 : decode cX8_doObserve 32 = .ok (.iload_n 1, 1) := by decide +kernel
theorem dX8_doObserve_33 : decode cX8_doObserve 33 = .ok (.invokevirtual 79, 3) := by decide +kernel
theorem dX8_doObserve_36 : decode cX8_doObserve 36 = .ok (.ifCond .ne 9, 3) := by decide +kernel
theorem dX8_doObserve_39 : decode cX8_doObserve 39 = .ok (.aload_n 0, 1) := by decide +kernel
theorem dX8_doObserve_40 : decode cX8_doObserve 40 = .ok (.iconst 1, 1) := by decide +kernel
theorem dX8_doObserve_41 : decode cX8_doObserve 41 = .ok (.invokevirtual 82, 3) := by decide +kernel
theorem dX8_doObserve_44 : decode cX8_doObserve 44 = .ok (.ireturn, 1) := by decide +kernel
theorem dX8_doObserve_45 : decode cX8_doObserve 45 = .ok (.aload_n 0, 1) := by decide +kernel
theorem dX8_doObserve_46 : decode cX8_doObserve 46 = .ok (.getfield 7, 3) := by decide +kernel
theorem dX8_doObserve_49 : decode cX8_doObserve 49 = .ok (.bipush 69, 2) := by decide +kernel
theorem dX8_doObserve_51 : decode cX8_doObserve 51 = .ok (.iconst 3, 1) := by decide +kernel
theorem dX8_doObserve_52 : decode cX8_doObserve 52 = .ok (.iload_n 2, 1) := by decide +kernel
theorem dX8_doObserve_53 : decode cX8_doObserve 53 = .ok (.imul, 1) := by decide +kernel
theorem dX8_doObserve_54 : decode cX8_doObserve 54 = .ok (.iadd, 1) := by decide +kernel
theorem dX8_doObserve_55 : decode cX8_doObserve 55 = .ok (.iaload, 1) := by decide +kernel
theorem dX8_doObserve_56 : decode cX8_doObserve 56 = .ok (.istore 4, 2) := by decide +kernel
theorem dX8_doObserve_58 : decode cX8_doObserve 58 = .ok (.iload 4, 2) := by decide +kernel
theorem dX8_doObserve_60 : decode cX8_doObserve 60 = .ok (.aload_n 0, 1) := by decide +kernel
theorem dX8_doObserve_61 : decode cX8_doObserve 61 = .ok (.iload_n 1, 1) := by decide +kernel
theorem dX8_doObserve_62 : decode cX8_doObserve 62 = .ok (.iconst 4, 1) := by decide +kernel
theorem dX8_doObserve_63 : decode cX8_doObserve 63 = .ok (.invokevirtual 56, 3) := by decide +kernel
theorem dX8_doObserve_66 : decode cX8_doObserve 66 = .ok (.if_icmp .le 9, 3) := by decide +kernel
theorem dX8_doObserve_69 : decode cX8_doObserve 69 = .ok (.aload_n 0, 1) := by decide +kernel
theorem dX8_doObserve_70 : decode cX8_doObserve 70 = .ok (.iconst 2, 1) := by decide +kernel
theorem dX8_doObserve_71 : decode cX8_doObserve 71 = .ok (.invokevirtual 82, 3) := by decide +kernel
theorem dX8_doObserve_74 : decode cX8_doObserve 74 = .ok (.ireturn, 1) := by decide +kernel
theorem dX8_doObserve_75 : decode cX8_doObserve 75 = .ok (.iload_n 2, 1) := by decide +kernel
theorem dX8_doObserve_76 : decode cX8_doObserve 76 = .ok (.iload_n 1, 1) := by decide +kernel
theorem dX8_doObserve_77 : decode cX8_doObserve 77 = .ok (.invokestatic 60, 3) := by decide +kernel
theorem dX8_doObserve_80 : decode cX8_doObserve 80 = .ok (.istore 5, 2) := by decide +kernel
theorem dX8_doObserve_82 : decode cX8_doObserve 82 = .ok (.lconst 0, 1) := by decide +kernel
theorem dX8_doObserve_83 : decode cX8_doObserve 83 = .ok (.lstore 6, 2) := by decide +kernel
theorem dX8_doObserve_85 : decode cX8_doObserve 85 = .ok (.lconst 0, 1) := by decide +kernel
theorem dX8_doObserve_86 : decode cX8_doObserve 86 = .ok (.lstore 8, 2) := by decide +kernel
theorem dX8_doObserve_88 : decode cX8_doObserve 88 = .ok (.aload_n 0, 1) := by decide +kernel
theorem dX8_doObserve_89 : decode cX8_doObserve 89 = .ok (.iload_n 1, 1) := by decide +kernel
theorem dX8_doObserve_90 : decode cX8_doObserve 90 = .ok (.iload 4, 2) := by decide +kernel
theorem dX8_doObserve_92 : decode cX8_doObserve 92 = .ok (.iconst 0, 1) := by decide +kernel
theorem dX8_doObserve_93 : decode cX8_doObserve 93 = .ok (.invokevirtual 132, 3) := by decide +kernel
theorem dX8_doObserve_96 : decode cX8_doObserve 96 = .ok (.istore 10, 2) := by decide +kernel
theorem dX8_doObserve_98 : decode cX8_doObserve 98 = .ok (.iload 10, 2) := by decide +kernel
theorem dX8_doObserve_100 : decode cX8_doObserve 100 = .ok (.istore 11, 2) := by decide +kernel
theorem dX8_doObserve_102 : decode cX8_doObserve 102 = .ok (.aload_n 0, 1) := by decide +kernel
theorem dX8_doObserve_103 : decode cX8_doObserve 103 = .ok (.iload_n 1, 1) := by decide +kernel
theorem dX8_doObserve_104 : decode cX8_doObserve 104 = .ok (.iload 4, 2) := by decide +kernel
theorem dX8_doObserve_106 : decode cX8_doObserve 106 = .ok (.iconst 1, 1) := by decide +kernel
theorem dX8_doObserve_107 : decode cX8_doObserve 107 = .ok (.invokevirtual 132, 3) := by decide +kernel
theorem dX8_doObserve_110 : decode cX8_doObserve 110 = .ok (.istore 12, 2) := by decide +kernel
theorem dX8_doObserve_112 : decode cX8_doObserve 112 = .ok (.iload 12, 2) := by decide +kernel
theorem dX8_doObserve_114 : decode cX8_doObserve 114 = .ok (.istore 13, 2) := by decide +kernel
theorem dX8_doObserve_116 : decode cX8_doObserve 116 = .ok (.iconst 0, 1) := by decide +kernel
theorem dX8_doObserve_117 : decode cX8_doObserve 117 = .ok (.istore 14, 2) := by decide +kernel
theorem dX8_doObserve_119 : decode cX8_doObserve 119 = .ok (.iload 14, 2) := by decide +kernel
theorem dX8_doObserve_121 : decode cX8_doObserve 121 = .ok (.iload_n 3, 1) := by decide +kernel
theorem dX8_doObserve_122 : decode cX8_doObserve 122 = .ok (.if_icmp .ge 99, 3) := by decide +kernel
theorem dX8_doObserve_125 : decode cX8_doObserve 125 = .ok (.aload_n 0, 1) := by decide +kernel
theorem dX8_doObserve_126 : decode cX8_doObserve 126 = .ok (.iload_n 1, 1) := by decide +kernel
theorem dX8_doObserve_127 : decode cX8_doObserve 127 = .ok (.iload 4, 2) := by decide +kernel
theorem dX8_doObserve_129 : decode cX8_doObserve 129 = .ok (.iconst 0, 1) := by decide +kernel
theorem dX8_doObserve_130 : decode cX8_doObserve 130 = .ok (.invokevirtual 132, 3) := by decide +kernel
theorem dX8_doObserve_133 : decode cX8_doObserve 133 = .ok (.istore 15, 2) := by decide +kernel
theorem dX8_doObserve_135 : decode cX8_doObserve 135 = .ok (.aload_n 0, 1) := by decide +kernel
theorem dX8_doObserve_136 : decode cX8_doObserve 136 = .ok (.iload_n 1, 1) := by decide +kernel
theorem dX8_doObserve_137 : decode cX8_doObserve 137 = .ok (.iload 4, 2) := by decide +kernel
theorem dX8_doObserve_139 : decode cX8_doObserve 139 = .ok (.iconst 1, 1) := by decide +kernel
theorem dX8_doObserve_140 : decode cX8_doObserve 140 = .ok (.invokevirtual 132, 3) := by decide +kernel
theorem dX8_doObserve_143 : decode cX8_doObserve 143 = .ok (.istore 16, 2) := by decide +kernel
theorem dX8_doObserve_145 : decode cX8_doObserve 145 = .ok (.lload 6, 2) := by decide +kernel
theorem dX8_doObserve_147 : decode cX8_doObserve 147 = .ok (.iload 15, 2) := by decide +kernel
theorem dX8_doObserve_149 : decode cX8_doObserve 149 = .ok (.i2l, 1) := by decide +kernel
theorem dX8_doObserve_150 : decode cX8_doObserve 150 = .ok (.ladd, 1) := by decide +kernel
theorem dX8_doObserve_151 : decode cX8_doObserve 151 = .ok (.lstore 6, 2) := by decide +kernel
theorem dX8_doObserve_153 : decode cX8_doObserve 153 = .ok (.lload 8, 2) := by decide +kernel
theorem dX8_doObserve_155 : decode cX8_doObserve 155 = .ok (.iload 16, 2) := by decide +kernel
theorem dX8_doObserve_157 : decode cX8_doObserve 157 = .ok (.i2l, 1) := by decide +kernel
theorem dX8_doObserve_158 : decode cX8_doObserve 158 = .ok (.ladd, 1) := by decide +kernel
theorem dX8_doObserve_159 : decode cX8_doObserve 159 = .ok (.lstore 8, 2) := by decide +kernel
theorem dX8_doObserve_161 : decode cX8_doObserve 161 = .ok (.iload 10, 2) := by decide +kernel
theorem dX8_doObserve_163 : decode cX8_doObserve 163 = .ok (.iload 15, 2) := by decide +kernel
theorem dX8_doObserve_165 : decode cX8_doObserve 165 = .ok (.invokestatic 102, 3) := by decide +kernel
theorem dX8_doObserve_168 : decode cX8_doObserve 168 = .ok (.istore 10, 2) := by decide +kernel
theorem dX8_doObserve_170 : decode cX8_doObserve 170 = .ok (.iload 15, 2) := by decide +kernel
theorem dX8_doObserve_172 : decode cX8_doObserve 172 = .ok (.iload 11, 2) := by decide +kernel
theorem dX8_doObserve_174 : decode cX8_doObserve 174 = .ok (.if_icmp .le 8, 3) := by decide +kernel
theorem dX8_doObserve_177 : decode cX8_doObserve 177 = .ok (.iload 15, 2) := by decide +kernel
theorem dX8_doObserve_179 : decode cX8_doObserve 179 = .ok (.goto 5, 3) := by decide +kernel
theorem dX8_doObserve_182 : decode cX8_doObserve 182 = .ok (.iload 11, 2) := by decide +kernel
theorem dX8_doObserve_184 : decode cX8_doObserve 184 = .ok (.istore 11, 2) := by decide +kernel
theorem dX8_doObserve_186 : decode cX8_doObserve 186 = .ok (.iload 12, 2) := by decide +kernel
theorem dX8_doObserve_188 : decode cX8_doObserve 188 = .ok (.iload 16, 2) := by decide +kernel
theorem dX8_doObserve_190 : decode cX8_doObserve 190 = .ok (.invokestatic 102, 3) := by decide +kernel
theorem dX8_doObserve_193 : decode cX8_doObserve 193 = .ok (.istore 12, 2) := by decide +kernel
theorem dX8_doObserve_195 : decode cX8_doObserve 195 = .ok (.iload 16, 2) := by decide +kernel
theorem dX8_doObserve_197 : decode cX8_doObserve 197 = .ok (.iload 13, 2) := by decide +kernel
theorem dX8_doObserve_199 : decode cX8_doObserve 199 = .ok (.if_icmp .le 8, 3) := by decide +kernel
theorem dX8_doObserve_202 : decode cX8_doObserve 202 = .ok (.iload 16, 2) := by decide +kernel
theorem dX8_doObserve_204 : decode cX8_doObserve 204 = .ok (.goto 5, 3) := by decide +kernel
theorem dX8_doObserve_207 : decode cX8_doObserve 207 = .ok (.iload 13, 2) := by decide +kernel
theorem dX8_doObserve_209 : decode cX8_doObserve 209 = .ok (.istore 13, 2) := by decide +kernel
theorem dX8_doObserve_211 : decode cX8_doObserve 211 = .ok (.aload_n 0, 1) := by decide +kernel
theorem dX8_doObserve_212 : decode cX8_doObserve 212 = .ok (.invokevirtual 123, 3) := by decide +kernel
theorem dX8_doObserve_215 : decode cX8_doObserve 215 = .ok (.iinc 14 1, 3) := by decide +kernel
theorem dX8_doObserve_218 : decode cX8_doObserve 218 = .ok (.goto (-99), 3) := by decide +kernel
theorem dX8_doObserve_221 : decode cX8_doObserve 221 = .ok (.aload_n 0, 1) := by decide +kernel
theorem dX8_doObserve_222 : decode cX8_doObserve 222 = .ok (.getfield 7, 3) := by decide +kernel
theorem dX8_doObserve_225 : decode cX8_doObserve 225 = .ok (.iload 5, 2) := by decide +kernel
theorem dX8_doObserve_227 : decode cX8_doObserve 227 = .ok (.iconst 0, 1) := by decide +kernel
theorem dX8_doObserve_228 : decode cX8_doObserve 228 = .ok (.iadd, 1) := by decide +kernel
theorem dX8_doObserve_229 : decode cX8_doObserve 229 = .ok (.iconst 1, 1) := by decide +kernel
theorem dX8_doObserve_230 : decode cX8_doObserve 230 = .ok (.iastore, 1) := by decide +kernel
theorem dX8_doObserve_231 : decode cX8_doObserve 231 = .ok (.aload_n 0, 1) := by decide +kernel
theorem dX8_doObserve_232 : decode cX8_doObserve 232 = .ok (.getfield 7, 3) := by decide +kernel
theorem dX8_doObserve_235 : decode cX8_doObserve 235 = .ok (.iload 5, 2) := by decide +kernel
theorem dX8_doObserve_237 : decode cX8_doObserve 237 = .ok (.iconst 1, 1) := by decide +kernel
theorem dX8_doObserve_238 : decode cX8_doObserve 238 = .ok (.iadd, 1) := by decide +kernel
theorem dX8_doObserve_239 : decode cX8_doObserve 239 = .ok (.lload 6, 2) := by decide +kernel
theorem dX8_doObserve_241 : decode cX8_doObserve 241 = .ok (.iload_n 3, 1) := by decide +kernel
theorem dX8_doObserve_242 : decode cX8_doObserve 242 = .ok (.i2l, 1) := by decide +kernel
theorem dX8_doObserve_243 : decode cX8_doObserve 243 = .ok (.invokestatic 107, 3) := by decide +kernel
theorem dX8_doObserve_246 : decode cX8_doObserve 246 = .ok (.l2i, 1) := by decide +kernel
theorem dX8_doObserve_247 : decode cX8_doObserve 247 = .ok (.iastore, 1) := by decide +kernel
theorem dX8_doObserve_248 : decode cX8_doObserve 248 = .ok (.aload_n 0, 1) := by decide +kernel
theorem dX8_doObserve_249 : decode cX8_doObserve 249 = .ok (.getfield 7, 3) := by decide +kernel
theorem dX8_doObserve_252 : decode cX8_doObserve 252 = .ok (.iload 5, 2) := by decide +kernel
theorem dX8_doObserve_254 : decode cX8_doObserve 254 = .ok (.iconst 1, 1) := by decide +kernel
theorem dX8_doObserve_255 : decode cX8_doObserve 255 = .ok (.iadd, 1) := by decide +kernel
theorem dX8_doObserve_256 : decode cX8_doObserve 256 = .ok (.iconst 1, 1) := by decide +kernel
theorem dX8_doObserve_257 : decode cX8_doObserve 257 = .ok (.iadd, 1) := by decide +kernel
theorem dX8_doObserve_258 : decode cX8_doObserve 258 = .ok (.lload 8, 2) := by decide +kernel
theorem dX8_doObserve_260 : decode cX8_doObserve 260 = .ok (.iload_n 3, 1) := by decide +kernel
theorem dX8_doObserve_261 : decode cX8_doObserve 261 = .ok (.i2l, 1) := by decide +kernel
theorem dX8_doObserve_262 : decode cX8_doObserve 262 = .ok (.invokestatic 107, 3) := by decide +kernel
theorem dX8_doObserve_265 : decode cX8_doObserve 265 = .ok (.l2i, 1) := by decide +kernel
theorem dX8_doObserve_266 : decode cX8_doObserve 266 = .ok (.iastore, 1) := by decide +kernel
theorem dX8_doObserve_267 : decode cX8_doObserve 267 = .ok (.aload_n 0, 1) := by decide +kernel
theorem dX8_doObserve_268 : decode cX8_doObserve 268 = .ok (.getfield 7, 3) := by decide +kernel
theorem dX8_doObserve_271 : decode cX8_doObserve 271 = .ok (.iload 5, 2) := by decide +kernel
theorem dX8_doObserve_273 : decode cX8_doObserve 273 = .ok (.iconst 3, 1) := by decide +kernel
theorem dX8_doObserve_274 : decode cX8_doObserve 274 = .ok (.iadd, 1) := by decide +kernel
theorem dX8_doObserve_275 : decode cX8_doObserve 275 = .ok (.iload 11, 2) := by decide +kernel
theorem dX8_doObserve_277 : decode cX8_doObserve 277 = .ok (.iload 10, 2) := by decide +kernel
theorem dX8_doObserve_279 : decode cX8_doObserve 279 = .ok (.isub, 1) := by decide +kernel
theorem dX8_doObserve_280 : decode cX8_doObserve 280 = .ok (.iload 13, 2) := by decide +kernel
theorem dX8_doObserve_282 : decode cX8_doObserve 282 = .ok (.iload 12, 2) := by decide +kernel
theorem dX8_doObserve_284 : decode cX8_doObserve 284 = .ok (.isub, 1) := by decide +kernel
theorem dX8_doObserve_285 : decode cX8_doObserve 285 = .ok (.if_icmp .le 11, 3) := by decide +kernel
theorem dX8_doObserve_288 : decode cX8_doObserve 288 = .ok (.iload 11, 2) := by decide +kernel
theorem dX8_doObserve_290 : decode cX8_doObserve 290 = .ok (.iload 10, 2) := by decide +kernel
theorem dX8_doObserve_292 : decode cX8_doObserve 292 = .ok (.isub, 1) := by decide +kernel
theorem dX8_doObserve_293 : decode cX8_doObserve 293 = .ok (.goto 8, 3) := by decide +kernel
theorem dX8_doObserve_296 : decode cX8_doObserve 296 = .ok (.iload 13, 2) := by decide +kernel
theorem dX8_doObserve_298 : decode cX8_doObserve 298 = .ok (.iload 12, 2) := by decide +kernel
theorem dX8_doObserve_300 : decode cX8_doObserve 300 = .ok (.isub, 1) := by decide +kernel
theorem dX8_doObserve_301 : decode cX8_doObserve 301 = .ok (.iastore, 1) := by decide +kernel
theorem dX8_doObserve_302 : decode cX8_doObserve 302 = .ok (.aload_n 0, 1) := by decide +kernel
theorem dX8_doObserve_303 : decode cX8_doObserve 303 = .ok (.getfield 7, 3) := by decide +kernel
theorem dX8_doObserve_306 : decode cX8_doObserve 306 = .ok (.iload 5, 2) := by decide +kernel
theorem dX8_doObserve_308 : decode cX8_doObserve 308 = .ok (.iconst 4, 1) := by decide +kernel
theorem dX8_doObserve_309 : decode cX8_doObserve 309 = .ok (.iadd, 1) := by decide +kernel
theorem dX8_doObserve_310 : decode cX8_doObserve 310 = .ok (.iload_n 3, 1) := by decide +kernel
theorem dX8_doObserve_311 : decode cX8_doObserve 311 = .ok (.iastore, 1) := by decide +kernel
theorem dX8_doObserve_312 : decode cX8_doObserve 312 = .ok (.aload_n 0, 1) := by decide +kernel
theorem dX8_doObserve_313 : decode cX8_doObserve 313 = .ok (.getfield 7, 3) := by decide +kernel
theorem dX8_doObserve_316 : decode cX8_doObserve 316 = .ok (.iload 5, 2) := by decide +kernel
theorem dX8_doObserve_318 : decode cX8_doObserve 318 = .ok (.iconst 5, 1) := by decide +kernel
theorem dX8_doObserve_319 : decode cX8_doObserve 319 = .ok (.iadd, 1) := by decide +kernel
theorem dX8_doObserve_320 : decode cX8_doObserve 320 = .ok (.aload_n 0, 1) := by decide +kernel
theorem dX8_doObserve_321 : decode cX8_doObserve 321 = .ok (.getfield 7, 3) := by decide +kernel
theorem dX8_doObserve_324 : decode cX8_doObserve 324 = .ok (.iconst 0, 1) := by decide +kernel
theorem dX8_doObserve_325 : decode cX8_doObserve 325 = .ok (.iaload, 1) := by decide +kernel
theorem dX8_doObserve_326 : decode cX8_doObserve 326 = .ok (.iastore, 1) := by decide +kernel
theorem dX8_doObserve_327 : decode cX8_doObserve 327 = .ok (.aload_n 0, 1) := by decide +kernel
theorem dX8_doObserve_328 : decode cX8_doObserve 328 = .ok (.getfield 7, 3) := by decide +kernel
theorem dX8_doObserve_331 : decode cX8_doObserve 331 = .ok (.iconst 2, 1) := by decide +kernel
theorem dX8_doObserve_332 : decode cX8_doObserve 332 = .ok (.dup2, 1) := by decide +kernel
theorem dX8_doObserve_333 : decode cX8_doObserve 333 = .ok (.iaload, 1) := by decide +kernel
theorem dX8_doObserve_334 : decode cX8_doObserve 334 = .ok (.iload_n 3, 1) := by decide +kernel
theorem dX8_doObserve_335 : decode cX8_doObserve 335 = .ok (.iadd, 1) := by decide +kernel
theorem dX8_doObserve_336 : decode cX8_doObserve 336 = .ok (.iastore, 1) := by decide +kernel
theorem dX8_doObserve_337 : decode cX8_doObserve 337 = .ok (.aload_n 0, 1) := by decide +kernel
theorem dX8_doObserve_338 : decode cX8_doObserve 338 = .ok (.getfield 7, 3) := by decide +kernel
theorem dX8_doObserve_341 : decode cX8_doObserve 341 = .ok (.iload 5, 2) := by decide +kernel
theorem dX8_doObserve_343 : decode cX8_doObserve 343 = .ok (.iconst 3, 1) := by decide +kernel
theorem dX8_doObserve_344 : decode cX8_doObserve 344 = .ok (.iadd, 1) := by decide +kernel
theorem dX8_doObserve_345 : decode cX8_doObserve 345 = .ok (.iaload, 1) := by decide +kernel
theorem dX8_doObserve_346 : decode cX8_doObserve 346 = .ok (.ireturn, 1) := by decide +kernel
theorem dX8_observe_0 : decode cX8_observe 0 = .ok (.aload_n 0, 1) := by decide +kernel
theorem dX8_observe_1 : decode cX8_observe 1 = .ok (.invokevirtual 49, 3) := by decide +kernel
theorem dX8_observe_4 : decode cX8_observe 4 = .ok (.aload_n 0, 1) := by decide +kernel
theorem dX8_observe_5 : decode cX8_observe 5 = .ok (.aload_n 0, 1) := by decide +kernel
theorem dX8_observe_6 : decode cX8_observe 6 = .ok (.iload_n 1, 1) := by decide +kernel
theorem dX8_observe_7 : decode cX8_observe 7 = .ok (.iload_n 2, 1) := by decide +kernel
theorem dX8_observe_8 : decode cX8_observe 8 = .ok (.iload_n 3, 1) := by decide +kernel
theorem dX8_observe_9 : decode cX8_observe 9 = .ok (.invokevirtual 135, 3) := by decide +kernel
theorem dX8_observe_12 : decode cX8_observe 12 = .ok (.invokevirtual 52, 3) := by decide +kernel
theorem dX8_observe_15 : decode cX8_observe 15 = .ok (.ireturn, 1) := by decide +kernel
theorem dX8_bearingOf_0 : decode cX8_bearingOf 0 = .ok (.iload_n 0, 1) := by decide +kernel
theorem dX8_bearingOf_1 : decode cX8_bearingOf 1 = .ok (.invokestatic 85, 3) := by decide +kernel
theorem dX8_bearingOf_4 : decode cX8_bearingOf 4 = .ok (.i2l, 1) := by decide +kernel
theorem dX8_bearingOf_5 : decode cX8_bearingOf 5 = .ok (.iload_n 1, 1) := by decide +kernel
theorem dX8_bearingOf_6 : decode cX8_bearingOf 6 = .ok (.invokestatic 85, 3) := by decide +kernel
theorem dX8_bearingOf_9 : decode cX8_bearingOf 9 = .ok (.i2l, 1) := by decide +kernel
theorem dX8_bearingOf_10 : decode cX8_bearingOf 10 = .ok (.ladd, 1) := by decide +kernel
theorem dX8_bearingOf_11 : decode cX8_bearingOf 11 = .ok (.lstore_n 2, 1) := by decide +kernel
theorem dX8_bearingOf_12 : decode cX8_bearingOf 12 = .ok (.iload_n 0, 1) := by decide +kernel
theorem dX8_bearingOf_13 : decode cX8_bearingOf 13 = .ok (.ifCond .le 17, 3) := by decide +kernel
theorem dX8_bearingOf_16 : decode cX8_bearingOf 16 = .ok (.iload_n 1, 1) := by decide +kernel
theorem dX8_bearingOf_17 : decode cX8_bearingOf 17 = .ok (.ifCond .lt 13, 3) := by decide +kernel
theorem dX8_bearingOf_20 : decode cX8_bearingOf 20 = .ok (.ldc2_w 138, 3) := by decide +kernel
theorem dX8_bearingOf_23 : decode cX8_bearingOf 23 = .ok (.iload_n 1, 1) := by decide +kernel
theorem dX8_bearingOf_24 : decode cX8_bearingOf 24 = .ok (.i2l, 1) := by decide +kernel
theorem dX8_bearingOf_25 : decode cX8_bearingOf 25 = .ok (.lmul, 1) := by decide +kernel
theorem dX8_bearingOf_26 : decode cX8_bearingOf 26 = .ok (.lload_n 2, 1) := by decide +kernel
theorem dX8_bearingOf_27 : decode cX8_bearingOf 27 = .ok (.ldiv, 1) := by decide +kernel
theorem dX8_bearingOf_28 : decode cX8_bearingOf 28 = .ok (.l2i, 1) := by decide +kernel
theorem dX8_bearingOf_29 : decode cX8_bearingOf 29 = .ok (.ireturn, 1) := by decide +kernel
theorem dX8_bearingOf_30 : decode cX8_bearingOf 30 = .ok (.iload_n 1, 1) := by decide +kernel
theorem dX8_bearingOf_31 : decode cX8_bearingOf 31 = .ok (.ifCond .le 22, 3) := by decide +kernel
theorem dX8_bearingOf_34 : decode cX8_bearingOf 34 = .ok (.iload_n 0, 1) := by decide +kernel
theorem dX8_bearingOf_35 : decode cX8_bearingOf 35 = .ok (.ifCond .gt 18, 3) := by decide +kernel
theorem dX8_bearingOf_38 : decode cX8_bearingOf 38 = .ok (.ldc2_w 138, 3) := by decide +kernel
theorem dX8_bearingOf_41 : decode cX8_bearingOf 41 = .ok (.ldc2_w 138, 3) := by decide +kernel
theorem dX8_bearingOf_44 : decode cX8_bearingOf 44 = .ok (.iload_n 0, 1) := by decide +kernel
theorem dX8_bearingOf_45 : decode cX8_bearingOf 45 = .ok (.ineg, 1) := by decide +kernel
theorem dX8_bearingOf_46 : decode cX8_bearingOf 46 = .ok (.i2l, 1) := by decide +kernel
theorem dX8_bearingOf_47 : decode cX8_bearingOf 47 = .ok (.lmul, 1) := by decide +kernel
theorem dX8_bearingOf_48 : decode cX8_bearingOf 48 = .ok (.lload_n 2, 1) := by decide +kernel
theorem dX8_bearingOf_49 : decode cX8_bearingOf 49 = .ok (.ldiv, 1) := by decide +kernel
theorem dX8_bearingOf_50 : decode cX8_bearingOf 50 = .ok (.ladd, 1) := by decide +kernel
theorem dX8_bearingOf_51 : decode cX8_bearingOf 51 = .ok (.l2i, 1) := by decide +kernel
theorem dX8_bearingOf_52 : decode cX8_bearingOf 52 = .ok (.ireturn, 1) := by decide +kernel
theorem dX8_bearingOf_53 : decode cX8_bearingOf 53 = .ok (.iload_n 0, 1) := by decide +kernel
theorem dX8_bearingOf_54 : decode cX8_bearingOf 54 = .ok (.ifCond .ge 22, 3) := by decide +kernel
theorem dX8_bearingOf_57 : decode cX8_bearingOf 57 = .ok (.iload_n 1, 1) := by decide +kernel
theorem dX8_bearingOf_58 : decode cX8_bearingOf 58 = .ok (.ifCond .gt 18, 3) := by decide +kernel
theorem dX8_bearingOf_61 : decode cX8_bearingOf 61 = .ok (.ldc2_w 140, 3) := by decide +kernel
theorem dX8_bearingOf_64 : decode cX8_bearingOf 64 = .ok (.ldc2_w 138, 3) := by decide +kernel
theorem dX8_bearingOf_67 : decode cX8_bearingOf 67 = .ok (.iload_n 1, 1) := by decide +kernel
theorem dX8_bearingOf_68 : decode cX8_bearingOf 68 = .ok (.ineg, 1) := by decide +kernel
theorem dX8_bearingOf_69 : decode cX8_bearingOf 69 = .ok (.i2l, 1) := by decide +kernel
theorem dX8_bearingOf_70 : decode cX8_bearingOf 70 = .ok (.lmul, 1) := by decide +kernel
theorem dX8_bearingOf_71 : decode cX8_bearingOf 71 = .ok (.lload_n 2, 1) := by decide +kernel
theorem dX8_bearingOf_72 : decode cX8_bearingOf 72 = .ok (.ldiv, 1) := by decide +kernel
theorem dX8_bearingOf_73 : decode cX8_bearingOf 73 = .ok (.ladd, 1) := by decide +kernel
theorem dX8_bearingOf_74 : decode cX8_bearingOf 74 = .ok (.l2i, 1) := by decide +kernel
theorem dX8_bearingOf_75 : decode cX8_bearingOf 75 = .ok (.ireturn, 1) := by decide +kernel
theorem dX8_bearingOf_76 : decode cX8_bearingOf 76 = .ok (.ldc2_w 142, 3) := by decide +kernel
theorem dX8_bearingOf_79 : decode cX8_bearingOf 79 = .ok (.ldc2_w 138, 3) := by decide +kernel
theorem dX8_bearingOf_82 : decode cX8_bearingOf 82 = .ok (.iload_n 0, 1) := by decide +kernel
theorem dX8_bearingOf_83 : decode cX8_bearingOf 83 = .ok (.i2l, 1) := by decide +kernel
theorem dX8_bearingOf_84 : decode cX8_bearingOf 84 = .ok (.lmul, 1) := by decide +kernel
theorem dX8_bearingOf_85 : decode cX8_bearingOf 85 = .ok (.lload_n 2, 1) := by decide +kernel
theorem dX8_bearingOf_86 : decode cX8_bearingOf 86 = .ok (.ldiv, 1) := by decide +kernel
theorem dX8_bearingOf_87 : decode cX8_bearingOf 87 = .ok (.ladd, 1) := by decide +kernel
theorem dX8_bearingOf_88 : decode cX8_bearingOf 88 = .ok (.l2i, 1) := by decide +kernel
theorem dX8_bearingOf_89 : decode cX8_bearingOf 89 = .ok (.ireturn, 1) := by decide +kernel
theorem dX8_bearing_0 : decode cX8_bearing 0 = .ok (.iload_n 1, 1) := by decide +kernel
theorem dX8_bearing_1 : decode cX8_bearing 1 = .ok (.sipush (-20000), 3) := by decide +kernel
theorem dX8_bearing_4 : decode cX8_bearing 4 = .ok (.sipush 20000, 3) := by decide +kernel
theorem dX8_bearing_7 : decode cX8_bearing 7 = .ok (.invokestatic 45, 3) := by decide +kernel
theorem dX8_bearing_10 : decode cX8_bearing 10 = .ok (.ifCond .eq 24, 3) := by decide +kernel
theorem dX8_bearing_13 : decode cX8_bearing 13 = .ok (.iload_n 2, 1) := by decide +kernel
theorem dX8_bearing_14 : decode cX8_bearing 14 = .ok (.sipush (-20000), 3) := by decide +kernel
theorem dX8_bearing_17 : decode cX8_bearing 17 = .ok (.sipush 20000, 3) := by decide +kernel
theorem dX8_bearing_20 : decode cX8_bearing 20 = .ok (.invokestatic 45, 3) := by decide +kernel
theorem dX8_bearing_23 : decode cX8_bearing 23 = .ok (.ifCond .eq 11, 3) := by decide +kernel
theorem dX8_bearing_26 : decode cX8_bearing 26 = .ok (.iload_n 1, 1) := by decide +kernel
theorem dX8_bearing_27 : decode cX8_bearing 27 = .ok (.ifCond .ne 10, 3) := by decide +kernel
theorem dX8_bearing_30 : decode cX8_bearing 30 = .ok (.iload_n 2, 1) := by decide +kernel
theorem dX8_bearing_31 : decode cX8_bearing 31 = .ok (.ifCond .ne 6, 3) := by decide +kernel
theorem dX8_bearing_34 : decode cX8_bearing 34 = .ok (.ldc 70, 2) := by decide +kernel
theorem dX8_bearing_36 : decode cX8_bearing 36 = .ok (.ireturn, 1) := by decide +kernel
theorem dX8_bearing_37 : decode cX8_bearing 37 = .ok (.iload_n 1, 1) := by decide +kernel
theorem dX8_bearing_38 : decode cX8_bearing 38 = .ok (.iload_n 2, 1) := by decide +kernel
theorem dX8_bearing_39 : decode cX8_bearing 39 = .ok (.invokestatic 144, 3) := by decide +kernel
theorem dX8_bearing_42 : decode cX8_bearing 42 = .ok (.ireturn, 1) := by decide +kernel
theorem dX8_hasPair_0 : decode cX8_hasPair 0 = .ok (.aload_n 0, 1) := by decide +kernel
theorem dX8_hasPair_1 : decode cX8_hasPair 1 = .ok (.iconst 2, 1) := by decide +kernel
theorem dX8_hasPair_2 : decode cX8_hasPair 2 = .ok (.iload_n 1, 1) := by decide +kernel
theorem dX8_hasPair_3 : decode cX8_hasPair 3 = .ok (.imul, 1) := by decide +kernel
theorem dX8_hasPair_4 : decode cX8_hasPair 4 = .ok (.invokevirtual 79, 3) := by decide +kernel
theorem dX8_hasPair_7 : decode cX8_hasPair 7 = .ok (.ifCond .eq 19, 3) := by decide +kernel
theorem dX8_hasPair_10 : decode cX8_hasPair 10 = .ok (.aload_n 0, 1) := by decide +kernel
theorem dX8_hasPair_11 : decode cX8_hasPair 11 = .ok (.iconst 2, 1) := by decide +kernel
theorem dX8_hasPair_12 : decode cX8_hasPair 12 = .ok (.iload_n 1, 1) := by decide +kernel
theorem dX8_hasPair_13 : decode cX8_hasPair 13 = .ok (.imul, 1) := by decide +kernel
theorem dX8_hasPair_14 : decode cX8_hasPair 14 = .ok (.iconst 1, 1) := by decide +kernel
theorem dX8_hasPair_15 : decode cX8_hasPair 15 = .ok (.iadd, 1) := by decide +kernel
theorem dX8_hasPair_16 : decode cX8_hasPair 16 = .ok (.invokevirtual 79, 3) := by decide +kernel
theorem dX8_hasPair_19 : decode cX8_hasPair 19 = .ok (.ifCond .eq 7, 3) := by decide +kernel
theorem dX8_hasPair_22 : decode cX8_hasPair 22 = .ok (.iconst 1, 1) := by decide +kernel
theorem dX8_hasPair_23 : decode cX8_hasPair 23 = .ok (.goto 4, 3) := by decide +kernel
theorem dX8_hasPair_26 : decode cX8_hasPair 26 = .ok (.iconst 0, 1) := by decide +kernel
theorem dX8_hasPair_27 : decode cX8_hasPair 27 = .ok (.ireturn, 1) := by decide +kernel
theorem dX8_acrossTop_0 : decode cX8_acrossTop 0 = .ok (.aload_n 0, 1) := by decide +kernel
theorem dX8_acrossTop_1 : decode cX8_acrossTop 1 = .ok (.iconst 2, 1) := by decide +kernel
theorem dX8_acrossTop_2 : decode cX8_acrossTop 2 = .ok (.iload_n 1, 1) := by decide +kernel
theorem dX8_acrossTop_3 : decode cX8_acrossTop 3 = .ok (.imul, 1) := by decide +kernel
theorem dX8_acrossTop_4 : decode cX8_acrossTop 4 = .ok (.iconst 1, 1) := by decide +kernel
theorem dX8_acrossTop_5 : decode cX8_acrossTop 5 = .ok (.iadd, 1) := by decide +kernel
theorem dX8_acrossTop_6 : decode cX8_acrossTop 6 = .ok (.iconst 1, 1) := by decide +kernel
theorem dX8_acrossTop_7 : decode cX8_acrossTop 7 = .ok (.iload_n 2, 1) := by decide +kernel
theorem dX8_acrossTop_8 : decode cX8_acrossTop 8 = .ok (.iadd, 1) := by decide +kernel
theorem dX8_acrossTop_9 : decode cX8_acrossTop 9 = .ok (.invokevirtual 56, 3) := by decide +kernel
theorem dX8_acrossTop_12 : decode cX8_acrossTop 12 = .ok (.aload_n 0, 1) := by decide +kernel
theorem dX8_acrossTop_13 : decode cX8_acrossTop 13 = .ok (.iconst 2, 1) := by decide +kernel
theorem dX8_acrossTop_14 : decode cX8_acrossTop 14 = .ok (.iload_n 1, 1) := by decide +kernel
theorem dX8_acrossTop_15 : decode cX8_acrossTop 15 = .ok (.imul, 1) := by decide +kernel
theorem dX8_acrossTop_16 : decode cX8_acrossTop 16 = .ok (.iconst 1, 1) := by decide +kernel
theorem dX8_acrossTop_17 : decode cX8_acrossTop 17 = .ok (.iload_n 2, 1) := by decide +kernel
theorem dX8_acrossTop_18 : decode cX8_acrossTop 18 = .ok (.iadd, 1) := by decide +kernel
theorem dX8_acrossTop_19 : decode cX8_acrossTop 19 = .ok (.invokevirtual 56, 3) := by decide +kernel
theorem dX8_acrossTop_22 : decode cX8_acrossTop 22 = .ok (.isub, 1) := by decide +kernel
theorem dX8_acrossTop_23 : decode cX8_acrossTop 23 = .ok (.ireturn, 1) := by decide +kernel
theorem dX8_acrossAt_0 : decode cX8_acrossAt 0 = .ok (.aload_n 0, 1) := by decide +kernel
theorem dX8_acrossAt_1 : decode cX8_acrossAt 1 = .ok (.getfield 7, 3) := by decide +kernel
theorem dX8_acrossAt_4 : decode cX8_acrossAt 4 = .ok (.iload_n 1, 1) := by decide +kernel
theorem dX8_acrossAt_5 : decode cX8_acrossAt 5 = .ok (.iconst 2, 1) := by decide +kernel
theorem dX8_acrossAt_6 : decode cX8_acrossAt 6 = .ok (.iload_n 2, 1) := by decide +kernel
theorem dX8_acrossAt_7 : decode cX8_acrossAt 7 = .ok (.imul, 1) := by decide +kernel
theorem dX8_acrossAt_8 : decode cX8_acrossAt 8 = .ok (.iconst 1, 1) := by decide +kernel
theorem dX8_acrossAt_9 : decode cX8_acrossAt 9 = .ok (.iadd, 1) := by decide +kernel
theorem dX8_acrossAt_10 : decode cX8_acrossAt 10 = .ok (.invokestatic 60, 3) := by decide +kernel
theorem dX8_acrossAt_13 : decode cX8_acrossAt 13 = .ok (.iconst 1, 1) := by decide +kernel
theorem dX8_acrossAt_14 : decode cX8_acrossAt 14 = .ok (.iadd, 1) := by decide +kernel
theorem dX8_acrossAt_15 : decode cX8_acrossAt 15 = .ok (.iload_n 3, 1) := by decide +kernel
theorem dX8_acrossAt_16 : decode cX8_acrossAt 16 = .ok (.iadd, 1) := by decide +kernel
theorem dX8_acrossAt_17 : decode cX8_acrossAt 17 = .ok (.iaload, 1) := by decide +kernel
theorem dX8_acrossAt_18 : decode cX8_acrossAt 18 = .ok (.aload_n 0, 1) := by decide +kernel
theorem dX8_acrossAt_19 : decode cX8_acrossAt 19 = .ok (.getfield 7, 3) := by decide +kernel
theorem dX8_acrossAt_22 : decode cX8_acrossAt 22 = .ok (.iload_n 1, 1) := by decide +kernel
theorem dX8_acrossAt_23 : decode cX8_acrossAt 23 = .ok (.iconst 2, 1) := by decide +kernel
theorem dX8_acrossAt_24 : decode cX8_acrossAt 24 = .ok (.iload_n 2, 1) := by decide +kernel
theorem dX8_acrossAt_25 : decode cX8_acrossAt 25 = .ok (.imul, 1) := by decide +kernel
theorem dX8_acrossAt_26 : decode cX8_acrossAt 26 = .ok (.invokestatic 60, 3) := by decide +kernel
theorem dX8_acrossAt_29 : decode cX8_acrossAt 29 = .ok (.iconst 1, 1) := by decide +kernel
theorem dX8_acrossAt_30 : decode cX8_acrossAt 30 = .ok (.iadd, 1) := by decide +kernel
theorem dX8_acrossAt_31 : decode cX8_acrossAt 31 = .ok (.iload_n 3, 1) := by decide +kernel
theorem dX8_acrossAt_32 : decode cX8_acrossAt 32 = .ok (.iadd, 1) := by decide +kernel
theorem dX8_acrossAt_33 : decode cX8_acrossAt 33 = .ok (.iaload, 1) := by decide +kernel
theorem dX8_acrossAt_34 : decode cX8_acrossAt 34 = .ok (.isub, 1) := by decide +kernel
theorem dX8_acrossAt_35 : decode cX8_acrossAt 35 = .ok (.ireturn, 1) := by decide +kernel
theorem dX8_surface_0 : decode cX8_surface 0 = .ok (.iload_n 1, 1) := by decide +kernel
theorem dX8_surface_1 : decode cX8_surface 1 = .ok (.iconst 0, 1) := by decide +kernel
theorem dX8_surface_2 : decode cX8_surface 2 = .ok (.iconst 1, 1) := by decide +kernel
theorem dX8_surface_3 : decode cX8_surface 3 = .ok (.invokestatic 45, 3) := by decide +kernel
theorem dX8_surface_6 : decode cX8_surface 6 = .ok (.ifCond .ne 6, 3) := by decide +kernel
theorem dX8_surface_9 : decode cX8_surface 9 = .ok (.ldc 40, 2) := by decide +kernel
theorem dX8_surface_11 : decode cX8_surface 11 = .ok (.ireturn, 1) := by decide +kernel
theorem dX8_surface_12 : decode cX8_surface 12 = .ok (.aload_n 0, 1) := by decide +kernel
theorem dX8_surface_13 : decode cX8_surface 13 = .ok (.iload_n 1, 1) := by decide +kernel
theorem dX8_surface_14 : decode cX8_surface 14 = .ok (.invokevirtual 147, 3) := by decide +kernel
theorem dX8_surface_17 : decode cX8_surface 17 = .ok (.ifCond .eq 21, 3) := by decide +kernel
theorem dX8_surface_20 : decode cX8_surface 20 = .ok (.aload_n 0, 1) := by decide +kernel
theorem dX8_surface_21 : decode cX8_surface 21 = .ok (.iload_n 1, 1) := by decide +kernel
theorem dX8_surface_22 : decode cX8_surface 22 = .ok (.iconst 0, 1) := by decide +kernel
theorem dX8_surface_23 : decode cX8_surface 23 = .ok (.invokevirtual 150, 3) := by decide +kernel
theorem dX8_surface_26 : decode cX8_surface 26 = .ok (.ifCond .ne 16, 3) := by decide +kernel
theorem dX8_surface_29 : decode cX8_surface 29 = .ok (.aload_n 0, 1) := by decide +kernel
theorem dX8_surface_30 : decode cX8_surface 30 = .ok (.iload_n 1, 1) := by decide +kernel
theorem dX8_surface_31 : decode cX8_surface 31 = .ok (.iconst 1, 1) := by decide +kernel
theorem dX8_surface_32 : decode cX8_surface 32 = .ok (.invokevirtual 150, 3) := by decide +kernel
theorem dX8_surface_35 : decode cX8_surface 35 = .ok (.ifCond .ne 7, 3) := by decide +kernel
theorem dX8_surface_38 : decode cX8_surface 38 = .ok (.iconst 1, 1) := by decide +kernel
theorem dX8_surface_39 : decode cX8_surface 39 = .ok (.goto 4, 3) := by decide +kernel
theorem dX8_surface_42 : decode cX8_surface 42 = .ok (.iconst 0, 1) := by decide +kernel
theorem dX8_surface_43 : decode cX8_surface 43 = .ok (.istore_n 2, 1) := by decide +kernel
theorem dX8_surface_44 : decode cX8_surface 44 = .ok (.iload_n 2, 1) := by decide +kernel
theorem dX8_surface_45 : decode cX8_surface 45 = .ok (.ifCond .eq 8, 3) := by decide +kernel
theorem dX8_surface_48 : decode cX8_surface 48 = .ok (.ldc 44, 2) := by decide +kernel
theorem dX8_surface_50 : decode cX8_surface 50 = .ok (.goto 18, 3) := by decide +kernel
theorem dX8_surface_53 : decode cX8_surface 53 = .ok (.aload_n 0, 1) := by decide +kernel
theorem dX8_surface_54 : decode cX8_surface 54 = .ok (.iload_n 1, 1) := by decide +kernel
theorem dX8_surface_55 : decode cX8_surface 55 = .ok (.iconst 0, 1) := by decide +kernel
theorem dX8_surface_56 : decode cX8_surface 56 = .ok (.invokevirtual 150, 3) := by decide +kernel
theorem dX8_surface_59 : decode cX8_surface 59 = .ok (.aload_n 0, 1) := by decide +kernel
theorem dX8_surface_60 : decode cX8_surface 60 = .ok (.iload_n 1, 1) := by decide +kernel
theorem dX8_surface_61 : decode cX8_surface 61 = .ok (.iconst 1, 1) := by decide +kernel
theorem dX8_surface_62 : decode cX8_surface 62 = .ok (.invokevirtual 150, 3) := by decide +kernel
theorem dX8_surface_65 : decode cX8_surface 65 = .ok (.invokestatic 144, 3) := by decide +kernel
theorem dX8_surface_68 : decode cX8_surface 68 = .ok (.ireturn, 1) := by decide +kernel
theorem dX8_missing_0 : decode cX8_missing 0 = .ok (.aload_n 0, 1) := by decide +kernel
theorem dX8_missing_1 : decode cX8_missing 1 = .ok (.iload_n 2, 1) := by decide +kernel
theorem dX8_missing_2 : decode cX8_missing 2 = .ok (.invokevirtual 147, 3) := by decide +kernel
theorem dX8_missing_5 : decode cX8_missing 5 = .ok (.ifCond .ne 5, 3) := by decide +kernel
theorem dX8_missing_8 : decode cX8_missing 8 = .ok (.iconst 1, 1) := by decide +kernel
theorem dX8_missing_9 : decode cX8_missing 9 = .ok (.ireturn, 1) := by decide +kernel
theorem dX8_missing_10 : decode cX8_missing 10 = .ok (.aload_n 0, 1) := by decide +kernel
theorem dX8_missing_11 : decode cX8_missing 11 = .ok (.getfield 7, 3) := by decide +kernel
theorem dX8_missing_14 : decode cX8_missing 14 = .ok (.iload_n 1, 1) := by decide +kernel
theorem dX8_missing_15 : decode cX8_missing 15 = .ok (.iconst 2, 1) := by decide +kernel
theorem dX8_missing_16 : decode cX8_missing 16 = .ok (.iload_n 2, 1) := by decide +kernel
theorem dX8_missing_17 : decode cX8_missing 17 = .ok (.imul, 1) := by decide +kernel
theorem dX8_missing_18 : decode cX8_missing 18 = .ok (.invokestatic 60, 3) := by decide +kernel
theorem dX8_missing_21 : decode cX8_missing 21 = .ok (.iconst 0, 1) := by decide +kernel
theorem dX8_missing_22 : decode cX8_missing 22 = .ok (.iadd, 1) := by decide +kernel
theorem dX8_missing_23 : decode cX8_missing 23 = .ok (.iaload, 1) := by decide +kernel
theorem dX8_missing_24 : decode cX8_missing 24 = .ok (.ifCond .eq 22, 3) := by decide +kernel
theorem dX8_missing_27 : decode cX8_missing 27 = .ok (.aload_n 0, 1) := by decide +kernel
theorem dX8_missing_28 : decode cX8_missing 28 = .ok (.getfield 7, 3) := by decide +kernel
theorem dX8_missing_31 : decode cX8_missing 31 = .ok (.iload_n 1, 1) := by decide +kernel
theorem dX8_missing_32 : decode cX8_missing 32 = .ok (.iconst 2, 1) := by decide +kernel
theorem dX8_missing_33 : decode cX8_missing 33 = .ok (.iload_n 2, 1) := by decide +kernel
theorem dX8_missing_34 : decode cX8_missing 34 = .ok (.imul, 1) := by decide +kernel
theorem dX8_missing_35 : decode cX8_missing 35 = .ok (.iconst 1, 1) := by decide +kernel
theorem dX8_missing_36 : decode cX8_missing 36 = .ok (.iadd, 1) := by decide +kernel
theorem dX8_missing_37 : decode cX8_missing 37 = .ok (.invokestatic 60, 3) := by decide +kernel
theorem dX8_missing_40 : decode cX8_missing 40 = .ok (.iconst 0, 1) := by decide +kernel
theorem dX8_missing_41 : decode cX8_missing 41 = .ok (.iadd, 1) := by decide +kernel
theorem dX8_missing_42 : decode cX8_missing 42 = .ok (.iaload, 1) := by decide +kernel
theorem dX8_missing_43 : decode cX8_missing 43 = .ok (.ifCond .ne 5, 3) := by decide +kernel
theorem dX8_missing_46 : decode cX8_missing 46 = .ok (.iconst 3, 1) := by decide +kernel
theorem dX8_missing_47 : decode cX8_missing 47 = .ok (.ireturn, 1) := by decide +kernel
theorem dX8_missing_48 : decode cX8_missing 48 = .ok (.aload_n 0, 1) := by decide +kernel
theorem dX8_missing_49 : decode cX8_missing 49 = .ok (.iload_n 2, 1) := by decide +kernel
theorem dX8_missing_50 : decode cX8_missing 50 = .ok (.iconst 0, 1) := by decide +kernel
theorem dX8_missing_51 : decode cX8_missing 51 = .ok (.invokevirtual 150, 3) := by decide +kernel
theorem dX8_missing_54 : decode cX8_missing 54 = .ok (.ifCond .ne 16, 3) := by decide +kernel
theorem dX8_missing_57 : decode cX8_missing 57 = .ok (.aload_n 0, 1) := by decide +kernel
theorem dX8_missing_58 : decode cX8_missing 58 = .ok (.iload_n 2, 1) := by decide +kernel
theorem dX8_missing_59 : decode cX8_missing 59 = .ok (.iconst 1, 1) := by decide +kernel
theorem dX8_missing_60 : decode cX8_missing 60 = .ok (.invokevirtual 150, 3) := by decide +kernel
theorem dX8_missing_63 : decode cX8_missing 63 = .ok (.ifCond .ne 7, 3) := by decide +kernel
theorem dX8_missing_66 : decode cX8_missing 66 = .ok (.iconst 1, 1) := by decide +kernel
theorem dX8_missing_67 : decode cX8_missing 67 = .ok (.goto 4, 3) := by decide +kernel
theorem dX8_missing_70 : decode cX8_missing 70 = .ok (.iconst 0, 1) := by decide +kernel
theorem dX8_missing_71 : decode cX8_missing 71 = .ok (.istore_n 3, 1) := by decide +kernel
theorem dX8_missing_72 : decode cX8_missing 72 = .ok (.aload_n 0, 1) := by decide +kernel
theorem dX8_missing_73 : decode cX8_missing 73 = .ok (.iload_n 1, 1) := by decide +kernel
theorem dX8_missing_74 : decode cX8_missing 74 = .ok (.iload_n 2, 1) := by decide +kernel
theorem dX8_missing_75 : decode cX8_missing 75 = .ok (.iconst 0, 1) := by decide +kernel
theorem dX8_missing_76 : decode cX8_missing 76 = .ok (.invokevirtual 153, 3) := by decide +kernel
theorem dX8_missing_79 : decode cX8_missing 79 = .ok (.ifCond .ne 17, 3) := by decide +kernel
theorem dX8_missing_82 : decode cX8_missing 82 = .ok (.aload_n 0, 1) := by decide +kernel
theorem dX8_missing_83 : decode cX8_missing 83 = .ok (.iload_n 1, 1) := by decide +kernel
theorem dX8_missing_84 : decode cX8_missing 84 = .ok (.iload_n 2, 1) := by decide +kernel
theorem dX8_missing_85 : decode cX8_missing 85 = .ok (.iconst 1, 1) := by decide +kernel
theorem dX8_missing_86 : decode cX8_missing 86 = .ok (.invokevirtual 153, 3) := by decide +kernel
theorem dX8_missing_89 : decode cX8_missing 89 = .ok (.ifCond .ne 7, 3) := by decide +kernel
theorem dX8_missing_92 : decode cX8_missing 92 = .ok (.iconst 1, 1) := by decide +kernel
theorem dX8_missing_93 : decode cX8_missing 93 = .ok (.goto 4, 3) := by decide +kernel
theorem dX8_missing_96 : decode cX8_missing 96 = .ok (.iconst 0, 1) := by decide +kernel
theorem dX8_missing_97 : decode cX8_missing 97 = .ok (.istore 4, 2) := by decide +kernel
theorem dX8_missing_99 : decode cX8_missing 99 = .ok (.iload_n 3, 1) := by decide +kernel
theorem dX8_missing_100 : decode cX8_missing 100 = .ok (.ifCond .ne 8, 3) := by decide +kernel
theorem dX8_missing_103 : decode cX8_missing 103 = .ok (.iload 4, 2) := by decide +kernel
theorem dX8_missing_105 : decode cX8_missing 105 = .ok (.ifCond .eq 7, 3) := by decide +kernel
theorem dX8_missing_108 : decode cX8_missing 108 = .ok (.iconst 4, 1) := by decide +kernel
theorem dX8_missing_109 : decode cX8_missing 109 = .ok (.goto 4, 3) := by decide +kernel
theorem dX8_missing_112 : decode cX8_missing 112 = .ok (.iconst 0, 1) := by decide +kernel
theorem dX8_missing_113 : decode cX8_missing 113 = .ok (.ireturn, 1) := by decide +kernel
theorem dX8_givenBy_0 : decode cX8_givenBy 0 = .ok (.aload_n 0, 1) := by decide +kernel
theorem dX8_givenBy_1 : decode cX8_givenBy 1 = .ok (.iload_n 2, 1) := by decide +kernel
theorem dX8_givenBy_2 : decode cX8_givenBy 2 = .ok (.iconst 0, 1) := by decide +kernel
theorem dX8_givenBy_3 : decode cX8_givenBy 3 = .ok (.invokevirtual 150, 3) := by decide +kernel
theorem dX8_givenBy_6 : decode cX8_givenBy 6 = .ok (.aload_n 0, 1) := by decide +kernel
theorem dX8_givenBy_7 : decode cX8_givenBy 7 = .ok (.iload_n 2, 1) := by decide +kernel
theorem dX8_givenBy_8 : decode cX8_givenBy 8 = .ok (.iconst 1, 1) := by decide +kernel
theorem dX8_givenBy_9 : decode cX8_givenBy 9 = .ok (.invokevirtual 150, 3) := by decide +kernel
theorem dX8_givenBy_12 : decode cX8_givenBy 12 = .ok (.invokestatic 144, 3) := by decide +kernel
theorem dX8_givenBy_15 : decode cX8_givenBy 15 = .ok (.istore_n 3, 1) := by decide +kernel
theorem dX8_givenBy_16 : decode cX8_givenBy 16 = .ok (.aload_n 0, 1) := by decide +kernel
theorem dX8_givenBy_17 : decode cX8_givenBy 17 = .ok (.iload_n 1, 1) := by decide +kernel
theorem dX8_givenBy_18 : decode cX8_givenBy 18 = .ok (.iload_n 2, 1) := by decide +kernel
theorem dX8_givenBy_19 : decode cX8_givenBy 19 = .ok (.iconst 0, 1) := by decide +kernel
theorem dX8_givenBy_20 : decode cX8_givenBy 20 = .ok (.invokevirtual 153, 3) := by decide +kernel
theorem dX8_givenBy_23 : decode cX8_givenBy 23 = .ok (.aload_n 0, 1) := by decide +kernel
theorem dX8_givenBy_24 : decode cX8_givenBy 24 = .ok (.iload_n 1, 1) := by decide +kernel
theorem dX8_givenBy_25 : decode cX8_givenBy 25 = .ok (.iload_n 2, 1) := by decide +kernel
theorem dX8_givenBy_26 : decode cX8_givenBy 26 = .ok (.iconst 1, 1) := by decide +kernel
theorem dX8_givenBy_27 : decode cX8_givenBy 27 = .ok (.invokevirtual 153, 3) := by decide +kernel
theorem dX8_givenBy_30 : decode cX8_givenBy 30 = .ok (.invokestatic 144, 3) := by decide +kernel
theorem dX8_givenBy_33 : decode cX8_givenBy 33 = .ok (.i2l, 1) := by decide +kernel
theorem dX8_givenBy_34 : decode cX8_givenBy 34 = .ok (.aload_n 0, 1) := by decide +kernel
theorem dX8_givenBy_35 : decode cX8_givenBy 35 = .ok (.getfield 7, 3) := by decide +kernel
theorem dX8_givenBy_38 : decode cX8_givenBy 38 = .ok (.bipush 69, 2) := by decide +kernel
theorem dX8_givenBy_40 : decode cX8_givenBy 40 = .ok (.iconst 3, 1) := by decide +kernel
theorem dX8_givenBy_41 : decode cX8_givenBy 41 = .ok (.iload_n 1, 1) := by decide +kernel
theorem dX8_givenBy_42 : decode cX8_givenBy 42 = .ok (.imul, 1) := by decide +kernel
theorem dX8_givenBy_43 : decode cX8_givenBy 43 = .ok (.iadd, 1) := by decide +kernel
theorem dX8_givenBy_44 : decode cX8_givenBy 44 = .ok (.iconst 1, 1) := by decide +kernel
theorem dX8_givenBy_45 : decode cX8_givenBy 45 = .ok (.iadd, 1) := by decide +kernel
theorem dX8_givenBy_46 : decode cX8_givenBy 46 = .ok (.iaload, 1) := by decide +kernel
theorem dX8_givenBy_47 : decode cX8_givenBy 47 = .ok (.i2l, 1) := by decide +kernel
theorem dX8_givenBy_48 : decode cX8_givenBy 48 = .ok (.ladd, 1) := by decide +kernel
theorem dX8_givenBy_49 : decode cX8_givenBy 49 = .ok (.invokestatic 156, 3) := by decide +kernel
theorem dX8_givenBy_52 : decode cX8_givenBy 52 = .ok (.istore 4, 2) := by decide +kernel
theorem dX8_givenBy_54 : decode cX8_givenBy 54 = .ok (.iload_n 3, 1) := by decide +kernel
theorem dX8_givenBy_55 : decode cX8_givenBy 55 = .ok (.iload 4, 2) := by decide +kernel
theorem dX8_givenBy_57 : decode cX8_givenBy 57 = .ok (.isub, 1) := by decide +kernel
theorem dX8_givenBy_58 : decode cX8_givenBy 58 = .ok (.i2l, 1) := by decide +kernel
theorem dX8_givenBy_59 : decode cX8_givenBy 59 = .ok (.invokestatic 156, 3) := by decide +kernel
theorem dX8_givenBy_62 : decode cX8_givenBy 62 = .ok (.ireturn, 1) := by decide +kernel
theorem dX8_given_0 : decode cX8_given 0 = .ok (.aload_n 0, 1) := by decide +kernel
theorem dX8_given_1 : decode cX8_given 1 = .ok (.iload_n 1, 1) := by decide +kernel
theorem dX8_given_2 : decode cX8_given 2 = .ok (.invokevirtual 129, 3) := by decide +kernel
theorem dX8_given_5 : decode cX8_given 5 = .ok (.ifCond .ne 12, 3) := by decide +kernel
theorem dX8_given_8 : decode cX8_given 8 = .ok (.iload_n 2, 1) := by decide +kernel
theorem dX8_given_9 : decode cX8_given 9 = .ok (.iconst 0, 1) := by decide +kernel
theorem dX8_given_10 : decode cX8_given 10 = .ok (.iconst 1, 1) := by decide +kernel
theorem dX8_given_11 : decode cX8_given 11 = .ok (.invokestatic 45, 3) := by decide +kernel
theorem dX8_given_14 : decode cX8_given 14 = .ok (.ifCond .ne 6, 3) := by decide +kernel
theorem dX8_given_17 : decode cX8_given 17 = .ok (.ldc 40, 2) := by decide +kernel
theorem dX8_given_19 : decode cX8_given 19 = .ok (.ireturn, 1) := by decide +kernel
theorem dX8_given_20 : decode cX8_given 20 = .ok (.aload_n 0, 1) := by decide +kernel
theorem dX8_given_21 : decode cX8_given 21 = .ok (.iload_n 1, 1) := by decide +kernel
theorem dX8_given_22 : decode cX8_given 22 = .ok (.iload_n 2, 1) := by decide +kernel
theorem dX8_given_23 : decode cX8_given 23 = .ok (.invokevirtual 160, 3) := by decide +kernel
theorem dX8_given_26 : decode cX8_given 26 = .ok (.ifCond .le 8, 3) := by decide +kernel
theorem dX8_given_29 : decode cX8_given 29 = .ok (.ldc 44, 2) := by decide +kernel
theorem dX8_given_31 : decode cX8_given 31 = .ok (.goto 9, 3) := by decide +kernel
theorem dX8_given_34 : decode cX8_given 34 = .ok (.aload_n 0, 1) := by decide +kernel
theorem dX8_given_35 : decode cX8_given 35 = .ok (.iload_n 1, 1) := by decide +kernel
theorem dX8_given_36 : decode cX8_given 36 = .ok (.iload_n 2, 1) := by decide +kernel
theorem dX8_given_37 : decode cX8_given 37 = .ok (.invokevirtual 163, 3) := by decide +kernel
theorem dX8_given_40 : decode cX8_given 40 = .ok (.ireturn, 1) := by decide +kernel
theorem dX8_doOrient_0 : decode cX8_doOrient 0 = .ok (.aload_n 0, 1) := by decide +kernel
theorem dX8_doOrient_1 : decode cX8_doOrient 1 = .ok (.iload_n 1, 1) := by decide +kernel
theorem dX8_doOrient_2 : decode cX8_doOrient 2 = .ok (.invokevirtual 129, 3) := by decide +kernel
theorem dX8_doOrient_5 : decode cX8_doOrient 5 = .ok (.ifCond .eq 6, 3) := by decide +kernel
theorem dX8_doOrient_8 : decode cX8_doOrient 8 = .ok (.ldc 40, 2) := by decide +kernel
theorem dX8_doOrient_10 : decode cX8_doOrient 10 = .ok (.ireturn, 1) := by decide +kernel
theorem dX8_doOrient_11 : decode cX8_doOrient 11 = .ok (.aload_n 0, 1) := by decide +kernel
theorem dX8_doOrient_12 : decode cX8_doOrient 12 = .ok (.iload_n 1, 1) := by decide +kernel
theorem dX8_doOrient_13 : decode cX8_doOrient 13 = .ok (.iconst 0, 1) := by decide +kernel
theorem dX8_doOrient_14 : decode cX8_doOrient 14 = .ok (.invokevirtual 160, 3) := by decide +kernel
theorem dX8_doOrient_17 : decode cX8_doOrient 17 = .ok (.istore_n 2, 1) := by decide +kernel
theorem dX8_doOrient_18 : decode cX8_doOrient 18 = .ok (.aload_n 0, 1) := by decide +kernel
theorem dX8_doOrient_19 : decode cX8_doOrient 19 = .ok (.iload_n 1, 1) := by decide +kernel
theorem dX8_doOrient_20 : decode cX8_doOrient 20 = .ok (.iconst 1, 1) := by decide +kernel
theorem dX8_doOrient_21 : decode cX8_doOrient 21 = .ok (.invokevirtual 160, 3) := by decide +kernel
theorem dX8_doOrient_24 : decode cX8_doOrient 24 = .ok (.istore_n 3, 1) := by decide +kernel
theorem dX8_doOrient_25 : decode cX8_doOrient 25 = .ok (.iload_n 2, 1) := by decide +kernel
theorem dX8_doOrient_26 : decode cX8_doOrient 26 = .ok (.ifCond .gt 7, 3) := by decide +kernel
theorem dX8_doOrient_29 : decode cX8_doOrient 29 = .ok (.iload_n 3, 1) := by decide +kernel
theorem dX8_doOrient_30 : decode cX8_doOrient 30 = .ok (.ifCond .le 26, 3) := by decide +kernel
theorem dX8_doOrient_33 : decode cX8_doOrient 33 = .ok (.aload_n 0, 1) := by decide +kernel
theorem dX8_doOrient_34 : decode cX8_doOrient 34 = .ok (.iload_n 2, 1) := by decide +kernel
theorem dX8_doOrient_35 : decode cX8_doOrient 35 = .ok (.ifCond .eq 12, 3) := by decide +kernel
theorem dX8_doOrient_38 : decode cX8_doOrient 38 = .ok (.iload_n 3, 1) := by decide +kernel
theorem dX8_doOrient_39 : decode cX8_doOrient 39 = .ok (.ifCond .le 12, 3) := by decide +kernel
theorem dX8_doOrient_42 : decode cX8_doOrient 42 = .ok (.iload_n 3, 1) := by decide +kernel
theorem dX8_doOrient_43 : decode cX8_doOrient 43 = .ok (.iload_n 2, 1) := by decide +kernel
theorem dX8_doOrient_44 : decode cX8_doOrient 44 = .ok (.if_icmp .ge 7, 3) := by decide +kernel
theorem dX8_doOrient_47 : decode cX8_doOrient 47 = .ok (.iload_n 3, 1) := by decide +kernel
theorem dX8_doOrient_48 : decode cX8_doOrient 48 = .ok (.goto 4, 3) := by decide +kernel
theorem dX8_doOrient_51 : decode cX8_doOrient 51 = .ok (.iload_n 2, 1) := by decide +kernel
theorem dX8_doOrient_52 : decode cX8_doOrient 52 = .ok (.invokevirtual 82, 3) := by decide +kernel
theorem dX8_doOrient_55 : decode cX8_doOrient 55 = .ok (.ireturn, 1) := by decide +kernel
theorem dX8_doOrient_56 : decode cX8_doOrient 56 = .ok (.aload_n 0, 1) := by decide +kernel
theorem dX8_doOrient_57 : decode cX8_doOrient 57 = .ok (.iload_n 1, 1) := by decide +kernel
theorem dX8_doOrient_58 : decode cX8_doOrient 58 = .ok (.iconst 0, 1) := by decide +kernel
theorem dX8_doOrient_59 : decode cX8_doOrient 59 = .ok (.invokevirtual 163, 3) := by decide +kernel
theorem dX8_doOrient_62 : decode cX8_doOrient 62 = .ok (.istore 4, 2) := by decide +kernel
theorem dX8_doOrient_64 : decode cX8_doOrient 64 = .ok (.aload_n 0, 1) := by decide +kernel
theorem dX8_doOrient_65 : decode cX8_doOrient 65 = .ok (.iload_n 1, 1) := by decide +kernel
theorem dX8_doOrient_66 : decode cX8_doOrient 66 = .ok (.iconst 1, 1) := by decide +kernel
theorem dX8_doOrient_67 : decode cX8_doOrient 67 = .ok (.invokevirtual 163, 3) := by decide +kernel
theorem dX8_doOrient_70 : decode cX8_doOrient 70 = .ok (.iload 4, 2) := by decide +kernel
theorem dX8_doOrient_72 : decode cX8_doOrient 72 = .ok (.isub, 1) := by decide +kernel
theorem dX8_doOrient_73 : decode cX8_doOrient 73 = .ok (.sipush 4000, 3) := by decide +kernel
theorem dX8_doOrient_76 : decode cX8_doOrient 76 = .ok (.iadd, 1) := by decide +kernel
theorem dX8_doOrient_77 : decode cX8_doOrient 77 = .ok (.i2l, 1) := by decide +kernel
theorem dX8_doOrient_78 : decode cX8_doOrient 78 = .ok (.invokestatic 156, 3) := by decide +kernel
theorem dX8_doOrient_81 : decode cX8_doOrient 81 = .ok (.sipush 4000, 3) := by decide +kernel
theorem dX8_doOrient_84 : decode cX8_doOrient 84 = .ok (.isub, 1) := by decide +kernel
theorem dX8_doOrient_85 : decode cX8_doOrient 85 = .ok (.istore 5, 2) := by decide +kernel
theorem dX8_doOrient_87 : decode cX8_doOrient 87 = .ok (.iload 5, 2) := by decide +kernel
theorem dX8_doOrient_89 : decode cX8_doOrient 89 = .ok (.invokestatic 85, 3) := by decide +kernel
theorem dX8_doOrient_92 : decode cX8_doOrient 92 = .ok (.aload_n 0, 1) := by decide +kernel
theorem dX8_doOrient_93 : decode cX8_doOrient 93 = .ok (.getfield 7, 3) := by decide +kernel
theorem dX8_doOrient_96 : decode cX8_doOrient 96 = .ok (.iconst 1, 1) := by decide +kernel
theorem dX8_doOrient_97 : decode cX8_doOrient 97 = .ok (.iaload, 1) := by decide +kernel
theorem dX8_doOrient_98 : decode cX8_doOrient 98 = .ok (.if_icmp .le 9, 3) := by decide +kernel
theorem dX8_doOrient_101 : decode cX8_doOrient 101 = .ok (.aload_n 0, 1) := by decide +kernel
theorem dX8_doOrient_102 : decode cX8_doOrient 102 = .ok (.iconst 5, 1) := by decide +kernel
theorem dX8_doOrient_103 : decode cX8_doOrient 103 = .ok (.invokevirtual 82, 3) := by decide +kernel
theorem dX8_doOrient_106 : decode cX8_doOrient 106 = .ok (.ireturn, 1) := by decide +kernel
theorem dX8_doOrient_107 : decode cX8_doOrient 107 = .ok (.aload_n 0, 1) := by decide +kernel
theorem dX8_doOrient_108 : decode cX8_doOrient 108 = .ok (.getfield 7, 3) := by decide +kernel
theorem dX8_doOrient_111 : decode cX8_doOrient 111 = .ok (.bipush 69, 2) := by decide +kernel
theorem dX8_doOrient_113 : decode cX8_doOrient 113 = .ok (.iconst 3, 1) := by decide +kernel
theorem dX8_doOrient_114 : decode cX8_doOrient 114 = .ok (.iload_n 1, 1) := by decide +kernel
theorem dX8_doOrient_115 : decode cX8_doOrient 115 = .ok (.imul, 1) := by decide +kernel
theorem dX8_doOrient_116 : decode cX8_doOrient 116 = .ok (.iadd, 1) := by decide +kernel
theorem dX8_doOrient_117 : decode cX8_doOrient 117 = .ok (.iconst 2, 1) := by decide +kernel
theorem dX8_doOrient_118 : decode cX8_doOrient 118 = .ok (.iadd, 1) := by decide +kernel
theorem dX8_doOrient_119 : decode cX8_doOrient 119 = .ok (.iload 4, 2) := by decide +kernel
theorem dX8_doOrient_121 : decode cX8_doOrient 121 = .ok (.i2l, 1) := by decide +kernel
theorem dX8_doOrient_122 : decode cX8_doOrient 122 = .ok (.iload 5, 2) := by decide +kernel
theorem dX8_doOrient_124 : decode cX8_doOrient 124 = .ok (.i2l, 1) := by decide +kernel
theorem dX8_doOrient_125 : decode cX8_doOrient 125 = .ok (.ldc2_w 166, 3) := by decide +kernel
theorem dX8_doOrient_128 : decode cX8_doOrient 128 = .ok (.invokestatic 107, 3) := by decide +kernel
theorem dX8_doOrient_131 : decode cX8_doOrient 131 = .ok (.ladd, 1) := by decide +kernel
theorem dX8_doOrient_132 : decode cX8_doOrient 132 = .ok (.invokestatic 156, 3) := by decide +kernel
theorem dX8_doOrient_135 : decode cX8_doOrient 135 = .ok (.iastore, 1) := by decide +kernel
theorem dX8_doOrient_136 : decode cX8_doOrient 136 = .ok (.aload_n 0, 1) := by decide +kernel
theorem dX8_doOrient_137 : decode cX8_doOrient 137 = .ok (.getfield 7, 3) := by decide +kernel
theorem dX8_doOrient_140 : decode cX8_doOrient 140 = .ok (.bipush 69, 2) := by decide +kernel
theorem dX8_doOrient_142 : decode cX8_doOrient 142 = .ok (.iconst 3, 1) := by decide +kernel
theorem dX8_doOrient_143 : decode cX8_doOrient 143 = .ok (.iload_n 1, 1) := by decide +kernel
theorem dX8_doOrient_144 : decode cX8_doOrient 144 = .ok (.imul, 1) := by decide +kernel
theorem dX8_doOrient_145 : decode cX8_doOrient 145 = .ok (.iadd, 1) := by decide +kernel
theorem dX8_doOrient_146 : decode cX8_doOrient 146 = .ok (.iconst 2, 1) := by decide +kernel
theorem dX8_doOrient_147 : decode cX8_doOrient 147 = .ok (.iadd, 1) := by decide +kernel
theorem dX8_doOrient_148 : decode cX8_doOrient 148 = .ok (.iaload, 1) := by decide +kernel
theorem dX8_doOrient_149 : decode cX8_doOrient 149 = .ok (.ireturn, 1) := by decide +kernel
theorem dX8_orient_0 : decode cX8_orient 0 = .ok (.aload_n 0, 1) := by decide +kernel
theorem dX8_orient_1 : decode cX8_orient 1 = .ok (.invokevirtual 49, 3) := by decide +kernel
theorem dX8_orient_4 : decode cX8_orient 4 = .ok (.aload_n 0, 1) := by decide +kernel
theorem dX8_orient_5 : decode cX8_orient 5 = .ok (.aload_n 0, 1) := by decide +kernel
theorem dX8_orient_6 : decode cX8_orient 6 = .ok (.iload_n 1, 1) := by decide +kernel
theorem dX8_orient_7 : decode cX8_orient 7 = .ok (.invokevirtual 168, 3) := by decide +kernel
theorem dX8_orient_10 : decode cX8_orient 10 = .ok (.invokevirtual 52, 3) := by decide +kernel
theorem dX8_orient_13 : decode cX8_orient 13 = .ok (.ireturn, 1) := by decide +kernel
theorem dX8_type_0 : decode cX8_type 0 = .ok (.aload_n 0, 1) := by decide +kernel
theorem dX8_type_1 : decode cX8_type 1 = .ok (.getfield 171, 3) := by decide +kernel
theorem dX8_type_4 : decode cX8_type 4 = .ok (.bipush 70, 2) := by decide +kernel
theorem dX8_type_6 : decode cX8_type 6 = .ok (.if_icmp .ne 6, 3) := by decide +kernel
theorem dX8_type_9 : decode cX8_type 9 = .ok (.ldc 98, 2) := by decide +kernel
theorem dX8_type_11 : decode cX8_type 11 = .ok (.ireturn, 1) := by decide +kernel
theorem dX8_type_12 : decode cX8_type 12 = .ok (.aload_n 0, 1) := by decide +kernel
theorem dX8_type_13 : decode cX8_type 13 = .ok (.getfield 26, 3) := by decide +kernel
theorem dX8_type_16 : decode cX8_type 16 = .ok (.aload_n 0, 1) := by decide +kernel
theorem dX8_type_17 : decode cX8_type 17 = .ok (.getfield 171, 3) := by decide +kernel
theorem dX8_type_20 : decode cX8_type 20 = .ok (.iload_n 1, 1) := by decide +kernel
theorem dX8_type_21 : decode cX8_type 21 = .ok (.castore, 1) := by decide +kernel
theorem dX8_type_22 : decode cX8_type 22 = .ok (.aload_n 0, 1) := by decide +kernel
theorem dX8_type_23 : decode cX8_type 23 = .ok (.dup, 1) := by decide +kernel
theorem dX8_type_24 : decode cX8_type 24 = .ok (.getfield 171, 3) := by decide +kernel
theorem dX8_type_27 : decode cX8_type 27 = .ok (.iconst 1, 1) := by decide +kernel
theorem dX8_type_28 : decode cX8_type 28 = .ok (.iadd, 1) := by decide +kernel
theorem dX8_type_29 : decode cX8_type 29 = .ok (.putfield 171, 3) := by decide +kernel
theorem dX8_type_32 : decode cX8_type 32 = .ok (.aload_n 0, 1) := by decide +kernel
theorem dX8_type_33 : decode cX8_type 33 = .ok (.getfield 171, 3) := by decide +kernel
theorem dX8_type_36 : decode cX8_type 36 = .ok (.ireturn, 1) := by decide +kernel
theorem dX8_clearText_0 : decode cX8_clearText 0 = .ok (.aload_n 0, 1) := by decide +kernel
theorem dX8_clearText_1 : decode cX8_clearText 1 = .ok (.getfield 171, 3) := by decide +kernel
theorem dX8_clearText_4 : decode cX8_clearText 4 = .ok (.istore_n 1, 1) := by decide +kernel
theorem dX8_clearText_5 : decode cX8_clearText 5 = .ok (.aload_n 0, 1) := by decide +kernel
theorem dX8_clearText_6 : decode cX8_clearText 6 = .ok (.iconst 0, 1) := by decide +kernel
theorem dX8_clearText_7 : decode cX8_clearText 7 = .ok (.putfield 171, 3) := by decide +kernel
theorem dX8_clearText_10 : decode cX8_clearText 10 = .ok (.iload_n 1, 1) := by decide +kernel
theorem dX8_clearText_11 : decode cX8_clearText 11 = .ok (.ireturn, 1) := by decide +kernel
theorem dX8_endOf_0 : decode cX8_endOf 0 = .ok (.iload_n 1, 1) := by decide +kernel
theorem dX8_endOf_1 : decode cX8_endOf 1 = .ok (.istore_n 2, 1) := by decide +kernel
theorem dX8_endOf_2 : decode cX8_endOf 2 = .ok (.iload_n 2, 1) := by decide +kernel
theorem dX8_endOf_3 : decode cX8_endOf 3 = .ok (.aload_n 0, 1) := by decide +kernel
theorem dX8_endOf_4 : decode cX8_endOf 4 = .ok (.getfield 171, 3) := by decide +kernel
theorem dX8_endOf_7 : decode cX8_endOf 7 = .ok (.if_icmp .ge 31, 3) := by decide +kernel
theorem dX8_endOf_10 : decode cX8_endOf 10 = .ok (.aload_n 0, 1) := by decide +kernel
theorem dX8_endOf_11 : decode cX8_endOf 11 = .ok (.getfield 26, 3) := by decide +kernel
theorem dX8_endOf_14 : decode cX8_endOf 14 = .ok (.iload_n 2, 1) := by decide +kernel
theorem dX8_endOf_15 : decode cX8_endOf 15 = .ok (.caload, 1) := by decide +kernel
theorem dX8_endOf_16 : decode cX8_endOf 16 = .ok (.bipush 32, 2) := by decide +kernel
theorem dX8_endOf_18 : decode cX8_endOf 18 = .ok (.if_icmp .eq 20, 3) := by decide +kernel
theorem dX8_endOf_21 : decode cX8_endOf 21 = .ok (.aload_n 0, 1) := by decide +kernel
theorem dX8_endOf_22 : decode cX8_endOf 22 = .ok (.getfield 26, 3) := by decide +kernel
theorem dX8_endOf_25 : decode cX8_endOf 25 = .ok (.iload_n 2, 1) := by decide +kernel
theorem dX8_endOf_26 : decode cX8_endOf 26 = .ok (.caload, 1) := by decide +kernel
theorem dX8_endOf_27 : decode cX8_endOf 27 = .ok (.bipush 59, 2) := by decide +kernel
theorem dX8_endOf_29 : decode cX8_endOf 29 = .ok (.if_icmp .eq 9, 3) := by decide +kernel
theorem dX8_endOf_32 : decode cX8_endOf 32 = .ok (.iinc 2 1, 3) := by decide +kernel
theorem dX8_endOf_35 : decode cX8_endOf 35 = .ok (.goto (-33), 3) := by decide +kernel
theorem dX8_endOf_38 : decode cX8_endOf 38 = .ok (.iload_n 2, 1) := by decide +kernel
theorem dX8_endOf_39 : decode cX8_endOf 39 = .ok (.ireturn, 1) := by decide +kernel
theorem dX8_stands_0 : decode cX8_stands 0 = .ok (.iload_n 2, 1) := by decide +kernel
theorem dX8_stands_1 : decode cX8_stands 1 = .ok (.iload_n 1, 1) := by decide +kernel
theorem dX8_stands_2 : decode cX8_stands 2 = .ok (.isub, 1) := by decide +kernel
theorem dX8_stands_3 : decode cX8_stands 3 = .ok (.iconst 4, 1) := by decide +kernel
theorem dX8_stands_4 : decode cX8_stands 4 = .ok (.if_icmp .lt 56, 3) := by decide +kernel
theorem dX8_stands_7 : decode cX8_stands 7 = .ok (.aload_n 0, 1) := by decide +kernel
theorem dX8_stands_8 : decode cX8_stands 8 = .ok (.getfield 26, 3) := by decide +kernel
theorem dX8_stands_11 : decode cX8_stands 11 = .ok (.iload_n 1, 1) := by decide +kernel
theorem dX8_stands_12 : decode cX8_stands 12 = .ok (.caload, 1) := by decide +kernel
theorem dX8_stands_13 : decode cX8_stands 13 = .ok (.iload_n 3, 1) := by decide +kernel
theorem dX8_stands_14 : decode cX8_stands 14 = .ok (.if_icmp .ne 46, 3) := by decide +kernel
theorem dX8_stands_17 : decode cX8_stands 17 = .ok (.aload_n 0, 1) := by decide +kernel
theorem dX8_stands_18 : decode cX8_stands 18 = .ok (.getfield 26, 3) := by decide +kernel
theorem dX8_stands_21 : decode cX8_stands 21 = .ok (.iload_n 1, 1) := by decide +kernel
theorem dX8_stands_22 : decode cX8_stands 22 = .ok (.iconst 1, 1) := by decide +kernel
theorem dX8_stands_23 : decode cX8_stands 23 = .ok (.iadd, 1) := by decide +kernel
theorem dX8_stands_24 : decode cX8_stands 24 = .ok (.caload, 1) := by decide +kernel
theorem dX8_stands_25 : decode cX8_stands 25 = .ok (.iload 4, 2) := by decide +kernel
theorem dX8_stands_27 : decode cX8_stands 27 = .ok (.if_icmp .ne 33, 3) := by decide +kernel
theorem dX8_stands_30 : decode cX8_stands 30 = .ok (.aload_n 0, 1) := by decide +kernel
theorem dX8_stands_31 : decode cX8_stands 31 = .ok (.getfield 26, 3) := by decide +kernel
theorem dX8_stands_34 : decode cX8_stands 34 = .ok (.iload_n 1, 1) := by decide +kernel
theorem dX8_stands_35 : decode cX8_stands 35 = .ok (.iconst 2, 1) := by decide +kernel
theorem dX8_stands_36 : decode cX8_stands 36 = .ok (.iadd, 1) := by decide +kernel
theorem dX8_stands_37 : decode cX8_stands 37 = .ok (.caload, 1) := by decide +kernel
theorem dX8_stands_38 : decode cX8_stands 38 = .ok (.iload 5, 2) := by decide +kernel
theorem dX8_stands_40 : decode cX8_stands 40 = .ok (.if_icmp .ne 20, 3) := by decide +kernel
theorem dX8_stands_43 : decode cX8_stands 43 = .ok (.aload_n 0, 1) := by decide +kernel
theorem dX8_stands_44 : decode cX8_stands 44 = .ok (.getfield 26, 3) := by decide +kernel
theorem dX8_stands_47 : decode cX8_stands 47 = .ok (.iload_n 1, 1) := by decide +kernel
theorem dX8_stands_48 : decode cX8_stands 48 = .ok (.iconst 3, 1) := by decide +kernel
theorem dX8_stands_49 : decode cX8_stands 49 = .ok (.iadd, 1) := by decide +kernel
theorem dX8_stands_50 : decode cX8_stands 50 = .ok (.caload, 1) := by decide +kernel
theorem dX8_stands_51 : decode cX8_stands 51 = .ok (.iload 6, 2) := by decide +kernel
theorem dX8_stands_53 : decode cX8_stands 53 = .ok (.if_icmp .ne 7, 3) := by decide +kernel
theorem dX8_stands_56 : decode cX8_stands 56 = .ok (.iconst 1, 1) := by decide +kernel
theorem dX8_stands_57 : decode cX8_stands 57 = .ok (.goto 4, 3) := by decide +kernel
theorem dX8_stands_60 : decode cX8_stands 60 = .ok (.iconst 0, 1) := by decide +kernel
theorem dX8_stands_61 : decode cX8_stands 61 = .ok (.ireturn, 1) := by decide +kernel
theorem dX8_word_0 : decode cX8_word 0 = .ok (.iload_n 2, 1) := by decide +kernel
theorem dX8_word_1 : decode cX8_word 1 = .ok (.iload_n 1, 1) := by decide +kernel
theorem dX8_word_2 : decode cX8_word 2 = .ok (.isub, 1) := by decide +kernel
theorem dX8_word_3 : decode cX8_word 3 = .ok (.iconst 4, 1) := by decide +kernel
theorem dX8_word_4 : decode cX8_word 4 = .ok (.if_icmp .ne 90, 3) := by decide +kernel
theorem dX8_word_7 : decode cX8_word 7 = .ok (.aload_n 0, 1) := by decide +kernel
theorem dX8_word_8 : decode cX8_word 8 = .ok (.iload_n 1, 1) := by decide +kernel
theorem dX8_word_9 : decode cX8_word 9 = .ok (.iload_n 2, 1) := by decide +kernel
theorem dX8_word_10 : decode cX8_word 10 = .ok (.bipush 119, 2) := by decide +kernel
theorem dX8_word_12 : decode cX8_word 12 = .ok (.bipush 97, 2) := by decide +kernel
theorem dX8_word_14 : decode cX8_word 14 = .ok (.bipush 105, 2) := by decide +kernel
theorem dX8_word_16 : decode cX8_word 16 = .ok (.bipush 116, 2) := by decide +kernel
theorem dX8_word_18 : decode cX8_word 18 = .ok (.invokevirtual 174, 3) := by decide +kernel
theorem dX8_word_21 : decode cX8_word 21 = .ok (.ifCond .eq 7, 3) := by decide +kernel
theorem dX8_word_24 : decode cX8_word 24 = .ok (.iconst 0, 1) := by decide +kernel
theorem dX8_word_25 : decode cX8_word 25 = .ok (.goto 68, 3) := by decide +kernel
theorem dX8_word_28 : decode cX8_word 28 = .ok (.aload_n 0, 1) := by decide +kernel
theorem dX8_word_29 : decode cX8_word 29 = .ok (.iload_n 1, 1) := by decide +kernel
theorem dX8_word_30 : decode cX8_word 30 = .ok (.iload_n 2, 1) := by decide +kernel
theorem dX8_word_31 : decode cX8_word 31 = .ok (.bipush 112, 2) := by decide +kernel
theorem dX8_word_33 : decode cX8_word 33 = .ok (.bipush 117, 2) := by decide +kernel
theorem dX8_word_35 : decode cX8_word 35 = .ok (.bipush 115, 2) := by decide +kernel
theorem dX8_word_37 : decode cX8_word 37 = .ok (.bipush 104, 2) := by decide +kernel
theorem dX8_word_39 : decode cX8_word 39 = .ok (.invokevirtual 174, 3) := by decide +kernel
theorem dX8_word_42 : decode cX8_word 42 = .ok (.ifCond .eq 7, 3) := by decide +kernel
theorem dX8_word_45 : decode cX8_word 45 = .ok (.iconst 1, 1) := by decide +kernel
theorem dX8_word_46 : decode cX8_word 46 = .ok (.goto 47, 3) := by decide +kernel
theorem dX8_word_49 : decode cX8_word 49 = .ok (.aload_n 0, 1) := by decide +kernel
theorem dX8_word_50 : decode cX8_word 50 = .ok (.iload_n 1, 1) := by decide +kernel
theorem dX8_word_51 : decode cX8_word 51 = .ok (.iload_n 2, 1) := by decide +kernel
theorem dX8_word_52 : decode cX8_word 52 = .ok (.bipush 108, 2) := by decide +kernel
theorem dX8_word_54 : decode cX8_word 54 = .ok (.bipush 111, 2) := by decide +kernel
theorem dX8_word_56 : decode cX8_word 56 = .ok (.bipush 111, 2) := by decide +kernel
theorem dX8_word_58 : decode cX8_word 58 = .ok (.bipush 107, 2) := by decide +kernel
theorem dX8_word_60 : decode cX8_word 60 = .ok (.invokevirtual 174, 3) := by decide +kernel
theorem dX8_word_63 : decode cX8_word 63 = .ok (.ifCond .eq 7, 3) := by decide +kernel
theorem dX8_word_66 : decode cX8_word 66 = .ok (.iconst 2, 1) := by decide +kernel
theorem dX8_word_67 : decode cX8_word 67 = .ok (.goto 26, 3) := by decide +kernel
theorem dX8_word_70 : decode cX8_word 70 = .ok (.aload_n 0, 1) := by decide +kernel
theorem dX8_word_71 : decode cX8_word 71 = .ok (.iload_n 1, 1) := by decide +kernel
theorem dX8_word_72 : decode cX8_word 72 = .ok (.iload_n 2, 1) := by decide +kernel
theorem dX8_word_73 : decode cX8_word 73 = .ok (.bipush 115, 2) := by decide +kernel
theorem dX8_word_75 : decode cX8_word 75 = .ok (.bipush 119, 2) := by decide +kernel
theorem dX8_word_77 : decode cX8_word 77 = .ok (.bipush 97, 2) := by decide +kernel
theorem dX8_word_79 : decode cX8_word 79 = .ok (.bipush 112, 2) := by decide +kernel
theorem dX8_word_81 : decode cX8_word 81 = .ok (.invokevirtual 174, 3) := by decide +kernel
theorem dX8_word_84 : decode cX8_word 84 = .ok (.ifCond .eq 7, 3) := by decide +kernel
theorem dX8_word_87 : decode cX8_word 87 = .ok (.iconst 3, 1) := by decide +kernel
theorem dX8_word_88 : decode cX8_word 88 = .ok (.goto 5, 3) := by decide +kernel
theorem dX8_word_91 : decode cX8_word 91 = .ok (.ldc 44, 2) := by decide +kernel
theorem dX8_word_93 : decode cX8_word 93 = .ok (.ireturn, 1) := by decide +kernel
theorem dX8_word_94 : decode cX8_word 94 = .ok (.iload_n 2, 1) := by decide +kernel
theorem dX8_word_95 : decode cX8_word 95 = .ok (.iload_n 1, 1) := by decide +kernel
theorem dX8_word_96 : decode cX8_word 96 = .ok (.isub, 1) := by decide +kernel
theorem dX8_word_97 : decode cX8_word 97 = .ok (.bipush 6, 2) := by decide +kernel
theorem dX8_word_99 : decode cX8_word 99 = .ok (.if_icmp .ne 50, 3) := by decide +kernel
theorem dX8_word_102 : decode cX8_word 102 = .ok (.aload_n 0, 1) := by decide +kernel
theorem dX8_word_103 : decode cX8_word 103 = .ok (.iload_n 1, 1) := by decide +kernel
theorem dX8_word_104 : decode cX8_word 104 = .ok (.iload_n 2, 1) := by decide +kernel
theorem dX8_word_105 : decode cX8_word 105 = .ok (.bipush 111, 2) := by decide +kernel
theorem dX8_word_107 : decode cX8_word 107 = .ok (.bipush 114, 2) := by decide +kernel
theorem dX8_word_109 : decode cX8_word 109 = .ok (.bipush 105, 2) := by decide +kernel
theorem dX8_word_111 : decode cX8_word 111 = .ok (.bipush 101, 2) := by decide +kernel
theorem dX8_word_113 : decode cX8_word 113 = .ok (.invokevirtual 174, 3) := by decide +kernel
theorem dX8_word_116 : decode cX8_word 116 = .ok (.ifCond .eq 33, 3) := by decide +kernel
theorem dX8_word_119 : decode cX8_word 119 = .ok (.aload_n 0, 1) := by decide +kernel
theorem dX8_word_120 : decode cX8_word 120 = .ok (.getfield 26, 3) := by decide +kernel
theorem dX8_word_123 : decode cX8_word 123 = .ok (.iload_n 1, 1) := by decide +kernel
theorem dX8_word_124 : decode cX8_word 124 = .ok (.iconst 4, 1) := by decide +kernel
theorem dX8_word_125 : decode cX8_word 125 = .ok (.iadd, 1) := by decide +kernel
theorem dX8_word_126 : decode cX8_word 126 = .ok (.caload, 1) := by decide +kernel
theorem dX8_word_127 : decode cX8_word 127 = .ok (.bipush 110, 2) := by decide +kernel
theorem dX8_word_129 : decode cX8_word 129 = .ok (.if_icmp .ne 20, 3) := by decide +kernel
theorem dX8_word_132 : decode cX8_word 132 = .ok (.aload_n 0, 1) := by decide +kernel
theorem dX8_word_133 : decode cX8_word 133 = .ok (.getfield 26, 3) := by decide +kernel
theorem dX8_word_136 : decode cX8_word 136 = .ok (.iload_n 1, 1) := by decide +kernel
theorem dX8_word_137 : decode cX8_word 137 = .ok (.iconst 5, 1) := by decide +kernel
theorem dX8_word_138 : decode cX8_word 138 = .ok (.iadd, 1) := by decide +kernel
theorem dX8_word_139 : decode cX8_word 139 = .ok (.caload, 1) := by decide +kernel
theorem dX8_word_140 : decode cX8_word 140 = .ok (.bipush 116, 2) := by decide +kernel
theorem dX8_word_142 : decode cX8_word 142 = .ok (.if_icmp .ne 7, 3) := by decide +kernel
theorem dX8_word_145 : decode cX8_word 145 = .ok (.iconst 4, 1) := by decide +kernel
theorem dX8_word_146 : decode cX8_word 146 = .ok (.goto 5, 3) := by decide +kernel
theorem dX8_word_149 : decode cX8_word 149 = .ok (.ldc 44, 2) := by decide +kernel
theorem dX8_word_151 : decode cX8_word 151 = .ok (.ireturn, 1) := by decide +kernel
theorem dX8_fail_0 : decode cX8_fail 0 = .ok (.aload_n 0, 1) := by decide +kernel
theorem dX8_fail_1 : decode cX8_fail 1 = .ok (.aload_n 0, 1) := by decide +kernel
theorem dX8_fail_2 : decode cX8_fail 2 = .ok (.getfield 178, 3) := by decide +kernel
theorem dX8_fail_5 : decode cX8_fail 5 = .ok (.ifCond .ge 7, 3) := by decide +kernel
theorem dX8_fail_8 : decode cX8_fail 8 = .ok (.iload_n 1, 1) := by decide +kernel
theorem dX8_fail_9 : decode cX8_fail 9 = .ok (.goto 7, 3) := by decide +kernel
theorem dX8_fail_12 : decode cX8_fail 12 = .ok (.aload_n 0, 1) := by decide +kernel
theorem dX8_fail_13 : decode cX8_fail 13 = .ok (.getfield 178, 3) := by decide +kernel
theorem dX8_fail_16 : decode cX8_fail 16 = .ok (.putfield 178, 3) := by decide +kernel
theorem dX8_fail_19 : decode cX8_fail 19 = .ok (.return_, 1) := by decide +kernel
theorem dX8_number_0 : decode cX8_number 0 = .ok (.aload_n 0, 1) := by decide +kernel
theorem dX8_number_1 : decode cX8_number 1 = .ok (.getfield 178, 3) := by decide +kernel
theorem dX8_number_4 : decode cX8_number 4 = .ok (.ifCond .lt 5, 3) := by decide +kernel
theorem dX8_number_7 : decode cX8_number 7 = .ok (.iconst 0, 1) := by decide +kernel
theorem dX8_number_8 : decode cX8_number 8 = .ok (.ireturn, 1) := by decide +kernel
theorem dX8_number_9 : decode cX8_number 9 = .ok (.aload_n 0, 1) := by decide +kernel
theorem dX8_number_10 : decode cX8_number 10 = .ok (.getfield 181, 3) := by decide +kernel
theorem dX8_number_13 : decode cX8_number 13 = .ok (.aload_n 0, 1) := by decide +kernel
theorem dX8_number_14 : decode cX8_number 14 = .ok (.getfield 171, 3) := by decide +kernel
theorem dX8_number_17 : decode cX8_number 17 = .ok (.if_icmp .ge 17, 3) := by decide +kernel
theorem dX8_number_20 : decode cX8_number 20 = .ok (.aload_n 0, 1) := by decide +kernel
theorem dX8_number_21 : decode cX8_number 21 = .ok (.getfield 26, 3) := by decide +kernel
theorem dX8_number_24 : decode cX8_number 24 = .ok (.aload_n 0, 1) := by decide +kernel
theorem dX8_number_25 : decode cX8_number 25 = .ok (.getfield 181, 3) := by decide +kernel
theorem dX8_number_28 : decode cX8_number 28 = .ok (.caload, 1) := by decide +kernel
theorem dX8_number_29 : decode cX8_number 29 = .ok (.bipush 32, 2) := by decide +kernel
theorem dX8_number_31 : decode cX8_number 31 = .ok (.if_icmp .eq 13, 3) := by decide +kernel
theorem dX8_number_34 : decode cX8_number 34 = .ok (.aload_n 0, 1) := by decide +kernel
theorem dX8_number_35 : decode cX8_number 35 = .ok (.aload_n 0, 1) := by decide +kernel
theorem dX8_number_36 : decode cX8_number 36 = .ok (.getfield 181, 3) := by decide +kernel
theorem dX8_number_39 : decode cX8_number 39 = .ok (.invokevirtual 184, 3) := by decide +kernel
theorem dX8_number_42 : decode cX8_number 42 = .ok (.iconst 0, 1) := by decide +kernel
theorem dX8_number_43 : decode cX8_number 43 = .ok (.ireturn, 1) := by decide +kernel
theorem dX8_number_44 : decode cX8_number 44 = .ok (.aload_n 0, 1) := by decide +kernel
theorem dX8_number_45 : decode cX8_number 45 = .ok (.getfield 181, 3) := by decide +kernel
theorem dX8_number_48 : decode cX8_number 48 = .ok (.iconst 1, 1) := by decide +kernel
theorem dX8_number_49 : decode cX8_number 49 = .ok (.iadd, 1) := by decide +kernel
theorem dX8_number_50 : decode cX8_number 50 = .ok (.istore_n 3, 1) := by decide +kernel
theorem dX8_number_51 : decode cX8_number 51 = .ok (.aload_n 0, 1) := by decide +kernel
theorem dX8_number_52 : decode cX8_number 52 = .ok (.iload_n 3, 1) := by decide +kernel
theorem dX8_number_53 : decode cX8_number 53 = .ok (.invokevirtual 188, 3) := by decide +kernel
theorem dX8_number_56 : decode cX8_number 56 = .ok (.istore 4, 2) := by decide +kernel
theorem dX8_number_58 : decode cX8_number 58 = .ok (.iload 4, 2) := by decide +kernel
theorem dX8_number_60 : decode cX8_number 60 = .ok (.iload_n 3, 1) := by decide +kernel
theorem dX8_number_61 : decode cX8_number 61 = .ok (.isub, 1) := by decide +kernel
theorem dX8_number_62 : decode cX8_number 62 = .ok (.iconst 1, 1) := by decide +kernel
theorem dX8_number_63 : decode cX8_number 63 = .ok (.iconst 3, 1) := by decide +kernel
theorem dX8_number_64 : decode cX8_number 64 = .ok (.invokestatic 45, 3) := by decide +kernel
theorem dX8_number_67 : decode cX8_number 67 = .ok (.istore 5, 2) := by decide +kernel
theorem dX8_number_69 : decode cX8_number 69 = .ok (.iconst 0, 1) := by decide +kernel
theorem dX8_number_70 : decode cX8_number 70 = .ok (.istore 6, 2) := by decide +kernel
theorem dX8_number_72 : decode cX8_number 72 = .ok (.iload_n 3, 1) := by decide +kernel
theorem dX8_number_73 : decode cX8_number 73 = .ok (.istore 7, 2) := by decide +kernel
theorem dX8_number_75 : decode cX8_number 75 = .ok (.iload 7, 2) := by decide +kernel
theorem dX8_number_77 : decode cX8_number 77 = .ok (.iload 4, 2) := by decide +kernel
theorem dX8_number_79 : decode cX8_number 79 = .ok (.if_icmp .ge 63, 3) := by decide +kernel
theorem dX8_number_82 : decode cX8_number 82 = .ok (.iload 5, 2) := by decide +kernel
theorem dX8_number_84 : decode cX8_number 84 = .ok (.ifCond .eq 58, 3) := by decide +kernel
theorem dX8_number_87 : decode cX8_number 87 = .ok (.aload_n 0, 1) := by decide +kernel
theorem dX8_number_88 : decode cX8_number 88 = .ok (.getfield 26, 3) := by decide +kernel
theorem dX8_number_91 : decode cX8_number 91 = .ok (.iload 7, 2) := by decide +kernel
theorem dX8_number_93 : decode cX8_number 93 = .ok (.caload, 1) := by decide +kernel
theorem dX8_number_94 : decode cX8_number 94 = .ok (.bipush 48, 2) := by decide +kernel
theorem dX8_number_96 : decode cX8_number 96 = .ok (.if_icmp .lt 19, 3) := by decide +kernel
theorem dX8_number_99 : decode cX8_number 99 = .ok (.aload_n 0, 1) := by decide +kernel
theorem dX8_number_100 : decode cX8_number 100 = .ok (.getfield 26, 3) := by decide +kernel
theorem dX8_number_103 : decode cX8_number 103 = .ok (.iload 7, 2) := by decide +kernel
theorem dX8_number_105 : decode cX8_number 105 = .ok (.caload, 1) := by decide +kernel
theorem dX8_number_106 : decode cX8_number 106 = .ok (.bipush 57, 2) := by decide +kernel
theorem dX8_number_108 : decode cX8_number 108 = .ok (.if_icmp .gt 7, 3) := by decide +kernel
theorem dX8_number_111 : decode cX8_number 111 = .ok (.iconst 1, 1) := by decide +kernel
theorem dX8_number_112 : decode cX8_number 112 = .ok (.goto 4, 3) := by decide +kernel
theorem dX8_number_115 : decode cX8_number 115 = .ok (.iconst 0, 1) := by decide +kernel
theorem dX8_number_116 : decode cX8_number 116 = .ok (.istore 5, 2) := by decide +kernel
theorem dX8_number_118 : decode cX8_number 118 = .ok (.bipush 10, 2) := by decide +kernel
theorem dX8_number_120 : decode cX8_number 120 = .ok (.iload 6, 2) := by decide +kernel
theorem dX8_number_122 : decode cX8_number 122 = .ok (.imul, 1) := by decide +kernel
theorem dX8_number_123 : decode cX8_number 123 = .ok (.aload_n 0, 1) := by decide +kernel
theorem dX8_number_124 : decode cX8_number 124 = .ok (.getfield 26, 3) := by decide +kernel
theorem dX8_number_127 : decode cX8_number 127 = .ok (.iload 7, 2) := by decide +kernel
theorem dX8_number_129 : decode cX8_number 129 = .ok (.caload, 1) := by decide +kernel
theorem dX8_number_130 : decode cX8_number 130 = .ok (.iadd, 1) := by decide +kernel
theorem dX8_number_131 : decode cX8_number 131 = .ok (.bipush 48, 2) := by decide +kernel
theorem dX8_number_133 : decode cX8_number 133 = .ok (.isub, 1) := by decide +kernel
theorem dX8_number_134 : decode cX8_number 134 = .ok (.istore 6, 2) := by decide +kernel
theorem dX8_number_136 : decode cX8_number 136 = .ok (.iinc 7 1, 3) := by decide +kernel
theorem dX8_number_139 : decode cX8_number 139 = .ok (.goto (-64), 3) := by decide +kernel
theorem dX8_number_142 : decode cX8_number 142 = .ok (.iload 5, 2) := by decide +kernel
theorem dX8_number_144 : decode cX8_number 144 = .ok (.ifCond .eq 13, 3) := by decide +kernel
theorem dX8_number_147 : decode cX8_number 147 = .ok (.iload 6, 2) := by decide +kernel
theorem dX8_number_149 : decode cX8_number 149 = .ok (.iload_n 1, 1) := by decide +kernel
theorem dX8_number_150 : decode cX8_number 150 = .ok (.iload_n 2, 1) := by decide +kernel
theorem dX8_number_151 : decode cX8_number 151 = .ok (.invokestatic 45, 3) := by decide +kernel
theorem dX8_number_154 : decode cX8_number 154 = .ok (.ifCond .ne 8, 3) := by decide +kernel
theorem dX8_number_157 : decode cX8_number 157 = .ok (.aload_n 0, 1) := by decide +kernel
theorem dX8_number_158 : decode cX8_number 158 = .ok (.iload_n 3, 1) := by decide +kernel
theorem dX8_number_159 : decode cX8_number 159 = .ok (.invokevirtual 184, 3) := by decide +kernel
theorem dX8_number_162 : decode cX8_number 162 = .ok (.aload_n 0, 1) := by decide +kernel
theorem dX8_number_163 : decode cX8_number 163 = .ok (.iload 4, 2) := by decide +kernel
theorem dX8_number_165 : decode cX8_number 165 = .ok (.putfield 181, 3) := by decide +kernel
theorem dX8_number_168 : decode cX8_number 168 = .ok (.iload 6, 2) := by decide +kernel
theorem dX8_number_170 : decode cX8_number 170 = .ok (.ireturn, 1) := by decide +kernel
theorem dX8_readOrder_0 : decode cX8_readOrder 0 = .ok (.aload_n 0, 1) := by decide +kernel
theorem dX8_readOrder_1 : decode cX8_readOrder 1 = .ok (.aload_n 0, 1) := by decide +kernel
theorem dX8_readOrder_2 : decode cX8_readOrder 2 = .ok (.getfield 181, 3) := by decide +kernel
theorem dX8_readOrder_5 : decode cX8_readOrder 5 = .ok (.invokevirtual 188, 3) := by decide +kernel
theorem dX8_readOrder_8 : decode cX8_readOrder 8 = .ok (.istore_n 1, 1) := by decide +kernel
theorem dX8_readOrder_9 : decode cX8_readOrder 9 = .ok (.aload_n 0, 1) := by decide +kernel
theorem dX8_readOrder_10 : decode cX8_readOrder 10 = .ok (.aload_n 0, 1) := by decide +kernel
theorem dX8_readOrder_11 : decode cX8_readOrder 11 = .ok (.getfield 181, 3) := by decide +kernel
theorem dX8_readOrder_14 : decode cX8_readOrder 14 = .ok (.iload_n 1, 1) := by decide +kernel
theorem dX8_readOrder_15 : decode cX8_readOrder 15 = .ok (.invokevirtual 191, 3) := by decide +kernel
theorem dX8_readOrder_18 : decode cX8_readOrder 18 = .ok (.istore_n 2, 1) := by decide +kernel
theorem dX8_readOrder_19 : decode cX8_readOrder 19 = .ok (.iload_n 2, 1) := by decide +kernel
theorem dX8_readOrder_20 : decode cX8_readOrder 20 = .ok (.ifCond .ge 11, 3) := by decide +kernel
theorem dX8_readOrder_23 : decode cX8_readOrder 23 = .ok (.aload_n 0, 1) := by decide +kernel
theorem dX8_readOrder_24 : decode cX8_readOrder 24 = .ok (.aload_n 0, 1) := by decide +kernel
theorem dX8_readOrder_25 : decode cX8_readOrder 25 = .ok (.getfield 181, 3) := by decide +kernel
theorem dX8_readOrder_28 : decode cX8_readOrder 28 = .ok (.invokevirtual 184, 3) := by decide +kernel
theorem dX8_readOrder_31 : decode cX8_readOrder 31 = .ok (.aload_n 0, 1) := by decide +kernel
theorem dX8_readOrder_32 : decode cX8_readOrder 32 = .ok (.iload_n 1, 1) := by decide +kernel
theorem dX8_readOrder_33 : decode cX8_readOrder 33 = .ok (.putfield 181, 3) := by decide +kernel
theorem dX8_readOrder_36 : decode cX8_readOrder 36 = .ok (.iconst 4, 1) := by decide +kernel
theorem dX8_readOrder_37 : decode cX8_readOrder 37 = .ok (.aload_n 0, 1) := by decide +kernel
theorem dX8_readOrder_38 : decode cX8_readOrder 38 = .ok (.getfield 194, 3) := by decide +kernel
theorem dX8_readOrder_41 : decode cX8_readOrder 41 = .ok (.imul, 1) := by decide +kernel
theorem dX8_readOrder_42 : decode cX8_readOrder 42 = .ok (.istore_n 3, 1) := by decide +kernel
theorem dX8_readOrder_43 : decode cX8_readOrder 43 = .ok (.aload_n 0, 1) := by decide +kernel
theorem dX8_readOrder_44 : decode cX8_readOrder 44 = .ok (.getfield 30, 3) := by decide +kernel
theorem dX8_readOrder_47 : decode cX8_readOrder 47 = .ok (.iload_n 3, 1) := by decide +kernel
theorem dX8_readOrder_48 : decode cX8_readOrder 48 = .ok (.iload_n 2, 1) := by decide +kernel
theorem dX8_readOrder_49 : decode cX8_readOrder 49 = .ok (.iastore, 1) := by decide +kernel
theorem dX8_readOrder_50 : decode cX8_readOrder 50 = .ok (.aload_n 0, 1) := by decide +kernel
theorem dX8_readOrder_51 : decode cX8_readOrder 51 = .ok (.getfield 30, 3) := by decide +kernel
theorem dX8_readOrder_54 : decode cX8_readOrder 54 = .ok (.iload_n 3, 1) := by decide +kernel
theorem dX8_readOrder_55 : decode cX8_readOrder 55 = .ok (.iconst 1, 1) := by decide +kernel
theorem dX8_readOrder_56 : decode cX8_readOrder 56 = .ok (.iadd, 1) := by decide +kernel
theorem dX8_readOrder_57 : decode cX8_readOrder 57 = .ok (.iload_n 2, 1) := by decide +kernel
theorem dX8_readOrder_58 : decode cX8_readOrder 58 = .ok (.ifCond .ne 13, 3) := by decide +kernel
theorem dX8_readOrder_61 : decode cX8_readOrder 61 = .ok (.aload_n 0, 1) := by decide +kernel
theorem dX8_readOrder_62 : decode cX8_readOrder 62 = .ok (.iconst 1, 1) := by decide +kernel
theorem dX8_readOrder_63 : decode cX8_readOrder 63 = .ok (.bipush 60, 2) := by decide +kernel
theorem dX8_readOrder_65 : decode cX8_readOrder 65 = .ok (.invokevirtual 197, 3) := by decide +kernel
theorem dX8_readOrder_68 : decode cX8_readOrder 68 = .ok (.goto 18, 3) := by decide +kernel
theorem dX8_readOrder_71 : decode cX8_readOrder 71 = .ok (.aload_n 0, 1) := by decide +kernel
theorem dX8_readOrder_72 : decode cX8_readOrder 72 = .ok (.iconst 0, 1) := by decide +kernel
theorem dX8_readOrder_73 : decode cX8_readOrder 73 = .ok (.iload_n 2, 1) := by decide +kernel
theorem dX8_readOrder_74 : decode cX8_readOrder 74 = .ok (.iconst 4, 1) := by decide +kernel
theorem dX8_readOrder_75 : decode cX8_readOrder 75 = .ok (.if_icmp .ne 7, 3) := by decide +kernel
theorem dX8_readOrder_78 : decode cX8_readOrder 78 = .ok (.iconst 4, 1) := by decide +kernel
theorem dX8_readOrder_79 : decode cX8_readOrder 79 = .ok (.goto 4, 3) := by decide +kernel
theorem dX8_readOrder_82 : decode cX8_readOrder 82 = .ok (.iconst 3, 1) := by decide +kernel
theorem dX8_readOrder_83 : decode cX8_readOrder 83 = .ok (.invokevirtual 197, 3) := by decide +kernel
theorem dX8_readOrder_86 : decode cX8_readOrder 86 = .ok (.iastore, 1) := by decide +kernel
theorem dX8_readOrder_87 : decode cX8_readOrder 87 = .ok (.aload_n 0, 1) := by decide +kernel
theorem dX8_readOrder_88 : decode cX8_readOrder 88 = .ok (.getfield 30, 3) := by decide +kernel
theorem dX8_readOrder_91 : decode cX8_readOrder 91 = .ok (.iload_n 3, 1) := by decide +kernel
theorem dX8_readOrder_92 : decode cX8_readOrder 92 = .ok (.iconst 2, 1) := by decide +kernel
theorem dX8_readOrder_93 : decode cX8_readOrder 93 = .ok (.iadd, 1) := by decide +kernel
theorem dX8_readOrder_94 : decode cX8_readOrder 94 = .ok (.iload_n 2, 1) := by decide +kernel
theorem dX8_readOrder_95 : decode cX8_readOrder 95 = .ok (.iconst 1, 1) := by decide +kernel
theorem dX8_readOrder_96 : decode cX8_readOrder 96 = .ok (.if_icmp .ne 13, 3) := by decide +kernel
theorem dX8_readOrder_99 : decode cX8_readOrder 99 = .ok (.aload_n 0, 1) := by decide +kernel
theorem dX8_readOrder_100 : decode cX8_readOrder 100 = .ok (.iconst 0, 1) := by decide +kernel
theorem dX8_readOrder_101 : decode cX8_readOrder 101 = .ok (.bipush 7, 2) := by decide +kernel
theorem dX8_readOrder_103 : decode cX8_readOrder 103 = .ok (.invokevirtual 197, 3) := by decide +kernel
theorem dX8_readOrder_106 : decode cX8_readOrder 106 = .ok (.goto 32, 3) := by decide +kernel
theorem dX8_readOrder_109 : decode cX8_readOrder 109 = .ok (.iload_n 2, 1) := by decide +kernel
theorem dX8_readOrder_110 : decode cX8_readOrder 110 = .ok (.iconst 2, 1) := by decide +kernel
theorem dX8_readOrder_111 : decode cX8_readOrder 111 = .ok (.if_icmp .ne 12, 3) := by decide +kernel
theorem dX8_readOrder_114 : decode cX8_readOrder 114 = .ok (.aload_n 0, 1) := by decide +kernel
theorem dX8_readOrder_115 : decode cX8_readOrder 115 = .ok (.iconst 0, 1) := by decide +kernel
theorem dX8_readOrder_116 : decode cX8_readOrder 116 = .ok (.iconst 4, 1) := by decide +kernel
theorem dX8_readOrder_117 : decode cX8_readOrder 117 = .ok (.invokevirtual 197, 3) := by decide +kernel
theorem dX8_readOrder_120 : decode cX8_readOrder 120 = .ok (.goto 18, 3) := by decide +kernel
theorem dX8_readOrder_123 : decode cX8_readOrder 123 = .ok (.iload_n 2, 1) := by decide +kernel
theorem dX8_readOrder_124 : decode cX8_readOrder 124 = .ok (.iconst 3, 1) := by decide +kernel
theorem dX8_readOrder_125 : decode cX8_readOrder 125 = .ok (.if_icmp .ne 12, 3) := by decide +kernel
theorem dX8_readOrder_128 : decode cX8_readOrder 128 = .ok (.aload_n 0, 1) := by decide +kernel
theorem dX8_readOrder_129 : decode cX8_readOrder 129 = .ok (.iconst 0, 1) := by decide +kernel
theorem dX8_readOrder_130 : decode cX8_readOrder 130 = .ok (.iconst 3, 1) := by decide +kernel
theorem dX8_readOrder_131 : decode cX8_readOrder 131 = .ok (.invokevirtual 197, 3) := by decide +kernel
theorem dX8_readOrder_134 : decode cX8_readOrder 134 = .ok (.goto 4, 3) := by decide +kernel
theorem dX8_readOrder_137 : decode cX8_readOrder 137 = .ok (.iconst 0, 1) := by decide +kernel
theorem dX8_readOrder_138 : decode cX8_readOrder 138 = .ok (.iastore, 1) := by decide +kernel
theorem dX8_readOrder_139 : decode cX8_readOrder 139 = .ok (.aload_n 0, 1) := by decide +kernel
theorem dX8_readOrder_140 : decode cX8_readOrder 140 = .ok (.getfield 30, 3) := by decide +kernel
theorem dX8_readOrder_143 : decode cX8_readOrder 143 = .ok (.iload_n 3, 1) := by decide +kernel
theorem dX8_readOrder_144 : decode cX8_readOrder 144 = .ok (.iconst 3, 1) := by decide +kernel
theorem dX8_readOrder_145 : decode cX8_readOrder 145 = .ok (.iadd, 1) := by decide +kernel
theorem dX8_readOrder_146 : decode cX8_readOrder 146 = .ok (.iload_n 2, 1) := by decide +kernel
theorem dX8_readOrder_147 : decode cX8_readOrder 147 = .ok (.iconst 1, 1) := by decide +kernel
theorem dX8_readOrder_148 : decode cX8_readOrder 148 = .ok (.if_icmp .ne 14, 3) := by decide +kernel
theorem dX8_readOrder_151 : decode cX8_readOrder 151 = .ok (.aload_n 0, 1) := by decide +kernel
theorem dX8_readOrder_152 : decode cX8_readOrder 152 = .ok (.iconst 1, 1) := by decide +kernel
theorem dX8_readOrder_153 : decode cX8_readOrder 153 = .ok (.sipush 500, 3) := by decide +kernel
theorem dX8_readOrder_156 : decode cX8_readOrder 156 = .ok (.invokevirtual 197, 3) := by decide +kernel
theorem dX8_readOrder_159 : decode cX8_readOrder 159 = .ok (.goto 19, 3) := by decide +kernel
theorem dX8_readOrder_162 : decode cX8_readOrder 162 = .ok (.iload_n 2, 1) := by decide +kernel
theorem dX8_readOrder_163 : decode cX8_readOrder 163 = .ok (.iconst 2, 1) := by decide +kernel
theorem dX8_readOrder_164 : decode cX8_readOrder 164 = .ok (.if_icmp .ne 13, 3) := by decide +kernel
theorem dX8_readOrder_167 : decode cX8_readOrder 167 = .ok (.aload_n 0, 1) := by decide +kernel
theorem dX8_readOrder_168 : decode cX8_readOrder 168 = .ok (.iconst 1, 1) := by decide +kernel
theorem dX8_readOrder_169 : decode cX8_readOrder 169 = .ok (.bipush 60, 2) := by decide +kernel
theorem dX8_readOrder_171 : decode cX8_readOrder 171 = .ok (.invokevirtual 197, 3) := by decide +kernel
theorem dX8_readOrder_174 : decode cX8_readOrder 174 = .ok (.goto 4, 3) := by decide +kernel
theorem dX8_readOrder_177 : decode cX8_readOrder 177 = .ok (.iconst 0, 1) := by decide +kernel
theorem dX8_readOrder_178 : decode cX8_readOrder 178 = .ok (.iastore, 1) := by decide +kernel
theorem dX8_readOrder_179 : decode cX8_readOrder 179 = .ok (.aload_n 0, 1) := by decide +kernel
theorem dX8_readOrder_180 : decode cX8_readOrder 180 = .ok (.getfield 181, 3) := by decide +kernel
theorem dX8_readOrder_183 : decode cX8_readOrder 183 = .ok (.aload_n 0, 1) := by decide +kernel
theorem dX8_readOrder_184 : decode cX8_readOrder 184 = .ok (.getfield 171, 3) := by decide +kernel
theorem dX8_readOrder_187 : decode cX8_readOrder 187 = .ok (.if_icmp .ge 25, 3) := by decide +kernel
theorem dX8_readOrder_190 : decode cX8_readOrder 190 = .ok (.aload_n 0, 1) := by decide +kernel
theorem dX8_readOrder_191 : decode cX8_readOrder 191 = .ok (.getfield 26, 3) := by decide +kernel
theorem dX8_readOrder_194 : decode cX8_readOrder 194 = .ok (.aload_n 0, 1) := by decide +kernel
theorem dX8_readOrder_195 : decode cX8_readOrder 195 = .ok (.getfield 181, 3) := by decide +kernel
theorem dX8_readOrder_198 : decode cX8_readOrder 198 = .ok (.caload, 1) := by decide +kernel
theorem dX8_readOrder_199 : decode cX8_readOrder 199 = .ok (.bipush 59, 2) := by decide +kernel
theorem dX8_readOrder_201 : decode cX8_readOrder 201 = .ok (.if_icmp .eq 11, 3) := by decide +kernel
theorem dX8_readOrder_204 : decode cX8_readOrder 204 = .ok (.aload_n 0, 1) := by decide +kernel
theorem dX8_readOrder_205 : decode cX8_readOrder 205 = .ok (.aload_n 0, 1) := by decide +kernel
theorem dX8_readOrder_206 : decode cX8_readOrder 206 = .ok (.getfield 181, 3) := by decide +kernel
theorem dX8_readOrder_209 : decode cX8_readOrder 209 = .ok (.invokevirtual 184, 3) := by decide +kernel
theorem dX8_readOrder_212 : decode cX8_readOrder 212 = .ok (.aload_n 0, 1) := by decide +kernel
theorem dX8_readOrder_213 : decode cX8_readOrder 213 = .ok (.dup, 1) := by decide +kernel
theorem dX8_readOrder_214 : decode cX8_readOrder 214 = .ok (.getfield 194, 3) := by decide +kernel
theorem dX8_readOrder_217 : decode cX8_readOrder 217 = .ok (.iconst 1, 1) := by decide +kernel
theorem dX8_readOrder_218 : decode cX8_readOrder 218 = .ok (.iadd, 1) := by decide +kernel
theorem dX8_readOrder_219 : decode cX8_readOrder 219 = .ok (.putfield 194, 3) := by decide +kernel
theorem dX8_readOrder_222 : decode cX8_readOrder 222 = .ok (.return_, 1) := by decide +kernel
theorem dX8_carryOut_0 : decode cX8_carryOut 0 = .ok (.aload_n 0, 1) := by decide +kernel
theorem dX8_carryOut_1 : decode cX8_carryOut 1 = .ok (.getfield 30, 3) := by decide +kernel
theorem dX8_carryOut_4 : decode cX8_carryOut 4 = .ok (.iload_n 1, 1) := by decide +kernel
theorem dX8_carryOut_5 : decode cX8_carryOut 5 = .ok (.iconst 1, 1) := by decide +kernel
theorem dX8_carryOut_6 : decode cX8_carryOut 6 = .ok (.iadd, 1) := by decide +kernel
theorem dX8_carryOut_7 : decode cX8_carryOut 7 = .ok (.iaload, 1) := by decide +kernel
theorem dX8_carryOut_8 : decode cX8_carryOut 8 = .ok (.istore_n 2, 1) := by decide +kernel
theorem dX8_carryOut_9 : decode cX8_carryOut 9 = .ok (.aload_n 0, 1) := by decide +kernel
theorem dX8_carryOut_10 : decode cX8_carryOut 10 = .ok (.getfield 30, 3) := by decide +kernel
theorem dX8_carryOut_13 : decode cX8_carryOut 13 = .ok (.iload_n 1, 1) := by decide +kernel
theorem dX8_carryOut_14 : decode cX8_carryOut 14 = .ok (.iconst 2, 1) := by decide +kernel
theorem dX8_carryOut_15 : decode cX8_carryOut 15 = .ok (.iadd, 1) := by decide +kernel
theorem dX8_carryOut_16 : decode cX8_carryOut 16 = .ok (.iaload, 1) := by decide +kernel
theorem dX8_carryOut_17 : decode cX8_carryOut 17 = .ok (.istore_n 3, 1) := by decide +kernel
theorem dX8_carryOut_18 : decode cX8_carryOut 18 = .ok (.aload_n 0, 1) := by decide +kernel
theorem dX8_carryOut_19 : decode cX8_carryOut 19 = .ok (.getfield 30, 3) := by decide +kernel
theorem dX8_carryOut_22 : decode cX8_carryOut 22 = .ok (.iload_n 1, 1) := by decide +kernel
theorem dX8_carryOut_23 : decode cX8_carryOut 23 = .ok (.iconst 3, 1) := by decide +kernel
theorem dX8_carryOut_24 : decode cX8_carryOut 24 = .ok (.iadd, 1) := by decide +kernel
theorem dX8_carryOut_25 : decode cX8_carryOut 25 = .ok (.iaload, 1) := by decide +kernel
theorem dX8_carryOut_26 : decode cX8_carryOut 26 = .ok (.istore 4, 2) := by decide +kernel
theorem dX8_carryOut_28 : decode cX8_carryOut 28 = .ok (.aload_n 0, 1) := by decide +kernel
theorem dX8_carryOut_29 : decode cX8_carryOut 29 = .ok (.getfield 30, 3) := by decide +kernel
theorem dX8_carryOut_32 : decode cX8_carryOut 32 = .ok (.iload_n 1, 1) := by decide +kernel
theorem dX8_carryOut_33 : decode cX8_carryOut 33 = .ok (.iaload, 1) := by decide +kernel
theorem dX8_carryOut_34 : decode cX8_carryOut 34 = .ok (.tableswitch 61 0 3 #[30, 36, 45, 54], 30) := by decide +kernel
theorem dX8_carryOut_64 : decode cX8_carryOut 64 = .ok (.aload_n 0, 1) := by decide +kernel
theorem dX8_carryOut_65 : decode cX8_carryOut 65 = .ok (.iload_n 2, 1) := by decide +kernel
theorem dX8_carryOut_66 : decode cX8_carryOut 66 = .ok (.invokevirtual 126, 3) := by decide +kernel
theorem dX8_carryOut_69 : decode cX8_carryOut 69 = .ok (.ireturn, 1) := by decide +kernel
theorem dX8_carryOut_70 : decode cX8_carryOut 70 = .ok (.aload_n 0, 1) := by decide +kernel
theorem dX8_carryOut_71 : decode cX8_carryOut 71 = .ok (.iload_n 2, 1) := by decide +kernel
theorem dX8_carryOut_72 : decode cX8_carryOut 72 = .ok (.iload_n 3, 1) := by decide +kernel
theorem dX8_carryOut_73 : decode cX8_carryOut 73 = .ok (.iload 4, 2) := by decide +kernel
theorem dX8_carryOut_75 : decode cX8_carryOut 75 = .ok (.invokevirtual 91, 3) := by decide +kernel
theorem dX8_carryOut_78 : decode cX8_carryOut 78 = .ok (.ireturn, 1) := by decide +kernel
theorem dX8_carryOut_79 : decode cX8_carryOut 79 = .ok (.aload_n 0, 1) := by decide +kernel
theorem dX8_carryOut_80 : decode cX8_carryOut 80 = .ok (.iload_n 2, 1) := by decide +kernel
theorem dX8_carryOut_81 : decode cX8_carryOut 81 = .ok (.iload_n 3, 1) := by decide +kernel
theorem dX8_carryOut_82 : decode cX8_carryOut 82 = .ok (.iload 4, 2) := by decide +kernel
theorem dX8_carryOut_84 : decode cX8_carryOut 84 = .ok (.invokevirtual 135, 3) := by decide +kernel
theorem dX8_carryOut_87 : decode cX8_carryOut 87 = .ok (.ireturn, 1) := by decide +kernel
theorem dX8_carryOut_88 : decode cX8_carryOut 88 = .ok (.aload_n 0, 1) := by decide +kernel
theorem dX8_carryOut_89 : decode cX8_carryOut 89 = .ok (.iload_n 2, 1) := by decide +kernel
theorem dX8_carryOut_90 : decode cX8_carryOut 90 = .ok (.iload_n 3, 1) := by decide +kernel
theorem dX8_carryOut_91 : decode cX8_carryOut 91 = .ok (.invokevirtual 95, 3) := by decide +kernel
theorem dX8_carryOut_94 : decode cX8_carryOut 94 = .ok (.ireturn, 1) := by decide +kernel
theorem dX8_carryOut_95 : decode cX8_carryOut 95 = .ok (.aload_n 0, 1) := by decide +kernel
theorem dX8_carryOut_96 : decode cX8_carryOut 96 = .ok (.iload_n 2, 1) := by decide +kernel
theorem dX8_carryOut_97 : decode cX8_carryOut 97 = .ok (.invokevirtual 168, 3) := by decide +kernel
theorem dX8_carryOut_100 : decode cX8_carryOut 100 = .ok (.ireturn, 1) := by decide +kernel
theorem dX8_runOrders_0 : decode cX8_runOrders 0 = .ok (.aload_n 0, 1) := by decide +kernel
theorem dX8_runOrders_1 : decode cX8_runOrders 1 = .ok (.iconst 0, 1) := by decide +kernel
theorem dX8_runOrders_2 : decode cX8_runOrders 2 = .ok (.putfield 181, 3) := by decide +kernel
theorem dX8_runOrders_5 : decode cX8_runOrders 5 = .ok (.aload_n 0, 1) := by decide +kernel
theorem dX8_runOrders_6 : decode cX8_runOrders 6 = .ok (.ldc 44, 2) := by decide +kernel
theorem dX8_runOrders_8 : decode cX8_runOrders 8 = .ok (.putfield 178, 3) := by decide +kernel
theorem dX8_runOrders_11 : decode cX8_runOrders 11 = .ok (.aload_n 0, 1) := by decide +kernel
theorem dX8_runOrders_12 : decode cX8_runOrders 12 = .ok (.iconst 0, 1) := by decide +kernel
theorem dX8_runOrders_13 : decode cX8_runOrders 13 = .ok (.putfield 194, 3) := by decide +kernel
theorem dX8_runOrders_16 : decode cX8_runOrders 16 = .ok (.aload_n 0, 1) := by decide +kernel
theorem dX8_runOrders_17 : decode cX8_runOrders 17 = .ok (.invokevirtual 200, 3) := by decide +kernel
theorem dX8_runOrders_20 : decode cX8_runOrders 20 = .ok (.aload_n 0, 1) := by decide +kernel
theorem dX8_runOrders_21 : decode cX8_runOrders 21 = .ok (.getfield 178, 3) := by decide +kernel
theorem dX8_runOrders_24 : decode cX8_runOrders 24 = .ok (.ifCond .ge 31, 3) := by decide +kernel
theorem dX8_runOrders_27 : decode cX8_runOrders 27 = .ok (.aload_n 0, 1) := by decide +kernel
theorem dX8_runOrders_28 : decode cX8_runOrders 28 = .ok (.getfield 181, 3) := by decide +kernel
theorem dX8_runOrders_31 : decode cX8_runOrders 31 = .ok (.aload_n 0, 1) := by decide +kernel
theorem dX8_runOrders_32 : decode cX8_runOrders 32 = .ok (.getfield 171, 3) := by decide +kernel
theorem dX8_runOrders_35 : decode cX8_runOrders 35 = .ok (.if_icmp .ge 20, 3) := by decide +kernel
theorem dX8_runOrders_38 : decode cX8_runOrders 38 = .ok (.aload_n 0, 1) := by decide +kernel
theorem dX8_runOrders_39 : decode cX8_runOrders 39 = .ok (.dup, 1) := by decide +kernel
theorem dX8_runOrders_40 : decode cX8_runOrders 40 = .ok (.getfield 181, 3) := by decide +kernel
theorem dX8_runOrders_43 : decode cX8_runOrders 43 = .ok (.iconst 1, 1) := by decide +kernel
theorem dX8_runOrders_44 : decode cX8_runOrders 44 = .ok (.iadd, 1) := by decide +kernel
theorem dX8_runOrders_45 : decode cX8_runOrders 45 = .ok (.putfield 181, 3) := by decide +kernel
theorem dX8_runOrders_48 : decode cX8_runOrders 48 = .ok (.aload_n 0, 1) := by decide +kernel
theorem dX8_runOrders_49 : decode cX8_runOrders 49 = .ok (.invokevirtual 200, 3) := by decide +kernel
theorem dX8_runOrders_52 : decode cX8_runOrders 52 = .ok (.goto (-32), 3) := by decide +kernel
theorem dX8_runOrders_55 : decode cX8_runOrders 55 = .ok (.aload_n 0, 1) := by decide +kernel
theorem dX8_runOrders_56 : decode cX8_runOrders 56 = .ok (.getfield 178, 3) := by decide +kernel
theorem dX8_runOrders_59 : decode cX8_runOrders 59 = .ok (.ifCond .lt 11, 3) := by decide +kernel
theorem dX8_runOrders_62 : decode cX8_runOrders 62 = .ok (.bipush (-100), 2) := by decide +kernel
theorem dX8_runOrders_64 : decode cX8_runOrders 64 = .ok (.aload_n 0, 1) := by decide +kernel
theorem dX8_runOrders_65 : decode cX8_runOrders 65 = .ok (.getfield 178, 3) := by decide +kernel
theorem dX8_runOrders_68 : decode cX8_runOrders 68 = .ok (.isub, 1) := by decide +kernel
theorem dX8_runOrders_69 : decode cX8_runOrders 69 = .ok (.ireturn, 1) := by decide +kernel
theorem dX8_runOrders_70 : decode cX8_runOrders 70 = .ok (.aload_n 0, 1) := by decide +kernel
theorem dX8_runOrders_71 : decode cX8_runOrders 71 = .ok (.invokevirtual 49, 3) := by decide +kernel
theorem dX8_runOrders_74 : decode cX8_runOrders 74 = .ok (.iconst 0, 1) := by decide +kernel
theorem dX8_runOrders_75 : decode cX8_runOrders 75 = .ok (.istore_n 1, 1) := by decide +kernel
theorem dX8_runOrders_76 : decode cX8_runOrders 76 = .ok (.iload_n 1, 1) := by decide +kernel
theorem dX8_runOrders_77 : decode cX8_runOrders 77 = .ok (.aload_n 0, 1) := by decide +kernel
theorem dX8_runOrders_78 : decode cX8_runOrders 78 = .ok (.getfield 194, 3) := by decide +kernel
theorem dX8_runOrders_81 : decode cX8_runOrders 81 = .ok (.if_icmp .ge 21, 3) := by decide +kernel
theorem dX8_runOrders_84 : decode cX8_runOrders 84 = .ok (.aload_n 0, 1) := by decide +kernel
theorem dX8_runOrders_85 : decode cX8_runOrders 85 = .ok (.iconst 4, 1) := by decide +kernel
theorem dX8_runOrders_86 : decode cX8_runOrders 86 = .ok (.iload_n 1, 1) := by decide +kernel
theorem dX8_runOrders_87 : decode cX8_runOrders 87 = .ok (.imul, 1) := by decide +kernel
theorem dX8_runOrders_88 : decode cX8_runOrders 88 = .ok (.invokevirtual 203, 3) := by decide +kernel
theorem dX8_runOrders_91 : decode cX8_runOrders 91 = .ok (.ldc 40, 2) := by decide +kernel
theorem dX8_runOrders_93 : decode cX8_runOrders 93 = .ok (.if_icmp .le 9, 3) := by decide +kernel
theorem dX8_runOrders_96 : decode cX8_runOrders 96 = .ok (.iinc 1 1, 3) := by decide +kernel
theorem dX8_runOrders_99 : decode cX8_runOrders 99 = .ok (.goto (-23), 3) := by decide +kernel
theorem dX8_runOrders_102 : decode cX8_runOrders 102 = .ok (.aload_n 0, 1) := by decide +kernel
theorem dX8_runOrders_103 : decode cX8_runOrders 103 = .ok (.iload_n 1, 1) := by decide +kernel
theorem dX8_runOrders_104 : decode cX8_runOrders 104 = .ok (.invokevirtual 52, 3) := by decide +kernel
theorem dX8_runOrders_107 : decode cX8_runOrders 107 = .ok (.ireturn, 1) := by decide +kernel
theorem dX8_wire_0 : decode cX8_wire 0 = .ok (.iload_n 1, 1) := by decide +kernel
theorem dX8_wire_1 : decode cX8_wire 1 = .ok (.invokestatic 66, 3) := by decide +kernel
theorem dX8_wire_4 : decode cX8_wire 4 = .ok (.ifCond .eq 6, 3) := by decide +kernel
theorem dX8_wire_7 : decode cX8_wire 7 = .ok (.ldc 40, 2) := by decide +kernel
theorem dX8_wire_9 : decode cX8_wire 9 = .ok (.ireturn, 1) := by decide +kernel
theorem dX8_wire_10 : decode cX8_wire 10 = .ok (.iload_n 2, 1) := by decide +kernel
theorem dX8_wire_11 : decode cX8_wire 11 = .ok (.iconst 0, 1) := by decide +kernel
theorem dX8_wire_12 : decode cX8_wire 12 = .ok (.bipush 10, 2) := by decide +kernel
theorem dX8_wire_14 : decode cX8_wire 14 = .ok (.invokestatic 45, 3) := by decide +kernel
theorem dX8_wire_17 : decode cX8_wire 17 = .ok (.ifCond .ne 6, 3) := by decide +kernel
theorem dX8_wire_20 : decode cX8_wire 20 = .ok (.ldc 70, 2) := by decide +kernel
theorem dX8_wire_22 : decode cX8_wire 22 = .ok (.ireturn, 1) := by decide +kernel
theorem dX8_wire_23 : decode cX8_wire 23 = .ok (.aload_n 0, 1) := by decide +kernel
theorem dX8_wire_24 : decode cX8_wire 24 = .ok (.iload_n 1, 1) := by decide +kernel
theorem dX8_wire_25 : decode cX8_wire 25 = .ok (.invokevirtual 79, 3) := by decide +kernel
theorem dX8_wire_28 : decode cX8_wire 28 = .ok (.ifCond .ne 6, 3) := by decide +kernel
theorem dX8_wire_31 : decode cX8_wire 31 = .ok (.ldc 44, 2) := by decide +kernel
theorem dX8_wire_33 : decode cX8_wire 33 = .ok (.ireturn, 1) := by decide +kernel
theorem dX8_wire_34 : decode cX8_wire 34 = .ok (.iload_n 2, 1) := by decide +kernel
theorem dX8_wire_35 : decode cX8_wire 35 = .ok (.bipush 10, 2) := by decide +kernel
theorem dX8_wire_37 : decode cX8_wire 37 = .ok (.if_icmp .ne 13, 3) := by decide +kernel
theorem dX8_wire_40 : decode cX8_wire 40 = .ok (.iconst 4, 1) := by decide +kernel
theorem dX8_wire_41 : decode cX8_wire 41 = .ok (.aload_n 0, 1) := by decide +kernel
theorem dX8_wire_42 : decode cX8_wire 42 = .ok (.iload_n 1, 1) := by decide +kernel
theorem dX8_wire_43 : decode cX8_wire 43 = .ok (.invokevirtual 88, 3) := by decide +kernel
theorem dX8_wire_46 : decode cX8_wire 46 = .ok (.imul, 1) := by decide +kernel
theorem dX8_wire_47 : decode cX8_wire 47 = .ok (.goto 11, 3) := by decide +kernel
theorem dX8_wire_50 : decode cX8_wire 50 = .ok (.aload_n 0, 1) := by decide +kernel
theorem dX8_wire_51 : decode cX8_wire 51 = .ok (.iload_n 1, 1) := by decide +kernel
theorem dX8_wire_52 : decode cX8_wire 52 = .ok (.iload_n 2, 1) := by decide +kernel
theorem dX8_wire_53 : decode cX8_wire 53 = .ok (.iconst 1, 1) := by decide +kernel
theorem dX8_wire_54 : decode cX8_wire 54 = .ok (.iadd, 1) := by decide +kernel
theorem dX8_wire_55 : decode cX8_wire 55 = .ok (.invokevirtual 56, 3) := by decide +kernel
theorem dX8_wire_58 : decode cX8_wire 58 = .ok (.ireturn, 1) := by decide +kernel
theorem dX8_barred_0 : decode cX8_barred 0 = .ok (.iload_n 1, 1) := by decide +kernel
theorem dX8_barred_1 : decode cX8_barred 1 = .ok (.invokestatic 66, 3) := by decide +kernel
theorem dX8_barred_4 : decode cX8_barred 4 = .ok (.ifCond .eq 6, 3) := by decide +kernel
theorem dX8_barred_7 : decode cX8_barred 7 = .ok (.ldc 40, 2) := by decide +kernel
theorem dX8_barred_9 : decode cX8_barred 9 = .ok (.ireturn, 1) := by decide +kernel
theorem dX8_barred_10 : decode cX8_barred 10 = .ok (.iload_n 2, 1) := by decide +kernel
theorem dX8_barred_11 : decode cX8_barred 11 = .ok (.iconst 0, 1) := by decide +kernel
theorem dX8_barred_12 : decode cX8_barred 12 = .ok (.sipush 800, 3) := by decide +kernel
theorem dX8_barred_15 : decode cX8_barred 15 = .ok (.invokestatic 45, 3) := by decide +kernel
theorem dX8_barred_18 : decode cX8_barred 18 = .ok (.ifCond .eq 12, 3) := by decide +kernel
theorem dX8_barred_21 : decode cX8_barred 21 = .ok (.iload_n 3, 1) := by decide +kernel
theorem dX8_barred_22 : decode cX8_barred 22 = .ok (.iconst 0, 1) := by decide +kernel
theorem dX8_barred_23 : decode cX8_barred 23 = .ok (.iconst 1, 1) := by decide +kernel
theorem dX8_barred_24 : decode cX8_barred 24 = .ok (.invokestatic 45, 3) := by decide +kernel
theorem dX8_barred_27 : decode cX8_barred 27 = .ok (.ifCond .ne 6, 3) := by decide +kernel
theorem dX8_barred_30 : decode cX8_barred 30 = .ok (.ldc 70, 2) := by decide +kernel
theorem dX8_barred_32 : decode cX8_barred 32 = .ok (.ireturn, 1) := by decide +kernel
theorem dX8_barred_33 : decode cX8_barred 33 = .ok (.aload_n 0, 1) := by decide +kernel
theorem dX8_barred_34 : decode cX8_barred 34 = .ok (.iload_n 1, 1) := by decide +kernel
theorem dX8_barred_35 : decode cX8_barred 35 = .ok (.invokevirtual 79, 3) := by decide +kernel
theorem dX8_barred_38 : decode cX8_barred 38 = .ok (.ifCond .eq 13, 3) := by decide +kernel
theorem dX8_barred_41 : decode cX8_barred 41 = .ok (.iload_n 2, 1) := by decide +kernel
theorem dX8_barred_42 : decode cX8_barred 42 = .ok (.aload_n 0, 1) := by decide +kernel
theorem dX8_barred_43 : decode cX8_barred 43 = .ok (.iload_n 1, 1) := by decide +kernel
theorem dX8_barred_44 : decode cX8_barred 44 = .ok (.iconst 4, 1) := by decide +kernel
theorem dX8_barred_45 : decode cX8_barred 45 = .ok (.invokevirtual 56, 3) := by decide +kernel
theorem dX8_barred_48 : decode cX8_barred 48 = .ok (.if_icmp .le 8, 3) := by decide +kernel
theorem dX8_barred_51 : decode cX8_barred 51 = .ok (.ldc 44, 2) := by decide +kernel
theorem dX8_barred_53 : decode cX8_barred 53 = .ok (.goto 4, 3) := by decide +kernel
theorem dX8_barred_56 : decode cX8_barred 56 = .ok (.iconst 0, 1) := by decide +kernel
theorem dX8_barred_57 : decode cX8_barred 57 = .ok (.ireturn, 1) := by decide +kernel
theorem dX8_rest_0 : decode cX8_rest 0 = .ok (.aload_n 0, 1) := by decide +kernel
theorem dX8_rest_1 : decode cX8_rest 1 = .ok (.iload_n 1, 1) := by decide +kernel
theorem dX8_rest_2 : decode cX8_rest 2 = .ok (.iload_n 2, 1) := by decide +kernel
theorem dX8_rest_3 : decode cX8_rest 3 = .ok (.iload_n 3, 1) := by decide +kernel
theorem dX8_rest_4 : decode cX8_rest 4 = .ok (.invokevirtual 206, 3) := by decide +kernel
theorem dX8_rest_7 : decode cX8_rest 7 = .ok (.ifCond .ge 13, 3) := by decide +kernel
theorem dX8_rest_10 : decode cX8_rest 10 = .ok (.aload_n 0, 1) := by decide +kernel
theorem dX8_rest_11 : decode cX8_rest 11 = .ok (.iload_n 1, 1) := by decide +kernel
theorem dX8_rest_12 : decode cX8_rest 12 = .ok (.iload_n 2, 1) := by decide +kernel
theorem dX8_rest_13 : decode cX8_rest 13 = .ok (.iload_n 3, 1) := by decide +kernel
theorem dX8_rest_14 : decode cX8_rest 14 = .ok (.invokevirtual 206, 3) := by decide +kernel
theorem dX8_rest_17 : decode cX8_rest 17 = .ok (.goto 10, 3) := by decide +kernel
theorem dX8_rest_20 : decode cX8_rest 20 = .ok (.aload_n 0, 1) := by decide +kernel
theorem dX8_rest_21 : decode cX8_rest 21 = .ok (.iload_n 1, 1) := by decide +kernel
theorem dX8_rest_22 : decode cX8_rest 22 = .ok (.iload_n 2, 1) := by decide +kernel
theorem dX8_rest_23 : decode cX8_rest 23 = .ok (.iload_n 3, 1) := by decide +kernel
theorem dX8_rest_24 : decode cX8_rest 24 = .ok (.invokevirtual 111, 3) := by decide +kernel
theorem dX8_rest_27 : decode cX8_rest 27 = .ok (.ireturn, 1) := by decide +kernel
theorem dX8_position_0 : decode cX8_position 0 = .ok (.aload_n 0, 1) := by decide +kernel
theorem dX8_position_1 : decode cX8_position 1 = .ok (.iload_n 1, 1) := by decide +kernel
theorem dX8_position_2 : decode cX8_position 2 = .ok (.iload_n 2, 1) := by decide +kernel
theorem dX8_position_3 : decode cX8_position 3 = .ok (.iload_n 3, 1) := by decide +kernel
theorem dX8_position_4 : decode cX8_position 4 = .ok (.invokevirtual 206, 3) := by decide +kernel
theorem dX8_position_7 : decode cX8_position 7 = .ok (.ifCond .ge 13, 3) := by decide +kernel
theorem dX8_position_10 : decode cX8_position 10 = .ok (.aload_n 0, 1) := by decide +kernel
theorem dX8_position_11 : decode cX8_position 11 = .ok (.iload_n 1, 1) := by decide +kernel
theorem dX8_position_12 : decode cX8_position 12 = .ok (.iload_n 2, 1) := by decide +kernel
theorem dX8_position_13 : decode cX8_position 13 = .ok (.iload_n 3, 1) := by decide +kernel
theorem dX8_position_14 : decode cX8_position 14 = .ok (.invokevirtual 206, 3) := by decide +kernel
theorem dX8_position_17 : decode cX8_position 17 = .ok (.goto 10, 3) := by decide +kernel
theorem dX8_position_20 : decode cX8_position 20 = .ok (.aload_n 0, 1) := by decide +kernel
theorem dX8_position_21 : decode cX8_position 21 = .ok (.iload_n 1, 1) := by decide +kernel
theorem dX8_position_22 : decode cX8_position 22 = .ok (.iload_n 2, 1) := by decide +kernel
theorem dX8_position_23 : decode cX8_position 23 = .ok (.iload_n 3, 1) := by decide +kernel
theorem dX8_position_24 : decode cX8_position 24 = .ok (.invokevirtual 132, 3) := by decide +kernel
theorem dX8_position_27 : decode cX8_position 27 = .ok (.ireturn, 1) := by decide +kernel
theorem dX8_calmIn_0 : decode cX8_calmIn 0 = .ok (.iload_n 1, 1) := by decide +kernel
theorem dX8_calmIn_1 : decode cX8_calmIn 1 = .ok (.invokestatic 66, 3) := by decide +kernel
theorem dX8_calmIn_4 : decode cX8_calmIn 4 = .ok (.ifCond .eq 6, 3) := by decide +kernel
theorem dX8_calmIn_7 : decode cX8_calmIn 7 = .ok (.ldc 40, 2) := by decide +kernel
theorem dX8_calmIn_9 : decode cX8_calmIn 9 = .ok (.ireturn, 1) := by decide +kernel
theorem dX8_calmIn_10 : decode cX8_calmIn 10 = .ok (.iload_n 2, 1) := by decide +kernel
theorem dX8_calmIn_11 : decode cX8_calmIn 11 = .ok (.iconst 0, 1) := by decide +kernel
theorem dX8_calmIn_12 : decode cX8_calmIn 12 = .ok (.sipush 500, 3) := by decide +kernel
theorem dX8_calmIn_15 : decode cX8_calmIn 15 = .ok (.invokestatic 45, 3) := by decide +kernel
theorem dX8_calmIn_18 : decode cX8_calmIn 18 = .ok (.ifCond .ne 6, 3) := by decide +kernel
theorem dX8_calmIn_21 : decode cX8_calmIn 21 = .ok (.ldc 70, 2) := by decide +kernel
theorem dX8_calmIn_23 : decode cX8_calmIn 23 = .ok (.ireturn, 1) := by decide +kernel
theorem dX8_calmIn_24 : decode cX8_calmIn 24 = .ok (.aload_n 0, 1) := by decide +kernel
theorem dX8_calmIn_25 : decode cX8_calmIn 25 = .ok (.iload_n 1, 1) := by decide +kernel
theorem dX8_calmIn_26 : decode cX8_calmIn 26 = .ok (.invokevirtual 79, 3) := by decide +kernel
theorem dX8_calmIn_29 : decode cX8_calmIn 29 = .ok (.ifCond .ne 6, 3) := by decide +kernel
theorem dX8_calmIn_32 : decode cX8_calmIn 32 = .ok (.ldc 44, 2) := by decide +kernel
theorem dX8_calmIn_34 : decode cX8_calmIn 34 = .ok (.ireturn, 1) := by decide +kernel
theorem dX8_calmIn_35 : decode cX8_calmIn 35 = .ok (.aload_n 0, 1) := by decide +kernel
theorem dX8_calmIn_36 : decode cX8_calmIn 36 = .ok (.iload_n 1, 1) := by decide +kernel
theorem dX8_calmIn_37 : decode cX8_calmIn 37 = .ok (.bipush 9, 2) := by decide +kernel
theorem dX8_calmIn_39 : decode cX8_calmIn 39 = .ok (.invokevirtual 56, 3) := by decide +kernel
theorem dX8_calmIn_42 : decode cX8_calmIn 42 = .ok (.istore_n 3, 1) := by decide +kernel
theorem dX8_calmIn_43 : decode cX8_calmIn 43 = .ok (.iconst 0, 1) := by decide +kernel
theorem dX8_calmIn_44 : decode cX8_calmIn 44 = .ok (.istore 4, 2) := by decide +kernel
theorem dX8_calmIn_46 : decode cX8_calmIn 46 = .ok (.iload_n 3, 1) := by decide +kernel
theorem dX8_calmIn_47 : decode cX8_calmIn 47 = .ok (.iload_n 2, 1) := by decide +kernel
theorem dX8_calmIn_48 : decode cX8_calmIn 48 = .ok (.if_icmp .le 57, 3) := by decide +kernel
theorem dX8_calmIn_51 : decode cX8_calmIn 51 = .ok (.iload_n 3, 1) := by decide +kernel
theorem dX8_calmIn_52 : decode cX8_calmIn 52 = .ok (.aload_n 0, 1) := by decide +kernel
theorem dX8_calmIn_53 : decode cX8_calmIn 53 = .ok (.iload_n 1, 1) := by decide +kernel
theorem dX8_calmIn_54 : decode cX8_calmIn 54 = .ok (.bipush 7, 2) := by decide +kernel
theorem dX8_calmIn_56 : decode cX8_calmIn 56 = .ok (.invokevirtual 56, 3) := by decide +kernel
theorem dX8_calmIn_59 : decode cX8_calmIn 59 = .ok (.invokestatic 120, 3) := by decide +kernel
theorem dX8_calmIn_62 : decode cX8_calmIn 62 = .ok (.imul, 1) := by decide +kernel
theorem dX8_calmIn_63 : decode cX8_calmIn 63 = .ok (.bipush 100, 2) := by decide +kernel
theorem dX8_calmIn_65 : decode cX8_calmIn 65 = .ok (.idiv, 1) := by decide +kernel
theorem dX8_calmIn_66 : decode cX8_calmIn 66 = .ok (.istore_n 3, 1) := by decide +kernel
theorem dX8_calmIn_67 : decode cX8_calmIn 67 = .ok (.iload 4, 2) := by decide +kernel
theorem dX8_calmIn_69 : decode cX8_calmIn 69 = .ok (.iload 4, 2) := by decide +kernel
theorem dX8_calmIn_71 : decode cX8_calmIn 71 = .ok (.ifCond .ne 21, 3) := by decide +kernel
theorem dX8_calmIn_74 : decode cX8_calmIn 74 = .ok (.iconst 4, 1) := by decide +kernel
theorem dX8_calmIn_75 : decode cX8_calmIn 75 = .ok (.aload_n 0, 1) := by decide +kernel
theorem dX8_calmIn_76 : decode cX8_calmIn 76 = .ok (.iload_n 1, 1) := by decide +kernel
theorem dX8_calmIn_77 : decode cX8_calmIn 77 = .ok (.invokevirtual 88, 3) := by decide +kernel
theorem dX8_calmIn_80 : decode cX8_calmIn 80 = .ok (.imul, 1) := by decide +kernel
theorem dX8_calmIn_81 : decode cX8_calmIn 81 = .ok (.aload_n 0, 1) := by decide +kernel
theorem dX8_calmIn_82 : decode cX8_calmIn 82 = .ok (.iload_n 1, 1) := by decide +kernel
theorem dX8_calmIn_83 : decode cX8_calmIn 83 = .ok (.bipush 10, 2) := by decide +kernel
theorem dX8_calmIn_85 : decode cX8_calmIn 85 = .ok (.invokevirtual 56, 3) := by decide +kernel
theorem dX8_calmIn_88 : decode cX8_calmIn 88 = .ok (.isub, 1) := by decide +kernel
theorem dX8_calmIn_89 : decode cX8_calmIn 89 = .ok (.goto 10, 3) := by decide +kernel
theorem dX8_calmIn_92 : decode cX8_calmIn 92 = .ok (.iconst 4, 1) := by decide +kernel
theorem dX8_calmIn_93 : decode cX8_calmIn 93 = .ok (.aload_n 0, 1) := by decide +kernel
theorem dX8_calmIn_94 : decode cX8_calmIn 94 = .ok (.iload_n 1, 1) := by decide +kernel
theorem dX8_calmIn_95 : decode cX8_calmIn 95 = .ok (.invokevirtual 88, 3) := by decide +kernel
theorem dX8_calmIn_98 : decode cX8_calmIn 98 = .ok (.imul, 1) := by decide +kernel
theorem dX8_calmIn_99 : decode cX8_calmIn 99 = .ok (.iadd, 1) := by decide +kernel
theorem dX8_calmIn_100 : decode cX8_calmIn 100 = .ok (.istore 4, 2) := by decide +kernel
theorem dX8_calmIn_102 : decode cX8_calmIn 102 = .ok (.goto (-56), 3) := by decide +kernel
theorem dX8_calmIn_105 : decode cX8_calmIn 105 = .ok (.iload 4, 2) := by decide +kernel
theorem dX8_calmIn_107 : decode cX8_calmIn 107 = .ok (.ireturn, 1) := by decide +kernel
theorem dX8_seenHere_0 : decode cX8_seenHere 0 = .ok (.iconst 0, 1) := by decide +kernel
theorem dX8_seenHere_1 : decode cX8_seenHere 1 = .ok (.istore_n 2, 1) := by decide +kernel
theorem dX8_seenHere_2 : decode cX8_seenHere 2 = .ok (.iconst 0, 1) := by decide +kernel
theorem dX8_seenHere_3 : decode cX8_seenHere 3 = .ok (.istore_n 3, 1) := by decide +kernel
theorem dX8_seenHere_4 : decode cX8_seenHere 4 = .ok (.iload_n 3, 1) := by decide +kernel
theorem dX8_seenHere_5 : decode cX8_seenHere 5 = .ok (.iconst 4, 1) := by decide +kernel
theorem dX8_seenHere_6 : decode cX8_seenHere 6 = .ok (.if_icmp .ge 24, 3) := by decide +kernel
theorem dX8_seenHere_9 : decode cX8_seenHere 9 = .ok (.iload_n 2, 1) := by decide +kernel
theorem dX8_seenHere_10 : decode cX8_seenHere 10 = .ok (.aload_n 0, 1) := by decide +kernel
theorem dX8_seenHere_11 : decode cX8_seenHere 11 = .ok (.getfield 7, 3) := by decide +kernel
theorem dX8_seenHere_14 : decode cX8_seenHere 14 = .ok (.iload_n 1, 1) := by decide +kernel
theorem dX8_seenHere_15 : decode cX8_seenHere 15 = .ok (.iload_n 3, 1) := by decide +kernel
theorem dX8_seenHere_16 : decode cX8_seenHere 16 = .ok (.invokestatic 60, 3) := by decide +kernel
theorem dX8_seenHere_19 : decode cX8_seenHere 19 = .ok (.iconst 0, 1) := by decide +kernel
theorem dX8_seenHere_20 : decode cX8_seenHere 20 = .ok (.iadd, 1) := by decide +kernel
theorem dX8_seenHere_21 : decode cX8_seenHere 21 = .ok (.iaload, 1) := by decide +kernel
theorem dX8_seenHere_22 : decode cX8_seenHere 22 = .ok (.iadd, 1) := by decide +kernel
theorem dX8_seenHere_23 : decode cX8_seenHere 23 = .ok (.istore_n 2, 1) := by decide +kernel
theorem dX8_seenHere_24 : decode cX8_seenHere 24 = .ok (.iinc 3 1, 3) := by decide +kernel
theorem dX8_seenHere_27 : decode cX8_seenHere 27 = .ok (.goto (-23), 3) := by decide +kernel
theorem dX8_seenHere_30 : decode cX8_seenHere 30 = .ok (.iload_n 2, 1) := by decide +kernel
theorem dX8_seenHere_31 : decode cX8_seenHere 31 = .ok (.ireturn, 1) := by decide +kernel
theorem dX8_station_0 : decode cX8_station 0 = .ok (.aload_n 0, 1) := by decide +kernel
theorem dX8_station_1 : decode cX8_station 1 = .ok (.iload_n 1, 1) := by decide +kernel
theorem dX8_station_2 : decode cX8_station 2 = .ok (.invokevirtual 129, 3) := by decide +kernel
theorem dX8_station_5 : decode cX8_station 5 = .ok (.ifCond .eq 6, 3) := by decide +kernel
theorem dX8_station_8 : decode cX8_station 8 = .ok (.ldc 40, 2) := by decide +kernel
theorem dX8_station_10 : decode cX8_station 10 = .ok (.ireturn, 1) := by decide +kernel
theorem dX8_station_11 : decode cX8_station 11 = .ok (.iload_n 2, 1) := by decide +kernel
theorem dX8_station_12 : decode cX8_station 12 = .ok (.iconst 0, 1) := by decide +kernel
theorem dX8_station_13 : decode cX8_station 13 = .ok (.iconst 2, 1) := by decide +kernel
theorem dX8_station_14 : decode cX8_station 14 = .ok (.invokestatic 45, 3) := by decide +kernel
theorem dX8_station_17 : decode cX8_station 17 = .ok (.ifCond .eq 19, 3) := by decide +kernel
theorem dX8_station_20 : decode cX8_station 20 = .ok (.aload_n 0, 1) := by decide +kernel
theorem dX8_station_21 : decode cX8_station 21 = .ok (.getfield 7, 3) := by decide +kernel
theorem dX8_station_24 : decode cX8_station 24 = .ok (.bipush 69, 2) := by decide +kernel
theorem dX8_station_26 : decode cX8_station 26 = .ok (.iconst 3, 1) := by decide +kernel
theorem dX8_station_27 : decode cX8_station 27 = .ok (.iload_n 1, 1) := by decide +kernel
theorem dX8_station_28 : decode cX8_station 28 = .ok (.imul, 1) := by decide +kernel
theorem dX8_station_29 : decode cX8_station 29 = .ok (.iadd, 1) := by decide +kernel
theorem dX8_station_30 : decode cX8_station 30 = .ok (.iload_n 2, 1) := by decide +kernel
theorem dX8_station_31 : decode cX8_station 31 = .ok (.iadd, 1) := by decide +kernel
theorem dX8_station_32 : decode cX8_station 32 = .ok (.iaload, 1) := by decide +kernel
theorem dX8_station_33 : decode cX8_station 33 = .ok (.goto 18, 3) := by decide +kernel
theorem dX8_station_36 : decode cX8_station 36 = .ok (.iload_n 2, 1) := by decide +kernel
theorem dX8_station_37 : decode cX8_station 37 = .ok (.iconst 3, 1) := by decide +kernel
theorem dX8_station_38 : decode cX8_station 38 = .ok (.if_icmp .ne 11, 3) := by decide +kernel
theorem dX8_station_41 : decode cX8_station 41 = .ok (.aload_n 0, 1) := by decide +kernel
theorem dX8_station_42 : decode cX8_station 42 = .ok (.iload_n 1, 1) := by decide +kernel
theorem dX8_station_43 : decode cX8_station 43 = .ok (.invokevirtual 209, 3) := by decide +kernel
theorem dX8_station_46 : decode cX8_station 46 = .ok (.goto 5, 3) := by decide +kernel
theorem dX8_station_49 : decode cX8_station 49 = .ok (.ldc 70, 2) := by decide +kernel
theorem dX8_station_51 : decode cX8_station 51 = .ok (.ireturn, 1) := by decide +kernel
theorem dX8_observation_0 : decode cX8_observation 0 = .ok (.aload_n 0, 1) := by decide +kernel
theorem dX8_observation_1 : decode cX8_observation 1 = .ok (.iload_n 1, 1) := by decide +kernel
theorem dX8_observation_2 : decode cX8_observation 2 = .ok (.invokevirtual 129, 3) := by decide +kernel
theorem dX8_observation_5 : decode cX8_observation 5 = .ok (.ifCond .ne 10, 3) := by decide +kernel
theorem dX8_observation_8 : decode cX8_observation 8 = .ok (.iload_n 2, 1) := by decide +kernel
theorem dX8_observation_9 : decode cX8_observation 9 = .ok (.invokestatic 66, 3) := by decide +kernel
theorem dX8_observation_12 : decode cX8_observation 12 = .ok (.ifCond .eq 6, 3) := by decide +kernel
theorem dX8_observation_15 : decode cX8_observation 15 = .ok (.ldc 40, 2) := by decide +kernel
theorem dX8_observation_17 : decode cX8_observation 17 = .ok (.ireturn, 1) := by decide +kernel
theorem dX8_observation_18 : decode cX8_observation 18 = .ok (.iload_n 3, 1) := by decide +kernel
theorem dX8_observation_19 : decode cX8_observation 19 = .ok (.iconst 0, 1) := by decide +kernel
theorem dX8_observation_20 : decode cX8_observation 20 = .ok (.iconst 4, 1) := by decide +kernel
theorem dX8_observation_21 : decode cX8_observation 21 = .ok (.invokestatic 45, 3) := by decide +kernel
theorem dX8_observation_24 : decode cX8_observation 24 = .ok (.ifCond .ne 6, 3) := by decide +kernel
theorem dX8_observation_27 : decode cX8_observation 27 = .ok (.ldc 70, 2) := by decide +kernel
theorem dX8_observation_29 : decode cX8_observation 29 = .ok (.ireturn, 1) := by decide +kernel
theorem dX8_observation_30 : decode cX8_observation 30 = .ok (.aload_n 0, 1) := by decide +kernel
theorem dX8_observation_31 : decode cX8_observation 31 = .ok (.getfield 7, 3) := by decide +kernel
theorem dX8_observation_34 : decode cX8_observation 34 = .ok (.iload_n 1, 1) := by decide +kernel
theorem dX8_observation_35 : decode cX8_observation 35 = .ok (.iload_n 2, 1) := by decide +kernel
theorem dX8_observation_36 : decode cX8_observation 36 = .ok (.invokestatic 60, 3) := by decide +kernel
theorem dX8_observation_39 : decode cX8_observation 39 = .ok (.iconst 0, 1) := by decide +kernel
theorem dX8_observation_40 : decode cX8_observation 40 = .ok (.iadd, 1) := by decide +kernel
theorem dX8_observation_41 : decode cX8_observation 41 = .ok (.iaload, 1) := by decide +kernel
theorem dX8_observation_42 : decode cX8_observation 42 = .ok (.ifCond .ne 8, 3) := by decide +kernel
theorem dX8_observation_45 : decode cX8_observation 45 = .ok (.ldc 44, 2) := by decide +kernel
theorem dX8_observation_47 : decode cX8_observation 47 = .ok (.goto 17, 3) := by decide +kernel
theorem dX8_observation_50 : decode cX8_observation 50 = .ok (.aload_n 0, 1) := by decide +kernel
theorem dX8_observation_51 : decode cX8_observation 51 = .ok (.getfield 7, 3) := by decide +kernel
theorem dX8_observation_54 : decode cX8_observation 54 = .ok (.iload_n 1, 1) := by decide +kernel
theorem dX8_observation_55 : decode cX8_observation 55 = .ok (.iload_n 2, 1) := by decide +kernel
theorem dX8_observation_56 : decode cX8_observation 56 = .ok (.invokestatic 60, 3) := by decide +kernel
theorem dX8_observation_59 : decode cX8_observation 59 = .ok (.iconst 1, 1) := by decide +kernel
theorem dX8_observation_60 : decode cX8_observation 60 = .ok (.iadd, 1) := by decide +kernel
theorem dX8_observation_61 : decode cX8_observation 61 = .ok (.iload_n 3, 1) := by decide +kernel
theorem dX8_observation_62 : decode cX8_observation 62 = .ok (.iadd, 1) := by decide +kernel
theorem dX8_observation_63 : decode cX8_observation 63 = .ok (.iaload, 1) := by decide +kernel
theorem dX8_observation_64 : decode cX8_observation 64 = .ok (.ireturn, 1) := by decide +kernel
theorem dX8_count_0 : decode cX8_count 0 = .ok (.iconst 0, 1) := by decide +kernel
theorem dX8_count_1 : decode cX8_count 1 = .ok (.istore_n 2, 1) := by decide +kernel
theorem dX8_count_2 : decode cX8_count 2 = .ok (.iconst 0, 1) := by decide +kernel
theorem dX8_count_3 : decode cX8_count 3 = .ok (.istore_n 3, 1) := by decide +kernel
theorem dX8_count_4 : decode cX8_count 4 = .ok (.iconst 0, 1) := by decide +kernel
theorem dX8_count_5 : decode cX8_count 5 = .ok (.istore 4, 2) := by decide +kernel
theorem dX8_count_7 : decode cX8_count 7 = .ok (.iload 4, 2) := by decide +kernel
theorem dX8_count_9 : decode cX8_count 9 = .ok (.aload_n 0, 1) := by decide +kernel
theorem dX8_count_10 : decode cX8_count 10 = .ok (.getfield 7, 3) := by decide +kernel
theorem dX8_count_13 : decode cX8_count 13 = .ok (.iconst 4, 1) := by decide +kernel
theorem dX8_count_14 : decode cX8_count 14 = .ok (.iaload, 1) := by decide +kernel
theorem dX8_count_15 : decode cX8_count 15 = .ok (.if_icmp .ge 43, 3) := by decide +kernel
theorem dX8_count_18 : decode cX8_count 18 = .ok (.iload_n 2, 1) := by decide +kernel
theorem dX8_count_19 : decode cX8_count 19 = .ok (.aload_n 0, 1) := by decide +kernel
theorem dX8_count_20 : decode cX8_count 20 = .ok (.getfield 7, 3) := by decide +kernel
theorem dX8_count_23 : decode cX8_count 23 = .ok (.bipush 69, 2) := by decide +kernel
theorem dX8_count_25 : decode cX8_count 25 = .ok (.iconst 3, 1) := by decide +kernel
theorem dX8_count_26 : decode cX8_count 26 = .ok (.iload 4, 2) := by decide +kernel
theorem dX8_count_28 : decode cX8_count 28 = .ok (.imul, 1) := by decide +kernel
theorem dX8_count_29 : decode cX8_count 29 = .ok (.iadd, 1) := by decide +kernel
theorem dX8_count_30 : decode cX8_count 30 = .ok (.iconst 2, 1) := by decide +kernel
theorem dX8_count_31 : decode cX8_count 31 = .ok (.iadd, 1) := by decide +kernel
theorem dX8_count_32 : decode cX8_count 32 = .ok (.iaload, 1) := by decide +kernel
theorem dX8_count_33 : decode cX8_count 33 = .ok (.ifCond .lt 7, 3) := by decide +kernel
theorem dX8_count_36 : decode cX8_count 36 = .ok (.iconst 1, 1) := by decide +kernel
theorem dX8_count_37 : decode cX8_count 37 = .ok (.goto 4, 3) := by decide +kernel
theorem dX8_count_40 : decode cX8_count 40 = .ok (.iconst 0, 1) := by decide +kernel
theorem dX8_count_41 : decode cX8_count 41 = .ok (.iadd, 1) := by decide +kernel
theorem dX8_count_42 : decode cX8_count 42 = .ok (.istore_n 2, 1) := by decide +kernel
theorem dX8_count_43 : decode cX8_count 43 = .ok (.iload_n 3, 1) := by decide +kernel
theorem dX8_count_44 : decode cX8_count 44 = .ok (.aload_n 0, 1) := by decide +kernel
theorem dX8_count_45 : decode cX8_count 45 = .ok (.iload 4, 2) := by decide +kernel
theorem dX8_count_47 : decode cX8_count 47 = .ok (.invokevirtual 209, 3) := by decide +kernel
theorem dX8_count_50 : decode cX8_count 50 = .ok (.iadd, 1) := by decide +kernel
theorem dX8_count_51 : decode cX8_count 51 = .ok (.istore_n 3, 1) := by decide +kernel
theorem dX8_count_52 : decode cX8_count 52 = .ok (.iinc 4 1, 3) := by decide +kernel
theorem dX8_count_55 : decode cX8_count 55 = .ok (.goto (-48), 3) := by decide +kernel
theorem dX8_count_58 : decode cX8_count 58 = .ok (.iload_n 1, 1) := by decide +kernel
theorem dX8_count_59 : decode cX8_count 59 = .ok (.tableswitch 116 0 10 #[57, 64, 69, 76, 83, 85, 87, 94, 101, 106, 111], 57) := by decide +kernel
theorem dX8_count_116 : decode cX8_count 116 = .ok (.aload_n 0, 1) := by decide +kernel
theorem dX8_count_117 : decode cX8_count 117 = .ok (.getfield 7, 3) := by decide +kernel
theorem dX8_count_120 : decode cX8_count 120 = .ok (.iconst 0, 1) := by decide +kernel
theorem dX8_count_121 : decode cX8_count 121 = .ok (.iaload, 1) := by decide +kernel
theorem dX8_count_122 : decode cX8_count 122 = .ok (.ireturn, 1) := by decide +kernel
theorem dX8_count_123 : decode cX8_count 123 = .ok (.aload_n 0, 1) := by decide +kernel
theorem dX8_count_124 : decode cX8_count 124 = .ok (.invokevirtual 75, 3) := by decide +kernel
theorem dX8_count_127 : decode cX8_count 127 = .ok (.ireturn, 1) := by decide +kernel
theorem dX8_count_128 : decode cX8_count 128 = .ok (.aload_n 0, 1) := by decide +kernel
theorem dX8_count_129 : decode cX8_count 129 = .ok (.getfield 7, 3) := by decide +kernel
theorem dX8_count_132 : decode cX8_count 132 = .ok (.iconst 3, 1) := by decide +kernel
theorem dX8_count_133 : decode cX8_count 133 = .ok (.iaload, 1) := by decide +kernel
theorem dX8_count_134 : decode cX8_count 134 = .ok (.ireturn, 1) := by decide +kernel
theorem dX8_count_135 : decode cX8_count 135 = .ok (.aload_n 0, 1) := by decide +kernel
theorem dX8_count_136 : decode cX8_count 136 = .ok (.getfield 7, 3) := by decide +kernel
theorem dX8_count_139 : decode cX8_count 139 = .ok (.iconst 4, 1) := by decide +kernel
theorem dX8_count_140 : decode cX8_count 140 = .ok (.iaload, 1) := by decide +kernel
theorem dX8_count_141 : decode cX8_count 141 = .ok (.ireturn, 1) := by decide +kernel
theorem dX8_count_142 : decode cX8_count 142 = .ok (.iload_n 2, 1) := by decide +kernel
theorem dX8_count_143 : decode cX8_count 143 = .ok (.ireturn, 1) := by decide +kernel
theorem dX8_count_144 : decode cX8_count 144 = .ok (.iload_n 3, 1) := by decide +kernel
theorem dX8_count_145 : decode cX8_count 145 = .ok (.ireturn, 1) := by decide +kernel
theorem dX8_count_146 : decode cX8_count 146 = .ok (.aload_n 0, 1) := by decide +kernel
theorem dX8_count_147 : decode cX8_count 147 = .ok (.getfield 7, 3) := by decide +kernel
theorem dX8_count_150 : decode cX8_count 150 = .ok (.iconst 1, 1) := by decide +kernel
theorem dX8_count_151 : decode cX8_count 151 = .ok (.iaload, 1) := by decide +kernel
theorem dX8_count_152 : decode cX8_count 152 = .ok (.ireturn, 1) := by decide +kernel
theorem dX8_count_153 : decode cX8_count 153 = .ok (.aload_n 0, 1) := by decide +kernel
theorem dX8_count_154 : decode cX8_count 154 = .ok (.getfield 7, 3) := by decide +kernel
theorem dX8_count_157 : decode cX8_count 157 = .ok (.iconst 2, 1) := by decide +kernel
theorem dX8_count_158 : decode cX8_count 158 = .ok (.iaload, 1) := by decide +kernel
theorem dX8_count_159 : decode cX8_count 159 = .ok (.ireturn, 1) := by decide +kernel
theorem dX8_count_160 : decode cX8_count 160 = .ok (.aload_n 0, 1) := by decide +kernel
theorem dX8_count_161 : decode cX8_count 161 = .ok (.getfield 35, 3) := by decide +kernel
theorem dX8_count_164 : decode cX8_count 164 = .ok (.ireturn, 1) := by decide +kernel
theorem dX8_count_165 : decode cX8_count 165 = .ok (.aload_n 0, 1) := by decide +kernel
theorem dX8_count_166 : decode cX8_count 166 = .ok (.getfield 41, 3) := by decide +kernel
theorem dX8_count_169 : decode cX8_count 169 = .ok (.ireturn, 1) := by decide +kernel
theorem dX8_count_170 : decode cX8_count 170 = .ok (.aload_n 0, 1) := by decide +kernel
theorem dX8_count_171 : decode cX8_count 171 = .ok (.getfield 171, 3) := by decide +kernel
theorem dX8_count_174 : decode cX8_count 174 = .ok (.ireturn, 1) := by decide +kernel
theorem dX8_count_175 : decode cX8_count 175 = .ok (.ldc 70, 2) := by decide +kernel
theorem dX8_count_177 : decode cX8_count 177 = .ok (.ireturn, 1) := by decide +kernel
