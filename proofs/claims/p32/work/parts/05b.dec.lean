theorem dX7_init_0 : decode cX7_init 0 = .ok (.aload_n 0, 1) := by decide +kernel
theorem dX7_init_1 : decode cX7_init 1 = .ok (.invokespecial 3, 3) := by decide +kernel
theorem dX7_init_4 : decode cX7_init 4 = .ok (.aload_n 0, 1) := by decide +kernel
theorem dX7_init_5 : decode cX7_init 5 = .ok (.new 9, 3) := by decide +kernel
theorem dX7_init_8 : decode cX7_init 8 = .ok (.dup, 1) := by decide +kernel
theorem dX7_init_9 : decode cX7_init 9 = .ok (.invokespecial 11, 3) := by decide +kernel
theorem dX7_init_12 : decode cX7_init 12 = .ok (.putfield 12, 3) := by decide +kernel
theorem dX7_init_15 : decode cX7_init 15 = .ok (.aload_n 0, 1) := by decide +kernel
theorem dX7_init_16 : decode cX7_init 16 = .ok (.iconst 5, 1) := by decide +kernel
theorem dX7_init_17 : decode cX7_init 17 = .ok (.anewarray 9, 3) := by decide +kernel
theorem dX7_init_20 : decode cX7_init 20 = .ok (.putfield 16, 3) := by decide +kernel
theorem dX7_init_23 : decode cX7_init 23 = .ok (.iconst 0, 1) := by decide +kernel
theorem dX7_init_24 : decode cX7_init 24 = .ok (.istore_n 1, 1) := by decide +kernel
theorem dX7_init_25 : decode cX7_init 25 = .ok (.iload_n 1, 1) := by decide +kernel
theorem dX7_init_26 : decode cX7_init 26 = .ok (.iconst 5, 1) := by decide +kernel
theorem dX7_init_27 : decode cX7_init 27 = .ok (.if_icmp .ge 22, 3) := by decide +kernel
theorem dX7_init_30 : decode cX7_init 30 = .ok (.aload_n 0, 1) := by decide +kernel
theorem dX7_init_31 : decode cX7_init 31 = .ok (.getfield 16, 3) := by decide +kernel
theorem dX7_init_34 : decode cX7_init 34 = .ok (.iload_n 1, 1) := by decide +kernel
theorem dX7_init_35 : decode cX7_init 35 = .ok (.new 9, 3) := by decide +kernel
theorem dX7_init_38 : decode cX7_init 38 = .ok (.dup, 1) := by decide +kernel
theorem dX7_init_39 : decode cX7_init 39 = .ok (.invokespecial 11, 3) := by decide +kernel
theorem dX7_init_42 : decode cX7_init 42 = .ok (.aastore, 1) := by decide +kernel
theorem dX7_init_43 : decode cX7_init 43 = .ok (.iinc 1 1, 3) := by decide +kernel
theorem dX7_init_46 : decode cX7_init 46 = .ok (.goto (-21), 3) := by decide +kernel
theorem dX7_init_49 : decode cX7_init 49 = .ok (.aload_n 0, 1) := by decide +kernel
theorem dX7_init_50 : decode cX7_init 50 = .ok (.iconst 2, 1) := by decide +kernel
theorem dX7_init_51 : decode cX7_init 51 = .ok (.anewarray 9, 3) := by decide +kernel
theorem dX7_init_54 : decode cX7_init 54 = .ok (.putfield 20, 3) := by decide +kernel
theorem dX7_init_57 : decode cX7_init 57 = .ok (.iconst 0, 1) := by decide +kernel
theorem dX7_init_58 : decode cX7_init 58 = .ok (.istore_n 1, 1) := by decide +kernel
theorem dX7_init_59 : decode cX7_init 59 = .ok (.iload_n 1, 1) := by decide +kernel
theorem dX7_init_60 : decode cX7_init 60 = .ok (.iconst 2, 1) := by decide +kernel
theorem dX7_init_61 : decode cX7_init 61 = .ok (.if_icmp .ge 22, 3) := by decide +kernel
theorem dX7_init_64 : decode cX7_init 64 = .ok (.aload_n 0, 1) := by decide +kernel
theorem dX7_init_65 : decode cX7_init 65 = .ok (.getfield 20, 3) := by decide +kernel
theorem dX7_init_68 : decode cX7_init 68 = .ok (.iload_n 1, 1) := by decide +kernel
theorem dX7_init_69 : decode cX7_init 69 = .ok (.new 9, 3) := by decide +kernel
theorem dX7_init_72 : decode cX7_init 72 = .ok (.dup, 1) := by decide +kernel
theorem dX7_init_73 : decode cX7_init 73 = .ok (.invokespecial 11, 3) := by decide +kernel
theorem dX7_init_76 : decode cX7_init 76 = .ok (.aastore, 1) := by decide +kernel
theorem dX7_init_77 : decode cX7_init 77 = .ok (.iinc 1 1, 3) := by decide +kernel
theorem dX7_init_80 : decode cX7_init 80 = .ok (.goto (-21), 3) := by decide +kernel
theorem dX7_init_83 : decode cX7_init 83 = .ok (.aload_n 0, 1) := by decide +kernel
theorem dX7_init_84 : decode cX7_init 84 = .ok (.iconst 2, 1) := by decide +kernel
theorem dX7_init_85 : decode cX7_init 85 = .ok (.newarray .boolean, 2) := by decide +kernel
theorem dX7_init_87 : decode cX7_init 87 = .ok (.putfield 23, 3) := by decide +kernel
theorem dX7_init_90 : decode cX7_init 90 = .ok (.aload_n 0, 1) := by decide +kernel
theorem dX7_init_91 : decode cX7_init 91 = .ok (.new 27, 3) := by decide +kernel
theorem dX7_init_94 : decode cX7_init 94 = .ok (.dup, 1) := by decide +kernel
theorem dX7_init_95 : decode cX7_init 95 = .ok (.invokespecial 29, 3) := by decide +kernel
theorem dX7_init_98 : decode cX7_init 98 = .ok (.putfield 30, 3) := by decide +kernel
theorem dX7_init_101 : decode cX7_init 101 = .ok (.aload_n 0, 1) := by decide +kernel
theorem dX7_init_102 : decode cX7_init 102 = .ok (.iconst 0, 1) := by decide +kernel
theorem dX7_init_103 : decode cX7_init 103 = .ok (.putfield 34, 3) := by decide +kernel
theorem dX7_init_106 : decode cX7_init 106 = .ok (.return_, 1) := by decide +kernel
theorem dX7_hang_0 : decode cX7_hang 0 = .ok (.iload_n 1, 1) := by decide +kernel
theorem dX7_hang_1 : decode cX7_hang 1 = .ok (.invokestatic 38, 3) := by decide +kernel
theorem dX7_hang_4 : decode cX7_hang 4 = .ok (.ifCond .ne 6, 3) := by decide +kernel
theorem dX7_hang_7 : decode cX7_hang 7 = .ok (.ldc 42, 2) := by decide +kernel
theorem dX7_hang_9 : decode cX7_hang 9 = .ok (.ireturn, 1) := by decide +kernel
theorem dX7_hang_10 : decode cX7_hang 10 = .ok (.iload_n 2, 1) := by decide +kernel
theorem dX7_hang_11 : decode cX7_hang 11 = .ok (.sipush (-5000), 3) := by decide +kernel
theorem dX7_hang_14 : decode cX7_hang 14 = .ok (.sipush 5000, 3) := by decide +kernel
theorem dX7_hang_17 : decode cX7_hang 17 = .ok (.invokestatic 43, 3) := by decide +kernel
theorem dX7_hang_20 : decode cX7_hang 20 = .ok (.ifCond .eq 41, 3) := by decide +kernel
theorem dX7_hang_23 : decode cX7_hang 23 = .ok (.iload_n 3, 1) := by decide +kernel
theorem dX7_hang_24 : decode cX7_hang 24 = .ok (.sipush (-5000), 3) := by decide +kernel
theorem dX7_hang_27 : decode cX7_hang 27 = .ok (.sipush 5000, 3) := by decide +kernel
theorem dX7_hang_30 : decode cX7_hang 30 = .ok (.invokestatic 43, 3) := by decide +kernel
theorem dX7_hang_33 : decode cX7_hang 33 = .ok (.ifCond .eq 28, 3) := by decide +kernel
theorem dX7_hang_36 : decode cX7_hang 36 = .ok (.iload 4, 2) := by decide +kernel
theorem dX7_hang_38 : decode cX7_hang 38 = .ok (.iconst 1, 1) := by decide +kernel
theorem dX7_hang_39 : decode cX7_hang 39 = .ok (.sipush 200, 3) := by decide +kernel
theorem dX7_hang_42 : decode cX7_hang 42 = .ok (.invokestatic 43, 3) := by decide +kernel
theorem dX7_hang_45 : decode cX7_hang 45 = .ok (.ifCond .eq 16, 3) := by decide +kernel
theorem dX7_hang_48 : decode cX7_hang 48 = .ok (.iload 5, 2) := by decide +kernel
theorem dX7_hang_50 : decode cX7_hang 50 = .ok (.bipush 10, 2) := by decide +kernel
theorem dX7_hang_52 : decode cX7_hang 52 = .ok (.sipush 800, 3) := by decide +kernel
theorem dX7_hang_55 : decode cX7_hang 55 = .ok (.invokestatic 43, 3) := by decide +kernel
theorem dX7_hang_58 : decode cX7_hang 58 = .ok (.ifCond .ne 6, 3) := by decide +kernel
theorem dX7_hang_61 : decode cX7_hang 61 = .ok (.ldc 47, 2) := by decide +kernel
theorem dX7_hang_63 : decode cX7_hang 63 = .ok (.ireturn, 1) := by decide +kernel
theorem dX7_hang_64 : decode cX7_hang 64 = .ok (.aload_n 0, 1) := by decide +kernel
theorem dX7_hang_65 : decode cX7_hang 65 = .ok (.invokevirtual 48, 3) := by decide +kernel
theorem dX7_hang_68 : decode cX7_hang 68 = .ok (.aload_n 0, 1) := by decide +kernel
theorem dX7_hang_69 : decode cX7_hang 69 = .ok (.getfield 12, 3) := by decide +kernel
theorem dX7_hang_72 : decode cX7_hang 72 = .ok (.getfield 51, 3) := by decide +kernel
theorem dX7_hang_75 : decode cX7_hang 75 = .ok (.iload_n 1, 1) := by decide +kernel
theorem dX7_hang_76 : decode cX7_hang 76 = .ok (.aaload, 1) := by decide +kernel
theorem dX7_hang_77 : decode cX7_hang 77 = .ok (.iload_n 2, 1) := by decide +kernel
theorem dX7_hang_78 : decode cX7_hang 78 = .ok (.iload_n 3, 1) := by decide +kernel
theorem dX7_hang_79 : decode cX7_hang 79 = .ok (.iload 4, 2) := by decide +kernel
theorem dX7_hang_81 : decode cX7_hang 81 = .ok (.iload 5, 2) := by decide +kernel
theorem dX7_hang_83 : decode cX7_hang 83 = .ok (.invokevirtual 55, 3) := by decide +kernel
theorem dX7_hang_86 : decode cX7_hang 86 = .ok (.aload_n 0, 1) := by decide +kernel
theorem dX7_hang_87 : decode cX7_hang 87 = .ok (.getfield 12, 3) := by decide +kernel
theorem dX7_hang_90 : decode cX7_hang 90 = .ok (.iload_n 1, 1) := by decide +kernel
theorem dX7_hang_91 : decode cX7_hang 91 = .ok (.invokevirtual 61, 3) := by decide +kernel
theorem dX7_hang_94 : decode cX7_hang 94 = .ok (.pop, 1) := by decide +kernel
theorem dX7_hang_95 : decode cX7_hang 95 = .ok (.aload_n 0, 1) := by decide +kernel
theorem dX7_hang_96 : decode cX7_hang 96 = .ok (.getfield 12, 3) := by decide +kernel
theorem dX7_hang_99 : decode cX7_hang 99 = .ok (.invokevirtual 65, 3) := by decide +kernel
theorem dX7_hang_102 : decode cX7_hang 102 = .ok (.ireturn, 1) := by decide +kernel
theorem dX7_lift_0 : decode cX7_lift 0 = .ok (.iload_n 1, 1) := by decide +kernel
theorem dX7_lift_1 : decode cX7_lift 1 = .ok (.invokestatic 38, 3) := by decide +kernel
theorem dX7_lift_4 : decode cX7_lift 4 = .ok (.ifCond .ne 6, 3) := by decide +kernel
theorem dX7_lift_7 : decode cX7_lift 7 = .ok (.ldc 42, 2) := by decide +kernel
theorem dX7_lift_9 : decode cX7_lift 9 = .ok (.ireturn, 1) := by decide +kernel
theorem dX7_lift_10 : decode cX7_lift 10 = .ok (.aload_n 0, 1) := by decide +kernel
theorem dX7_lift_11 : decode cX7_lift 11 = .ok (.iload_n 1, 1) := by decide +kernel
theorem dX7_lift_12 : decode cX7_lift 12 = .ok (.invokevirtual 69, 3) := by decide +kernel
theorem dX7_lift_15 : decode cX7_lift 15 = .ok (.ifCond .ne 9, 3) := by decide +kernel
theorem dX7_lift_18 : decode cX7_lift 18 = .ok (.aload_n 0, 1) := by decide +kernel
theorem dX7_lift_19 : decode cX7_lift 19 = .ok (.iconst 1, 1) := by decide +kernel
theorem dX7_lift_20 : decode cX7_lift 20 = .ok (.invokevirtual 72, 3) := by decide +kernel
theorem dX7_lift_23 : decode cX7_lift 23 = .ok (.ireturn, 1) := by decide +kernel
theorem dX7_lift_24 : decode cX7_lift 24 = .ok (.aload_n 0, 1) := by decide +kernel
theorem dX7_lift_25 : decode cX7_lift 25 = .ok (.invokevirtual 48, 3) := by decide +kernel
theorem dX7_lift_28 : decode cX7_lift 28 = .ok (.aload_n 0, 1) := by decide +kernel
theorem dX7_lift_29 : decode cX7_lift 29 = .ok (.getfield 12, 3) := by decide +kernel
theorem dX7_lift_32 : decode cX7_lift 32 = .ok (.getfield 51, 3) := by decide +kernel
theorem dX7_lift_35 : decode cX7_lift 35 = .ok (.iload_n 1, 1) := by decide +kernel
theorem dX7_lift_36 : decode cX7_lift 36 = .ok (.aaload, 1) := by decide +kernel
theorem dX7_lift_37 : decode cX7_lift 37 = .ok (.iconst 0, 1) := by decide +kernel
theorem dX7_lift_38 : decode cX7_lift 38 = .ok (.putfield 75, 3) := by decide +kernel
theorem dX7_lift_41 : decode cX7_lift 41 = .ok (.aload_n 0, 1) := by decide +kernel
theorem dX7_lift_42 : decode cX7_lift 42 = .ok (.getfield 12, 3) := by decide +kernel
theorem dX7_lift_45 : decode cX7_lift 45 = .ok (.iload_n 1, 1) := by decide +kernel
theorem dX7_lift_46 : decode cX7_lift 46 = .ok (.invokevirtual 61, 3) := by decide +kernel
theorem dX7_lift_49 : decode cX7_lift 49 = .ok (.pop, 1) := by decide +kernel
theorem dX7_lift_50 : decode cX7_lift 50 = .ok (.aload_n 0, 1) := by decide +kernel
theorem dX7_lift_51 : decode cX7_lift 51 = .ok (.getfield 12, 3) := by decide +kernel
theorem dX7_lift_54 : decode cX7_lift 54 = .ok (.invokevirtual 65, 3) := by decide +kernel
theorem dX7_lift_57 : decode cX7_lift 57 = .ok (.ireturn, 1) := by decide +kernel
theorem dX7_setClamp_0 : decode cX7_setClamp 0 = .ok (.iload_n 1, 1) := by decide +kernel
theorem dX7_setClamp_1 : decode cX7_setClamp 1 = .ok (.invokestatic 38, 3) := by decide +kernel
theorem dX7_setClamp_4 : decode cX7_setClamp 4 = .ok (.ifCond .ne 6, 3) := by decide +kernel
theorem dX7_setClamp_7 : decode cX7_setClamp 7 = .ok (.ldc 42, 2) := by decide +kernel
theorem dX7_setClamp_9 : decode cX7_setClamp 9 = .ok (.ireturn, 1) := by decide +kernel
theorem dX7_setClamp_10 : decode cX7_setClamp 10 = .ok (.iload_n 2, 1) := by decide +kernel
theorem dX7_setClamp_11 : decode cX7_setClamp 11 = .ok (.bipush (-20), 2) := by decide +kernel
theorem dX7_setClamp_13 : decode cX7_setClamp 13 = .ok (.bipush 20, 2) := by decide +kernel
theorem dX7_setClamp_15 : decode cX7_setClamp 15 = .ok (.invokestatic 43, 3) := by decide +kernel
theorem dX7_setClamp_18 : decode cX7_setClamp 18 = .ok (.ifCond .eq 14, 3) := by decide +kernel
theorem dX7_setClamp_21 : decode cX7_setClamp 21 = .ok (.iload_n 3, 1) := by decide +kernel
theorem dX7_setClamp_22 : decode cX7_setClamp 22 = .ok (.bipush (-20), 2) := by decide +kernel
theorem dX7_setClamp_24 : decode cX7_setClamp 24 = .ok (.bipush 20, 2) := by decide +kernel
theorem dX7_setClamp_26 : decode cX7_setClamp 26 = .ok (.invokestatic 43, 3) := by decide +kernel
theorem dX7_setClamp_29 : decode cX7_setClamp 29 = .ok (.ifCond .ne 6, 3) := by decide +kernel
theorem dX7_setClamp_32 : decode cX7_setClamp 32 = .ok (.ldc 47, 2) := by decide +kernel
theorem dX7_setClamp_34 : decode cX7_setClamp 34 = .ok (.ireturn, 1) := by decide +kernel
theorem dX7_setClamp_35 : decode cX7_setClamp 35 = .ok (.aload_n 0, 1) := by decide +kernel
theorem dX7_setClamp_36 : decode cX7_setClamp 36 = .ok (.iload_n 1, 1) := by decide +kernel
theorem dX7_setClamp_37 : decode cX7_setClamp 37 = .ok (.invokevirtual 69, 3) := by decide +kernel
theorem dX7_setClamp_40 : decode cX7_setClamp 40 = .ok (.ifCond .ne 9, 3) := by decide +kernel
theorem dX7_setClamp_43 : decode cX7_setClamp 43 = .ok (.aload_n 0, 1) := by decide +kernel
theorem dX7_setClamp_44 : decode cX7_setClamp 44 = .ok (.iconst 1, 1) := by decide +kernel
theorem dX7_setClamp_45 : decode cX7_setClamp 45 = .ok (.invokevirtual 72, 3) := by decide +kernel
theorem dX7_setClamp_48 : decode cX7_setClamp 48 = .ok (.ireturn, 1) := by decide +kernel
theorem dX7_setClamp_49 : decode cX7_setClamp 49 = .ok (.aload_n 0, 1) := by decide +kernel
theorem dX7_setClamp_50 : decode cX7_setClamp 50 = .ok (.invokevirtual 48, 3) := by decide +kernel
theorem dX7_setClamp_53 : decode cX7_setClamp 53 = .ok (.aload_n 0, 1) := by decide +kernel
theorem dX7_setClamp_54 : decode cX7_setClamp 54 = .ok (.getfield 12, 3) := by decide +kernel
theorem dX7_setClamp_57 : decode cX7_setClamp 57 = .ok (.getfield 51, 3) := by decide +kernel
theorem dX7_setClamp_60 : decode cX7_setClamp 60 = .ok (.iload_n 1, 1) := by decide +kernel
theorem dX7_setClamp_61 : decode cX7_setClamp 61 = .ok (.aaload, 1) := by decide +kernel
theorem dX7_setClamp_62 : decode cX7_setClamp 62 = .ok (.astore 4, 2) := by decide +kernel
theorem dX7_setClamp_64 : decode cX7_setClamp 64 = .ok (.aload 4, 2) := by decide +kernel
theorem dX7_setClamp_66 : decode cX7_setClamp 66 = .ok (.getfield 79, 3) := by decide +kernel
theorem dX7_setClamp_69 : decode cX7_setClamp 69 = .ok (.iload_n 2, 1) := by decide +kernel
theorem dX7_setClamp_70 : decode cX7_setClamp 70 = .ok (.if_icmp .ne 12, 3) := by decide +kernel
theorem dX7_setClamp_73 : decode cX7_setClamp 73 = .ok (.aload 4, 2) := by decide +kernel
theorem dX7_setClamp_75 : decode cX7_setClamp 75 = .ok (.getfield 82, 3) := by decide +kernel
theorem dX7_setClamp_78 : decode cX7_setClamp 78 = .ok (.iload_n 3, 1) := by decide +kernel
theorem dX7_setClamp_79 : decode cX7_setClamp 79 = .ok (.if_icmp .eq 24, 3) := by decide +kernel
theorem dX7_setClamp_82 : decode cX7_setClamp 82 = .ok (.aload 4, 2) := by decide +kernel
theorem dX7_setClamp_84 : decode cX7_setClamp 84 = .ok (.iload_n 2, 1) := by decide +kernel
theorem dX7_setClamp_85 : decode cX7_setClamp 85 = .ok (.putfield 79, 3) := by decide +kernel
theorem dX7_setClamp_88 : decode cX7_setClamp 88 = .ok (.aload 4, 2) := by decide +kernel
theorem dX7_setClamp_90 : decode cX7_setClamp 90 = .ok (.iload_n 3, 1) := by decide +kernel
theorem dX7_setClamp_91 : decode cX7_setClamp 91 = .ok (.putfield 82, 3) := by decide +kernel
theorem dX7_setClamp_94 : decode cX7_setClamp 94 = .ok (.aload_n 0, 1) := by decide +kernel
theorem dX7_setClamp_95 : decode cX7_setClamp 95 = .ok (.getfield 12, 3) := by decide +kernel
theorem dX7_setClamp_98 : decode cX7_setClamp 98 = .ok (.iload_n 1, 1) := by decide +kernel
theorem dX7_setClamp_99 : decode cX7_setClamp 99 = .ok (.invokevirtual 61, 3) := by decide +kernel
theorem dX7_setClamp_102 : decode cX7_setClamp 102 = .ok (.pop, 1) := by decide +kernel
theorem dX7_setClamp_103 : decode cX7_setClamp 103 = .ok (.iload_n 2, 1) := by decide +kernel
theorem dX7_setClamp_104 : decode cX7_setClamp 104 = .ok (.invokestatic 85, 3) := by decide +kernel
theorem dX7_setClamp_107 : decode cX7_setClamp 107 = .ok (.iload_n 3, 1) := by decide +kernel
theorem dX7_setClamp_108 : decode cX7_setClamp 108 = .ok (.invokestatic 85, 3) := by decide +kernel
theorem dX7_setClamp_111 : decode cX7_setClamp 111 = .ok (.iadd, 1) := by decide +kernel
theorem dX7_setClamp_112 : decode cX7_setClamp 112 = .ok (.ireturn, 1) := by decide +kernel
theorem dX7_setBucket_0 : decode cX7_setBucket 0 = .ok (.iload_n 1, 1) := by decide +kernel
theorem dX7_setBucket_1 : decode cX7_setBucket 1 = .ok (.invokestatic 38, 3) := by decide +kernel
theorem dX7_setBucket_4 : decode cX7_setBucket 4 = .ok (.ifCond .ne 6, 3) := by decide +kernel
theorem dX7_setBucket_7 : decode cX7_setBucket 7 = .ok (.ldc 42, 2) := by decide +kernel
theorem dX7_setBucket_9 : decode cX7_setBucket 9 = .ok (.ireturn, 1) := by decide +kernel
theorem dX7_setBucket_10 : decode cX7_setBucket 10 = .ok (.iload_n 2, 1) := by decide +kernel
theorem dX7_setBucket_11 : decode cX7_setBucket 11 = .ok (.iconst 0, 1) := by decide +kernel
theorem dX7_setBucket_12 : decode cX7_setBucket 12 = .ok (.iconst 2, 1) := by decide +kernel
theorem dX7_setBucket_13 : decode cX7_setBucket 13 = .ok (.invokestatic 43, 3) := by decide +kernel
theorem dX7_setBucket_16 : decode cX7_setBucket 16 = .ok (.ifCond .ne 6, 3) := by decide +kernel
theorem dX7_setBucket_19 : decode cX7_setBucket 19 = .ok (.ldc 47, 2) := by decide +kernel
theorem dX7_setBucket_21 : decode cX7_setBucket 21 = .ok (.ireturn, 1) := by decide +kernel
theorem dX7_setBucket_22 : decode cX7_setBucket 22 = .ok (.aload_n 0, 1) := by decide +kernel
theorem dX7_setBucket_23 : decode cX7_setBucket 23 = .ok (.iload_n 1, 1) := by decide +kernel
theorem dX7_setBucket_24 : decode cX7_setBucket 24 = .ok (.invokevirtual 69, 3) := by decide +kernel
theorem dX7_setBucket_27 : decode cX7_setBucket 27 = .ok (.ifCond .ne 9, 3) := by decide +kernel
theorem dX7_setBucket_30 : decode cX7_setBucket 30 = .ok (.aload_n 0, 1) := by decide +kernel
theorem dX7_setBucket_31 : decode cX7_setBucket 31 = .ok (.iconst 1, 1) := by decide +kernel
theorem dX7_setBucket_32 : decode cX7_setBucket 32 = .ok (.invokevirtual 72, 3) := by decide +kernel
theorem dX7_setBucket_35 : decode cX7_setBucket 35 = .ok (.ireturn, 1) := by decide +kernel
theorem dX7_setBucket_36 : decode cX7_setBucket 36 = .ok (.aload_n 0, 1) := by decide +kernel
theorem dX7_setBucket_37 : decode cX7_setBucket 37 = .ok (.invokevirtual 48, 3) := by decide +kernel
theorem dX7_setBucket_40 : decode cX7_setBucket 40 = .ok (.aload_n 0, 1) := by decide +kernel
theorem dX7_setBucket_41 : decode cX7_setBucket 41 = .ok (.getfield 12, 3) := by decide +kernel
theorem dX7_setBucket_44 : decode cX7_setBucket 44 = .ok (.getfield 51, 3) := by decide +kernel
theorem dX7_setBucket_47 : decode cX7_setBucket 47 = .ok (.iload_n 1, 1) := by decide +kernel
theorem dX7_setBucket_48 : decode cX7_setBucket 48 = .ok (.aaload, 1) := by decide +kernel
theorem dX7_setBucket_49 : decode cX7_setBucket 49 = .ok (.astore_n 3, 1) := by decide +kernel
theorem dX7_setBucket_50 : decode cX7_setBucket 50 = .ok (.aload_n 3, 1) := by decide +kernel
theorem dX7_setBucket_51 : decode cX7_setBucket 51 = .ok (.getfield 90, 3) := by decide +kernel
theorem dX7_setBucket_54 : decode cX7_setBucket 54 = .ok (.istore 4, 2) := by decide +kernel
theorem dX7_setBucket_56 : decode cX7_setBucket 56 = .ok (.iload 4, 2) := by decide +kernel
theorem dX7_setBucket_58 : decode cX7_setBucket 58 = .ok (.iload_n 2, 1) := by decide +kernel
theorem dX7_setBucket_59 : decode cX7_setBucket 59 = .ok (.if_icmp .eq 17, 3) := by decide +kernel
theorem dX7_setBucket_62 : decode cX7_setBucket 62 = .ok (.aload_n 3, 1) := by decide +kernel
theorem dX7_setBucket_63 : decode cX7_setBucket 63 = .ok (.iload_n 2, 1) := by decide +kernel
theorem dX7_setBucket_64 : decode cX7_setBucket 64 = .ok (.putfield 90, 3) := by decide +kernel
theorem dX7_setBucket_67 : decode cX7_setBucket 67 = .ok (.aload_n 0, 1) := by decide +kernel
theorem dX7_setBucket_68 : decode cX7_setBucket 68 = .ok (.getfield 12, 3) := by decide +kernel
theorem dX7_setBucket_71 : decode cX7_setBucket 71 = .ok (.iload_n 1, 1) := by decide +kernel
theorem dX7_setBucket_72 : decode cX7_setBucket 72 = .ok (.invokevirtual 61, 3) := by decide +kernel
theorem dX7_setBucket_75 : decode cX7_setBucket 75 = .ok (.pop, 1) := by decide +kernel
theorem dX7_setBucket_76 : decode cX7_setBucket 76 = .ok (.iload 4, 2) := by decide +kernel
theorem dX7_setBucket_78 : decode cX7_setBucket 78 = .ok (.ireturn, 1) := by decide +kernel
theorem dX7_push_0 : decode cX7_push 0 = .ok (.iload_n 1, 1) := by decide +kernel
theorem dX7_push_1 : decode cX7_push 1 = .ok (.invokestatic 38, 3) := by decide +kernel
theorem dX7_push_4 : decode cX7_push 4 = .ok (.ifCond .ne 6, 3) := by decide +kernel
theorem dX7_push_7 : decode cX7_push 7 = .ok (.ldc 42, 2) := by decide +kernel
theorem dX7_push_9 : decode cX7_push 9 = .ok (.ireturn, 1) := by decide +kernel
theorem dX7_push_10 : decode cX7_push 10 = .ok (.iload_n 2, 1) := by decide +kernel
theorem dX7_push_11 : decode cX7_push 11 = .ok (.iconst 0, 1) := by decide +kernel
theorem dX7_push_12 : decode cX7_push 12 = .ok (.bipush 7, 2) := by decide +kernel
theorem dX7_push_14 : decode cX7_push 14 = .ok (.invokestatic 43, 3) := by decide +kernel
theorem dX7_push_17 : decode cX7_push 17 = .ok (.ifCond .eq 14, 3) := by decide +kernel
theorem dX7_push_20 : decode cX7_push 20 = .ok (.iload_n 3, 1) := by decide +kernel
theorem dX7_push_21 : decode cX7_push 21 = .ok (.iconst 1, 1) := by decide +kernel
theorem dX7_push_22 : decode cX7_push 22 = .ok (.sipush 500, 3) := by decide +kernel
theorem dX7_push_25 : decode cX7_push 25 = .ok (.invokestatic 43, 3) := by decide +kernel
theorem dX7_push_28 : decode cX7_push 28 = .ok (.ifCond .ne 6, 3) := by decide +kernel
theorem dX7_push_31 : decode cX7_push 31 = .ok (.ldc 47, 2) := by decide +kernel
theorem dX7_push_33 : decode cX7_push 33 = .ok (.ireturn, 1) := by decide +kernel
theorem dX7_push_34 : decode cX7_push 34 = .ok (.aload_n 0, 1) := by decide +kernel
theorem dX7_push_35 : decode cX7_push 35 = .ok (.iload_n 1, 1) := by decide +kernel
theorem dX7_push_36 : decode cX7_push 36 = .ok (.invokevirtual 69, 3) := by decide +kernel
theorem dX7_push_39 : decode cX7_push 39 = .ok (.ifCond .ne 9, 3) := by decide +kernel
theorem dX7_push_42 : decode cX7_push 42 = .ok (.aload_n 0, 1) := by decide +kernel
theorem dX7_push_43 : decode cX7_push 43 = .ok (.iconst 1, 1) := by decide +kernel
theorem dX7_push_44 : decode cX7_push 44 = .ok (.invokevirtual 72, 3) := by decide +kernel
theorem dX7_push_47 : decode cX7_push 47 = .ok (.ireturn, 1) := by decide +kernel
theorem dX7_push_48 : decode cX7_push 48 = .ok (.aload_n 0, 1) := by decide +kernel
theorem dX7_push_49 : decode cX7_push 49 = .ok (.invokevirtual 48, 3) := by decide +kernel
theorem dX7_push_52 : decode cX7_push 52 = .ok (.aload_n 0, 1) := by decide +kernel
theorem dX7_push_53 : decode cX7_push 53 = .ok (.getfield 12, 3) := by decide +kernel
theorem dX7_push_56 : decode cX7_push 56 = .ok (.getfield 51, 3) := by decide +kernel
theorem dX7_push_59 : decode cX7_push 59 = .ok (.iload_n 1, 1) := by decide +kernel
theorem dX7_push_60 : decode cX7_push 60 = .ok (.aaload, 1) := by decide +kernel
theorem dX7_push_61 : decode cX7_push 61 = .ok (.astore 4, 2) := by decide +kernel
theorem dX7_push_63 : decode cX7_push 63 = .ok (.aload 4, 2) := by decide +kernel
theorem dX7_push_65 : decode cX7_push 65 = .ok (.iload_n 2, 1) := by decide +kernel
theorem dX7_push_66 : decode cX7_push 66 = .ok (.putfield 93, 3) := by decide +kernel
theorem dX7_push_69 : decode cX7_push 69 = .ok (.aload 4, 2) := by decide +kernel
theorem dX7_push_71 : decode cX7_push 71 = .ok (.iload_n 3, 1) := by decide +kernel
theorem dX7_push_72 : decode cX7_push 72 = .ok (.invokevirtual 96, 3) := by decide +kernel
theorem dX7_push_75 : decode cX7_push 75 = .ok (.aload_n 0, 1) := by decide +kernel
theorem dX7_push_76 : decode cX7_push 76 = .ok (.getfield 12, 3) := by decide +kernel
theorem dX7_push_79 : decode cX7_push 79 = .ok (.iload_n 1, 1) := by decide +kernel
theorem dX7_push_80 : decode cX7_push 80 = .ok (.invokevirtual 61, 3) := by decide +kernel
theorem dX7_push_83 : decode cX7_push 83 = .ok (.pop, 1) := by decide +kernel
theorem dX7_push_84 : decode cX7_push 84 = .ok (.aload 4, 2) := by decide +kernel
theorem dX7_push_86 : decode cX7_push 86 = .ok (.invokevirtual 100, 3) := by decide +kernel
theorem dX7_push_89 : decode cX7_push 89 = .ok (.ireturn, 1) := by decide +kernel
theorem dX7_swap_0 : decode cX7_swap 0 = .ok (.iload_n 1, 1) := by decide +kernel
theorem dX7_swap_1 : decode cX7_swap 1 = .ok (.invokestatic 38, 3) := by decide +kernel
theorem dX7_swap_4 : decode cX7_swap 4 = .ok (.ifCond .eq 10, 3) := by decide +kernel
theorem dX7_swap_7 : decode cX7_swap 7 = .ok (.iload_n 2, 1) := by decide +kernel
theorem dX7_swap_8 : decode cX7_swap 8 = .ok (.invokestatic 38, 3) := by decide +kernel
theorem dX7_swap_11 : decode cX7_swap 11 = .ok (.ifCond .ne 6, 3) := by decide +kernel
theorem dX7_swap_14 : decode cX7_swap 14 = .ok (.ldc 42, 2) := by decide +kernel
theorem dX7_swap_16 : decode cX7_swap 16 = .ok (.ireturn, 1) := by decide +kernel
theorem dX7_swap_17 : decode cX7_swap 17 = .ok (.iload_n 1, 1) := by decide +kernel
theorem dX7_swap_18 : decode cX7_swap 18 = .ok (.iload_n 2, 1) := by decide +kernel
theorem dX7_swap_19 : decode cX7_swap 19 = .ok (.if_icmp .ne 6, 3) := by decide +kernel
theorem dX7_swap_22 : decode cX7_swap 22 = .ok (.ldc 47, 2) := by decide +kernel
theorem dX7_swap_24 : decode cX7_swap 24 = .ok (.ireturn, 1) := by decide +kernel
theorem dX7_swap_25 : decode cX7_swap 25 = .ok (.aload_n 0, 1) := by decide +kernel
theorem dX7_swap_26 : decode cX7_swap 26 = .ok (.iload_n 1, 1) := by decide +kernel
theorem dX7_swap_27 : decode cX7_swap 27 = .ok (.invokevirtual 69, 3) := by decide +kernel
theorem dX7_swap_30 : decode cX7_swap 30 = .ok (.ifCond .eq 11, 3) := by decide +kernel
theorem dX7_swap_33 : decode cX7_swap 33 = .ok (.aload_n 0, 1) := by decide +kernel
theorem dX7_swap_34 : decode cX7_swap 34 = .ok (.iload_n 2, 1) := by decide +kernel
theorem dX7_swap_35 : decode cX7_swap 35 = .ok (.invokevirtual 69, 3) := by decide +kernel
theorem dX7_swap_38 : decode cX7_swap 38 = .ok (.ifCond .ne 9, 3) := by decide +kernel
theorem dX7_swap_41 : decode cX7_swap 41 = .ok (.aload_n 0, 1) := by decide +kernel
theorem dX7_swap_42 : decode cX7_swap 42 = .ok (.iconst 1, 1) := by decide +kernel
theorem dX7_swap_43 : decode cX7_swap 43 = .ok (.invokevirtual 72, 3) := by decide +kernel
theorem dX7_swap_46 : decode cX7_swap 46 = .ok (.ireturn, 1) := by decide +kernel
theorem dX7_swap_47 : decode cX7_swap 47 = .ok (.aload_n 0, 1) := by decide +kernel
theorem dX7_swap_48 : decode cX7_swap 48 = .ok (.invokevirtual 48, 3) := by decide +kernel
theorem dX7_swap_51 : decode cX7_swap 51 = .ok (.aload_n 0, 1) := by decide +kernel
theorem dX7_swap_52 : decode cX7_swap 52 = .ok (.getfield 12, 3) := by decide +kernel
theorem dX7_swap_55 : decode cX7_swap 55 = .ok (.getfield 51, 3) := by decide +kernel
theorem dX7_swap_58 : decode cX7_swap 58 = .ok (.iload_n 1, 1) := by decide +kernel
theorem dX7_swap_59 : decode cX7_swap 59 = .ok (.aaload, 1) := by decide +kernel
theorem dX7_swap_60 : decode cX7_swap 60 = .ok (.astore_n 3, 1) := by decide +kernel
theorem dX7_swap_61 : decode cX7_swap 61 = .ok (.aload_n 0, 1) := by decide +kernel
theorem dX7_swap_62 : decode cX7_swap 62 = .ok (.getfield 12, 3) := by decide +kernel
theorem dX7_swap_65 : decode cX7_swap 65 = .ok (.getfield 51, 3) := by decide +kernel
theorem dX7_swap_68 : decode cX7_swap 68 = .ok (.iload_n 2, 1) := by decide +kernel
theorem dX7_swap_69 : decode cX7_swap 69 = .ok (.aaload, 1) := by decide +kernel
theorem dX7_swap_70 : decode cX7_swap 70 = .ok (.astore 4, 2) := by decide +kernel
theorem dX7_swap_72 : decode cX7_swap 72 = .ok (.aload_n 3, 1) := by decide +kernel
theorem dX7_swap_73 : decode cX7_swap 73 = .ok (.aload 4, 2) := by decide +kernel
theorem dX7_swap_75 : decode cX7_swap 75 = .ok (.invokevirtual 103, 3) := by decide +kernel
theorem dX7_swap_78 : decode cX7_swap 78 = .ok (.aload_n 3, 1) := by decide +kernel
theorem dX7_swap_79 : decode cX7_swap 79 = .ok (.iconst 0, 1) := by decide +kernel
theorem dX7_swap_80 : decode cX7_swap 80 = .ok (.invokevirtual 96, 3) := by decide +kernel
theorem dX7_swap_83 : decode cX7_swap 83 = .ok (.aload 4, 2) := by decide +kernel
theorem dX7_swap_85 : decode cX7_swap 85 = .ok (.iconst 0, 1) := by decide +kernel
theorem dX7_swap_86 : decode cX7_swap 86 = .ok (.invokevirtual 96, 3) := by decide +kernel
theorem dX7_swap_89 : decode cX7_swap 89 = .ok (.aload_n 0, 1) := by decide +kernel
theorem dX7_swap_90 : decode cX7_swap 90 = .ok (.getfield 12, 3) := by decide +kernel
theorem dX7_swap_93 : decode cX7_swap 93 = .ok (.iload_n 1, 1) := by decide +kernel
theorem dX7_swap_94 : decode cX7_swap 94 = .ok (.invokevirtual 61, 3) := by decide +kernel
theorem dX7_swap_97 : decode cX7_swap 97 = .ok (.aload_n 0, 1) := by decide +kernel
theorem dX7_swap_98 : decode cX7_swap 98 = .ok (.getfield 12, 3) := by decide +kernel
theorem dX7_swap_101 : decode cX7_swap 101 = .ok (.iload_n 2, 1) := by decide +kernel
theorem dX7_swap_102 : decode cX7_swap 102 = .ok (.invokevirtual 61, 3) := by decide +kernel
theorem dX7_swap_105 : decode cX7_swap 105 = .ok (.iadd, 1) := by decide +kernel
theorem dX7_swap_106 : decode cX7_swap 106 = .ok (.ireturn, 1) := by decide +kernel
theorem dX7_addCurrent_0 : decode cX7_addCurrent 0 = .ok (.iload_n 1, 1) := by decide +kernel
theorem dX7_addCurrent_1 : decode cX7_addCurrent 1 = .ok (.iconst 0, 1) := by decide +kernel
theorem dX7_addCurrent_2 : decode cX7_addCurrent 2 = .ok (.sipush 799, 3) := by decide +kernel
theorem dX7_addCurrent_5 : decode cX7_addCurrent 5 = .ok (.invokestatic 43, 3) := by decide +kernel
theorem dX7_addCurrent_8 : decode cX7_addCurrent 8 = .ok (.ifCond .eq 39, 3) := by decide +kernel
theorem dX7_addCurrent_11 : decode cX7_addCurrent 11 = .ok (.iload_n 2, 1) := by decide +kernel
theorem dX7_addCurrent_12 : decode cX7_addCurrent 12 = .ok (.iload_n 1, 1) := by decide +kernel
theorem dX7_addCurrent_13 : decode cX7_addCurrent 13 = .ok (.iconst 1, 1) := by decide +kernel
theorem dX7_addCurrent_14 : decode cX7_addCurrent 14 = .ok (.iadd, 1) := by decide +kernel
theorem dX7_addCurrent_15 : decode cX7_addCurrent 15 = .ok (.sipush 800, 3) := by decide +kernel
theorem dX7_addCurrent_18 : decode cX7_addCurrent 18 = .ok (.invokestatic 43, 3) := by decide +kernel
theorem dX7_addCurrent_21 : decode cX7_addCurrent 21 = .ok (.ifCond .eq 26, 3) := by decide +kernel
theorem dX7_addCurrent_24 : decode cX7_addCurrent 24 = .ok (.iload_n 3, 1) := by decide +kernel
theorem dX7_addCurrent_25 : decode cX7_addCurrent 25 = .ok (.bipush (-50), 2) := by decide +kernel
theorem dX7_addCurrent_27 : decode cX7_addCurrent 27 = .ok (.bipush 50, 2) := by decide +kernel
theorem dX7_addCurrent_29 : decode cX7_addCurrent 29 = .ok (.invokestatic 43, 3) := by decide +kernel
theorem dX7_addCurrent_32 : decode cX7_addCurrent 32 = .ok (.ifCond .eq 15, 3) := by decide +kernel
theorem dX7_addCurrent_35 : decode cX7_addCurrent 35 = .ok (.iload 4, 2) := by decide +kernel
theorem dX7_addCurrent_37 : decode cX7_addCurrent 37 = .ok (.bipush (-50), 2) := by decide +kernel
theorem dX7_addCurrent_39 : decode cX7_addCurrent 39 = .ok (.bipush 50, 2) := by decide +kernel
theorem dX7_addCurrent_41 : decode cX7_addCurrent 41 = .ok (.invokestatic 43, 3) := by decide +kernel
theorem dX7_addCurrent_44 : decode cX7_addCurrent 44 = .ok (.ifCond .ne 6, 3) := by decide +kernel
theorem dX7_addCurrent_47 : decode cX7_addCurrent 47 = .ok (.ldc 47, 2) := by decide +kernel
theorem dX7_addCurrent_49 : decode cX7_addCurrent 49 = .ok (.ireturn, 1) := by decide +kernel
theorem dX7_addCurrent_50 : decode cX7_addCurrent 50 = .ok (.aload_n 0, 1) := by decide +kernel
theorem dX7_addCurrent_51 : decode cX7_addCurrent 51 = .ok (.getfield 12, 3) := by decide +kernel
theorem dX7_addCurrent_54 : decode cX7_addCurrent 54 = .ok (.getfield 107, 3) := by decide +kernel
theorem dX7_addCurrent_57 : decode cX7_addCurrent 57 = .ok (.iconst 5, 1) := by decide +kernel
theorem dX7_addCurrent_58 : decode cX7_addCurrent 58 = .ok (.if_icmp .lt 6, 3) := by decide +kernel
theorem dX7_addCurrent_61 : decode cX7_addCurrent 61 = .ok (.ldc 110, 2) := by decide +kernel
theorem dX7_addCurrent_63 : decode cX7_addCurrent 63 = .ok (.ireturn, 1) := by decide +kernel
theorem dX7_addCurrent_64 : decode cX7_addCurrent 64 = .ok (.aload_n 0, 1) := by decide +kernel
theorem dX7_addCurrent_65 : decode cX7_addCurrent 65 = .ok (.invokevirtual 48, 3) := by decide +kernel
theorem dX7_addCurrent_68 : decode cX7_addCurrent 68 = .ok (.aload_n 0, 1) := by decide +kernel
theorem dX7_addCurrent_69 : decode cX7_addCurrent 69 = .ok (.getfield 12, 3) := by decide +kernel
theorem dX7_addCurrent_72 : decode cX7_addCurrent 72 = .ok (.getfield 111, 3) := by decide +kernel
theorem dX7_addCurrent_75 : decode cX7_addCurrent 75 = .ok (.aload_n 0, 1) := by decide +kernel
theorem dX7_addCurrent_76 : decode cX7_addCurrent 76 = .ok (.getfield 12, 3) := by decide +kernel
theorem dX7_addCurrent_79 : decode cX7_addCurrent 79 = .ok (.getfield 107, 3) := by decide +kernel
theorem dX7_addCurrent_82 : decode cX7_addCurrent 82 = .ok (.aaload, 1) := by decide +kernel
theorem dX7_addCurrent_83 : decode cX7_addCurrent 83 = .ok (.iload_n 1, 1) := by decide +kernel
theorem dX7_addCurrent_84 : decode cX7_addCurrent 84 = .ok (.iload_n 2, 1) := by decide +kernel
theorem dX7_addCurrent_85 : decode cX7_addCurrent 85 = .ok (.iload_n 3, 1) := by decide +kernel
theorem dX7_addCurrent_86 : decode cX7_addCurrent 86 = .ok (.iload 4, 2) := by decide +kernel
theorem dX7_addCurrent_88 : decode cX7_addCurrent 88 = .ok (.invokevirtual 115, 3) := by decide +kernel
theorem dX7_addCurrent_91 : decode cX7_addCurrent 91 = .ok (.aload_n 0, 1) := by decide +kernel
theorem dX7_addCurrent_92 : decode cX7_addCurrent 92 = .ok (.getfield 12, 3) := by decide +kernel
theorem dX7_addCurrent_95 : decode cX7_addCurrent 95 = .ok (.dup, 1) := by decide +kernel
theorem dX7_addCurrent_96 : decode cX7_addCurrent 96 = .ok (.getfield 107, 3) := by decide +kernel
theorem dX7_addCurrent_99 : decode cX7_addCurrent 99 = .ok (.iconst 1, 1) := by decide +kernel
theorem dX7_addCurrent_100 : decode cX7_addCurrent 100 = .ok (.iadd, 1) := by decide +kernel
theorem dX7_addCurrent_101 : decode cX7_addCurrent 101 = .ok (.putfield 107, 3) := by decide +kernel
theorem dX7_addCurrent_104 : decode cX7_addCurrent 104 = .ok (.aload_n 0, 1) := by decide +kernel
theorem dX7_addCurrent_105 : decode cX7_addCurrent 105 = .ok (.getfield 12, 3) := by decide +kernel
theorem dX7_addCurrent_108 : decode cX7_addCurrent 108 = .ok (.invokevirtual 120, 3) := by decide +kernel
theorem dX7_addCurrent_111 : decode cX7_addCurrent 111 = .ok (.aload_n 0, 1) := by decide +kernel
theorem dX7_addCurrent_112 : decode cX7_addCurrent 112 = .ok (.getfield 12, 3) := by decide +kernel
theorem dX7_addCurrent_115 : decode cX7_addCurrent 115 = .ok (.getfield 107, 3) := by decide +kernel
theorem dX7_addCurrent_118 : decode cX7_addCurrent 118 = .ok (.ireturn, 1) := by decide +kernel
theorem dX7_clearCurrents_0 : decode cX7_clearCurrents 0 = .ok (.aload_n 0, 1) := by decide +kernel
theorem dX7_clearCurrents_1 : decode cX7_clearCurrents 1 = .ok (.getfield 12, 3) := by decide +kernel
theorem dX7_clearCurrents_4 : decode cX7_clearCurrents 4 = .ok (.getfield 107, 3) := by decide +kernel
theorem dX7_clearCurrents_7 : decode cX7_clearCurrents 7 = .ok (.istore_n 1, 1) := by decide +kernel
theorem dX7_clearCurrents_8 : decode cX7_clearCurrents 8 = .ok (.iload_n 1, 1) := by decide +kernel
theorem dX7_clearCurrents_9 : decode cX7_clearCurrents 9 = .ok (.ifCond .ne 6, 3) := by decide +kernel
theorem dX7_clearCurrents_12 : decode cX7_clearCurrents 12 = .ok (.ldc 123, 2) := by decide +kernel
theorem dX7_clearCurrents_14 : decode cX7_clearCurrents 14 = .ok (.ireturn, 1) := by decide +kernel
theorem dX7_clearCurrents_15 : decode cX7_clearCurrents 15 = .ok (.aload_n 0, 1) := by decide +kernel
theorem dX7_clearCurrents_16 : decode cX7_clearCurrents 16 = .ok (.invokevirtual 48, 3) := by decide +kernel
theorem dX7_clearCurrents_19 : decode cX7_clearCurrents 19 = .ok (.aload_n 0, 1) := by decide +kernel
theorem dX7_clearCurrents_20 : decode cX7_clearCurrents 20 = .ok (.getfield 12, 3) := by decide +kernel
theorem dX7_clearCurrents_23 : decode cX7_clearCurrents 23 = .ok (.iconst 0, 1) := by decide +kernel
theorem dX7_clearCurrents_24 : decode cX7_clearCurrents 24 = .ok (.putfield 107, 3) := by decide +kernel
theorem dX7_clearCurrents_27 : decode cX7_clearCurrents 27 = .ok (.aload_n 0, 1) := by decide +kernel
theorem dX7_clearCurrents_28 : decode cX7_clearCurrents 28 = .ok (.getfield 12, 3) := by decide +kernel
theorem dX7_clearCurrents_31 : decode cX7_clearCurrents 31 = .ok (.invokevirtual 120, 3) := by decide +kernel
theorem dX7_clearCurrents_34 : decode cX7_clearCurrents 34 = .ok (.iload_n 1, 1) := by decide +kernel
theorem dX7_clearCurrents_35 : decode cX7_clearCurrents 35 = .ok (.ireturn, 1) := by decide +kernel
theorem dX7_addStation_0 : decode cX7_addStation 0 = .ok (.iload_n 1, 1) := by decide +kernel
theorem dX7_addStation_1 : decode cX7_addStation 1 = .ok (.iconst 1, 1) := by decide +kernel
theorem dX7_addStation_2 : decode cX7_addStation 2 = .ok (.sipush 800, 3) := by decide +kernel
theorem dX7_addStation_5 : decode cX7_addStation 5 = .ok (.invokestatic 43, 3) := by decide +kernel
theorem dX7_addStation_8 : decode cX7_addStation 8 = .ok (.ifCond .eq 14, 3) := by decide +kernel
theorem dX7_addStation_11 : decode cX7_addStation 11 = .ok (.iload_n 2, 1) := by decide +kernel
theorem dX7_addStation_12 : decode cX7_addStation 12 = .ok (.iconst 0, 1) := by decide +kernel
theorem dX7_addStation_13 : decode cX7_addStation 13 = .ok (.sipush 7999, 3) := by decide +kernel
theorem dX7_addStation_16 : decode cX7_addStation 16 = .ok (.invokestatic 43, 3) := by decide +kernel
theorem dX7_addStation_19 : decode cX7_addStation 19 = .ok (.ifCond .ne 6, 3) := by decide +kernel
theorem dX7_addStation_22 : decode cX7_addStation 22 = .ok (.ldc 47, 2) := by decide +kernel
theorem dX7_addStation_24 : decode cX7_addStation 24 = .ok (.ireturn, 1) := by decide +kernel
theorem dX7_addStation_25 : decode cX7_addStation 25 = .ok (.aload_n 0, 1) := by decide +kernel
theorem dX7_addStation_26 : decode cX7_addStation 26 = .ok (.getfield 12, 3) := by decide +kernel
theorem dX7_addStation_29 : decode cX7_addStation 29 = .ok (.getfield 124, 3) := by decide +kernel
theorem dX7_addStation_32 : decode cX7_addStation 32 = .ok (.iconst 5, 1) := by decide +kernel
theorem dX7_addStation_33 : decode cX7_addStation 33 = .ok (.if_icmp .lt 6, 3) := by decide +kernel
theorem dX7_addStation_36 : decode cX7_addStation 36 = .ok (.ldc 110, 2) := by decide +kernel
theorem dX7_addStation_38 : decode cX7_addStation 38 = .ok (.ireturn, 1) := by decide +kernel
theorem dX7_addStation_39 : decode cX7_addStation 39 = .ok (.aload_n 0, 1) := by decide +kernel
theorem dX7_addStation_40 : decode cX7_addStation 40 = .ok (.invokevirtual 48, 3) := by decide +kernel
theorem dX7_addStation_43 : decode cX7_addStation 43 = .ok (.aload_n 0, 1) := by decide +kernel
theorem dX7_addStation_44 : decode cX7_addStation 44 = .ok (.getfield 12, 3) := by decide +kernel
theorem dX7_addStation_47 : decode cX7_addStation 47 = .ok (.getfield 124, 3) := by decide +kernel
theorem dX7_addStation_50 : decode cX7_addStation 50 = .ok (.istore_n 3, 1) := by decide +kernel
theorem dX7_addStation_51 : decode cX7_addStation 51 = .ok (.aload_n 0, 1) := by decide +kernel
theorem dX7_addStation_52 : decode cX7_addStation 52 = .ok (.getfield 12, 3) := by decide +kernel
theorem dX7_addStation_55 : decode cX7_addStation 55 = .ok (.getfield 127, 3) := by decide +kernel
theorem dX7_addStation_58 : decode cX7_addStation 58 = .ok (.iload_n 3, 1) := by decide +kernel
theorem dX7_addStation_59 : decode cX7_addStation 59 = .ok (.aaload, 1) := by decide +kernel
theorem dX7_addStation_60 : decode cX7_addStation 60 = .ok (.iload_n 1, 1) := by decide +kernel
theorem dX7_addStation_61 : decode cX7_addStation 61 = .ok (.iload_n 2, 1) := by decide +kernel
theorem dX7_addStation_62 : decode cX7_addStation 62 = .ok (.invokevirtual 131, 3) := by decide +kernel
theorem dX7_addStation_65 : decode cX7_addStation 65 = .ok (.aload_n 0, 1) := by decide +kernel
theorem dX7_addStation_66 : decode cX7_addStation 66 = .ok (.getfield 12, 3) := by decide +kernel
theorem dX7_addStation_69 : decode cX7_addStation 69 = .ok (.dup, 1) := by decide +kernel
theorem dX7_addStation_70 : decode cX7_addStation 70 = .ok (.getfield 124, 3) := by decide +kernel
theorem dX7_addStation_73 : decode cX7_addStation 73 = .ok (.iconst 1, 1) := by decide +kernel
theorem dX7_addStation_74 : decode cX7_addStation 74 = .ok (.iadd, 1) := by decide +kernel
theorem dX7_addStation_75 : decode cX7_addStation 75 = .ok (.putfield 124, 3) := by decide +kernel
theorem dX7_addStation_78 : decode cX7_addStation 78 = .ok (.iload_n 3, 1) := by decide +kernel
theorem dX7_addStation_79 : decode cX7_addStation 79 = .ok (.ireturn, 1) := by decide +kernel
theorem dX7_setTolerance_0 : decode cX7_setTolerance 0 = .ok (.iload_n 1, 1) := by decide +kernel
theorem dX7_setTolerance_1 : decode cX7_setTolerance 1 = .ok (.iconst 0, 1) := by decide +kernel
theorem dX7_setTolerance_2 : decode cX7_setTolerance 2 = .ok (.sipush 500, 3) := by decide +kernel
theorem dX7_setTolerance_5 : decode cX7_setTolerance 5 = .ok (.invokestatic 43, 3) := by decide +kernel
theorem dX7_setTolerance_8 : decode cX7_setTolerance 8 = .ok (.ifCond .ne 6, 3) := by decide +kernel
theorem dX7_setTolerance_11 : decode cX7_setTolerance 11 = .ok (.ldc 47, 2) := by decide +kernel
theorem dX7_setTolerance_13 : decode cX7_setTolerance 13 = .ok (.ireturn, 1) := by decide +kernel
theorem dX7_setTolerance_14 : decode cX7_setTolerance 14 = .ok (.aload_n 0, 1) := by decide +kernel
theorem dX7_setTolerance_15 : decode cX7_setTolerance 15 = .ok (.invokevirtual 48, 3) := by decide +kernel
theorem dX7_setTolerance_18 : decode cX7_setTolerance 18 = .ok (.aload_n 0, 1) := by decide +kernel
theorem dX7_setTolerance_19 : decode cX7_setTolerance 19 = .ok (.getfield 12, 3) := by decide +kernel
theorem dX7_setTolerance_22 : decode cX7_setTolerance 22 = .ok (.getfield 136, 3) := by decide +kernel
theorem dX7_setTolerance_25 : decode cX7_setTolerance 25 = .ok (.istore_n 2, 1) := by decide +kernel
theorem dX7_setTolerance_26 : decode cX7_setTolerance 26 = .ok (.aload_n 0, 1) := by decide +kernel
theorem dX7_setTolerance_27 : decode cX7_setTolerance 27 = .ok (.getfield 12, 3) := by decide +kernel
theorem dX7_setTolerance_30 : decode cX7_setTolerance 30 = .ok (.iload_n 1, 1) := by decide +kernel
theorem dX7_setTolerance_31 : decode cX7_setTolerance 31 = .ok (.putfield 136, 3) := by decide +kernel
theorem dX7_setTolerance_34 : decode cX7_setTolerance 34 = .ok (.iload_n 2, 1) := by decide +kernel
theorem dX7_setTolerance_35 : decode cX7_setTolerance 35 = .ok (.ireturn, 1) := by decide +kernel
theorem dX7_pass_0 : decode cX7_pass 0 = .ok (.iload_n 1, 1) := by decide +kernel
theorem dX7_pass_1 : decode cX7_pass 1 = .ok (.iconst 1, 1) := by decide +kernel
theorem dX7_pass_2 : decode cX7_pass 2 = .ok (.bipush 60, 2) := by decide +kernel
theorem dX7_pass_4 : decode cX7_pass 4 = .ok (.invokestatic 43, 3) := by decide +kernel
theorem dX7_pass_7 : decode cX7_pass 7 = .ok (.ifCond .ne 6, 3) := by decide +kernel
theorem dX7_pass_10 : decode cX7_pass 10 = .ok (.ldc 47, 2) := by decide +kernel
theorem dX7_pass_12 : decode cX7_pass 12 = .ok (.ireturn, 1) := by decide +kernel
theorem dX7_pass_13 : decode cX7_pass 13 = .ok (.aload_n 0, 1) := by decide +kernel
theorem dX7_pass_14 : decode cX7_pass 14 = .ok (.invokevirtual 48, 3) := by decide +kernel
theorem dX7_pass_17 : decode cX7_pass 17 = .ok (.iconst 0, 1) := by decide +kernel
theorem dX7_pass_18 : decode cX7_pass 18 = .ok (.istore_n 2, 1) := by decide +kernel
theorem dX7_pass_19 : decode cX7_pass 19 = .ok (.iload_n 2, 1) := by decide +kernel
theorem dX7_pass_20 : decode cX7_pass 20 = .ok (.iload_n 1, 1) := by decide +kernel
theorem dX7_pass_21 : decode cX7_pass 21 = .ok (.if_icmp .ge 16, 3) := by decide +kernel
theorem dX7_pass_24 : decode cX7_pass 24 = .ok (.aload_n 0, 1) := by decide +kernel
theorem dX7_pass_25 : decode cX7_pass 25 = .ok (.getfield 12, 3) := by decide +kernel
theorem dX7_pass_28 : decode cX7_pass 28 = .ok (.invokevirtual 139, 3) := by decide +kernel
theorem dX7_pass_31 : decode cX7_pass 31 = .ok (.iinc 2 1, 3) := by decide +kernel
theorem dX7_pass_34 : decode cX7_pass 34 = .ok (.goto (-15), 3) := by decide +kernel
theorem dX7_pass_37 : decode cX7_pass 37 = .ok (.aload_n 0, 1) := by decide +kernel
theorem dX7_pass_38 : decode cX7_pass 38 = .ok (.getfield 12, 3) := by decide +kernel
theorem dX7_pass_41 : decode cX7_pass 41 = .ok (.getfield 142, 3) := by decide +kernel
theorem dX7_pass_44 : decode cX7_pass 44 = .ok (.ireturn, 1) := by decide +kernel
theorem dX7_observe_0 : decode cX7_observe 0 = .ok (.iload_n 1, 1) := by decide +kernel
theorem dX7_observe_1 : decode cX7_observe 1 = .ok (.invokestatic 38, 3) := by decide +kernel
theorem dX7_observe_4 : decode cX7_observe 4 = .ok (.ifCond .eq 11, 3) := by decide +kernel
theorem dX7_observe_7 : decode cX7_observe 7 = .ok (.aload_n 0, 1) := by decide +kernel
theorem dX7_observe_8 : decode cX7_observe 8 = .ok (.iload_n 2, 1) := by decide +kernel
theorem dX7_observe_9 : decode cX7_observe 9 = .ok (.invokevirtual 145, 3) := by decide +kernel
theorem dX7_observe_12 : decode cX7_observe 12 = .ok (.ifCond .ne 6, 3) := by decide +kernel
theorem dX7_observe_15 : decode cX7_observe 15 = .ok (.ldc 42, 2) := by decide +kernel
theorem dX7_observe_17 : decode cX7_observe 17 = .ok (.ireturn, 1) := by decide +kernel
theorem dX7_observe_18 : decode cX7_observe 18 = .ok (.iload_n 3, 1) := by decide +kernel
theorem dX7_observe_19 : decode cX7_observe 19 = .ok (.iconst 1, 1) := by decide +kernel
theorem dX7_observe_20 : decode cX7_observe 20 = .ok (.bipush 60, 2) := by decide +kernel
theorem dX7_observe_22 : decode cX7_observe 22 = .ok (.invokestatic 43, 3) := by decide +kernel
theorem dX7_observe_25 : decode cX7_observe 25 = .ok (.ifCond .ne 6, 3) := by decide +kernel
theorem dX7_observe_28 : decode cX7_observe 28 = .ok (.ldc 47, 2) := by decide +kernel
theorem dX7_observe_30 : decode cX7_observe 30 = .ok (.ireturn, 1) := by decide +kernel
theorem dX7_observe_31 : decode cX7_observe 31 = .ok (.aload_n 0, 1) := by decide +kernel
theorem dX7_observe_32 : decode cX7_observe 32 = .ok (.iload_n 1, 1) := by decide +kernel
theorem dX7_observe_33 : decode cX7_observe 33 = .ok (.invokevirtual 69, 3) := by decide +kernel
theorem dX7_observe_36 : decode cX7_observe 36 = .ok (.ifCond .ne 9, 3) := by decide +kernel
theorem dX7_observe_39 : decode cX7_observe 39 = .ok (.aload_n 0, 1) := by decide +kernel
theorem dX7_observe_40 : decode cX7_observe 40 = .ok (.iconst 1, 1) := by decide +kernel
theorem dX7_observe_41 : decode cX7_observe 41 = .ok (.invokevirtual 72, 3) := by decide +kernel
theorem dX7_observe_44 : decode cX7_observe 44 = .ok (.ireturn, 1) := by decide +kernel
theorem dX7_observe_45 : decode cX7_observe 45 = .ok (.aload_n 0, 1) := by decide +kernel
theorem dX7_observe_46 : decode cX7_observe 46 = .ok (.getfield 12, 3) := by decide +kernel
theorem dX7_observe_49 : decode cX7_observe 49 = .ok (.getfield 127, 3) := by decide +kernel
theorem dX7_observe_52 : decode cX7_observe 52 = .ok (.iload_n 2, 1) := by decide +kernel
theorem dX7_observe_53 : decode cX7_observe 53 = .ok (.aaload, 1) := by decide +kernel
theorem dX7_observe_54 : decode cX7_observe 54 = .ok (.getfield 148, 3) := by decide +kernel
theorem dX7_observe_57 : decode cX7_observe 57 = .ok (.aload_n 0, 1) := by decide +kernel
theorem dX7_observe_58 : decode cX7_observe 58 = .ok (.getfield 12, 3) := by decide +kernel
theorem dX7_observe_61 : decode cX7_observe 61 = .ok (.getfield 51, 3) := by decide +kernel
theorem dX7_observe_64 : decode cX7_observe 64 = .ok (.iload_n 1, 1) := by decide +kernel
theorem dX7_observe_65 : decode cX7_observe 65 = .ok (.aaload, 1) := by decide +kernel
theorem dX7_observe_66 : decode cX7_observe 66 = .ok (.getfield 151, 3) := by decide +kernel
theorem dX7_observe_69 : decode cX7_observe 69 = .ok (.if_icmp .le 9, 3) := by decide +kernel
theorem dX7_observe_72 : decode cX7_observe 72 = .ok (.aload_n 0, 1) := by decide +kernel
theorem dX7_observe_73 : decode cX7_observe 73 = .ok (.iconst 2, 1) := by decide +kernel
theorem dX7_observe_74 : decode cX7_observe 74 = .ok (.invokevirtual 72, 3) := by decide +kernel
theorem dX7_observe_77 : decode cX7_observe 77 = .ok (.ireturn, 1) := by decide +kernel
theorem dX7_observe_78 : decode cX7_observe 78 = .ok (.aload_n 0, 1) := by decide +kernel
theorem dX7_observe_79 : decode cX7_observe 79 = .ok (.invokevirtual 48, 3) := by decide +kernel
theorem dX7_observe_82 : decode cX7_observe 82 = .ok (.aload_n 0, 1) := by decide +kernel
theorem dX7_observe_83 : decode cX7_observe 83 = .ok (.getfield 12, 3) := by decide +kernel
theorem dX7_observe_86 : decode cX7_observe 86 = .ok (.iload_n 1, 1) := by decide +kernel
theorem dX7_observe_87 : decode cX7_observe 87 = .ok (.iload_n 2, 1) := by decide +kernel
theorem dX7_observe_88 : decode cX7_observe 88 = .ok (.iload_n 3, 1) := by decide +kernel
theorem dX7_observe_89 : decode cX7_observe 89 = .ok (.invokevirtual 152, 3) := by decide +kernel
theorem dX7_observe_92 : decode cX7_observe 92 = .ok (.aload_n 0, 1) := by decide +kernel
theorem dX7_observe_93 : decode cX7_observe 93 = .ok (.getfield 12, 3) := by decide +kernel
theorem dX7_observe_96 : decode cX7_observe 96 = .ok (.getfield 127, 3) := by decide +kernel
theorem dX7_observe_99 : decode cX7_observe 99 = .ok (.iload_n 2, 1) := by decide +kernel
theorem dX7_observe_100 : decode cX7_observe 100 = .ok (.aaload, 1) := by decide +kernel
theorem dX7_observe_101 : decode cX7_observe 101 = .ok (.getfield 156, 3) := by decide +kernel
theorem dX7_observe_104 : decode cX7_observe 104 = .ok (.iload_n 1, 1) := by decide +kernel
theorem dX7_observe_105 : decode cX7_observe 105 = .ok (.aaload, 1) := by decide +kernel
theorem dX7_observe_106 : decode cX7_observe 106 = .ok (.getfield 160, 3) := by decide +kernel
theorem dX7_observe_109 : decode cX7_observe 109 = .ok (.ireturn, 1) := by decide +kernel
theorem dX7_orient_0 : decode cX7_orient 0 = .ok (.aload_n 0, 1) := by decide +kernel
theorem dX7_orient_1 : decode cX7_orient 1 = .ok (.iload_n 1, 1) := by decide +kernel
theorem dX7_orient_2 : decode cX7_orient 2 = .ok (.invokevirtual 145, 3) := by decide +kernel
theorem dX7_orient_5 : decode cX7_orient 5 = .ok (.ifCond .ne 6, 3) := by decide +kernel
theorem dX7_orient_8 : decode cX7_orient 8 = .ok (.ldc 42, 2) := by decide +kernel
theorem dX7_orient_10 : decode cX7_orient 10 = .ok (.ireturn, 1) := by decide +kernel
theorem dX7_orient_11 : decode cX7_orient 11 = .ok (.aload_n 0, 1) := by decide +kernel
theorem dX7_orient_12 : decode cX7_orient 12 = .ok (.iload_n 1, 1) := by decide +kernel
theorem dX7_orient_13 : decode cX7_orient 13 = .ok (.iconst 0, 1) := by decide +kernel
theorem dX7_orient_14 : decode cX7_orient 14 = .ok (.invokevirtual 165, 3) := by decide +kernel
theorem dX7_orient_17 : decode cX7_orient 17 = .ok (.aload_n 0, 1) := by decide +kernel
theorem dX7_orient_18 : decode cX7_orient 18 = .ok (.iload_n 1, 1) := by decide +kernel
theorem dX7_orient_19 : decode cX7_orient 19 = .ok (.iconst 1, 1) := by decide +kernel
theorem dX7_orient_20 : decode cX7_orient 20 = .ok (.invokevirtual 165, 3) := by decide +kernel
theorem dX7_orient_23 : decode cX7_orient 23 = .ok (.invokestatic 169, 3) := by decide +kernel
theorem dX7_orient_26 : decode cX7_orient 26 = .ok (.istore_n 2, 1) := by decide +kernel
theorem dX7_orient_27 : decode cX7_orient 27 = .ok (.iload_n 2, 1) := by decide +kernel
theorem dX7_orient_28 : decode cX7_orient 28 = .ok (.ifCond .eq 9, 3) := by decide +kernel
theorem dX7_orient_31 : decode cX7_orient 31 = .ok (.aload_n 0, 1) := by decide +kernel
theorem dX7_orient_32 : decode cX7_orient 32 = .ok (.iload_n 2, 1) := by decide +kernel
theorem dX7_orient_33 : decode cX7_orient 33 = .ok (.invokevirtual 72, 3) := by decide +kernel
theorem dX7_orient_36 : decode cX7_orient 36 = .ok (.ireturn, 1) := by decide +kernel
theorem dX7_orient_37 : decode cX7_orient 37 = .ok (.aload_n 0, 1) := by decide +kernel
theorem dX7_orient_38 : decode cX7_orient 38 = .ok (.iload_n 1, 1) := by decide +kernel
theorem dX7_orient_39 : decode cX7_orient 39 = .ok (.iconst 0, 1) := by decide +kernel
theorem dX7_orient_40 : decode cX7_orient 40 = .ok (.invokevirtual 172, 3) := by decide +kernel
theorem dX7_orient_43 : decode cX7_orient 43 = .ok (.istore_n 3, 1) := by decide +kernel
theorem dX7_orient_44 : decode cX7_orient 44 = .ok (.aload_n 0, 1) := by decide +kernel
theorem dX7_orient_45 : decode cX7_orient 45 = .ok (.iload_n 1, 1) := by decide +kernel
theorem dX7_orient_46 : decode cX7_orient 46 = .ok (.iconst 1, 1) := by decide +kernel
theorem dX7_orient_47 : decode cX7_orient 47 = .ok (.invokevirtual 172, 3) := by decide +kernel
theorem dX7_orient_50 : decode cX7_orient 50 = .ok (.istore 4, 2) := by decide +kernel
theorem dX7_orient_52 : decode cX7_orient 52 = .ok (.iload 4, 2) := by decide +kernel
theorem dX7_orient_54 : decode cX7_orient 54 = .ok (.i2l, 1) := by decide +kernel
theorem dX7_orient_55 : decode cX7_orient 55 = .ok (.iload_n 3, 1) := by decide +kernel
theorem dX7_orient_56 : decode cX7_orient 56 = .ok (.i2l, 1) := by decide +kernel
theorem dX7_orient_57 : decode cX7_orient 57 = .ok (.lsub, 1) := by decide +kernel
theorem dX7_orient_58 : decode cX7_orient 58 = .ok (.ldc2_w 175, 3) := by decide +kernel
theorem dX7_orient_61 : decode cX7_orient 61 = .ok (.ladd, 1) := by decide +kernel
theorem dX7_orient_62 : decode cX7_orient 62 = .ok (.invokestatic 177, 3) := by decide +kernel
theorem dX7_orient_65 : decode cX7_orient 65 = .ok (.sipush 4000, 3) := by decide +kernel
theorem dX7_orient_68 : decode cX7_orient 68 = .ok (.isub, 1) := by decide +kernel
theorem dX7_orient_69 : decode cX7_orient 69 = .ok (.istore 5, 2) := by decide +kernel
theorem dX7_orient_71 : decode cX7_orient 71 = .ok (.iload 5, 2) := by decide +kernel
theorem dX7_orient_73 : decode cX7_orient 73 = .ok (.invokestatic 85, 3) := by decide +kernel
theorem dX7_orient_76 : decode cX7_orient 76 = .ok (.aload_n 0, 1) := by decide +kernel
theorem dX7_orient_77 : decode cX7_orient 77 = .ok (.getfield 12, 3) := by decide +kernel
theorem dX7_orient_80 : decode cX7_orient 80 = .ok (.getfield 136, 3) := by decide +kernel
theorem dX7_orient_83 : decode cX7_orient 83 = .ok (.if_icmp .le 9, 3) := by decide +kernel
theorem dX7_orient_86 : decode cX7_orient 86 = .ok (.aload_n 0, 1) := by decide +kernel
theorem dX7_orient_87 : decode cX7_orient 87 = .ok (.iconst 5, 1) := by decide +kernel
theorem dX7_orient_88 : decode cX7_orient 88 = .ok (.invokevirtual 72, 3) := by decide +kernel
theorem dX7_orient_91 : decode cX7_orient 91 = .ok (.ireturn, 1) := by decide +kernel
theorem dX7_orient_92 : decode cX7_orient 92 = .ok (.aload_n 0, 1) := by decide +kernel
theorem dX7_orient_93 : decode cX7_orient 93 = .ok (.invokevirtual 48, 3) := by decide +kernel
theorem dX7_orient_96 : decode cX7_orient 96 = .ok (.aload_n 0, 1) := by decide +kernel
theorem dX7_orient_97 : decode cX7_orient 97 = .ok (.getfield 12, 3) := by decide +kernel
theorem dX7_orient_100 : decode cX7_orient 100 = .ok (.getfield 127, 3) := by decide +kernel
theorem dX7_orient_103 : decode cX7_orient 103 = .ok (.iload_n 1, 1) := by decide +kernel
theorem dX7_orient_104 : decode cX7_orient 104 = .ok (.aaload, 1) := by decide +kernel
theorem dX7_orient_105 : decode cX7_orient 105 = .ok (.astore 6, 2) := by decide +kernel
theorem dX7_orient_107 : decode cX7_orient 107 = .ok (.aload 6, 2) := by decide +kernel
theorem dX7_orient_109 : decode cX7_orient 109 = .ok (.iload_n 3, 1) := by decide +kernel
theorem dX7_orient_110 : decode cX7_orient 110 = .ok (.i2l, 1) := by decide +kernel
theorem dX7_orient_111 : decode cX7_orient 111 = .ok (.iload 5, 2) := by decide +kernel
theorem dX7_orient_113 : decode cX7_orient 113 = .ok (.iconst 2, 1) := by decide +kernel
theorem dX7_orient_114 : decode cX7_orient 114 = .ok (.invokestatic 181, 3) := by decide +kernel
theorem dX7_orient_117 : decode cX7_orient 117 = .ok (.i2l, 1) := by decide +kernel
theorem dX7_orient_118 : decode cX7_orient 118 = .ok (.ladd, 1) := by decide +kernel
theorem dX7_orient_119 : decode cX7_orient 119 = .ok (.invokestatic 177, 3) := by decide +kernel
theorem dX7_orient_122 : decode cX7_orient 122 = .ok (.putfield 184, 3) := by decide +kernel
theorem dX7_orient_125 : decode cX7_orient 125 = .ok (.aload 6, 2) := by decide +kernel
theorem dX7_orient_127 : decode cX7_orient 127 = .ok (.iconst 1, 1) := by decide +kernel
theorem dX7_orient_128 : decode cX7_orient 128 = .ok (.putfield 187, 3) := by decide +kernel
theorem dX7_orient_131 : decode cX7_orient 131 = .ok (.aload 6, 2) := by decide +kernel
theorem dX7_orient_133 : decode cX7_orient 133 = .ok (.getfield 184, 3) := by decide +kernel
theorem dX7_orient_136 : decode cX7_orient 136 = .ok (.ireturn, 1) := by decide +kernel
theorem dX7_keep_0 : decode cX7_keep 0 = .ok (.iload_n 1, 1) := by decide +kernel
theorem dX7_keep_1 : decode cX7_keep 1 = .ok (.invokestatic 239, 3) := by decide +kernel
theorem dX7_keep_4 : decode cX7_keep 4 = .ok (.ifCond .ne 6, 3) := by decide +kernel
theorem dX7_keep_7 : decode cX7_keep 7 = .ok (.ldc 42, 2) := by decide +kernel
theorem dX7_keep_9 : decode cX7_keep 9 = .ok (.ireturn, 1) := by decide +kernel
theorem dX7_keep_10 : decode cX7_keep 10 = .ok (.aload_n 0, 1) := by decide +kernel
theorem dX7_keep_11 : decode cX7_keep 11 = .ok (.getfield 20, 3) := by decide +kernel
theorem dX7_keep_14 : decode cX7_keep 14 = .ok (.iload_n 1, 1) := by decide +kernel
theorem dX7_keep_15 : decode cX7_keep 15 = .ok (.aaload, 1) := by decide +kernel
theorem dX7_keep_16 : decode cX7_keep 16 = .ok (.aload_n 0, 1) := by decide +kernel
theorem dX7_keep_17 : decode cX7_keep 17 = .ok (.getfield 12, 3) := by decide +kernel
theorem dX7_keep_20 : decode cX7_keep 20 = .ok (.invokevirtual 235, 3) := by decide +kernel
theorem dX7_keep_23 : decode cX7_keep 23 = .ok (.aload_n 0, 1) := by decide +kernel
theorem dX7_keep_24 : decode cX7_keep 24 = .ok (.getfield 23, 3) := by decide +kernel
theorem dX7_keep_27 : decode cX7_keep 27 = .ok (.iload_n 1, 1) := by decide +kernel
theorem dX7_keep_28 : decode cX7_keep 28 = .ok (.iconst 1, 1) := by decide +kernel
theorem dX7_keep_29 : decode cX7_keep 29 = .ok (.bastore, 1) := by decide +kernel
theorem dX7_keep_30 : decode cX7_keep 30 = .ok (.aload_n 0, 1) := by decide +kernel
theorem dX7_keep_31 : decode cX7_keep 31 = .ok (.getfield 12, 3) := by decide +kernel
theorem dX7_keep_34 : decode cX7_keep 34 = .ok (.getfield 142, 3) := by decide +kernel
theorem dX7_keep_37 : decode cX7_keep 37 = .ok (.ireturn, 1) := by decide +kernel
theorem dX7_restore_0 : decode cX7_restore 0 = .ok (.iload_n 1, 1) := by decide +kernel
theorem dX7_restore_1 : decode cX7_restore 1 = .ok (.invokestatic 239, 3) := by decide +kernel
theorem dX7_restore_4 : decode cX7_restore 4 = .ok (.ifCond .ne 6, 3) := by decide +kernel
theorem dX7_restore_7 : decode cX7_restore 7 = .ok (.ldc 42, 2) := by decide +kernel
theorem dX7_restore_9 : decode cX7_restore 9 = .ok (.ireturn, 1) := by decide +kernel
theorem dX7_restore_10 : decode cX7_restore 10 = .ok (.aload_n 0, 1) := by decide +kernel
theorem dX7_restore_11 : decode cX7_restore 11 = .ok (.getfield 23, 3) := by decide +kernel
theorem dX7_restore_14 : decode cX7_restore 14 = .ok (.iload_n 1, 1) := by decide +kernel
theorem dX7_restore_15 : decode cX7_restore 15 = .ok (.baload, 1) := by decide +kernel
theorem dX7_restore_16 : decode cX7_restore 16 = .ok (.ifCond .ne 6, 3) := by decide +kernel
theorem dX7_restore_19 : decode cX7_restore 19 = .ok (.ldc 123, 2) := by decide +kernel
theorem dX7_restore_21 : decode cX7_restore 21 = .ok (.ireturn, 1) := by decide +kernel
theorem dX7_restore_22 : decode cX7_restore 22 = .ok (.aload_n 0, 1) := by decide +kernel
theorem dX7_restore_23 : decode cX7_restore 23 = .ok (.invokevirtual 48, 3) := by decide +kernel
theorem dX7_restore_26 : decode cX7_restore 26 = .ok (.aload_n 0, 1) := by decide +kernel
theorem dX7_restore_27 : decode cX7_restore 27 = .ok (.getfield 12, 3) := by decide +kernel
theorem dX7_restore_30 : decode cX7_restore 30 = .ok (.aload_n 0, 1) := by decide +kernel
theorem dX7_restore_31 : decode cX7_restore 31 = .ok (.getfield 20, 3) := by decide +kernel
theorem dX7_restore_34 : decode cX7_restore 34 = .ok (.iload_n 1, 1) := by decide +kernel
theorem dX7_restore_35 : decode cX7_restore 35 = .ok (.aaload, 1) := by decide +kernel
theorem dX7_restore_36 : decode cX7_restore 36 = .ok (.invokevirtual 235, 3) := by decide +kernel
theorem dX7_restore_39 : decode cX7_restore 39 = .ok (.aload_n 0, 1) := by decide +kernel
theorem dX7_restore_40 : decode cX7_restore 40 = .ok (.getfield 12, 3) := by decide +kernel
theorem dX7_restore_43 : decode cX7_restore 43 = .ok (.getfield 142, 3) := by decide +kernel
theorem dX7_restore_46 : decode cX7_restore 46 = .ok (.ireturn, 1) := by decide +kernel
theorem dX7_remember_0 : decode cX7_remember 0 = .ok (.aload_n 0, 1) := by decide +kernel
theorem dX7_remember_1 : decode cX7_remember 1 = .ok (.getfield 200, 3) := by decide +kernel
theorem dX7_remember_4 : decode cX7_remember 4 = .ok (.ifCond .eq 4, 3) := by decide +kernel
theorem dX7_remember_7 : decode cX7_remember 7 = .ok (.return_, 1) := by decide +kernel
theorem dX7_remember_8 : decode cX7_remember 8 = .ok (.aload_n 0, 1) := by decide +kernel
theorem dX7_remember_9 : decode cX7_remember 9 = .ok (.getfield 232, 3) := by decide +kernel
theorem dX7_remember_12 : decode cX7_remember 12 = .ok (.iconst 5, 1) := by decide +kernel
theorem dX7_remember_13 : decode cX7_remember 13 = .ok (.if_icmp .lt 7, 3) := by decide +kernel
theorem dX7_remember_16 : decode cX7_remember 16 = .ok (.aload_n 0, 1) := by decide +kernel
theorem dX7_remember_17 : decode cX7_remember 17 = .ok (.invokevirtual 242, 3) := by decide +kernel
theorem dX7_remember_20 : decode cX7_remember 20 = .ok (.aload_n 0, 1) := by decide +kernel
theorem dX7_remember_21 : decode cX7_remember 21 = .ok (.getfield 16, 3) := by decide +kernel
theorem dX7_remember_24 : decode cX7_remember 24 = .ok (.aload_n 0, 1) := by decide +kernel
theorem dX7_remember_25 : decode cX7_remember 25 = .ok (.getfield 232, 3) := by decide +kernel
theorem dX7_remember_28 : decode cX7_remember 28 = .ok (.aaload, 1) := by decide +kernel
theorem dX7_remember_29 : decode cX7_remember 29 = .ok (.aload_n 0, 1) := by decide +kernel
theorem dX7_remember_30 : decode cX7_remember 30 = .ok (.getfield 12, 3) := by decide +kernel
theorem dX7_remember_33 : decode cX7_remember 33 = .ok (.invokevirtual 235, 3) := by decide +kernel
theorem dX7_remember_36 : decode cX7_remember 36 = .ok (.aload_n 0, 1) := by decide +kernel
theorem dX7_remember_37 : decode cX7_remember 37 = .ok (.dup, 1) := by decide +kernel
theorem dX7_remember_38 : decode cX7_remember 38 = .ok (.getfield 232, 3) := by decide +kernel
theorem dX7_remember_41 : decode cX7_remember 41 = .ok (.iconst 1, 1) := by decide +kernel
theorem dX7_remember_42 : decode cX7_remember 42 = .ok (.iadd, 1) := by decide +kernel
theorem dX7_remember_43 : decode cX7_remember 43 = .ok (.putfield 232, 3) := by decide +kernel
theorem dX7_remember_46 : decode cX7_remember 46 = .ok (.return_, 1) := by decide +kernel
theorem dX7_dropOldestState_0 : decode cX7_dropOldestState 0 = .ok (.aload_n 0, 1) := by decide +kernel
theorem dX7_dropOldestState_1 : decode cX7_dropOldestState 1 = .ok (.getfield 16, 3) := by decide +kernel
theorem dX7_dropOldestState_4 : decode cX7_dropOldestState 4 = .ok (.iconst 0, 1) := by decide +kernel
theorem dX7_dropOldestState_5 : decode cX7_dropOldestState 5 = .ok (.aaload, 1) := by decide +kernel
theorem dX7_dropOldestState_6 : decode cX7_dropOldestState 6 = .ok (.astore_n 1, 1) := by decide +kernel
theorem dX7_dropOldestState_7 : decode cX7_dropOldestState 7 = .ok (.iconst 1, 1) := by decide +kernel
theorem dX7_dropOldestState_8 : decode cX7_dropOldestState 8 = .ok (.istore_n 2, 1) := by decide +kernel
theorem dX7_dropOldestState_9 : decode cX7_dropOldestState 9 = .ok (.iload_n 2, 1) := by decide +kernel
theorem dX7_dropOldestState_10 : decode cX7_dropOldestState 10 = .ok (.iconst 5, 1) := by decide +kernel
theorem dX7_dropOldestState_11 : decode cX7_dropOldestState 11 = .ok (.if_icmp .ge 23, 3) := by decide +kernel
theorem dX7_dropOldestState_14 : decode cX7_dropOldestState 14 = .ok (.aload_n 0, 1) := by decide +kernel
theorem dX7_dropOldestState_15 : decode cX7_dropOldestState 15 = .ok (.getfield 16, 3) := by decide +kernel
theorem dX7_dropOldestState_18 : decode cX7_dropOldestState 18 = .ok (.iload_n 2, 1) := by decide +kernel
theorem dX7_dropOldestState_19 : decode cX7_dropOldestState 19 = .ok (.iconst 1, 1) := by decide +kernel
theorem dX7_dropOldestState_20 : decode cX7_dropOldestState 20 = .ok (.isub, 1) := by decide +kernel
theorem dX7_dropOldestState_21 : decode cX7_dropOldestState 21 = .ok (.aload_n 0, 1) := by decide +kernel
theorem dX7_dropOldestState_22 : decode cX7_dropOldestState 22 = .ok (.getfield 16, 3) := by decide +kernel
theorem dX7_dropOldestState_25 : decode cX7_dropOldestState 25 = .ok (.iload_n 2, 1) := by decide +kernel
theorem dX7_dropOldestState_26 : decode cX7_dropOldestState 26 = .ok (.aaload, 1) := by decide +kernel
theorem dX7_dropOldestState_27 : decode cX7_dropOldestState 27 = .ok (.aastore, 1) := by decide +kernel
theorem dX7_dropOldestState_28 : decode cX7_dropOldestState 28 = .ok (.iinc 2 1, 3) := by decide +kernel
theorem dX7_dropOldestState_31 : decode cX7_dropOldestState 31 = .ok (.goto (-22), 3) := by decide +kernel
theorem dX7_dropOldestState_34 : decode cX7_dropOldestState 34 = .ok (.aload_n 0, 1) := by decide +kernel
theorem dX7_dropOldestState_35 : decode cX7_dropOldestState 35 = .ok (.getfield 16, 3) := by decide +kernel
theorem dX7_dropOldestState_38 : decode cX7_dropOldestState 38 = .ok (.iconst 4, 1) := by decide +kernel
theorem dX7_dropOldestState_39 : decode cX7_dropOldestState 39 = .ok (.aload_n 1, 1) := by decide +kernel
theorem dX7_dropOldestState_40 : decode cX7_dropOldestState 40 = .ok (.aastore, 1) := by decide +kernel
theorem dX7_dropOldestState_41 : decode cX7_dropOldestState 41 = .ok (.aload_n 0, 1) := by decide +kernel
theorem dX7_dropOldestState_42 : decode cX7_dropOldestState 42 = .ok (.iconst 4, 1) := by decide +kernel
theorem dX7_dropOldestState_43 : decode cX7_dropOldestState 43 = .ok (.putfield 232, 3) := by decide +kernel
theorem dX7_dropOldestState_46 : decode cX7_dropOldestState 46 = .ok (.return_, 1) := by decide +kernel
theorem dX7_wire_0 : decode cX7_wire 0 = .ok (.iload_n 1, 1) := by decide +kernel
theorem dX7_wire_1 : decode cX7_wire 1 = .ok (.invokestatic 38, 3) := by decide +kernel
theorem dX7_wire_4 : decode cX7_wire 4 = .ok (.ifCond .ne 6, 3) := by decide +kernel
theorem dX7_wire_7 : decode cX7_wire 7 = .ok (.ldc 42, 2) := by decide +kernel
theorem dX7_wire_9 : decode cX7_wire 9 = .ok (.ireturn, 1) := by decide +kernel
theorem dX7_wire_10 : decode cX7_wire 10 = .ok (.iload_n 2, 1) := by decide +kernel
theorem dX7_wire_11 : decode cX7_wire 11 = .ok (.iconst 0, 1) := by decide +kernel
theorem dX7_wire_12 : decode cX7_wire 12 = .ok (.bipush 10, 2) := by decide +kernel
theorem dX7_wire_14 : decode cX7_wire 14 = .ok (.invokestatic 43, 3) := by decide +kernel
theorem dX7_wire_17 : decode cX7_wire 17 = .ok (.ifCond .ne 6, 3) := by decide +kernel
theorem dX7_wire_20 : decode cX7_wire 20 = .ok (.ldc 47, 2) := by decide +kernel
theorem dX7_wire_22 : decode cX7_wire 22 = .ok (.ireturn, 1) := by decide +kernel
theorem dX7_wire_23 : decode cX7_wire 23 = .ok (.aload_n 0, 1) := by decide +kernel
theorem dX7_wire_24 : decode cX7_wire 24 = .ok (.iload_n 1, 1) := by decide +kernel
theorem dX7_wire_25 : decode cX7_wire 25 = .ok (.invokevirtual 69, 3) := by decide +kernel
theorem dX7_wire_28 : decode cX7_wire 28 = .ok (.ifCond .ne 6, 3) := by decide +kernel
theorem dX7_wire_31 : decode cX7_wire 31 = .ok (.ldc 123, 2) := by decide +kernel
theorem dX7_wire_33 : decode cX7_wire 33 = .ok (.ireturn, 1) := by decide +kernel
theorem dX7_wire_34 : decode cX7_wire 34 = .ok (.aload_n 0, 1) := by decide +kernel
theorem dX7_wire_35 : decode cX7_wire 35 = .ok (.getfield 12, 3) := by decide +kernel
theorem dX7_wire_38 : decode cX7_wire 38 = .ok (.getfield 51, 3) := by decide +kernel
theorem dX7_wire_41 : decode cX7_wire 41 = .ok (.iload_n 1, 1) := by decide +kernel
theorem dX7_wire_42 : decode cX7_wire 42 = .ok (.aaload, 1) := by decide +kernel
theorem dX7_wire_43 : decode cX7_wire 43 = .ok (.iload_n 2, 1) := by decide +kernel
theorem dX7_wire_44 : decode cX7_wire 44 = .ok (.invokevirtual 245, 3) := by decide +kernel
theorem dX7_wire_47 : decode cX7_wire 47 = .ok (.ireturn, 1) := by decide +kernel
theorem dX7_rest_0 : decode cX7_rest 0 = .ok (.aload_n 0, 1) := by decide +kernel
theorem dX7_rest_1 : decode cX7_rest 1 = .ok (.iload_n 1, 1) := by decide +kernel
theorem dX7_rest_2 : decode cX7_rest 2 = .ok (.iload_n 2, 1) := by decide +kernel
theorem dX7_rest_3 : decode cX7_rest 3 = .ok (.iload_n 3, 1) := by decide +kernel
theorem dX7_rest_4 : decode cX7_rest 4 = .ok (.invokevirtual 248, 3) := by decide +kernel
theorem dX7_rest_7 : decode cX7_rest 7 = .ok (.istore 4, 2) := by decide +kernel
theorem dX7_rest_9 : decode cX7_rest 9 = .ok (.iload 4, 2) := by decide +kernel
theorem dX7_rest_11 : decode cX7_rest 11 = .ok (.ifCond .eq 6, 3) := by decide +kernel
theorem dX7_rest_14 : decode cX7_rest 14 = .ok (.iload 4, 2) := by decide +kernel
theorem dX7_rest_16 : decode cX7_rest 16 = .ok (.ireturn, 1) := by decide +kernel
theorem dX7_rest_17 : decode cX7_rest 17 = .ok (.aload_n 0, 1) := by decide +kernel
theorem dX7_rest_18 : decode cX7_rest 18 = .ok (.getfield 12, 3) := by decide +kernel
theorem dX7_rest_21 : decode cX7_rest 21 = .ok (.aload_n 0, 1) := by decide +kernel
theorem dX7_rest_22 : decode cX7_rest 22 = .ok (.getfield 12, 3) := by decide +kernel
theorem dX7_rest_25 : decode cX7_rest 25 = .ok (.getfield 51, 3) := by decide +kernel
theorem dX7_rest_28 : decode cX7_rest 28 = .ok (.iload_n 1, 1) := by decide +kernel
theorem dX7_rest_29 : decode cX7_rest 29 = .ok (.aaload, 1) := by decide +kernel
theorem dX7_rest_30 : decode cX7_rest 30 = .ok (.iload_n 2, 1) := by decide +kernel
theorem dX7_rest_31 : decode cX7_rest 31 = .ok (.iload_n 3, 1) := by decide +kernel
theorem dX7_rest_32 : decode cX7_rest 32 = .ok (.invokevirtual 251, 3) := by decide +kernel
theorem dX7_rest_35 : decode cX7_rest 35 = .ok (.ireturn, 1) := by decide +kernel
theorem dX7_position_0 : decode cX7_position 0 = .ok (.aload_n 0, 1) := by decide +kernel
theorem dX7_position_1 : decode cX7_position 1 = .ok (.iload_n 1, 1) := by decide +kernel
theorem dX7_position_2 : decode cX7_position 2 = .ok (.iload_n 2, 1) := by decide +kernel
theorem dX7_position_3 : decode cX7_position 3 = .ok (.iload_n 3, 1) := by decide +kernel
theorem dX7_position_4 : decode cX7_position 4 = .ok (.invokevirtual 248, 3) := by decide +kernel
theorem dX7_position_7 : decode cX7_position 7 = .ok (.istore 4, 2) := by decide +kernel
theorem dX7_position_9 : decode cX7_position 9 = .ok (.iload 4, 2) := by decide +kernel
theorem dX7_position_11 : decode cX7_position 11 = .ok (.ifCond .eq 6, 3) := by decide +kernel
theorem dX7_position_14 : decode cX7_position 14 = .ok (.iload 4, 2) := by decide +kernel
theorem dX7_position_16 : decode cX7_position 16 = .ok (.ireturn, 1) := by decide +kernel
theorem dX7_position_17 : decode cX7_position 17 = .ok (.aload_n 0, 1) := by decide +kernel
theorem dX7_position_18 : decode cX7_position 18 = .ok (.getfield 12, 3) := by decide +kernel
theorem dX7_position_21 : decode cX7_position 21 = .ok (.getfield 51, 3) := by decide +kernel
theorem dX7_position_24 : decode cX7_position 24 = .ok (.iload_n 1, 1) := by decide +kernel
theorem dX7_position_25 : decode cX7_position 25 = .ok (.aaload, 1) := by decide +kernel
theorem dX7_position_26 : decode cX7_position 26 = .ok (.astore 5, 2) := by decide +kernel
theorem dX7_position_28 : decode cX7_position 28 = .ok (.aload_n 0, 1) := by decide +kernel
theorem dX7_position_29 : decode cX7_position 29 = .ok (.getfield 12, 3) := by decide +kernel
theorem dX7_position_32 : decode cX7_position 32 = .ok (.aload 5, 2) := by decide +kernel
theorem dX7_position_34 : decode cX7_position 34 = .ok (.iload_n 2, 1) := by decide +kernel
theorem dX7_position_35 : decode cX7_position 35 = .ok (.iload_n 3, 1) := by decide +kernel
theorem dX7_position_36 : decode cX7_position 36 = .ok (.invokevirtual 251, 3) := by decide +kernel
theorem dX7_position_39 : decode cX7_position 39 = .ok (.aload 5, 2) := by decide +kernel
theorem dX7_position_41 : decode cX7_position 41 = .ok (.iload_n 2, 1) := by decide +kernel
theorem dX7_position_42 : decode cX7_position 42 = .ok (.iload_n 3, 1) := by decide +kernel
theorem dX7_position_43 : decode cX7_position 43 = .ok (.invokevirtual 255, 3) := by decide +kernel
theorem dX7_position_46 : decode cX7_position 46 = .ok (.iadd, 1) := by decide +kernel
theorem dX7_position_47 : decode cX7_position 47 = .ok (.ireturn, 1) := by decide +kernel
theorem dX7_calmIn_0 : decode cX7_calmIn 0 = .ok (.iload_n 1, 1) := by decide +kernel
theorem dX7_calmIn_1 : decode cX7_calmIn 1 = .ok (.invokestatic 38, 3) := by decide +kernel
theorem dX7_calmIn_4 : decode cX7_calmIn 4 = .ok (.ifCond .ne 6, 3) := by decide +kernel
theorem dX7_calmIn_7 : decode cX7_calmIn 7 = .ok (.ldc 42, 2) := by decide +kernel
theorem dX7_calmIn_9 : decode cX7_calmIn 9 = .ok (.ireturn, 1) := by decide +kernel
theorem dX7_calmIn_10 : decode cX7_calmIn 10 = .ok (.iload_n 2, 1) := by decide +kernel
theorem dX7_calmIn_11 : decode cX7_calmIn 11 = .ok (.iconst 0, 1) := by decide +kernel
theorem dX7_calmIn_12 : decode cX7_calmIn 12 = .ok (.sipush 500, 3) := by decide +kernel
theorem dX7_calmIn_15 : decode cX7_calmIn 15 = .ok (.invokestatic 43, 3) := by decide +kernel
theorem dX7_calmIn_18 : decode cX7_calmIn 18 = .ok (.ifCond .ne 6, 3) := by decide +kernel
theorem dX7_calmIn_21 : decode cX7_calmIn 21 = .ok (.ldc 47, 2) := by decide +kernel
theorem dX7_calmIn_23 : decode cX7_calmIn 23 = .ok (.ireturn, 1) := by decide +kernel
theorem dX7_calmIn_24 : decode cX7_calmIn 24 = .ok (.aload_n 0, 1) := by decide +kernel
theorem dX7_calmIn_25 : decode cX7_calmIn 25 = .ok (.iload_n 1, 1) := by decide +kernel
theorem dX7_calmIn_26 : decode cX7_calmIn 26 = .ok (.invokevirtual 69, 3) := by decide +kernel
theorem dX7_calmIn_29 : decode cX7_calmIn 29 = .ok (.ifCond .ne 6, 3) := by decide +kernel
theorem dX7_calmIn_32 : decode cX7_calmIn 32 = .ok (.ldc 123, 2) := by decide +kernel
theorem dX7_calmIn_34 : decode cX7_calmIn 34 = .ok (.ireturn, 1) := by decide +kernel
theorem dX7_calmIn_35 : decode cX7_calmIn 35 = .ok (.aload_n 0, 1) := by decide +kernel
theorem dX7_calmIn_36 : decode cX7_calmIn 36 = .ok (.getfield 12, 3) := by decide +kernel
theorem dX7_calmIn_39 : decode cX7_calmIn 39 = .ok (.getfield 51, 3) := by decide +kernel
theorem dX7_calmIn_42 : decode cX7_calmIn 42 = .ok (.iload_n 1, 1) := by decide +kernel
theorem dX7_calmIn_43 : decode cX7_calmIn 43 = .ok (.aaload, 1) := by decide +kernel
theorem dX7_calmIn_44 : decode cX7_calmIn 44 = .ok (.iload_n 2, 1) := by decide +kernel
theorem dX7_calmIn_45 : decode cX7_calmIn 45 = .ok (.invokevirtual 258, 3) := by decide +kernel
theorem dX7_calmIn_48 : decode cX7_calmIn 48 = .ok (.ireturn, 1) := by decide +kernel
theorem dX7_station_0 : decode cX7_station 0 = .ok (.aload_n 0, 1) := by decide +kernel
theorem dX7_station_1 : decode cX7_station 1 = .ok (.iload_n 1, 1) := by decide +kernel
theorem dX7_station_2 : decode cX7_station 2 = .ok (.invokevirtual 145, 3) := by decide +kernel
theorem dX7_station_5 : decode cX7_station 5 = .ok (.ifCond .ne 6, 3) := by decide +kernel
theorem dX7_station_8 : decode cX7_station 8 = .ok (.ldc 42, 2) := by decide +kernel
theorem dX7_station_10 : decode cX7_station 10 = .ok (.ireturn, 1) := by decide +kernel
theorem dX7_station_11 : decode cX7_station 11 = .ok (.aload_n 0, 1) := by decide +kernel
theorem dX7_station_12 : decode cX7_station 12 = .ok (.getfield 12, 3) := by decide +kernel
theorem dX7_station_15 : decode cX7_station 15 = .ok (.getfield 127, 3) := by decide +kernel
theorem dX7_station_18 : decode cX7_station 18 = .ok (.iload_n 1, 1) := by decide +kernel
theorem dX7_station_19 : decode cX7_station 19 = .ok (.aaload, 1) := by decide +kernel
theorem dX7_station_20 : decode cX7_station 20 = .ok (.astore_n 3, 1) := by decide +kernel
theorem dX7_station_21 : decode cX7_station 21 = .ok (.iload_n 2, 1) := by decide +kernel
theorem dX7_station_22 : decode cX7_station 22 = .ok (.tableswitch 62 0 3 #[30, 35, 40, 57], 30) := by decide +kernel
theorem dX7_station_52 : decode cX7_station 52 = .ok (.aload_n 3, 1) := by decide +kernel
theorem dX7_station_53 : decode cX7_station 53 = .ok (.getfield 148, 3) := by decide +kernel
theorem dX7_station_56 : decode cX7_station 56 = .ok (.ireturn, 1) := by decide +kernel
theorem dX7_station_57 : decode cX7_station 57 = .ok (.aload_n 3, 1) := by decide +kernel
theorem dX7_station_58 : decode cX7_station 58 = .ok (.getfield 261, 3) := by decide +kernel
theorem dX7_station_61 : decode cX7_station 61 = .ok (.ireturn, 1) := by decide +kernel
theorem dX7_station_62 : decode cX7_station 62 = .ok (.aload_n 3, 1) := by decide +kernel
theorem dX7_station_63 : decode cX7_station 63 = .ok (.getfield 187, 3) := by decide +kernel
theorem dX7_station_66 : decode cX7_station 66 = .ok (.ifCond .eq 10, 3) := by decide +kernel
theorem dX7_station_69 : decode cX7_station 69 = .ok (.aload_n 3, 1) := by decide +kernel
theorem dX7_station_70 : decode cX7_station 70 = .ok (.getfield 184, 3) := by decide +kernel
theorem dX7_station_73 : decode cX7_station 73 = .ok (.goto 5, 3) := by decide +kernel
theorem dX7_station_76 : decode cX7_station 76 = .ok (.ldc 123, 2) := by decide +kernel
theorem dX7_station_78 : decode cX7_station 78 = .ok (.ireturn, 1) := by decide +kernel
theorem dX7_station_79 : decode cX7_station 79 = .ok (.aload_n 3, 1) := by decide +kernel
theorem dX7_station_80 : decode cX7_station 80 = .ok (.invokevirtual 264, 3) := by decide +kernel
theorem dX7_station_83 : decode cX7_station 83 = .ok (.ireturn, 1) := by decide +kernel
theorem dX7_station_84 : decode cX7_station 84 = .ok (.ldc 47, 2) := by decide +kernel
theorem dX7_station_86 : decode cX7_station 86 = .ok (.ireturn, 1) := by decide +kernel
theorem dX7_observation_0 : decode cX7_observation 0 = .ok (.aload_n 0, 1) := by decide +kernel
theorem dX7_observation_1 : decode cX7_observation 1 = .ok (.iload_n 1, 1) := by decide +kernel
theorem dX7_observation_2 : decode cX7_observation 2 = .ok (.invokevirtual 145, 3) := by decide +kernel
theorem dX7_observation_5 : decode cX7_observation 5 = .ok (.ifCond .eq 10, 3) := by decide +kernel
theorem dX7_observation_8 : decode cX7_observation 8 = .ok (.iload_n 2, 1) := by decide +kernel
theorem dX7_observation_9 : decode cX7_observation 9 = .ok (.invokestatic 38, 3) := by decide +kernel
theorem dX7_observation_12 : decode cX7_observation 12 = .ok (.ifCond .ne 6, 3) := by decide +kernel
theorem dX7_observation_15 : decode cX7_observation 15 = .ok (.ldc 42, 2) := by decide +kernel
theorem dX7_observation_17 : decode cX7_observation 17 = .ok (.ireturn, 1) := by decide +kernel
theorem dX7_observation_18 : decode cX7_observation 18 = .ok (.iload_n 3, 1) := by decide +kernel
theorem dX7_observation_19 : decode cX7_observation 19 = .ok (.iconst 0, 1) := by decide +kernel
theorem dX7_observation_20 : decode cX7_observation 20 = .ok (.iconst 4, 1) := by decide +kernel
theorem dX7_observation_21 : decode cX7_observation 21 = .ok (.invokestatic 43, 3) := by decide +kernel
theorem dX7_observation_24 : decode cX7_observation 24 = .ok (.ifCond .ne 6, 3) := by decide +kernel
theorem dX7_observation_27 : decode cX7_observation 27 = .ok (.ldc 47, 2) := by decide +kernel
theorem dX7_observation_29 : decode cX7_observation 29 = .ok (.ireturn, 1) := by decide +kernel
theorem dX7_observation_30 : decode cX7_observation 30 = .ok (.aload_n 0, 1) := by decide +kernel
theorem dX7_observation_31 : decode cX7_observation 31 = .ok (.getfield 12, 3) := by decide +kernel
theorem dX7_observation_34 : decode cX7_observation 34 = .ok (.getfield 127, 3) := by decide +kernel
theorem dX7_observation_37 : decode cX7_observation 37 = .ok (.iload_n 1, 1) := by decide +kernel
theorem dX7_observation_38 : decode cX7_observation 38 = .ok (.aaload, 1) := by decide +kernel
theorem dX7_observation_39 : decode cX7_observation 39 = .ok (.getfield 156, 3) := by decide +kernel
theorem dX7_observation_42 : decode cX7_observation 42 = .ok (.iload_n 2, 1) := by decide +kernel
theorem dX7_observation_43 : decode cX7_observation 43 = .ok (.aaload, 1) := by decide +kernel
theorem dX7_observation_44 : decode cX7_observation 44 = .ok (.astore 4, 2) := by decide +kernel
theorem dX7_observation_46 : decode cX7_observation 46 = .ok (.aload 4, 2) := by decide +kernel
theorem dX7_observation_48 : decode cX7_observation 48 = .ok (.getfield 267, 3) := by decide +kernel
theorem dX7_observation_51 : decode cX7_observation 51 = .ok (.ifCond .ne 6, 3) := by decide +kernel
theorem dX7_observation_54 : decode cX7_observation 54 = .ok (.ldc 123, 2) := by decide +kernel
theorem dX7_observation_56 : decode cX7_observation 56 = .ok (.ireturn, 1) := by decide +kernel
theorem dX7_observation_57 : decode cX7_observation 57 = .ok (.aload 4, 2) := by decide +kernel
theorem dX7_observation_59 : decode cX7_observation 59 = .ok (.iload_n 3, 1) := by decide +kernel
theorem dX7_observation_60 : decode cX7_observation 60 = .ok (.invokevirtual 270, 3) := by decide +kernel
theorem dX7_observation_63 : decode cX7_observation 63 = .ok (.ireturn, 1) := by decide +kernel
theorem dX7_bearing_0 : decode cX7_bearing 0 = .ok (.iload_n 1, 1) := by decide +kernel
theorem dX7_bearing_1 : decode cX7_bearing 1 = .ok (.sipush (-20000), 3) := by decide +kernel
theorem dX7_bearing_4 : decode cX7_bearing 4 = .ok (.sipush 20000, 3) := by decide +kernel
theorem dX7_bearing_7 : decode cX7_bearing 7 = .ok (.invokestatic 43, 3) := by decide +kernel
theorem dX7_bearing_10 : decode cX7_bearing 10 = .ok (.ifCond .eq 24, 3) := by decide +kernel
theorem dX7_bearing_13 : decode cX7_bearing 13 = .ok (.iload_n 2, 1) := by decide +kernel
theorem dX7_bearing_14 : decode cX7_bearing 14 = .ok (.sipush (-20000), 3) := by decide +kernel
theorem dX7_bearing_17 : decode cX7_bearing 17 = .ok (.sipush 20000, 3) := by decide +kernel
theorem dX7_bearing_20 : decode cX7_bearing 20 = .ok (.invokestatic 43, 3) := by decide +kernel
theorem dX7_bearing_23 : decode cX7_bearing 23 = .ok (.ifCond .eq 11, 3) := by decide +kernel
theorem dX7_bearing_26 : decode cX7_bearing 26 = .ok (.iload_n 1, 1) := by decide +kernel
theorem dX7_bearing_27 : decode cX7_bearing 27 = .ok (.ifCond .ne 10, 3) := by decide +kernel
theorem dX7_bearing_30 : decode cX7_bearing 30 = .ok (.iload_n 2, 1) := by decide +kernel
theorem dX7_bearing_31 : decode cX7_bearing 31 = .ok (.ifCond .ne 6, 3) := by decide +kernel
theorem dX7_bearing_34 : decode cX7_bearing 34 = .ok (.ldc 47, 2) := by decide +kernel
theorem dX7_bearing_36 : decode cX7_bearing 36 = .ok (.ireturn, 1) := by decide +kernel
theorem dX7_bearing_37 : decode cX7_bearing 37 = .ok (.iload_n 1, 1) := by decide +kernel
theorem dX7_bearing_38 : decode cX7_bearing 38 = .ok (.i2l, 1) := by decide +kernel
theorem dX7_bearing_39 : decode cX7_bearing 39 = .ok (.iload_n 2, 1) := by decide +kernel
theorem dX7_bearing_40 : decode cX7_bearing 40 = .ok (.i2l, 1) := by decide +kernel
theorem dX7_bearing_41 : decode cX7_bearing 41 = .ok (.invokestatic 271, 3) := by decide +kernel
theorem dX7_bearing_44 : decode cX7_bearing 44 = .ok (.ireturn, 1) := by decide +kernel
theorem dX7_surface_0 : decode cX7_surface 0 = .ok (.iload_n 1, 1) := by decide +kernel
theorem dX7_surface_1 : decode cX7_surface 1 = .ok (.invokestatic 275, 3) := by decide +kernel
theorem dX7_surface_4 : decode cX7_surface 4 = .ok (.ifCond .ne 6, 3) := by decide +kernel
theorem dX7_surface_7 : decode cX7_surface 7 = .ok (.ldc 42, 2) := by decide +kernel
theorem dX7_surface_9 : decode cX7_surface 9 = .ok (.ireturn, 1) := by decide +kernel
theorem dX7_surface_10 : decode cX7_surface 10 = .ok (.aload_n 0, 1) := by decide +kernel
theorem dX7_surface_11 : decode cX7_surface 11 = .ok (.iload_n 1, 1) := by decide +kernel
theorem dX7_surface_12 : decode cX7_surface 12 = .ok (.invokevirtual 278, 3) := by decide +kernel
theorem dX7_surface_15 : decode cX7_surface 15 = .ok (.ifCond .eq 11, 3) := by decide +kernel
theorem dX7_surface_18 : decode cX7_surface 18 = .ok (.aload_n 0, 1) := by decide +kernel
theorem dX7_surface_19 : decode cX7_surface 19 = .ok (.iload_n 1, 1) := by decide +kernel
theorem dX7_surface_20 : decode cX7_surface 20 = .ok (.invokevirtual 281, 3) := by decide +kernel
theorem dX7_surface_23 : decode cX7_surface 23 = .ok (.ifCond .eq 6, 3) := by decide +kernel
theorem dX7_surface_26 : decode cX7_surface 26 = .ok (.ldc 123, 2) := by decide +kernel
theorem dX7_surface_28 : decode cX7_surface 28 = .ok (.ireturn, 1) := by decide +kernel
theorem dX7_surface_29 : decode cX7_surface 29 = .ok (.aload_n 0, 1) := by decide +kernel
theorem dX7_surface_30 : decode cX7_surface 30 = .ok (.iload_n 1, 1) := by decide +kernel
theorem dX7_surface_31 : decode cX7_surface 31 = .ok (.invokevirtual 284, 3) := by decide +kernel
theorem dX7_surface_34 : decode cX7_surface 34 = .ok (.ireturn, 1) := by decide +kernel
theorem dX7_given_0 : decode cX7_given 0 = .ok (.aload_n 0, 1) := by decide +kernel
theorem dX7_given_1 : decode cX7_given 1 = .ok (.iload_n 1, 1) := by decide +kernel
theorem dX7_given_2 : decode cX7_given 2 = .ok (.invokevirtual 145, 3) := by decide +kernel
theorem dX7_given_5 : decode cX7_given 5 = .ok (.ifCond .eq 10, 3) := by decide +kernel
theorem dX7_given_8 : decode cX7_given 8 = .ok (.iload_n 2, 1) := by decide +kernel
theorem dX7_given_9 : decode cX7_given 9 = .ok (.invokestatic 275, 3) := by decide +kernel
theorem dX7_given_12 : decode cX7_given 12 = .ok (.ifCond .ne 6, 3) := by decide +kernel
theorem dX7_given_15 : decode cX7_given 15 = .ok (.ldc 42, 2) := by decide +kernel
theorem dX7_given_17 : decode cX7_given 17 = .ok (.ireturn, 1) := by decide +kernel
theorem dX7_given_18 : decode cX7_given 18 = .ok (.aload_n 0, 1) := by decide +kernel
theorem dX7_given_19 : decode cX7_given 19 = .ok (.iload_n 1, 1) := by decide +kernel
theorem dX7_given_20 : decode cX7_given 20 = .ok (.iload_n 2, 1) := by decide +kernel
theorem dX7_given_21 : decode cX7_given 21 = .ok (.invokevirtual 165, 3) := by decide +kernel
theorem dX7_given_24 : decode cX7_given 24 = .ok (.ifCond .eq 6, 3) := by decide +kernel
theorem dX7_given_27 : decode cX7_given 27 = .ok (.ldc 123, 2) := by decide +kernel
theorem dX7_given_29 : decode cX7_given 29 = .ok (.ireturn, 1) := by decide +kernel
theorem dX7_given_30 : decode cX7_given 30 = .ok (.aload_n 0, 1) := by decide +kernel
theorem dX7_given_31 : decode cX7_given 31 = .ok (.iload_n 1, 1) := by decide +kernel
theorem dX7_given_32 : decode cX7_given 32 = .ok (.iload_n 2, 1) := by decide +kernel
theorem dX7_given_33 : decode cX7_given 33 = .ok (.invokevirtual 172, 3) := by decide +kernel
theorem dX7_given_36 : decode cX7_given 36 = .ok (.ireturn, 1) := by decide +kernel
theorem dX7_count_0 : decode cX7_count 0 = .ok (.iload_n 1, 1) := by decide +kernel
theorem dX7_count_1 : decode cX7_count 1 = .ok (.tableswitch 141 0 10 #[59, 67, 75, 83, 91, 99, 107, 115, 123, 128, 133], 59) := by decide +kernel
theorem dX7_count_60 : decode cX7_count 60 = .ok (.aload_n 0, 1) := by decide +kernel
theorem dX7_count_61 : decode cX7_count 61 = .ok (.getfield 12, 3) := by decide +kernel
theorem dX7_count_64 : decode cX7_count 64 = .ok (.getfield 142, 3) := by decide +kernel
theorem dX7_count_67 : decode cX7_count 67 = .ok (.ireturn, 1) := by decide +kernel
theorem dX7_count_68 : decode cX7_count 68 = .ok (.aload_n 0, 1) := by decide +kernel
theorem dX7_count_69 : decode cX7_count 69 = .ok (.getfield 12, 3) := by decide +kernel
theorem dX7_count_72 : decode cX7_count 72 = .ok (.invokevirtual 65, 3) := by decide +kernel
theorem dX7_count_75 : decode cX7_count 75 = .ok (.ireturn, 1) := by decide +kernel
theorem dX7_count_76 : decode cX7_count 76 = .ok (.aload_n 0, 1) := by decide +kernel
theorem dX7_count_77 : decode cX7_count 77 = .ok (.getfield 12, 3) := by decide +kernel
theorem dX7_count_80 : decode cX7_count 80 = .ok (.getfield 107, 3) := by decide +kernel
theorem dX7_count_83 : decode cX7_count 83 = .ok (.ireturn, 1) := by decide +kernel
theorem dX7_count_84 : decode cX7_count 84 = .ok (.aload_n 0, 1) := by decide +kernel
theorem dX7_count_85 : decode cX7_count 85 = .ok (.getfield 12, 3) := by decide +kernel
theorem dX7_count_88 : decode cX7_count 88 = .ok (.getfield 124, 3) := by decide +kernel
theorem dX7_count_91 : decode cX7_count 91 = .ok (.ireturn, 1) := by decide +kernel
theorem dX7_count_92 : decode cX7_count 92 = .ok (.aload_n 0, 1) := by decide +kernel
theorem dX7_count_93 : decode cX7_count 93 = .ok (.getfield 12, 3) := by decide +kernel
theorem dX7_count_96 : decode cX7_count 96 = .ok (.invokevirtual 287, 3) := by decide +kernel
theorem dX7_count_99 : decode cX7_count 99 = .ok (.ireturn, 1) := by decide +kernel
theorem dX7_count_100 : decode cX7_count 100 = .ok (.aload_n 0, 1) := by decide +kernel
theorem dX7_count_101 : decode cX7_count 101 = .ok (.getfield 12, 3) := by decide +kernel
theorem dX7_count_104 : decode cX7_count 104 = .ok (.invokevirtual 290, 3) := by decide +kernel
theorem dX7_count_107 : decode cX7_count 107 = .ok (.ireturn, 1) := by decide +kernel
theorem dX7_count_108 : decode cX7_count 108 = .ok (.aload_n 0, 1) := by decide +kernel
theorem dX7_count_109 : decode cX7_count 109 = .ok (.getfield 12, 3) := by decide +kernel
theorem dX7_count_112 : decode cX7_count 112 = .ok (.getfield 136, 3) := by decide +kernel
theorem dX7_count_115 : decode cX7_count 115 = .ok (.ireturn, 1) := by decide +kernel
theorem dX7_count_116 : decode cX7_count 116 = .ok (.aload_n 0, 1) := by decide +kernel
theorem dX7_count_117 : decode cX7_count 117 = .ok (.getfield 12, 3) := by decide +kernel
theorem dX7_count_120 : decode cX7_count 120 = .ok (.getfield 291, 3) := by decide +kernel
theorem dX7_count_123 : decode cX7_count 123 = .ok (.ireturn, 1) := by decide +kernel
theorem dX7_count_124 : decode cX7_count 124 = .ok (.aload_n 0, 1) := by decide +kernel
theorem dX7_count_125 : decode cX7_count 125 = .ok (.getfield 34, 3) := by decide +kernel
theorem dX7_count_128 : decode cX7_count 128 = .ok (.ireturn, 1) := by decide +kernel
theorem dX7_count_129 : decode cX7_count 129 = .ok (.aload_n 0, 1) := by decide +kernel
theorem dX7_count_130 : decode cX7_count 130 = .ok (.getfield 232, 3) := by decide +kernel
theorem dX7_count_133 : decode cX7_count 133 = .ok (.ireturn, 1) := by decide +kernel
theorem dX7_count_134 : decode cX7_count 134 = .ok (.aload_n 0, 1) := by decide +kernel
theorem dX7_count_135 : decode cX7_count 135 = .ok (.getfield 30, 3) := by decide +kernel
theorem dX7_count_138 : decode cX7_count 138 = .ok (.getfield 190, 3) := by decide +kernel
theorem dX7_count_141 : decode cX7_count 141 = .ok (.ireturn, 1) := by decide +kernel
theorem dX7_count_142 : decode cX7_count 142 = .ok (.ldc 47, 2) := by decide +kernel
theorem dX7_count_144 : decode cX7_count 144 = .ok (.ireturn, 1) := by decide +kernel
theorem dX7_isWithin_0 : decode cX7_isWithin 0 = .ok (.iload_n 0, 1) := by decide +kernel
theorem dX7_isWithin_1 : decode cX7_isWithin 1 = .ok (.iload_n 1, 1) := by decide +kernel
theorem dX7_isWithin_2 : decode cX7_isWithin 2 = .ok (.if_icmp .lt 12, 3) := by decide +kernel
theorem dX7_isWithin_5 : decode cX7_isWithin 5 = .ok (.iload_n 0, 1) := by decide +kernel
theorem dX7_isWithin_6 : decode cX7_isWithin 6 = .ok (.iload_n 2, 1) := by decide +kernel
theorem dX7_isWithin_7 : decode cX7_isWithin 7 = .ok (.if_icmp .gt 7, 3) := by decide +kernel
theorem dX7_isWithin_10 : decode cX7_isWithin 10 = .ok (.iconst 1, 1) := by decide +kernel
theorem dX7_isWithin_11 : decode cX7_isWithin 11 = .ok (.goto 4, 3) := by decide +kernel
theorem dX7_isWithin_14 : decode cX7_isWithin 14 = .ok (.iconst 0, 1) := by decide +kernel
theorem dX7_isWithin_15 : decode cX7_isWithin 15 = .ok (.ireturn, 1) := by decide +kernel
theorem dX7_isWire_0 : decode cX7_isWire 0 = .ok (.iload_n 0, 1) := by decide +kernel
theorem dX7_isWire_1 : decode cX7_isWire 1 = .ok (.iconst 0, 1) := by decide +kernel
theorem dX7_isWire_2 : decode cX7_isWire 2 = .ok (.iconst 3, 1) := by decide +kernel
theorem dX7_isWire_3 : decode cX7_isWire 3 = .ok (.invokestatic 43, 3) := by decide +kernel
theorem dX7_isWire_6 : decode cX7_isWire 6 = .ok (.ireturn, 1) := by decide +kernel
theorem dX7_isPair_0 : decode cX7_isPair 0 = .ok (.iload_n 0, 1) := by decide +kernel
theorem dX7_isPair_1 : decode cX7_isPair 1 = .ok (.iconst 0, 1) := by decide +kernel
theorem dX7_isPair_2 : decode cX7_isPair 2 = .ok (.iconst 1, 1) := by decide +kernel
theorem dX7_isPair_3 : decode cX7_isPair 3 = .ok (.invokestatic 43, 3) := by decide +kernel
theorem dX7_isPair_6 : decode cX7_isPair 6 = .ok (.ireturn, 1) := by decide +kernel
theorem dX7_isSlot_0 : decode cX7_isSlot 0 = .ok (.iload_n 0, 1) := by decide +kernel
theorem dX7_isSlot_1 : decode cX7_isSlot 1 = .ok (.iconst 0, 1) := by decide +kernel
theorem dX7_isSlot_2 : decode cX7_isSlot 2 = .ok (.iconst 1, 1) := by decide +kernel
theorem dX7_isSlot_3 : decode cX7_isSlot 3 = .ok (.invokestatic 43, 3) := by decide +kernel
theorem dX7_isSlot_6 : decode cX7_isSlot 6 = .ok (.ireturn, 1) := by decide +kernel
theorem dX7_isStation_0 : decode cX7_isStation 0 = .ok (.iload_n 1, 1) := by decide +kernel
theorem dX7_isStation_1 : decode cX7_isStation 1 = .ok (.iconst 0, 1) := by decide +kernel
theorem dX7_isStation_2 : decode cX7_isStation 2 = .ok (.aload_n 0, 1) := by decide +kernel
theorem dX7_isStation_3 : decode cX7_isStation 3 = .ok (.getfield 12, 3) := by decide +kernel
theorem dX7_isStation_6 : decode cX7_isStation 6 = .ok (.getfield 124, 3) := by decide +kernel
theorem dX7_isStation_9 : decode cX7_isStation 9 = .ok (.iconst 1, 1) := by decide +kernel
theorem dX7_isStation_10 : decode cX7_isStation 10 = .ok (.isub, 1) := by decide +kernel
theorem dX7_isStation_11 : decode cX7_isStation 11 = .ok (.invokestatic 43, 3) := by decide +kernel
theorem dX7_isStation_14 : decode cX7_isStation 14 = .ok (.ireturn, 1) := by decide +kernel
theorem dX7_isHung_0 : decode cX7_isHung 0 = .ok (.aload_n 0, 1) := by decide +kernel
theorem dX7_isHung_1 : decode cX7_isHung 1 = .ok (.getfield 12, 3) := by decide +kernel
theorem dX7_isHung_4 : decode cX7_isHung 4 = .ok (.getfield 51, 3) := by decide +kernel
theorem dX7_isHung_7 : decode cX7_isHung 7 = .ok (.iload_n 1, 1) := by decide +kernel
theorem dX7_isHung_8 : decode cX7_isHung 8 = .ok (.aaload, 1) := by decide +kernel
theorem dX7_isHung_9 : decode cX7_isHung 9 = .ok (.getfield 75, 3) := by decide +kernel
theorem dX7_isHung_12 : decode cX7_isHung 12 = .ok (.ireturn, 1) := by decide +kernel
theorem dX7_refuse_0 : decode cX7_refuse 0 = .ok (.aload_n 0, 1) := by decide +kernel
theorem dX7_refuse_1 : decode cX7_refuse 1 = .ok (.iload_n 1, 1) := by decide +kernel
theorem dX7_refuse_2 : decode cX7_refuse 2 = .ok (.putfield 34, 3) := by decide +kernel
theorem dX7_refuse_5 : decode cX7_refuse 5 = .ok (.ldc_w 294, 3) := by decide +kernel
theorem dX7_refuse_8 : decode cX7_refuse 8 = .ok (.ireturn, 1) := by decide +kernel
theorem dX7_errorOfReading_0 : decode cX7_errorOfReading 0 = .ok (.iload_n 1, 1) := by decide +kernel
theorem dX7_errorOfReading_1 : decode cX7_errorOfReading 1 = .ok (.invokestatic 38, 3) := by decide +kernel
theorem dX7_errorOfReading_4 : decode cX7_errorOfReading 4 = .ok (.ifCond .ne 6, 3) := by decide +kernel
theorem dX7_errorOfReading_7 : decode cX7_errorOfReading 7 = .ok (.ldc 42, 2) := by decide +kernel
theorem dX7_errorOfReading_9 : decode cX7_errorOfReading 9 = .ok (.ireturn, 1) := by decide +kernel
theorem dX7_errorOfReading_10 : decode cX7_errorOfReading 10 = .ok (.iload_n 2, 1) := by decide +kernel
theorem dX7_errorOfReading_11 : decode cX7_errorOfReading 11 = .ok (.iconst 0, 1) := by decide +kernel
theorem dX7_errorOfReading_12 : decode cX7_errorOfReading 12 = .ok (.sipush 800, 3) := by decide +kernel
theorem dX7_errorOfReading_15 : decode cX7_errorOfReading 15 = .ok (.invokestatic 43, 3) := by decide +kernel
theorem dX7_errorOfReading_18 : decode cX7_errorOfReading 18 = .ok (.ifCond .eq 12, 3) := by decide +kernel
theorem dX7_errorOfReading_21 : decode cX7_errorOfReading 21 = .ok (.iload_n 3, 1) := by decide +kernel
theorem dX7_errorOfReading_22 : decode cX7_errorOfReading 22 = .ok (.iconst 0, 1) := by decide +kernel
theorem dX7_errorOfReading_23 : decode cX7_errorOfReading 23 = .ok (.iconst 1, 1) := by decide +kernel
theorem dX7_errorOfReading_24 : decode cX7_errorOfReading 24 = .ok (.invokestatic 43, 3) := by decide +kernel
theorem dX7_errorOfReading_27 : decode cX7_errorOfReading 27 = .ok (.ifCond .ne 6, 3) := by decide +kernel
theorem dX7_errorOfReading_30 : decode cX7_errorOfReading 30 = .ok (.ldc 47, 2) := by decide +kernel
theorem dX7_errorOfReading_32 : decode cX7_errorOfReading 32 = .ok (.ireturn, 1) := by decide +kernel
theorem dX7_errorOfReading_33 : decode cX7_errorOfReading 33 = .ok (.aload_n 0, 1) := by decide +kernel
theorem dX7_errorOfReading_34 : decode cX7_errorOfReading 34 = .ok (.iload_n 1, 1) := by decide +kernel
theorem dX7_errorOfReading_35 : decode cX7_errorOfReading 35 = .ok (.invokevirtual 69, 3) := by decide +kernel
theorem dX7_errorOfReading_38 : decode cX7_errorOfReading 38 = .ok (.ifCond .eq 19, 3) := by decide +kernel
theorem dX7_errorOfReading_41 : decode cX7_errorOfReading 41 = .ok (.iload_n 2, 1) := by decide +kernel
theorem dX7_errorOfReading_42 : decode cX7_errorOfReading 42 = .ok (.aload_n 0, 1) := by decide +kernel
theorem dX7_errorOfReading_43 : decode cX7_errorOfReading 43 = .ok (.getfield 12, 3) := by decide +kernel
theorem dX7_errorOfReading_46 : decode cX7_errorOfReading 46 = .ok (.getfield 51, 3) := by decide +kernel
theorem dX7_errorOfReading_49 : decode cX7_errorOfReading 49 = .ok (.iload_n 1, 1) := by decide +kernel
theorem dX7_errorOfReading_50 : decode cX7_errorOfReading 50 = .ok (.aaload, 1) := by decide +kernel
theorem dX7_errorOfReading_51 : decode cX7_errorOfReading 51 = .ok (.getfield 151, 3) := by decide +kernel
theorem dX7_errorOfReading_54 : decode cX7_errorOfReading 54 = .ok (.if_icmp .le 6, 3) := by decide +kernel
theorem dX7_errorOfReading_57 : decode cX7_errorOfReading 57 = .ok (.ldc 123, 2) := by decide +kernel
theorem dX7_errorOfReading_59 : decode cX7_errorOfReading 59 = .ok (.ireturn, 1) := by decide +kernel
theorem dX7_errorOfReading_60 : decode cX7_errorOfReading 60 = .ok (.iconst 0, 1) := by decide +kernel
theorem dX7_errorOfReading_61 : decode cX7_errorOfReading 61 = .ok (.ireturn, 1) := by decide +kernel
theorem dX7_firstOf_0 : decode cX7_firstOf 0 = .ok (.aload_n 0, 1) := by decide +kernel
theorem dX7_firstOf_1 : decode cX7_firstOf 1 = .ok (.getfield 12, 3) := by decide +kernel
theorem dX7_firstOf_4 : decode cX7_firstOf 4 = .ok (.getfield 51, 3) := by decide +kernel
theorem dX7_firstOf_7 : decode cX7_firstOf 7 = .ok (.iconst 2, 1) := by decide +kernel
theorem dX7_firstOf_8 : decode cX7_firstOf 8 = .ok (.iload_n 1, 1) := by decide +kernel
theorem dX7_firstOf_9 : decode cX7_firstOf 9 = .ok (.imul, 1) := by decide +kernel
theorem dX7_firstOf_10 : decode cX7_firstOf 10 = .ok (.aaload, 1) := by decide +kernel
theorem dX7_firstOf_11 : decode cX7_firstOf 11 = .ok (.areturn, 1) := by decide +kernel
theorem dX7_secondOf_0 : decode cX7_secondOf 0 = .ok (.aload_n 0, 1) := by decide +kernel
theorem dX7_secondOf_1 : decode cX7_secondOf 1 = .ok (.getfield 12, 3) := by decide +kernel
theorem dX7_secondOf_4 : decode cX7_secondOf 4 = .ok (.getfield 51, 3) := by decide +kernel
theorem dX7_secondOf_7 : decode cX7_secondOf 7 = .ok (.iconst 2, 1) := by decide +kernel
theorem dX7_secondOf_8 : decode cX7_secondOf 8 = .ok (.iload_n 1, 1) := by decide +kernel
theorem dX7_secondOf_9 : decode cX7_secondOf 9 = .ok (.imul, 1) := by decide +kernel
theorem dX7_secondOf_10 : decode cX7_secondOf 10 = .ok (.iconst 1, 1) := by decide +kernel
theorem dX7_secondOf_11 : decode cX7_secondOf 11 = .ok (.iadd, 1) := by decide +kernel
theorem dX7_secondOf_12 : decode cX7_secondOf 12 = .ok (.aaload, 1) := by decide +kernel
theorem dX7_secondOf_13 : decode cX7_secondOf 13 = .ok (.areturn, 1) := by decide +kernel
theorem dX7_firstSeen_0 : decode cX7_firstSeen 0 = .ok (.aload_n 0, 1) := by decide +kernel
theorem dX7_firstSeen_1 : decode cX7_firstSeen 1 = .ok (.getfield 12, 3) := by decide +kernel
theorem dX7_firstSeen_4 : decode cX7_firstSeen 4 = .ok (.getfield 127, 3) := by decide +kernel
theorem dX7_firstSeen_7 : decode cX7_firstSeen 7 = .ok (.iload_n 1, 1) := by decide +kernel
theorem dX7_firstSeen_8 : decode cX7_firstSeen 8 = .ok (.aaload, 1) := by decide +kernel
theorem dX7_firstSeen_9 : decode cX7_firstSeen 9 = .ok (.getfield 156, 3) := by decide +kernel
theorem dX7_firstSeen_12 : decode cX7_firstSeen 12 = .ok (.iconst 2, 1) := by decide +kernel
theorem dX7_firstSeen_13 : decode cX7_firstSeen 13 = .ok (.iload_n 2, 1) := by decide +kernel
theorem dX7_firstSeen_14 : decode cX7_firstSeen 14 = .ok (.imul, 1) := by decide +kernel
theorem dX7_firstSeen_15 : decode cX7_firstSeen 15 = .ok (.aaload, 1) := by decide +kernel
theorem dX7_firstSeen_16 : decode cX7_firstSeen 16 = .ok (.areturn, 1) := by decide +kernel
theorem dX7_secondSeen_0 : decode cX7_secondSeen 0 = .ok (.aload_n 0, 1) := by decide +kernel
theorem dX7_secondSeen_1 : decode cX7_secondSeen 1 = .ok (.getfield 12, 3) := by decide +kernel
theorem dX7_secondSeen_4 : decode cX7_secondSeen 4 = .ok (.getfield 127, 3) := by decide +kernel
theorem dX7_secondSeen_7 : decode cX7_secondSeen 7 = .ok (.iload_n 1, 1) := by decide +kernel
theorem dX7_secondSeen_8 : decode cX7_secondSeen 8 = .ok (.aaload, 1) := by decide +kernel
theorem dX7_secondSeen_9 : decode cX7_secondSeen 9 = .ok (.getfield 156, 3) := by decide +kernel
theorem dX7_secondSeen_12 : decode cX7_secondSeen 12 = .ok (.iconst 2, 1) := by decide +kernel
theorem dX7_secondSeen_13 : decode cX7_secondSeen 13 = .ok (.iload_n 2, 1) := by decide +kernel
theorem dX7_secondSeen_14 : decode cX7_secondSeen 14 = .ok (.imul, 1) := by decide +kernel
theorem dX7_secondSeen_15 : decode cX7_secondSeen 15 = .ok (.iconst 1, 1) := by decide +kernel
theorem dX7_secondSeen_16 : decode cX7_secondSeen 16 = .ok (.iadd, 1) := by decide +kernel
theorem dX7_secondSeen_17 : decode cX7_secondSeen 17 = .ok (.aaload, 1) := by decide +kernel
theorem dX7_secondSeen_18 : decode cX7_secondSeen 18 = .ok (.areturn, 1) := by decide +kernel
theorem dX7_isPairHung_0 : decode cX7_isPairHung 0 = .ok (.aload_n 0, 1) := by decide +kernel
theorem dX7_isPairHung_1 : decode cX7_isPairHung 1 = .ok (.iload_n 1, 1) := by decide +kernel
theorem dX7_isPairHung_2 : decode cX7_isPairHung 2 = .ok (.invokevirtual 295, 3) := by decide +kernel
theorem dX7_isPairHung_5 : decode cX7_isPairHung 5 = .ok (.getfield 75, 3) := by decide +kernel
theorem dX7_isPairHung_8 : decode cX7_isPairHung 8 = .ok (.ifCond .eq 18, 3) := by decide +kernel
theorem dX7_isPairHung_11 : decode cX7_isPairHung 11 = .ok (.aload_n 0, 1) := by decide +kernel
theorem dX7_isPairHung_12 : decode cX7_isPairHung 12 = .ok (.iload_n 1, 1) := by decide +kernel
theorem dX7_isPairHung_13 : decode cX7_isPairHung 13 = .ok (.invokevirtual 299, 3) := by decide +kernel
theorem dX7_isPairHung_16 : decode cX7_isPairHung 16 = .ok (.getfield 75, 3) := by decide +kernel
theorem dX7_isPairHung_19 : decode cX7_isPairHung 19 = .ok (.ifCond .eq 7, 3) := by decide +kernel
theorem dX7_isPairHung_22 : decode cX7_isPairHung 22 = .ok (.iconst 1, 1) := by decide +kernel
theorem dX7_isPairHung_23 : decode cX7_isPairHung 23 = .ok (.goto 4, 3) := by decide +kernel
theorem dX7_isPairHung_26 : decode cX7_isPairHung 26 = .ok (.iconst 0, 1) := by decide +kernel
theorem dX7_isPairHung_27 : decode cX7_isPairHung 27 = .ok (.ireturn, 1) := by decide +kernel
theorem dX7_isPairAtOnePlace_0 : decode cX7_isPairAtOnePlace 0 = .ok (.aload_n 0, 1) := by decide +kernel
theorem dX7_isPairAtOnePlace_1 : decode cX7_isPairAtOnePlace 1 = .ok (.iload_n 1, 1) := by decide +kernel
theorem dX7_isPairAtOnePlace_2 : decode cX7_isPairAtOnePlace 2 = .ok (.invokevirtual 295, 3) := by decide +kernel
theorem dX7_isPairAtOnePlace_5 : decode cX7_isPairAtOnePlace 5 = .ok (.getfield 302, 3) := by decide +kernel
theorem dX7_isPairAtOnePlace_8 : decode cX7_isPairAtOnePlace 8 = .ok (.aload_n 0, 1) := by decide +kernel
theorem dX7_isPairAtOnePlace_9 : decode cX7_isPairAtOnePlace 9 = .ok (.iload_n 1, 1) := by decide +kernel
theorem dX7_isPairAtOnePlace_10 : decode cX7_isPairAtOnePlace 10 = .ok (.invokevirtual 299, 3) := by decide +kernel
theorem dX7_isPairAtOnePlace_13 : decode cX7_isPairAtOnePlace 13 = .ok (.getfield 302, 3) := by decide +kernel
theorem dX7_isPairAtOnePlace_16 : decode cX7_isPairAtOnePlace 16 = .ok (.if_icmp .ne 26, 3) := by decide +kernel
theorem dX7_isPairAtOnePlace_19 : decode cX7_isPairAtOnePlace 19 = .ok (.aload_n 0, 1) := by decide +kernel
theorem dX7_isPairAtOnePlace_20 : decode cX7_isPairAtOnePlace 20 = .ok (.iload_n 1, 1) := by decide +kernel
theorem dX7_isPairAtOnePlace_21 : decode cX7_isPairAtOnePlace 21 = .ok (.invokevirtual 295, 3) := by decide +kernel
theorem dX7_isPairAtOnePlace_24 : decode cX7_isPairAtOnePlace 24 = .ok (.getfield 305, 3) := by decide +kernel
theorem dX7_isPairAtOnePlace_27 : decode cX7_isPairAtOnePlace 27 = .ok (.aload_n 0, 1) := by decide +kernel
theorem dX7_isPairAtOnePlace_28 : decode cX7_isPairAtOnePlace 28 = .ok (.iload_n 1, 1) := by decide +kernel
theorem dX7_isPairAtOnePlace_29 : decode cX7_isPairAtOnePlace 29 = .ok (.invokevirtual 299, 3) := by decide +kernel
theorem dX7_isPairAtOnePlace_32 : decode cX7_isPairAtOnePlace 32 = .ok (.getfield 305, 3) := by decide +kernel
theorem dX7_isPairAtOnePlace_35 : decode cX7_isPairAtOnePlace 35 = .ok (.if_icmp .ne 7, 3) := by decide +kernel
theorem dX7_isPairAtOnePlace_38 : decode cX7_isPairAtOnePlace 38 = .ok (.iconst 1, 1) := by decide +kernel
theorem dX7_isPairAtOnePlace_39 : decode cX7_isPairAtOnePlace 39 = .ok (.goto 4, 3) := by decide +kernel
theorem dX7_isPairAtOnePlace_42 : decode cX7_isPairAtOnePlace 42 = .ok (.iconst 0, 1) := by decide +kernel
theorem dX7_isPairAtOnePlace_43 : decode cX7_isPairAtOnePlace 43 = .ok (.ireturn, 1) := by decide +kernel
theorem dX7_surfaceBearing_0 : decode cX7_surfaceBearing 0 = .ok (.aload_n 0, 1) := by decide +kernel
theorem dX7_surfaceBearing_1 : decode cX7_surfaceBearing 1 = .ok (.iload_n 1, 1) := by decide +kernel
theorem dX7_surfaceBearing_2 : decode cX7_surfaceBearing 2 = .ok (.invokevirtual 295, 3) := by decide +kernel
theorem dX7_surfaceBearing_5 : decode cX7_surfaceBearing 5 = .ok (.astore_n 2, 1) := by decide +kernel
theorem dX7_surfaceBearing_6 : decode cX7_surfaceBearing 6 = .ok (.aload_n 0, 1) := by decide +kernel
theorem dX7_surfaceBearing_7 : decode cX7_surfaceBearing 7 = .ok (.iload_n 1, 1) := by decide +kernel
theorem dX7_surfaceBearing_8 : decode cX7_surfaceBearing 8 = .ok (.invokevirtual 299, 3) := by decide +kernel
theorem dX7_surfaceBearing_11 : decode cX7_surfaceBearing 11 = .ok (.astore_n 3, 1) := by decide +kernel
theorem dX7_surfaceBearing_12 : decode cX7_surfaceBearing 12 = .ok (.aload_n 3, 1) := by decide +kernel
theorem dX7_surfaceBearing_13 : decode cX7_surfaceBearing 13 = .ok (.getfield 302, 3) := by decide +kernel
theorem dX7_surfaceBearing_16 : decode cX7_surfaceBearing 16 = .ok (.aload_n 2, 1) := by decide +kernel
theorem dX7_surfaceBearing_17 : decode cX7_surfaceBearing 17 = .ok (.getfield 302, 3) := by decide +kernel
theorem dX7_surfaceBearing_20 : decode cX7_surfaceBearing 20 = .ok (.isub, 1) := by decide +kernel
theorem dX7_surfaceBearing_21 : decode cX7_surfaceBearing 21 = .ok (.i2l, 1) := by decide +kernel
theorem dX7_surfaceBearing_22 : decode cX7_surfaceBearing 22 = .ok (.aload_n 3, 1) := by decide +kernel
theorem dX7_surfaceBearing_23 : decode cX7_surfaceBearing 23 = .ok (.getfield 305, 3) := by decide +kernel
theorem dX7_surfaceBearing_26 : decode cX7_surfaceBearing 26 = .ok (.aload_n 2, 1) := by decide +kernel
theorem dX7_surfaceBearing_27 : decode cX7_surfaceBearing 27 = .ok (.getfield 305, 3) := by decide +kernel
theorem dX7_surfaceBearing_30 : decode cX7_surfaceBearing 30 = .ok (.isub, 1) := by decide +kernel
theorem dX7_surfaceBearing_31 : decode cX7_surfaceBearing 31 = .ok (.i2l, 1) := by decide +kernel
theorem dX7_surfaceBearing_32 : decode cX7_surfaceBearing 32 = .ok (.invokestatic 271, 3) := by decide +kernel
theorem dX7_surfaceBearing_35 : decode cX7_surfaceBearing 35 = .ok (.ireturn, 1) := by decide +kernel
theorem dX7_reasonAgainst_0 : decode cX7_reasonAgainst 0 = .ok (.aload_n 0, 1) := by decide +kernel
theorem dX7_reasonAgainst_1 : decode cX7_reasonAgainst 1 = .ok (.iload_n 2, 1) := by decide +kernel
theorem dX7_reasonAgainst_2 : decode cX7_reasonAgainst 2 = .ok (.invokevirtual 278, 3) := by decide +kernel
theorem dX7_reasonAgainst_5 : decode cX7_reasonAgainst 5 = .ok (.ifCond .ne 5, 3) := by decide +kernel
theorem dX7_reasonAgainst_8 : decode cX7_reasonAgainst 8 = .ok (.iconst 1, 1) := by decide +kernel
theorem dX7_reasonAgainst_9 : decode cX7_reasonAgainst 9 = .ok (.ireturn, 1) := by decide +kernel
theorem dX7_reasonAgainst_10 : decode cX7_reasonAgainst 10 = .ok (.aload_n 0, 1) := by decide +kernel
theorem dX7_reasonAgainst_11 : decode cX7_reasonAgainst 11 = .ok (.iload_n 1, 1) := by decide +kernel
theorem dX7_reasonAgainst_12 : decode cX7_reasonAgainst 12 = .ok (.iload_n 2, 1) := by decide +kernel
theorem dX7_reasonAgainst_13 : decode cX7_reasonAgainst 13 = .ok (.invokevirtual 308, 3) := by decide +kernel
theorem dX7_reasonAgainst_16 : decode cX7_reasonAgainst 16 = .ok (.astore_n 3, 1) := by decide +kernel
theorem dX7_reasonAgainst_17 : decode cX7_reasonAgainst 17 = .ok (.aload_n 0, 1) := by decide +kernel
theorem dX7_reasonAgainst_18 : decode cX7_reasonAgainst 18 = .ok (.iload_n 1, 1) := by decide +kernel
theorem dX7_reasonAgainst_19 : decode cX7_reasonAgainst 19 = .ok (.iload_n 2, 1) := by decide +kernel
theorem dX7_reasonAgainst_20 : decode cX7_reasonAgainst 20 = .ok (.invokevirtual 312, 3) := by decide +kernel
theorem dX7_reasonAgainst_23 : decode cX7_reasonAgainst 23 = .ok (.astore 4, 2) := by decide +kernel
theorem dX7_reasonAgainst_25 : decode cX7_reasonAgainst 25 = .ok (.aload_n 3, 1) := by decide +kernel
theorem dX7_reasonAgainst_26 : decode cX7_reasonAgainst 26 = .ok (.getfield 267, 3) := by decide +kernel
theorem dX7_reasonAgainst_29 : decode cX7_reasonAgainst 29 = .ok (.ifCond .eq 11, 3) := by decide +kernel
theorem dX7_reasonAgainst_32 : decode cX7_reasonAgainst 32 = .ok (.aload 4, 2) := by decide +kernel
theorem dX7_reasonAgainst_34 : decode cX7_reasonAgainst 34 = .ok (.getfield 267, 3) := by decide +kernel
theorem dX7_reasonAgainst_37 : decode cX7_reasonAgainst 37 = .ok (.ifCond .ne 5, 3) := by decide +kernel
theorem dX7_reasonAgainst_40 : decode cX7_reasonAgainst 40 = .ok (.iconst 3, 1) := by decide +kernel
theorem dX7_reasonAgainst_41 : decode cX7_reasonAgainst 41 = .ok (.ireturn, 1) := by decide +kernel
theorem dX7_reasonAgainst_42 : decode cX7_reasonAgainst 42 = .ok (.aload_n 0, 1) := by decide +kernel
theorem dX7_reasonAgainst_43 : decode cX7_reasonAgainst 43 = .ok (.iload_n 2, 1) := by decide +kernel
theorem dX7_reasonAgainst_44 : decode cX7_reasonAgainst 44 = .ok (.invokevirtual 281, 3) := by decide +kernel
theorem dX7_reasonAgainst_47 : decode cX7_reasonAgainst 47 = .ok (.ifCond .ne 27, 3) := by decide +kernel
theorem dX7_reasonAgainst_50 : decode cX7_reasonAgainst 50 = .ok (.aload_n 3, 1) := by decide +kernel
theorem dX7_reasonAgainst_51 : decode cX7_reasonAgainst 51 = .ok (.getfield 315, 3) := by decide +kernel
theorem dX7_reasonAgainst_54 : decode cX7_reasonAgainst 54 = .ok (.aload 4, 2) := by decide +kernel
theorem dX7_reasonAgainst_56 : decode cX7_reasonAgainst 56 = .ok (.getfield 315, 3) := by decide +kernel
theorem dX7_reasonAgainst_59 : decode cX7_reasonAgainst 59 = .ok (.if_icmp .ne 17, 3) := by decide +kernel
theorem dX7_reasonAgainst_62 : decode cX7_reasonAgainst 62 = .ok (.aload_n 3, 1) := by decide +kernel
theorem dX7_reasonAgainst_63 : decode cX7_reasonAgainst 63 = .ok (.getfield 318, 3) := by decide +kernel
theorem dX7_reasonAgainst_66 : decode cX7_reasonAgainst 66 = .ok (.aload 4, 2) := by decide +kernel
theorem dX7_reasonAgainst_68 : decode cX7_reasonAgainst 68 = .ok (.getfield 318, 3) := by decide +kernel
theorem dX7_reasonAgainst_71 : decode cX7_reasonAgainst 71 = .ok (.if_icmp .ne 5, 3) := by decide +kernel
theorem dX7_reasonAgainst_74 : decode cX7_reasonAgainst 74 = .ok (.iconst 4, 1) := by decide +kernel
theorem dX7_reasonAgainst_75 : decode cX7_reasonAgainst 75 = .ok (.ireturn, 1) := by decide +kernel
theorem dX7_reasonAgainst_76 : decode cX7_reasonAgainst 76 = .ok (.iconst 0, 1) := by decide +kernel
theorem dX7_reasonAgainst_77 : decode cX7_reasonAgainst 77 = .ok (.ireturn, 1) := by decide +kernel
theorem dX7_lowerReason_0 : decode cX7_lowerReason 0 = .ok (.iload_n 0, 1) := by decide +kernel
theorem dX7_lowerReason_1 : decode cX7_lowerReason 1 = .ok (.ifCond .ne 5, 3) := by decide +kernel
theorem dX7_lowerReason_4 : decode cX7_lowerReason 4 = .ok (.iload_n 1, 1) := by decide +kernel
theorem dX7_lowerReason_5 : decode cX7_lowerReason 5 = .ok (.ireturn, 1) := by decide +kernel
theorem dX7_lowerReason_6 : decode cX7_lowerReason 6 = .ok (.iload_n 1, 1) := by decide +kernel
theorem dX7_lowerReason_7 : decode cX7_lowerReason 7 = .ok (.ifCond .ne 5, 3) := by decide +kernel
theorem dX7_lowerReason_10 : decode cX7_lowerReason 10 = .ok (.iload_n 0, 1) := by decide +kernel
theorem dX7_lowerReason_11 : decode cX7_lowerReason 11 = .ok (.ireturn, 1) := by decide +kernel
theorem dX7_lowerReason_12 : decode cX7_lowerReason 12 = .ok (.iload_n 0, 1) := by decide +kernel
theorem dX7_lowerReason_13 : decode cX7_lowerReason 13 = .ok (.iload_n 1, 1) := by decide +kernel
theorem dX7_lowerReason_14 : decode cX7_lowerReason 14 = .ok (.invokestatic 321, 3) := by decide +kernel
theorem dX7_lowerReason_17 : decode cX7_lowerReason 17 = .ok (.ireturn, 1) := by decide +kernel
theorem dX7_orientationFrom_0 : decode cX7_orientationFrom 0 = .ok (.aload_n 0, 1) := by decide +kernel
theorem dX7_orientationFrom_1 : decode cX7_orientationFrom 1 = .ok (.iload_n 1, 1) := by decide +kernel
theorem dX7_orientationFrom_2 : decode cX7_orientationFrom 2 = .ok (.iload_n 2, 1) := by decide +kernel
theorem dX7_orientationFrom_3 : decode cX7_orientationFrom 3 = .ok (.invokevirtual 308, 3) := by decide +kernel
theorem dX7_orientationFrom_6 : decode cX7_orientationFrom 6 = .ok (.astore_n 3, 1) := by decide +kernel
theorem dX7_orientationFrom_7 : decode cX7_orientationFrom 7 = .ok (.aload_n 0, 1) := by decide +kernel
theorem dX7_orientationFrom_8 : decode cX7_orientationFrom 8 = .ok (.iload_n 1, 1) := by decide +kernel
theorem dX7_orientationFrom_9 : decode cX7_orientationFrom 9 = .ok (.iload_n 2, 1) := by decide +kernel
theorem dX7_orientationFrom_10 : decode cX7_orientationFrom 10 = .ok (.invokevirtual 312, 3) := by decide +kernel
theorem dX7_orientationFrom_13 : decode cX7_orientationFrom 13 = .ok (.astore 4, 2) := by decide +kernel
theorem dX7_orientationFrom_15 : decode cX7_orientationFrom 15 = .ok (.aload 4, 2) := by decide +kernel
theorem dX7_orientationFrom_17 : decode cX7_orientationFrom 17 = .ok (.getfield 315, 3) := by decide +kernel
theorem dX7_orientationFrom_20 : decode cX7_orientationFrom 20 = .ok (.aload_n 3, 1) := by decide +kernel
theorem dX7_orientationFrom_21 : decode cX7_orientationFrom 21 = .ok (.getfield 315, 3) := by decide +kernel
theorem dX7_orientationFrom_24 : decode cX7_orientationFrom 24 = .ok (.isub, 1) := by decide +kernel
theorem dX7_orientationFrom_25 : decode cX7_orientationFrom 25 = .ok (.i2l, 1) := by decide +kernel
theorem dX7_orientationFrom_26 : decode cX7_orientationFrom 26 = .ok (.aload 4, 2) := by decide +kernel
theorem dX7_orientationFrom_28 : decode cX7_orientationFrom 28 = .ok (.getfield 318, 3) := by decide +kernel
theorem dX7_orientationFrom_31 : decode cX7_orientationFrom 31 = .ok (.aload_n 3, 1) := by decide +kernel
theorem dX7_orientationFrom_32 : decode cX7_orientationFrom 32 = .ok (.getfield 318, 3) := by decide +kernel
theorem dX7_orientationFrom_35 : decode cX7_orientationFrom 35 = .ok (.isub, 1) := by decide +kernel
theorem dX7_orientationFrom_36 : decode cX7_orientationFrom 36 = .ok (.i2l, 1) := by decide +kernel
theorem dX7_orientationFrom_37 : decode cX7_orientationFrom 37 = .ok (.invokestatic 271, 3) := by decide +kernel
theorem dX7_orientationFrom_40 : decode cX7_orientationFrom 40 = .ok (.istore 5, 2) := by decide +kernel
theorem dX7_orientationFrom_42 : decode cX7_orientationFrom 42 = .ok (.iload 5, 2) := by decide +kernel
theorem dX7_orientationFrom_44 : decode cX7_orientationFrom 44 = .ok (.i2l, 1) := by decide +kernel
theorem dX7_orientationFrom_45 : decode cX7_orientationFrom 45 = .ok (.aload_n 0, 1) := by decide +kernel
theorem dX7_orientationFrom_46 : decode cX7_orientationFrom 46 = .ok (.getfield 12, 3) := by decide +kernel
theorem dX7_orientationFrom_49 : decode cX7_orientationFrom 49 = .ok (.getfield 127, 3) := by decide +kernel
theorem dX7_orientationFrom_52 : decode cX7_orientationFrom 52 = .ok (.iload_n 1, 1) := by decide +kernel
theorem dX7_orientationFrom_53 : decode cX7_orientationFrom 53 = .ok (.aaload, 1) := by decide +kernel
theorem dX7_orientationFrom_54 : decode cX7_orientationFrom 54 = .ok (.getfield 261, 3) := by decide +kernel
theorem dX7_orientationFrom_57 : decode cX7_orientationFrom 57 = .ok (.i2l, 1) := by decide +kernel
theorem dX7_orientationFrom_58 : decode cX7_orientationFrom 58 = .ok (.ladd, 1) := by decide +kernel
theorem dX7_orientationFrom_59 : decode cX7_orientationFrom 59 = .ok (.invokestatic 177, 3) := by decide +kernel
theorem dX7_orientationFrom_62 : decode cX7_orientationFrom 62 = .ok (.istore 6, 2) := by decide +kernel
theorem dX7_orientationFrom_64 : decode cX7_orientationFrom 64 = .ok (.aload_n 0, 1) := by decide +kernel
theorem dX7_orientationFrom_65 : decode cX7_orientationFrom 65 = .ok (.iload_n 2, 1) := by decide +kernel
theorem dX7_orientationFrom_66 : decode cX7_orientationFrom 66 = .ok (.invokevirtual 284, 3) := by decide +kernel
theorem dX7_orientationFrom_69 : decode cX7_orientationFrom 69 = .ok (.i2l, 1) := by decide +kernel
theorem dX7_orientationFrom_70 : decode cX7_orientationFrom 70 = .ok (.iload 6, 2) := by decide +kernel
theorem dX7_orientationFrom_72 : decode cX7_orientationFrom 72 = .ok (.i2l, 1) := by decide +kernel
theorem dX7_orientationFrom_73 : decode cX7_orientationFrom 73 = .ok (.lsub, 1) := by decide +kernel
theorem dX7_orientationFrom_74 : decode cX7_orientationFrom 74 = .ok (.invokestatic 177, 3) := by decide +kernel
theorem dX7_orientationFrom_77 : decode cX7_orientationFrom 77 = .ok (.ireturn, 1) := by decide +kernel
theorem dX7_bearingOf_0 : decode cX7_bearingOf 0 = .ok (.lload_n 0, 1) := by decide +kernel
theorem dX7_bearingOf_1 : decode cX7_bearingOf 1 = .ok (.invokestatic 324, 3) := by decide +kernel
theorem dX7_bearingOf_4 : decode cX7_bearingOf 4 = .ok (.lload_n 2, 1) := by decide +kernel
theorem dX7_bearingOf_5 : decode cX7_bearingOf 5 = .ok (.invokestatic 324, 3) := by decide +kernel
theorem dX7_bearingOf_8 : decode cX7_bearingOf 8 = .ok (.ladd, 1) := by decide +kernel
theorem dX7_bearingOf_9 : decode cX7_bearingOf 9 = .ok (.lstore 4, 2) := by decide +kernel
theorem dX7_bearingOf_11 : decode cX7_bearingOf 11 = .ok (.lload 4, 2) := by decide +kernel
theorem dX7_bearingOf_13 : decode cX7_bearingOf 13 = .ok (.lconst 0, 1) := by decide +kernel
theorem dX7_bearingOf_14 : decode cX7_bearingOf 14 = .ok (.lcmp, 1) := by decide +kernel
theorem dX7_bearingOf_15 : decode cX7_bearingOf 15 = .ok (.ifCond .ne 5, 3) := by decide +kernel
theorem dX7_bearingOf_18 : decode cX7_bearingOf 18 = .ok (.iconst 0, 1) := by decide +kernel
theorem dX7_bearingOf_19 : decode cX7_bearingOf 19 = .ok (.ireturn, 1) := by decide +kernel
theorem dX7_bearingOf_20 : decode cX7_bearingOf 20 = .ok (.lload_n 0, 1) := by decide +kernel
theorem dX7_bearingOf_21 : decode cX7_bearingOf 21 = .ok (.lconst 0, 1) := by decide +kernel
theorem dX7_bearingOf_22 : decode cX7_bearingOf 22 = .ok (.lcmp, 1) := by decide +kernel
theorem dX7_bearingOf_23 : decode cX7_bearingOf 23 = .ok (.ifCond .le 19, 3) := by decide +kernel
theorem dX7_bearingOf_26 : decode cX7_bearingOf 26 = .ok (.lload_n 2, 1) := by decide +kernel
theorem dX7_bearingOf_27 : decode cX7_bearingOf 27 = .ok (.lconst 0, 1) := by decide +kernel
theorem dX7_bearingOf_28 : decode cX7_bearingOf 28 = .ok (.lcmp, 1) := by decide +kernel
theorem dX7_bearingOf_29 : decode cX7_bearingOf 29 = .ok (.ifCond .lt 13, 3) := by decide +kernel
theorem dX7_bearingOf_32 : decode cX7_bearingOf 32 = .ok (.ldc2_w 327, 3) := by decide +kernel
theorem dX7_bearingOf_35 : decode cX7_bearingOf 35 = .ok (.lload_n 2, 1) := by decide +kernel
theorem dX7_bearingOf_36 : decode cX7_bearingOf 36 = .ok (.lmul, 1) := by decide +kernel
theorem dX7_bearingOf_37 : decode cX7_bearingOf 37 = .ok (.lload 4, 2) := by decide +kernel
theorem dX7_bearingOf_39 : decode cX7_bearingOf 39 = .ok (.ldiv, 1) := by decide +kernel
theorem dX7_bearingOf_40 : decode cX7_bearingOf 40 = .ok (.l2i, 1) := by decide +kernel
theorem dX7_bearingOf_41 : decode cX7_bearingOf 41 = .ok (.ireturn, 1) := by decide +kernel
theorem dX7_bearingOf_42 : decode cX7_bearingOf 42 = .ok (.lload_n 2, 1) := by decide +kernel
theorem dX7_bearingOf_43 : decode cX7_bearingOf 43 = .ok (.lconst 0, 1) := by decide +kernel
theorem dX7_bearingOf_44 : decode cX7_bearingOf 44 = .ok (.lcmp, 1) := by decide +kernel
theorem dX7_bearingOf_45 : decode cX7_bearingOf 45 = .ok (.ifCond .le 18, 3) := by decide +kernel
theorem dX7_bearingOf_48 : decode cX7_bearingOf 48 = .ok (.ldc2_w 327, 3) := by decide +kernel
theorem dX7_bearingOf_51 : decode cX7_bearingOf 51 = .ok (.ldc2_w 327, 3) := by decide +kernel
theorem dX7_bearingOf_54 : decode cX7_bearingOf 54 = .ok (.lload_n 0, 1) := by decide +kernel
theorem dX7_bearingOf_55 : decode cX7_bearingOf 55 = .ok (.lneg, 1) := by decide +kernel
theorem dX7_bearingOf_56 : decode cX7_bearingOf 56 = .ok (.lmul, 1) := by decide +kernel
theorem dX7_bearingOf_57 : decode cX7_bearingOf 57 = .ok (.lload 4, 2) := by decide +kernel
theorem dX7_bearingOf_59 : decode cX7_bearingOf 59 = .ok (.ldiv, 1) := by decide +kernel
theorem dX7_bearingOf_60 : decode cX7_bearingOf 60 = .ok (.ladd, 1) := by decide +kernel
theorem dX7_bearingOf_61 : decode cX7_bearingOf 61 = .ok (.l2i, 1) := by decide +kernel
theorem dX7_bearingOf_62 : decode cX7_bearingOf 62 = .ok (.ireturn, 1) := by decide +kernel
theorem dX7_bearingOf_63 : decode cX7_bearingOf 63 = .ok (.lload_n 0, 1) := by decide +kernel
theorem dX7_bearingOf_64 : decode cX7_bearingOf 64 = .ok (.lconst 0, 1) := by decide +kernel
theorem dX7_bearingOf_65 : decode cX7_bearingOf 65 = .ok (.lcmp, 1) := by decide +kernel
theorem dX7_bearingOf_66 : decode cX7_bearingOf 66 = .ok (.ifCond .ge 18, 3) := by decide +kernel
theorem dX7_bearingOf_69 : decode cX7_bearingOf 69 = .ok (.ldc2_w 175, 3) := by decide +kernel
theorem dX7_bearingOf_72 : decode cX7_bearingOf 72 = .ok (.ldc2_w 327, 3) := by decide +kernel
theorem dX7_bearingOf_75 : decode cX7_bearingOf 75 = .ok (.lload_n 2, 1) := by decide +kernel
theorem dX7_bearingOf_76 : decode cX7_bearingOf 76 = .ok (.lneg, 1) := by decide +kernel
theorem dX7_bearingOf_77 : decode cX7_bearingOf 77 = .ok (.lmul, 1) := by decide +kernel
theorem dX7_bearingOf_78 : decode cX7_bearingOf 78 = .ok (.lload 4, 2) := by decide +kernel
theorem dX7_bearingOf_80 : decode cX7_bearingOf 80 = .ok (.ldiv, 1) := by decide +kernel
theorem dX7_bearingOf_81 : decode cX7_bearingOf 81 = .ok (.ladd, 1) := by decide +kernel
theorem dX7_bearingOf_82 : decode cX7_bearingOf 82 = .ok (.l2i, 1) := by decide +kernel
theorem dX7_bearingOf_83 : decode cX7_bearingOf 83 = .ok (.ireturn, 1) := by decide +kernel
theorem dX7_bearingOf_84 : decode cX7_bearingOf 84 = .ok (.ldc2_w 329, 3) := by decide +kernel
theorem dX7_bearingOf_87 : decode cX7_bearingOf 87 = .ok (.ldc2_w 327, 3) := by decide +kernel
theorem dX7_bearingOf_90 : decode cX7_bearingOf 90 = .ok (.lload_n 0, 1) := by decide +kernel
theorem dX7_bearingOf_91 : decode cX7_bearingOf 91 = .ok (.lmul, 1) := by decide +kernel
theorem dX7_bearingOf_92 : decode cX7_bearingOf 92 = .ok (.lload 4, 2) := by decide +kernel
theorem dX7_bearingOf_94 : decode cX7_bearingOf 94 = .ok (.ldiv, 1) := by decide +kernel
theorem dX7_bearingOf_95 : decode cX7_bearingOf 95 = .ok (.ladd, 1) := by decide +kernel
theorem dX7_bearingOf_96 : decode cX7_bearingOf 96 = .ok (.l2i, 1) := by decide +kernel
theorem dX7_bearingOf_97 : decode cX7_bearingOf 97 = .ok (.ireturn, 1) := by decide +kernel
theorem dX7_onCircle_0 : decode cX7_onCircle 0 = .ok (.lload_n 0, 1) := by decide +kernel
theorem dX7_onCircle_1 : decode cX7_onCircle 1 = .ok (.ldc2_w 331, 3) := by decide +kernel
theorem dX7_onCircle_4 : decode cX7_onCircle 4 = .ok (.invokestatic 333, 3) := by decide +kernel
theorem dX7_onCircle_7 : decode cX7_onCircle 7 = .ok (.l2i, 1) := by decide +kernel
theorem dX7_onCircle_8 : decode cX7_onCircle 8 = .ok (.ireturn, 1) := by decide +kernel
theorem dX7_roundedToZero_0 : decode cX7_roundedToZero 0 = .ok (.iload_n 1, 1) := by decide +kernel
theorem dX7_roundedToZero_1 : decode cX7_roundedToZero 1 = .ok (.ifCond .ne 5, 3) := by decide +kernel
theorem dX7_roundedToZero_4 : decode cX7_roundedToZero 4 = .ok (.iconst 0, 1) := by decide +kernel
theorem dX7_roundedToZero_5 : decode cX7_roundedToZero 5 = .ok (.ireturn, 1) := by decide +kernel
theorem dX7_roundedToZero_6 : decode cX7_roundedToZero 6 = .ok (.iload_n 0, 1) := by decide +kernel
theorem dX7_roundedToZero_7 : decode cX7_roundedToZero 7 = .ok (.iload_n 1, 1) := by decide +kernel
theorem dX7_roundedToZero_8 : decode cX7_roundedToZero 8 = .ok (.idiv, 1) := by decide +kernel
theorem dX7_roundedToZero_9 : decode cX7_roundedToZero 9 = .ok (.ireturn, 1) := by decide +kernel
