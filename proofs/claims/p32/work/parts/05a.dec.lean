theorem dX0_init_0 : decode cX0_init 0 = .ok (.aload_n 0, 1) := by decide +kernel
theorem dX0_init_1 : decode cX0_init 1 = .ok (.invokespecial 3, 3) := by decide +kernel
theorem dX0_init_4 : decode cX0_init 4 = .ok (.return_, 1) := by decide +kernel
theorem dX0_copyFrom_0 : decode cX0_copyFrom 0 = .ok (.aload_n 0, 1) := by decide +kernel
theorem dX0_copyFrom_1 : decode cX0_copyFrom 1 = .ok (.aload_n 1, 1) := by decide +kernel
theorem dX0_copyFrom_2 : decode cX0_copyFrom 2 = .ok (.getfield 9, 3) := by decide +kernel
theorem dX0_copyFrom_5 : decode cX0_copyFrom 5 = .ok (.putfield 9, 3) := by decide +kernel
theorem dX0_copyFrom_8 : decode cX0_copyFrom 8 = .ok (.aload_n 0, 1) := by decide +kernel
theorem dX0_copyFrom_9 : decode cX0_copyFrom 9 = .ok (.aload_n 1, 1) := by decide +kernel
theorem dX0_copyFrom_10 : decode cX0_copyFrom 10 = .ok (.getfield 15, 3) := by decide +kernel
theorem dX0_copyFrom_13 : decode cX0_copyFrom 13 = .ok (.putfield 15, 3) := by decide +kernel
theorem dX0_copyFrom_16 : decode cX0_copyFrom 16 = .ok (.aload_n 0, 1) := by decide +kernel
theorem dX0_copyFrom_17 : decode cX0_copyFrom 17 = .ok (.aload_n 1, 1) := by decide +kernel
theorem dX0_copyFrom_18 : decode cX0_copyFrom 18 = .ok (.getfield 18, 3) := by decide +kernel
theorem dX0_copyFrom_21 : decode cX0_copyFrom 21 = .ok (.putfield 18, 3) := by decide +kernel
theorem dX0_copyFrom_24 : decode cX0_copyFrom 24 = .ok (.aload_n 0, 1) := by decide +kernel
theorem dX0_copyFrom_25 : decode cX0_copyFrom 25 = .ok (.aload_n 1, 1) := by decide +kernel
theorem dX0_copyFrom_26 : decode cX0_copyFrom 26 = .ok (.getfield 21, 3) := by decide +kernel
theorem dX0_copyFrom_29 : decode cX0_copyFrom 29 = .ok (.putfield 21, 3) := by decide +kernel
theorem dX0_copyFrom_32 : decode cX0_copyFrom 32 = .ok (.return_, 1) := by decide +kernel
theorem dX0_become_0 : decode cX0_become 0 = .ok (.aload_n 0, 1) := by decide +kernel
theorem dX0_become_1 : decode cX0_become 1 = .ok (.iload_n 1, 1) := by decide +kernel
theorem dX0_become_2 : decode cX0_become 2 = .ok (.putfield 9, 3) := by decide +kernel
theorem dX0_become_5 : decode cX0_become 5 = .ok (.aload_n 0, 1) := by decide +kernel
theorem dX0_become_6 : decode cX0_become 6 = .ok (.iload_n 2, 1) := by decide +kernel
theorem dX0_become_7 : decode cX0_become 7 = .ok (.putfield 15, 3) := by decide +kernel
theorem dX0_become_10 : decode cX0_become 10 = .ok (.aload_n 0, 1) := by decide +kernel
theorem dX0_become_11 : decode cX0_become 11 = .ok (.iload_n 3, 1) := by decide +kernel
theorem dX0_become_12 : decode cX0_become 12 = .ok (.putfield 18, 3) := by decide +kernel
theorem dX0_become_15 : decode cX0_become 15 = .ok (.aload_n 0, 1) := by decide +kernel
theorem dX0_become_16 : decode cX0_become 16 = .ok (.iload 4, 2) := by decide +kernel
theorem dX0_become_18 : decode cX0_become 18 = .ok (.putfield 21, 3) := by decide +kernel
theorem dX0_become_21 : decode cX0_become 21 = .ok (.return_, 1) := by decide +kernel
theorem dX0_bend_0 : decode cX0_bend 0 = .ok (.iload_n 1, 1) := by decide +kernel
theorem dX0_bend_1 : decode cX0_bend 1 = .ok (.iconst 1, 1) := by decide +kernel
theorem dX0_bend_2 : decode cX0_bend 2 = .ok (.if_icmp .ge 5, 3) := by decide +kernel
theorem dX0_bend_5 : decode cX0_bend 5 = .ok (.iconst 0, 1) := by decide +kernel
theorem dX0_bend_6 : decode cX0_bend 6 = .ok (.ireturn, 1) := by decide +kernel
theorem dX0_bend_7 : decode cX0_bend 7 = .ok (.iload_n 3, 1) := by decide +kernel
theorem dX0_bend_8 : decode cX0_bend 8 = .ok (.ifCond .ne 11, 3) := by decide +kernel
theorem dX0_bend_11 : decode cX0_bend 11 = .ok (.aload_n 0, 1) := by decide +kernel
theorem dX0_bend_12 : decode cX0_bend 12 = .ok (.getfield 18, 3) := by decide +kernel
theorem dX0_bend_15 : decode cX0_bend 15 = .ok (.i2l, 1) := by decide +kernel
theorem dX0_bend_16 : decode cX0_bend 16 = .ok (.goto 8, 3) := by decide +kernel
theorem dX0_bend_19 : decode cX0_bend 19 = .ok (.aload_n 0, 1) := by decide +kernel
theorem dX0_bend_20 : decode cX0_bend 20 = .ok (.getfield 21, 3) := by decide +kernel
theorem dX0_bend_23 : decode cX0_bend 23 = .ok (.i2l, 1) := by decide +kernel
theorem dX0_bend_24 : decode cX0_bend 24 = .ok (.lstore 4, 2) := by decide +kernel
theorem dX0_bend_26 : decode cX0_bend 26 = .ok (.aload_n 0, 1) := by decide +kernel
theorem dX0_bend_27 : decode cX0_bend 27 = .ok (.getfield 15, 3) := by decide +kernel
theorem dX0_bend_30 : decode cX0_bend 30 = .ok (.iload_n 2, 1) := by decide +kernel
theorem dX0_bend_31 : decode cX0_bend 31 = .ok (.invokestatic 24, 3) := by decide +kernel
theorem dX0_bend_34 : decode cX0_bend 34 = .ok (.aload_n 0, 1) := by decide +kernel
theorem dX0_bend_35 : decode cX0_bend 35 = .ok (.getfield 9, 3) := by decide +kernel
theorem dX0_bend_38 : decode cX0_bend 38 = .ok (.iload_n 2, 1) := by decide +kernel
theorem dX0_bend_39 : decode cX0_bend 39 = .ok (.invokestatic 24, 3) := by decide +kernel
theorem dX0_bend_42 : decode cX0_bend 42 = .ok (.isub, 1) := by decide +kernel
theorem dX0_bend_43 : decode cX0_bend 43 = .ok (.i2l, 1) := by decide +kernel
theorem dX0_bend_44 : decode cX0_bend 44 = .ok (.lstore 6, 2) := by decide +kernel
theorem dX0_bend_46 : decode cX0_bend 46 = .ok (.lload 4, 2) := by decide +kernel
theorem dX0_bend_48 : decode cX0_bend 48 = .ok (.lload 6, 2) := by decide +kernel
theorem dX0_bend_50 : decode cX0_bend 50 = .ok (.lmul, 1) := by decide +kernel
theorem dX0_bend_51 : decode cX0_bend 51 = .ok (.iload_n 2, 1) := by decide +kernel
theorem dX0_bend_52 : decode cX0_bend 52 = .ok (.i2l, 1) := by decide +kernel
theorem dX0_bend_53 : decode cX0_bend 53 = .ok (.lmul, 1) := by decide +kernel
theorem dX0_bend_54 : decode cX0_bend 54 = .ok (.ldc2_w 30, 3) := by decide +kernel
theorem dX0_bend_57 : decode cX0_bend 57 = .ok (.iload_n 1, 1) := by decide +kernel
theorem dX0_bend_58 : decode cX0_bend 58 = .ok (.i2l, 1) := by decide +kernel
theorem dX0_bend_59 : decode cX0_bend 59 = .ok (.lmul, 1) := by decide +kernel
theorem dX0_bend_60 : decode cX0_bend 60 = .ok (.invokestatic 32, 3) := by decide +kernel
theorem dX0_bend_63 : decode cX0_bend 63 = .ok (.l2i, 1) := by decide +kernel
theorem dX0_bend_64 : decode cX0_bend 64 = .ok (.ireturn, 1) := by decide +kernel
theorem dX1_init_0 : decode cX1_init 0 = .ok (.aload_n 0, 1) := by decide +kernel
theorem dX1_init_1 : decode cX1_init 1 = .ok (.invokespecial 1, 3) := by decide +kernel
theorem dX1_init_4 : decode cX1_init 4 = .ok (.return_, 1) := by decide +kernel
theorem dX1_copyFrom_0 : decode cX1_copyFrom 0 = .ok (.aload_n 0, 1) := by decide +kernel
theorem dX1_copyFrom_1 : decode cX1_copyFrom 1 = .ok (.aload_n 1, 1) := by decide +kernel
theorem dX1_copyFrom_2 : decode cX1_copyFrom 2 = .ok (.getfield 7, 3) := by decide +kernel
theorem dX1_copyFrom_5 : decode cX1_copyFrom 5 = .ok (.putfield 7, 3) := by decide +kernel
theorem dX1_copyFrom_8 : decode cX1_copyFrom 8 = .ok (.aload_n 0, 1) := by decide +kernel
theorem dX1_copyFrom_9 : decode cX1_copyFrom 9 = .ok (.aload_n 1, 1) := by decide +kernel
theorem dX1_copyFrom_10 : decode cX1_copyFrom 10 = .ok (.getfield 13, 3) := by decide +kernel
theorem dX1_copyFrom_13 : decode cX1_copyFrom 13 = .ok (.putfield 13, 3) := by decide +kernel
theorem dX1_copyFrom_16 : decode cX1_copyFrom 16 = .ok (.aload_n 0, 1) := by decide +kernel
theorem dX1_copyFrom_17 : decode cX1_copyFrom 17 = .ok (.aload_n 1, 1) := by decide +kernel
theorem dX1_copyFrom_18 : decode cX1_copyFrom 18 = .ok (.getfield 17, 3) := by decide +kernel
theorem dX1_copyFrom_21 : decode cX1_copyFrom 21 = .ok (.putfield 17, 3) := by decide +kernel
theorem dX1_copyFrom_24 : decode cX1_copyFrom 24 = .ok (.aload_n 0, 1) := by decide +kernel
theorem dX1_copyFrom_25 : decode cX1_copyFrom 25 = .ok (.aload_n 1, 1) := by decide +kernel
theorem dX1_copyFrom_26 : decode cX1_copyFrom 26 = .ok (.getfield 20, 3) := by decide +kernel
theorem dX1_copyFrom_29 : decode cX1_copyFrom 29 = .ok (.putfield 20, 3) := by decide +kernel
theorem dX1_copyFrom_32 : decode cX1_copyFrom 32 = .ok (.aload_n 0, 1) := by decide +kernel
theorem dX1_copyFrom_33 : decode cX1_copyFrom 33 = .ok (.aload_n 1, 1) := by decide +kernel
theorem dX1_copyFrom_34 : decode cX1_copyFrom 34 = .ok (.getfield 23, 3) := by decide +kernel
theorem dX1_copyFrom_37 : decode cX1_copyFrom 37 = .ok (.putfield 23, 3) := by decide +kernel
theorem dX1_copyFrom_40 : decode cX1_copyFrom 40 = .ok (.aload_n 0, 1) := by decide +kernel
theorem dX1_copyFrom_41 : decode cX1_copyFrom 41 = .ok (.aload_n 1, 1) := by decide +kernel
theorem dX1_copyFrom_42 : decode cX1_copyFrom 42 = .ok (.getfield 26, 3) := by decide +kernel
theorem dX1_copyFrom_45 : decode cX1_copyFrom 45 = .ok (.putfield 26, 3) := by decide +kernel
theorem dX1_copyFrom_48 : decode cX1_copyFrom 48 = .ok (.return_, 1) := by decide +kernel
theorem dX1_property_0 : decode cX1_property 0 = .ok (.iload_n 1, 1) := by decide +kernel
theorem dX1_property_1 : decode cX1_property 1 = .ok (.tableswitch 51 0 3 #[31, 36, 41, 46], 31) := by decide +kernel
theorem dX1_property_32 : decode cX1_property 32 = .ok (.aload_n 0, 1) := by decide +kernel
theorem dX1_property_33 : decode cX1_property 33 = .ok (.getfield 13, 3) := by decide +kernel
theorem dX1_property_36 : decode cX1_property 36 = .ok (.ireturn, 1) := by decide +kernel
theorem dX1_property_37 : decode cX1_property 37 = .ok (.aload_n 0, 1) := by decide +kernel
theorem dX1_property_38 : decode cX1_property 38 = .ok (.getfield 17, 3) := by decide +kernel
theorem dX1_property_41 : decode cX1_property 41 = .ok (.ireturn, 1) := by decide +kernel
theorem dX1_property_42 : decode cX1_property 42 = .ok (.aload_n 0, 1) := by decide +kernel
theorem dX1_property_43 : decode cX1_property 43 = .ok (.getfield 20, 3) := by decide +kernel
theorem dX1_property_46 : decode cX1_property 46 = .ok (.ireturn, 1) := by decide +kernel
theorem dX1_property_47 : decode cX1_property 47 = .ok (.aload_n 0, 1) := by decide +kernel
theorem dX1_property_48 : decode cX1_property 48 = .ok (.getfield 23, 3) := by decide +kernel
theorem dX1_property_51 : decode cX1_property 51 = .ok (.ireturn, 1) := by decide +kernel
theorem dX1_property_52 : decode cX1_property 52 = .ok (.aload_n 0, 1) := by decide +kernel
theorem dX1_property_53 : decode cX1_property 53 = .ok (.getfield 26, 3) := by decide +kernel
theorem dX1_property_56 : decode cX1_property 56 = .ok (.ireturn, 1) := by decide +kernel
theorem dX2_init_0 : decode cX2_init 0 = .ok (.aload_n 0, 1) := by decide +kernel
theorem dX2_init_1 : decode cX2_init 1 = .ok (.invokespecial 3, 3) := by decide +kernel
theorem dX2_init_4 : decode cX2_init 4 = .ok (.aload_n 0, 1) := by decide +kernel
theorem dX2_init_5 : decode cX2_init 5 = .ok (.bipush 70, 2) := by decide +kernel
theorem dX2_init_7 : decode cX2_init 7 = .ok (.newarray .char, 2) := by decide +kernel
theorem dX2_init_9 : decode cX2_init 9 = .ok (.putfield 9, 3) := by decide +kernel
theorem dX2_init_12 : decode cX2_init 12 = .ok (.aload_n 0, 1) := by decide +kernel
theorem dX2_init_13 : decode cX2_init 13 = .ok (.bipush 11, 2) := by decide +kernel
theorem dX2_init_15 : decode cX2_init 15 = .ok (.newarray .int, 2) := by decide +kernel
theorem dX2_init_17 : decode cX2_init 17 = .ok (.putfield 15, 3) := by decide +kernel
theorem dX2_init_20 : decode cX2_init 20 = .ok (.aload_n 0, 1) := by decide +kernel
theorem dX2_init_21 : decode cX2_init 21 = .ok (.bipush 33, 2) := by decide +kernel
theorem dX2_init_23 : decode cX2_init 23 = .ok (.newarray .int, 2) := by decide +kernel
theorem dX2_init_25 : decode cX2_init 25 = .ok (.putfield 19, 3) := by decide +kernel
theorem dX2_init_28 : decode cX2_init 28 = .ok (.return_, 1) := by decide +kernel
theorem dX3_init_0 : decode cX3_init 0 = .ok (.aload_n 0, 1) := by decide +kernel
theorem dX3_init_1 : decode cX3_init 1 = .ok (.invokespecial 1, 3) := by decide +kernel
theorem dX3_init_4 : decode cX3_init 4 = .ok (.return_, 1) := by decide +kernel
theorem dX3_add_0 : decode cX3_add 0 = .ok (.aload_n 0, 1) := by decide +kernel
theorem dX3_add_1 : decode cX3_add 1 = .ok (.aload_n 0, 1) := by decide +kernel
theorem dX3_add_2 : decode cX3_add 2 = .ok (.getfield 7, 3) := by decide +kernel
theorem dX3_add_5 : decode cX3_add 5 = .ok (.ifCond .ne 7, 3) := by decide +kernel
theorem dX3_add_8 : decode cX3_add 8 = .ok (.iload_n 1, 1) := by decide +kernel
theorem dX3_add_9 : decode cX3_add 9 = .ok (.goto 11, 3) := by decide +kernel
theorem dX3_add_12 : decode cX3_add 12 = .ok (.aload_n 0, 1) := by decide +kernel
theorem dX3_add_13 : decode cX3_add 13 = .ok (.getfield 13, 3) := by decide +kernel
theorem dX3_add_16 : decode cX3_add 16 = .ok (.iload_n 1, 1) := by decide +kernel
theorem dX3_add_17 : decode cX3_add 17 = .ok (.invokestatic 16, 3) := by decide +kernel
theorem dX3_add_20 : decode cX3_add 20 = .ok (.putfield 13, 3) := by decide +kernel
theorem dX3_add_23 : decode cX3_add 23 = .ok (.aload_n 0, 1) := by decide +kernel
theorem dX3_add_24 : decode cX3_add 24 = .ok (.aload_n 0, 1) := by decide +kernel
theorem dX3_add_25 : decode cX3_add 25 = .ok (.getfield 7, 3) := by decide +kernel
theorem dX3_add_28 : decode cX3_add 28 = .ok (.ifCond .ne 7, 3) := by decide +kernel
theorem dX3_add_31 : decode cX3_add 31 = .ok (.iload_n 1, 1) := by decide +kernel
theorem dX3_add_32 : decode cX3_add 32 = .ok (.goto 11, 3) := by decide +kernel
theorem dX3_add_35 : decode cX3_add 35 = .ok (.aload_n 0, 1) := by decide +kernel
theorem dX3_add_36 : decode cX3_add 36 = .ok (.getfield 22, 3) := by decide +kernel
theorem dX3_add_39 : decode cX3_add 39 = .ok (.iload_n 1, 1) := by decide +kernel
theorem dX3_add_40 : decode cX3_add 40 = .ok (.invokestatic 25, 3) := by decide +kernel
theorem dX3_add_43 : decode cX3_add 43 = .ok (.putfield 22, 3) := by decide +kernel
theorem dX3_add_46 : decode cX3_add 46 = .ok (.aload_n 0, 1) := by decide +kernel
theorem dX3_add_47 : decode cX3_add 47 = .ok (.dup, 1) := by decide +kernel
theorem dX3_add_48 : decode cX3_add 48 = .ok (.getfield 28, 3) := by decide +kernel
theorem dX3_add_51 : decode cX3_add 51 = .ok (.iload_n 1, 1) := by decide +kernel
theorem dX3_add_52 : decode cX3_add 52 = .ok (.iadd, 1) := by decide +kernel
theorem dX3_add_53 : decode cX3_add 53 = .ok (.putfield 28, 3) := by decide +kernel
theorem dX3_add_56 : decode cX3_add 56 = .ok (.aload_n 0, 1) := by decide +kernel
theorem dX3_add_57 : decode cX3_add 57 = .ok (.dup, 1) := by decide +kernel
theorem dX3_add_58 : decode cX3_add 58 = .ok (.getfield 7, 3) := by decide +kernel
theorem dX3_add_61 : decode cX3_add 61 = .ok (.iconst 1, 1) := by decide +kernel
theorem dX3_add_62 : decode cX3_add 62 = .ok (.iadd, 1) := by decide +kernel
theorem dX3_add_63 : decode cX3_add 63 = .ok (.putfield 7, 3) := by decide +kernel
theorem dX3_add_66 : decode cX3_add 66 = .ok (.return_, 1) := by decide +kernel
theorem dX3_mean_0 : decode cX3_mean 0 = .ok (.aload_n 0, 1) := by decide +kernel
theorem dX3_mean_1 : decode cX3_mean 1 = .ok (.getfield 7, 3) := by decide +kernel
theorem dX3_mean_4 : decode cX3_mean 4 = .ok (.iconst 1, 1) := by decide +kernel
theorem dX3_mean_5 : decode cX3_mean 5 = .ok (.if_icmp .ge 7, 3) := by decide +kernel
theorem dX3_mean_8 : decode cX3_mean 8 = .ok (.iconst 0, 1) := by decide +kernel
theorem dX3_mean_9 : decode cX3_mean 9 = .ok (.goto 14, 3) := by decide +kernel
theorem dX3_mean_12 : decode cX3_mean 12 = .ok (.aload_n 0, 1) := by decide +kernel
theorem dX3_mean_13 : decode cX3_mean 13 = .ok (.getfield 28, 3) := by decide +kernel
theorem dX3_mean_16 : decode cX3_mean 16 = .ok (.aload_n 0, 1) := by decide +kernel
theorem dX3_mean_17 : decode cX3_mean 17 = .ok (.getfield 7, 3) := by decide +kernel
theorem dX3_mean_20 : decode cX3_mean 20 = .ok (.invokestatic 31, 3) := by decide +kernel
theorem dX3_mean_23 : decode cX3_mean 23 = .ok (.ireturn, 1) := by decide +kernel
theorem dX3_spread_0 : decode cX3_spread 0 = .ok (.aload_n 0, 1) := by decide +kernel
theorem dX3_spread_1 : decode cX3_spread 1 = .ok (.getfield 22, 3) := by decide +kernel
theorem dX3_spread_4 : decode cX3_spread 4 = .ok (.aload_n 0, 1) := by decide +kernel
theorem dX3_spread_5 : decode cX3_spread 5 = .ok (.getfield 13, 3) := by decide +kernel
theorem dX3_spread_8 : decode cX3_spread 8 = .ok (.isub, 1) := by decide +kernel
theorem dX3_spread_9 : decode cX3_spread 9 = .ok (.ireturn, 1) := by decide +kernel
theorem dX4_init_0 : decode cX4_init 0 = .ok (.aload_n 0, 1) := by decide +kernel
theorem dX4_init_1 : decode cX4_init 1 = .ok (.invokespecial 3, 3) := by decide +kernel
theorem dX4_init_4 : decode cX4_init 4 = .ok (.aload_n 0, 1) := by decide +kernel
theorem dX4_init_5 : decode cX4_init 5 = .ok (.iconst 4, 1) := by decide +kernel
theorem dX4_init_6 : decode cX4_init 6 = .ok (.anewarray 9, 3) := by decide +kernel
theorem dX4_init_9 : decode cX4_init 9 = .ok (.putfield 11, 3) := by decide +kernel
theorem dX4_init_12 : decode cX4_init 12 = .ok (.iconst 0, 1) := by decide +kernel
theorem dX4_init_13 : decode cX4_init 13 = .ok (.istore_n 1, 1) := by decide +kernel
theorem dX4_init_14 : decode cX4_init 14 = .ok (.iload_n 1, 1) := by decide +kernel
theorem dX4_init_15 : decode cX4_init 15 = .ok (.iconst 4, 1) := by decide +kernel
theorem dX4_init_16 : decode cX4_init 16 = .ok (.if_icmp .ge 22, 3) := by decide +kernel
theorem dX4_init_19 : decode cX4_init 19 = .ok (.aload_n 0, 1) := by decide +kernel
theorem dX4_init_20 : decode cX4_init 20 = .ok (.getfield 11, 3) := by decide +kernel
theorem dX4_init_23 : decode cX4_init 23 = .ok (.iload_n 1, 1) := by decide +kernel
theorem dX4_init_24 : decode cX4_init 24 = .ok (.new 9, 3) := by decide +kernel
theorem dX4_init_27 : decode cX4_init 27 = .ok (.dup, 1) := by decide +kernel
theorem dX4_init_28 : decode cX4_init 28 = .ok (.invokespecial 17, 3) := by decide +kernel
theorem dX4_init_31 : decode cX4_init 31 = .ok (.aastore, 1) := by decide +kernel
theorem dX4_init_32 : decode cX4_init 32 = .ok (.iinc 1 1, 3) := by decide +kernel
theorem dX4_init_35 : decode cX4_init 35 = .ok (.goto (-21), 3) := by decide +kernel
theorem dX4_init_38 : decode cX4_init 38 = .ok (.aload_n 0, 1) := by decide +kernel
theorem dX4_init_39 : decode cX4_init 39 = .ok (.iconst 5, 1) := by decide +kernel
theorem dX4_init_40 : decode cX4_init 40 = .ok (.anewarray 18, 3) := by decide +kernel
theorem dX4_init_43 : decode cX4_init 43 = .ok (.putfield 20, 3) := by decide +kernel
theorem dX4_init_46 : decode cX4_init 46 = .ok (.iconst 0, 1) := by decide +kernel
theorem dX4_init_47 : decode cX4_init 47 = .ok (.istore_n 1, 1) := by decide +kernel
theorem dX4_init_48 : decode cX4_init 48 = .ok (.iload_n 1, 1) := by decide +kernel
theorem dX4_init_49 : decode cX4_init 49 = .ok (.iconst 5, 1) := by decide +kernel
theorem dX4_init_50 : decode cX4_init 50 = .ok (.if_icmp .ge 22, 3) := by decide +kernel
theorem dX4_init_53 : decode cX4_init 53 = .ok (.aload_n 0, 1) := by decide +kernel
theorem dX4_init_54 : decode cX4_init 54 = .ok (.getfield 20, 3) := by decide +kernel
theorem dX4_init_57 : decode cX4_init 57 = .ok (.iload_n 1, 1) := by decide +kernel
theorem dX4_init_58 : decode cX4_init 58 = .ok (.new 18, 3) := by decide +kernel
theorem dX4_init_61 : decode cX4_init 61 = .ok (.dup, 1) := by decide +kernel
theorem dX4_init_62 : decode cX4_init 62 = .ok (.invokespecial 24, 3) := by decide +kernel
theorem dX4_init_65 : decode cX4_init 65 = .ok (.aastore, 1) := by decide +kernel
theorem dX4_init_66 : decode cX4_init 66 = .ok (.iinc 1 1, 3) := by decide +kernel
theorem dX4_init_69 : decode cX4_init 69 = .ok (.goto (-21), 3) := by decide +kernel
theorem dX4_init_72 : decode cX4_init 72 = .ok (.aload_n 0, 1) := by decide +kernel
theorem dX4_init_73 : decode cX4_init 73 = .ok (.iconst 5, 1) := by decide +kernel
theorem dX4_init_74 : decode cX4_init 74 = .ok (.anewarray 25, 3) := by decide +kernel
theorem dX4_init_77 : decode cX4_init 77 = .ok (.putfield 27, 3) := by decide +kernel
theorem dX4_init_80 : decode cX4_init 80 = .ok (.iconst 0, 1) := by decide +kernel
theorem dX4_init_81 : decode cX4_init 81 = .ok (.istore_n 1, 1) := by decide +kernel
theorem dX4_init_82 : decode cX4_init 82 = .ok (.iload_n 1, 1) := by decide +kernel
theorem dX4_init_83 : decode cX4_init 83 = .ok (.iconst 5, 1) := by decide +kernel
theorem dX4_init_84 : decode cX4_init 84 = .ok (.if_icmp .ge 22, 3) := by decide +kernel
theorem dX4_init_87 : decode cX4_init 87 = .ok (.aload_n 0, 1) := by decide +kernel
theorem dX4_init_88 : decode cX4_init 88 = .ok (.getfield 27, 3) := by decide +kernel
theorem dX4_init_91 : decode cX4_init 91 = .ok (.iload_n 1, 1) := by decide +kernel
theorem dX4_init_92 : decode cX4_init 92 = .ok (.new 25, 3) := by decide +kernel
theorem dX4_init_95 : decode cX4_init 95 = .ok (.dup, 1) := by decide +kernel
theorem dX4_init_96 : decode cX4_init 96 = .ok (.invokespecial 31, 3) := by decide +kernel
theorem dX4_init_99 : decode cX4_init 99 = .ok (.aastore, 1) := by decide +kernel
theorem dX4_init_100 : decode cX4_init 100 = .ok (.iinc 1 1, 3) := by decide +kernel
theorem dX4_init_103 : decode cX4_init 103 = .ok (.goto (-21), 3) := by decide +kernel
theorem dX4_init_106 : decode cX4_init 106 = .ok (.aload_n 0, 1) := by decide +kernel
theorem dX4_init_107 : decode cX4_init 107 = .ok (.bipush 10, 2) := by decide +kernel
theorem dX4_init_109 : decode cX4_init 109 = .ok (.putfield 32, 3) := by decide +kernel
theorem dX4_init_112 : decode cX4_init 112 = .ok (.return_, 1) := by decide +kernel
theorem dX4_copyFrom_0 : decode cX4_copyFrom 0 = .ok (.iconst 0, 1) := by decide +kernel
theorem dX4_copyFrom_1 : decode cX4_copyFrom 1 = .ok (.istore_n 2, 1) := by decide +kernel
theorem dX4_copyFrom_2 : decode cX4_copyFrom 2 = .ok (.iload_n 2, 1) := by decide +kernel
theorem dX4_copyFrom_3 : decode cX4_copyFrom 3 = .ok (.iconst 4, 1) := by decide +kernel
theorem dX4_copyFrom_4 : decode cX4_copyFrom 4 = .ok (.if_icmp .ge 24, 3) := by decide +kernel
theorem dX4_copyFrom_7 : decode cX4_copyFrom 7 = .ok (.aload_n 0, 1) := by decide +kernel
theorem dX4_copyFrom_8 : decode cX4_copyFrom 8 = .ok (.getfield 11, 3) := by decide +kernel
theorem dX4_copyFrom_11 : decode cX4_copyFrom 11 = .ok (.iload_n 2, 1) := by decide +kernel
theorem dX4_copyFrom_12 : decode cX4_copyFrom 12 = .ok (.aaload, 1) := by decide +kernel
theorem dX4_copyFrom_13 : decode cX4_copyFrom 13 = .ok (.aload_n 1, 1) := by decide +kernel
theorem dX4_copyFrom_14 : decode cX4_copyFrom 14 = .ok (.getfield 11, 3) := by decide +kernel
theorem dX4_copyFrom_17 : decode cX4_copyFrom 17 = .ok (.iload_n 2, 1) := by decide +kernel
theorem dX4_copyFrom_18 : decode cX4_copyFrom 18 = .ok (.aaload, 1) := by decide +kernel
theorem dX4_copyFrom_19 : decode cX4_copyFrom 19 = .ok (.invokevirtual 36, 3) := by decide +kernel
theorem dX4_copyFrom_22 : decode cX4_copyFrom 22 = .ok (.iinc 2 1, 3) := by decide +kernel
theorem dX4_copyFrom_25 : decode cX4_copyFrom 25 = .ok (.goto (-23), 3) := by decide +kernel
theorem dX4_copyFrom_28 : decode cX4_copyFrom 28 = .ok (.iconst 0, 1) := by decide +kernel
theorem dX4_copyFrom_29 : decode cX4_copyFrom 29 = .ok (.istore_n 2, 1) := by decide +kernel
theorem dX4_copyFrom_30 : decode cX4_copyFrom 30 = .ok (.iload_n 2, 1) := by decide +kernel
theorem dX4_copyFrom_31 : decode cX4_copyFrom 31 = .ok (.iconst 5, 1) := by decide +kernel
theorem dX4_copyFrom_32 : decode cX4_copyFrom 32 = .ok (.if_icmp .ge 24, 3) := by decide +kernel
theorem dX4_copyFrom_35 : decode cX4_copyFrom 35 = .ok (.aload_n 0, 1) := by decide +kernel
theorem dX4_copyFrom_36 : decode cX4_copyFrom 36 = .ok (.getfield 20, 3) := by decide +kernel
theorem dX4_copyFrom_39 : decode cX4_copyFrom 39 = .ok (.iload_n 2, 1) := by decide +kernel
theorem dX4_copyFrom_40 : decode cX4_copyFrom 40 = .ok (.aaload, 1) := by decide +kernel
theorem dX4_copyFrom_41 : decode cX4_copyFrom 41 = .ok (.aload_n 1, 1) := by decide +kernel
theorem dX4_copyFrom_42 : decode cX4_copyFrom 42 = .ok (.getfield 20, 3) := by decide +kernel
theorem dX4_copyFrom_45 : decode cX4_copyFrom 45 = .ok (.iload_n 2, 1) := by decide +kernel
theorem dX4_copyFrom_46 : decode cX4_copyFrom 46 = .ok (.aaload, 1) := by decide +kernel
theorem dX4_copyFrom_47 : decode cX4_copyFrom 47 = .ok (.invokevirtual 40, 3) := by decide +kernel
theorem dX4_copyFrom_50 : decode cX4_copyFrom 50 = .ok (.iinc 2 1, 3) := by decide +kernel
theorem dX4_copyFrom_53 : decode cX4_copyFrom 53 = .ok (.goto (-23), 3) := by decide +kernel
theorem dX4_copyFrom_56 : decode cX4_copyFrom 56 = .ok (.aload_n 0, 1) := by decide +kernel
theorem dX4_copyFrom_57 : decode cX4_copyFrom 57 = .ok (.aload_n 1, 1) := by decide +kernel
theorem dX4_copyFrom_58 : decode cX4_copyFrom 58 = .ok (.getfield 43, 3) := by decide +kernel
theorem dX4_copyFrom_61 : decode cX4_copyFrom 61 = .ok (.putfield 43, 3) := by decide +kernel
theorem dX4_copyFrom_64 : decode cX4_copyFrom 64 = .ok (.iconst 0, 1) := by decide +kernel
theorem dX4_copyFrom_65 : decode cX4_copyFrom 65 = .ok (.istore_n 2, 1) := by decide +kernel
theorem dX4_copyFrom_66 : decode cX4_copyFrom 66 = .ok (.iload_n 2, 1) := by decide +kernel
theorem dX4_copyFrom_67 : decode cX4_copyFrom 67 = .ok (.iconst 5, 1) := by decide +kernel
theorem dX4_copyFrom_68 : decode cX4_copyFrom 68 = .ok (.if_icmp .ge 24, 3) := by decide +kernel
theorem dX4_copyFrom_71 : decode cX4_copyFrom 71 = .ok (.aload_n 0, 1) := by decide +kernel
theorem dX4_copyFrom_72 : decode cX4_copyFrom 72 = .ok (.getfield 27, 3) := by decide +kernel
theorem dX4_copyFrom_75 : decode cX4_copyFrom 75 = .ok (.iload_n 2, 1) := by decide +kernel
theorem dX4_copyFrom_76 : decode cX4_copyFrom 76 = .ok (.aaload, 1) := by decide +kernel
theorem dX4_copyFrom_77 : decode cX4_copyFrom 77 = .ok (.aload_n 1, 1) := by decide +kernel
theorem dX4_copyFrom_78 : decode cX4_copyFrom 78 = .ok (.getfield 27, 3) := by decide +kernel
theorem dX4_copyFrom_81 : decode cX4_copyFrom 81 = .ok (.iload_n 2, 1) := by decide +kernel
theorem dX4_copyFrom_82 : decode cX4_copyFrom 82 = .ok (.aaload, 1) := by decide +kernel
theorem dX4_copyFrom_83 : decode cX4_copyFrom 83 = .ok (.invokevirtual 46, 3) := by decide +kernel
theorem dX4_copyFrom_86 : decode cX4_copyFrom 86 = .ok (.iinc 2 1, 3) := by decide +kernel
theorem dX4_copyFrom_89 : decode cX4_copyFrom 89 = .ok (.goto (-23), 3) := by decide +kernel
theorem dX4_copyFrom_92 : decode cX4_copyFrom 92 = .ok (.aload_n 0, 1) := by decide +kernel
theorem dX4_copyFrom_93 : decode cX4_copyFrom 93 = .ok (.aload_n 1, 1) := by decide +kernel
theorem dX4_copyFrom_94 : decode cX4_copyFrom 94 = .ok (.getfield 49, 3) := by decide +kernel
theorem dX4_copyFrom_97 : decode cX4_copyFrom 97 = .ok (.putfield 49, 3) := by decide +kernel
theorem dX4_copyFrom_100 : decode cX4_copyFrom 100 = .ok (.aload_n 0, 1) := by decide +kernel
theorem dX4_copyFrom_101 : decode cX4_copyFrom 101 = .ok (.aload_n 1, 1) := by decide +kernel
theorem dX4_copyFrom_102 : decode cX4_copyFrom 102 = .ok (.getfield 52, 3) := by decide +kernel
theorem dX4_copyFrom_105 : decode cX4_copyFrom 105 = .ok (.putfield 52, 3) := by decide +kernel
theorem dX4_copyFrom_108 : decode cX4_copyFrom 108 = .ok (.aload_n 0, 1) := by decide +kernel
theorem dX4_copyFrom_109 : decode cX4_copyFrom 109 = .ok (.aload_n 1, 1) := by decide +kernel
theorem dX4_copyFrom_110 : decode cX4_copyFrom 110 = .ok (.getfield 32, 3) := by decide +kernel
theorem dX4_copyFrom_113 : decode cX4_copyFrom 113 = .ok (.putfield 32, 3) := by decide +kernel
theorem dX4_copyFrom_116 : decode cX4_copyFrom 116 = .ok (.aload_n 0, 1) := by decide +kernel
theorem dX4_copyFrom_117 : decode cX4_copyFrom 117 = .ok (.aload_n 1, 1) := by decide +kernel
theorem dX4_copyFrom_118 : decode cX4_copyFrom 118 = .ok (.getfield 55, 3) := by decide +kernel
theorem dX4_copyFrom_121 : decode cX4_copyFrom 121 = .ok (.putfield 55, 3) := by decide +kernel
theorem dX4_copyFrom_124 : decode cX4_copyFrom 124 = .ok (.return_, 1) := by decide +kernel
theorem dX4_hungWires_0 : decode cX4_hungWires 0 = .ok (.iconst 0, 1) := by decide +kernel
theorem dX4_hungWires_1 : decode cX4_hungWires 1 = .ok (.istore_n 1, 1) := by decide +kernel
theorem dX4_hungWires_2 : decode cX4_hungWires 2 = .ok (.iconst 0, 1) := by decide +kernel
theorem dX4_hungWires_3 : decode cX4_hungWires 3 = .ok (.istore_n 2, 1) := by decide +kernel
theorem dX4_hungWires_4 : decode cX4_hungWires 4 = .ok (.iload_n 2, 1) := by decide +kernel
theorem dX4_hungWires_5 : decode cX4_hungWires 5 = .ok (.iconst 4, 1) := by decide +kernel
theorem dX4_hungWires_6 : decode cX4_hungWires 6 = .ok (.if_icmp .ge 24, 3) := by decide +kernel
theorem dX4_hungWires_9 : decode cX4_hungWires 9 = .ok (.aload_n 0, 1) := by decide +kernel
theorem dX4_hungWires_10 : decode cX4_hungWires 10 = .ok (.getfield 11, 3) := by decide +kernel
theorem dX4_hungWires_13 : decode cX4_hungWires 13 = .ok (.iload_n 2, 1) := by decide +kernel
theorem dX4_hungWires_14 : decode cX4_hungWires 14 = .ok (.aaload, 1) := by decide +kernel
theorem dX4_hungWires_15 : decode cX4_hungWires 15 = .ok (.getfield 58, 3) := by decide +kernel
theorem dX4_hungWires_18 : decode cX4_hungWires 18 = .ok (.ifCond .eq 6, 3) := by decide +kernel
theorem dX4_hungWires_21 : decode cX4_hungWires 21 = .ok (.iinc 1 1, 3) := by decide +kernel
theorem dX4_hungWires_24 : decode cX4_hungWires 24 = .ok (.iinc 2 1, 3) := by decide +kernel
theorem dX4_hungWires_27 : decode cX4_hungWires 27 = .ok (.goto (-23), 3) := by decide +kernel
theorem dX4_hungWires_30 : decode cX4_hungWires 30 = .ok (.iload_n 1, 1) := by decide +kernel
theorem dX4_hungWires_31 : decode cX4_hungWires 31 = .ok (.ireturn, 1) := by decide +kernel
theorem dX4_orientedStations_0 : decode cX4_orientedStations 0 = .ok (.iconst 0, 1) := by decide +kernel
theorem dX4_orientedStations_1 : decode cX4_orientedStations 1 = .ok (.istore_n 1, 1) := by decide +kernel
theorem dX4_orientedStations_2 : decode cX4_orientedStations 2 = .ok (.iconst 0, 1) := by decide +kernel
theorem dX4_orientedStations_3 : decode cX4_orientedStations 3 = .ok (.istore_n 2, 1) := by decide +kernel
theorem dX4_orientedStations_4 : decode cX4_orientedStations 4 = .ok (.iload_n 2, 1) := by decide +kernel
theorem dX4_orientedStations_5 : decode cX4_orientedStations 5 = .ok (.aload_n 0, 1) := by decide +kernel
theorem dX4_orientedStations_6 : decode cX4_orientedStations 6 = .ok (.getfield 49, 3) := by decide +kernel
theorem dX4_orientedStations_9 : decode cX4_orientedStations 9 = .ok (.if_icmp .ge 24, 3) := by decide +kernel
theorem dX4_orientedStations_12 : decode cX4_orientedStations 12 = .ok (.aload_n 0, 1) := by decide +kernel
theorem dX4_orientedStations_13 : decode cX4_orientedStations 13 = .ok (.getfield 27, 3) := by decide +kernel
theorem dX4_orientedStations_16 : decode cX4_orientedStations 16 = .ok (.iload_n 2, 1) := by decide +kernel
theorem dX4_orientedStations_17 : decode cX4_orientedStations 17 = .ok (.aaload, 1) := by decide +kernel
theorem dX4_orientedStations_18 : decode cX4_orientedStations 18 = .ok (.getfield 62, 3) := by decide +kernel
theorem dX4_orientedStations_21 : decode cX4_orientedStations 21 = .ok (.ifCond .eq 6, 3) := by decide +kernel
theorem dX4_orientedStations_24 : decode cX4_orientedStations 24 = .ok (.iinc 1 1, 3) := by decide +kernel
theorem dX4_orientedStations_27 : decode cX4_orientedStations 27 = .ok (.iinc 2 1, 3) := by decide +kernel
theorem dX4_orientedStations_30 : decode cX4_orientedStations 30 = .ok (.goto (-26), 3) := by decide +kernel
theorem dX4_orientedStations_33 : decode cX4_orientedStations 33 = .ok (.iload_n 1, 1) := by decide +kernel
theorem dX4_orientedStations_34 : decode cX4_orientedStations 34 = .ok (.ireturn, 1) := by decide +kernel
theorem dX4_validObservations_0 : decode cX4_validObservations 0 = .ok (.iconst 0, 1) := by decide +kernel
theorem dX4_validObservations_1 : decode cX4_validObservations 1 = .ok (.istore_n 1, 1) := by decide +kernel
theorem dX4_validObservations_2 : decode cX4_validObservations 2 = .ok (.iconst 0, 1) := by decide +kernel
theorem dX4_validObservations_3 : decode cX4_validObservations 3 = .ok (.istore_n 2, 1) := by decide +kernel
theorem dX4_validObservations_4 : decode cX4_validObservations 4 = .ok (.iload_n 2, 1) := by decide +kernel
theorem dX4_validObservations_5 : decode cX4_validObservations 5 = .ok (.aload_n 0, 1) := by decide +kernel
theorem dX4_validObservations_6 : decode cX4_validObservations 6 = .ok (.getfield 49, 3) := by decide +kernel
theorem dX4_validObservations_9 : decode cX4_validObservations 9 = .ok (.if_icmp .ge 21, 3) := by decide +kernel
theorem dX4_validObservations_12 : decode cX4_validObservations 12 = .ok (.iload_n 1, 1) := by decide +kernel
theorem dX4_validObservations_13 : decode cX4_validObservations 13 = .ok (.aload_n 0, 1) := by decide +kernel
theorem dX4_validObservations_14 : decode cX4_validObservations 14 = .ok (.getfield 27, 3) := by decide +kernel
theorem dX4_validObservations_17 : decode cX4_validObservations 17 = .ok (.iload_n 2, 1) := by decide +kernel
theorem dX4_validObservations_18 : decode cX4_validObservations 18 = .ok (.aaload, 1) := by decide +kernel
theorem dX4_validObservations_19 : decode cX4_validObservations 19 = .ok (.invokevirtual 65, 3) := by decide +kernel
theorem dX4_validObservations_22 : decode cX4_validObservations 22 = .ok (.iadd, 1) := by decide +kernel
theorem dX4_validObservations_23 : decode cX4_validObservations 23 = .ok (.istore_n 1, 1) := by decide +kernel
theorem dX4_validObservations_24 : decode cX4_validObservations 24 = .ok (.iinc 2 1, 3) := by decide +kernel
theorem dX4_validObservations_27 : decode cX4_validObservations 27 = .ok (.goto (-23), 3) := by decide +kernel
theorem dX4_validObservations_30 : decode cX4_validObservations 30 = .ok (.iload_n 1, 1) := by decide +kernel
theorem dX4_validObservations_31 : decode cX4_validObservations 31 = .ok (.ireturn, 1) := by decide +kernel
theorem dX4_voidWire_0 : decode cX4_voidWire 0 = .ok (.iconst 0, 1) := by decide +kernel
theorem dX4_voidWire_1 : decode cX4_voidWire 1 = .ok (.istore_n 2, 1) := by decide +kernel
theorem dX4_voidWire_2 : decode cX4_voidWire 2 = .ok (.iconst 0, 1) := by decide +kernel
theorem dX4_voidWire_3 : decode cX4_voidWire 3 = .ok (.istore_n 3, 1) := by decide +kernel
theorem dX4_voidWire_4 : decode cX4_voidWire 4 = .ok (.iload_n 3, 1) := by decide +kernel
theorem dX4_voidWire_5 : decode cX4_voidWire 5 = .ok (.aload_n 0, 1) := by decide +kernel
theorem dX4_voidWire_6 : decode cX4_voidWire 6 = .ok (.getfield 49, 3) := by decide +kernel
theorem dX4_voidWire_9 : decode cX4_voidWire 9 = .ok (.if_icmp .ge 39, 3) := by decide +kernel
theorem dX4_voidWire_12 : decode cX4_voidWire 12 = .ok (.aload_n 0, 1) := by decide +kernel
theorem dX4_voidWire_13 : decode cX4_voidWire 13 = .ok (.getfield 27, 3) := by decide +kernel
theorem dX4_voidWire_16 : decode cX4_voidWire 16 = .ok (.iload_n 3, 1) := by decide +kernel
theorem dX4_voidWire_17 : decode cX4_voidWire 17 = .ok (.aaload, 1) := by decide +kernel
theorem dX4_voidWire_18 : decode cX4_voidWire 18 = .ok (.getfield 69, 3) := by decide +kernel
theorem dX4_voidWire_21 : decode cX4_voidWire 21 = .ok (.iload_n 1, 1) := by decide +kernel
theorem dX4_voidWire_22 : decode cX4_voidWire 22 = .ok (.aaload, 1) := by decide +kernel
theorem dX4_voidWire_23 : decode cX4_voidWire 23 = .ok (.astore 4, 2) := by decide +kernel
theorem dX4_voidWire_25 : decode cX4_voidWire 25 = .ok (.aload 4, 2) := by decide +kernel
theorem dX4_voidWire_27 : decode cX4_voidWire 27 = .ok (.getfield 73, 3) := by decide +kernel
theorem dX4_voidWire_30 : decode cX4_voidWire 30 = .ok (.ifCond .eq 12, 3) := by decide +kernel
theorem dX4_voidWire_33 : decode cX4_voidWire 33 = .ok (.aload 4, 2) := by decide +kernel
theorem dX4_voidWire_35 : decode cX4_voidWire 35 = .ok (.iconst 0, 1) := by decide +kernel
theorem dX4_voidWire_36 : decode cX4_voidWire 36 = .ok (.putfield 73, 3) := by decide +kernel
theorem dX4_voidWire_39 : decode cX4_voidWire 39 = .ok (.iinc 2 1, 3) := by decide +kernel
theorem dX4_voidWire_42 : decode cX4_voidWire 42 = .ok (.iinc 3 1, 3) := by decide +kernel
theorem dX4_voidWire_45 : decode cX4_voidWire 45 = .ok (.goto (-41), 3) := by decide +kernel
theorem dX4_voidWire_48 : decode cX4_voidWire 48 = .ok (.iload_n 2, 1) := by decide +kernel
theorem dX4_voidWire_49 : decode cX4_voidWire 49 = .ok (.ireturn, 1) := by decide +kernel
theorem dX4_voidAllWires_0 : decode cX4_voidAllWires 0 = .ok (.iconst 0, 1) := by decide +kernel
theorem dX4_voidAllWires_1 : decode cX4_voidAllWires 1 = .ok (.istore_n 1, 1) := by decide +kernel
theorem dX4_voidAllWires_2 : decode cX4_voidAllWires 2 = .ok (.iload_n 1, 1) := by decide +kernel
theorem dX4_voidAllWires_3 : decode cX4_voidAllWires 3 = .ok (.iconst 4, 1) := by decide +kernel
theorem dX4_voidAllWires_4 : decode cX4_voidAllWires 4 = .ok (.if_icmp .ge 15, 3) := by decide +kernel
theorem dX4_voidAllWires_7 : decode cX4_voidAllWires 7 = .ok (.aload_n 0, 1) := by decide +kernel
theorem dX4_voidAllWires_8 : decode cX4_voidAllWires 8 = .ok (.iload_n 1, 1) := by decide +kernel
theorem dX4_voidAllWires_9 : decode cX4_voidAllWires 9 = .ok (.invokevirtual 78, 3) := by decide +kernel
theorem dX4_voidAllWires_12 : decode cX4_voidAllWires 12 = .ok (.pop, 1) := by decide +kernel
theorem dX4_voidAllWires_13 : decode cX4_voidAllWires 13 = .ok (.iinc 1 1, 3) := by decide +kernel
theorem dX4_voidAllWires_16 : decode cX4_voidAllWires 16 = .ok (.goto (-14), 3) := by decide +kernel
theorem dX4_voidAllWires_19 : decode cX4_voidAllWires 19 = .ok (.return_, 1) := by decide +kernel
theorem dX4_passTick_0 : decode cX4_passTick 0 = .ok (.aload_n 0, 1) := by decide +kernel
theorem dX4_passTick_1 : decode cX4_passTick 1 = .ok (.dup, 1) := by decide +kernel
theorem dX4_passTick_2 : decode cX4_passTick 2 = .ok (.getfield 52, 3) := by decide +kernel
theorem dX4_passTick_5 : decode cX4_passTick 5 = .ok (.iconst 1, 1) := by decide +kernel
theorem dX4_passTick_6 : decode cX4_passTick 6 = .ok (.iadd, 1) := by decide +kernel
theorem dX4_passTick_7 : decode cX4_passTick 7 = .ok (.putfield 52, 3) := by decide +kernel
theorem dX4_passTick_10 : decode cX4_passTick 10 = .ok (.iconst 0, 1) := by decide +kernel
theorem dX4_passTick_11 : decode cX4_passTick 11 = .ok (.istore_n 1, 1) := by decide +kernel
theorem dX4_passTick_12 : decode cX4_passTick 12 = .ok (.iload_n 1, 1) := by decide +kernel
theorem dX4_passTick_13 : decode cX4_passTick 13 = .ok (.iconst 4, 1) := by decide +kernel
theorem dX4_passTick_14 : decode cX4_passTick 14 = .ok (.if_icmp .ge 30, 3) := by decide +kernel
theorem dX4_passTick_17 : decode cX4_passTick 17 = .ok (.aload_n 0, 1) := by decide +kernel
theorem dX4_passTick_18 : decode cX4_passTick 18 = .ok (.getfield 11, 3) := by decide +kernel
theorem dX4_passTick_21 : decode cX4_passTick 21 = .ok (.iload_n 1, 1) := by decide +kernel
theorem dX4_passTick_22 : decode cX4_passTick 22 = .ok (.aaload, 1) := by decide +kernel
theorem dX4_passTick_23 : decode cX4_passTick 23 = .ok (.getfield 58, 3) := by decide +kernel
theorem dX4_passTick_26 : decode cX4_passTick 26 = .ok (.ifCond .eq 12, 3) := by decide +kernel
theorem dX4_passTick_29 : decode cX4_passTick 29 = .ok (.aload_n 0, 1) := by decide +kernel
theorem dX4_passTick_30 : decode cX4_passTick 30 = .ok (.getfield 11, 3) := by decide +kernel
theorem dX4_passTick_33 : decode cX4_passTick 33 = .ok (.iload_n 1, 1) := by decide +kernel
theorem dX4_passTick_34 : decode cX4_passTick 34 = .ok (.aaload, 1) := by decide +kernel
theorem dX4_passTick_35 : decode cX4_passTick 35 = .ok (.invokevirtual 82, 3) := by decide +kernel
theorem dX4_passTick_38 : decode cX4_passTick 38 = .ok (.iinc 1 1, 3) := by decide +kernel
theorem dX4_passTick_41 : decode cX4_passTick 41 = .ok (.goto (-29), 3) := by decide +kernel
theorem dX4_passTick_44 : decode cX4_passTick 44 = .ok (.return_, 1) := by decide +kernel
theorem dX4_restAt_0 : decode cX4_restAt 0 = .ok (.iload_n 3, 1) := by decide +kernel
theorem dX4_restAt_1 : decode cX4_restAt 1 = .ok (.ifCond .ne 15, 3) := by decide +kernel
theorem dX4_restAt_4 : decode cX4_restAt 4 = .ok (.aload_n 1, 1) := by decide +kernel
theorem dX4_restAt_5 : decode cX4_restAt 5 = .ok (.getfield 85, 3) := by decide +kernel
theorem dX4_restAt_8 : decode cX4_restAt 8 = .ok (.aload_n 1, 1) := by decide +kernel
theorem dX4_restAt_9 : decode cX4_restAt 9 = .ok (.getfield 88, 3) := by decide +kernel
theorem dX4_restAt_12 : decode cX4_restAt 12 = .ok (.iadd, 1) := by decide +kernel
theorem dX4_restAt_13 : decode cX4_restAt 13 = .ok (.goto 12, 3) := by decide +kernel
theorem dX4_restAt_16 : decode cX4_restAt 16 = .ok (.aload_n 1, 1) := by decide +kernel
theorem dX4_restAt_17 : decode cX4_restAt 17 = .ok (.getfield 91, 3) := by decide +kernel
theorem dX4_restAt_20 : decode cX4_restAt 20 = .ok (.aload_n 1, 1) := by decide +kernel
theorem dX4_restAt_21 : decode cX4_restAt 21 = .ok (.getfield 94, 3) := by decide +kernel
theorem dX4_restAt_24 : decode cX4_restAt 24 = .ok (.iadd, 1) := by decide +kernel
theorem dX4_restAt_25 : decode cX4_restAt 25 = .ok (.istore 4, 2) := by decide +kernel
theorem dX4_restAt_27 : decode cX4_restAt 27 = .ok (.iconst 0, 1) := by decide +kernel
theorem dX4_restAt_28 : decode cX4_restAt 28 = .ok (.istore 5, 2) := by decide +kernel
theorem dX4_restAt_30 : decode cX4_restAt 30 = .ok (.iload 5, 2) := by decide +kernel
theorem dX4_restAt_32 : decode cX4_restAt 32 = .ok (.aload_n 0, 1) := by decide +kernel
theorem dX4_restAt_33 : decode cX4_restAt 33 = .ok (.getfield 43, 3) := by decide +kernel
theorem dX4_restAt_36 : decode cX4_restAt 36 = .ok (.if_icmp .ge 30, 3) := by decide +kernel
theorem dX4_restAt_39 : decode cX4_restAt 39 = .ok (.iload 4, 2) := by decide +kernel
theorem dX4_restAt_41 : decode cX4_restAt 41 = .ok (.aload_n 0, 1) := by decide +kernel
theorem dX4_restAt_42 : decode cX4_restAt 42 = .ok (.getfield 20, 3) := by decide +kernel
theorem dX4_restAt_45 : decode cX4_restAt 45 = .ok (.iload 5, 2) := by decide +kernel
theorem dX4_restAt_47 : decode cX4_restAt 47 = .ok (.aaload, 1) := by decide +kernel
theorem dX4_restAt_48 : decode cX4_restAt 48 = .ok (.aload_n 1, 1) := by decide +kernel
theorem dX4_restAt_49 : decode cX4_restAt 49 = .ok (.getfield 97, 3) := by decide +kernel
theorem dX4_restAt_52 : decode cX4_restAt 52 = .ok (.iload_n 2, 1) := by decide +kernel
theorem dX4_restAt_53 : decode cX4_restAt 53 = .ok (.iload_n 3, 1) := by decide +kernel
theorem dX4_restAt_54 : decode cX4_restAt 54 = .ok (.invokevirtual 100, 3) := by decide +kernel
theorem dX4_restAt_57 : decode cX4_restAt 57 = .ok (.iadd, 1) := by decide +kernel
theorem dX4_restAt_58 : decode cX4_restAt 58 = .ok (.istore 4, 2) := by decide +kernel
theorem dX4_restAt_60 : decode cX4_restAt 60 = .ok (.iinc 5 1, 3) := by decide +kernel
theorem dX4_restAt_63 : decode cX4_restAt 63 = .ok (.goto (-33), 3) := by decide +kernel
theorem dX4_restAt_66 : decode cX4_restAt 66 = .ok (.iload 4, 2) := by decide +kernel
theorem dX4_restAt_68 : decode cX4_restAt 68 = .ok (.ireturn, 1) := by decide +kernel
theorem dX4_look_0 : decode cX4_look 0 = .ok (.aload_n 0, 1) := by decide +kernel
theorem dX4_look_1 : decode cX4_look 1 = .ok (.getfield 11, 3) := by decide +kernel
theorem dX4_look_4 : decode cX4_look 4 = .ok (.iload_n 1, 1) := by decide +kernel
theorem dX4_look_5 : decode cX4_look 5 = .ok (.aaload, 1) := by decide +kernel
theorem dX4_look_6 : decode cX4_look 6 = .ok (.astore 4, 2) := by decide +kernel
theorem dX4_look_8 : decode cX4_look 8 = .ok (.aload_n 0, 1) := by decide +kernel
theorem dX4_look_9 : decode cX4_look 9 = .ok (.getfield 27, 3) := by decide +kernel
theorem dX4_look_12 : decode cX4_look 12 = .ok (.iload_n 2, 1) := by decide +kernel
theorem dX4_look_13 : decode cX4_look 13 = .ok (.aaload, 1) := by decide +kernel
theorem dX4_look_14 : decode cX4_look 14 = .ok (.getfield 104, 3) := by decide +kernel
theorem dX4_look_17 : decode cX4_look 17 = .ok (.istore 5, 2) := by decide +kernel
theorem dX4_look_19 : decode cX4_look 19 = .ok (.aload_n 0, 1) := by decide +kernel
theorem dX4_look_20 : decode cX4_look 20 = .ok (.aload 4, 2) := by decide +kernel
theorem dX4_look_22 : decode cX4_look 22 = .ok (.iload 5, 2) := by decide +kernel
theorem dX4_look_24 : decode cX4_look 24 = .ok (.iconst 0, 1) := by decide +kernel
theorem dX4_look_25 : decode cX4_look 25 = .ok (.invokevirtual 107, 3) := by decide +kernel
theorem dX4_look_28 : decode cX4_look 28 = .ok (.istore 6, 2) := by decide +kernel
theorem dX4_look_30 : decode cX4_look 30 = .ok (.aload_n 0, 1) := by decide +kernel
theorem dX4_look_31 : decode cX4_look 31 = .ok (.aload 4, 2) := by decide +kernel
theorem dX4_look_33 : decode cX4_look 33 = .ok (.iload 5, 2) := by decide +kernel
theorem dX4_look_35 : decode cX4_look 35 = .ok (.iconst 1, 1) := by decide +kernel
theorem dX4_look_36 : decode cX4_look 36 = .ok (.invokevirtual 107, 3) := by decide +kernel
theorem dX4_look_39 : decode cX4_look 39 = .ok (.istore 7, 2) := by decide +kernel
theorem dX4_look_41 : decode cX4_look 41 = .ok (.new 111, 3) := by decide +kernel
theorem dX4_look_44 : decode cX4_look 44 = .ok (.dup, 1) := by decide +kernel
theorem dX4_look_45 : decode cX4_look 45 = .ok (.invokespecial 113, 3) := by decide +kernel
theorem dX4_look_48 : decode cX4_look 48 = .ok (.astore 8, 2) := by decide +kernel
theorem dX4_look_50 : decode cX4_look 50 = .ok (.new 111, 3) := by decide +kernel
theorem dX4_look_53 : decode cX4_look 53 = .ok (.dup, 1) := by decide +kernel
theorem dX4_look_54 : decode cX4_look 54 = .ok (.invokespecial 113, 3) := by decide +kernel
theorem dX4_look_57 : decode cX4_look 57 = .ok (.astore 9, 2) := by decide +kernel
theorem dX4_look_59 : decode cX4_look 59 = .ok (.iconst 0, 1) := by decide +kernel
theorem dX4_look_60 : decode cX4_look 60 = .ok (.istore 10, 2) := by decide +kernel
theorem dX4_look_62 : decode cX4_look 62 = .ok (.iload 10, 2) := by decide +kernel
theorem dX4_look_64 : decode cX4_look 64 = .ok (.iload_n 3, 1) := by decide +kernel
theorem dX4_look_65 : decode cX4_look 65 = .ok (.if_icmp .ge 45, 3) := by decide +kernel
theorem dX4_look_68 : decode cX4_look 68 = .ok (.aload 8, 2) := by decide +kernel
theorem dX4_look_70 : decode cX4_look 70 = .ok (.iload 6, 2) := by decide +kernel
theorem dX4_look_72 : decode cX4_look 72 = .ok (.aload 4, 2) := by decide +kernel
theorem dX4_look_74 : decode cX4_look 74 = .ok (.iload 5, 2) := by decide +kernel
theorem dX4_look_76 : decode cX4_look 76 = .ok (.iconst 0, 1) := by decide +kernel
theorem dX4_look_77 : decode cX4_look 77 = .ok (.invokevirtual 114, 3) := by decide +kernel
theorem dX4_look_80 : decode cX4_look 80 = .ok (.iadd, 1) := by decide +kernel
theorem dX4_look_81 : decode cX4_look 81 = .ok (.invokevirtual 118, 3) := by decide +kernel
theorem dX4_look_84 : decode cX4_look 84 = .ok (.aload 9, 2) := by decide +kernel
theorem dX4_look_86 : decode cX4_look 86 = .ok (.iload 7, 2) := by decide +kernel
theorem dX4_look_88 : decode cX4_look 88 = .ok (.aload 4, 2) := by decide +kernel
theorem dX4_look_90 : decode cX4_look 90 = .ok (.iload 5, 2) := by decide +kernel
theorem dX4_look_92 : decode cX4_look 92 = .ok (.iconst 1, 1) := by decide +kernel
theorem dX4_look_93 : decode cX4_look 93 = .ok (.invokevirtual 114, 3) := by decide +kernel
theorem dX4_look_96 : decode cX4_look 96 = .ok (.iadd, 1) := by decide +kernel
theorem dX4_look_97 : decode cX4_look 97 = .ok (.invokevirtual 118, 3) := by decide +kernel
theorem dX4_look_100 : decode cX4_look 100 = .ok (.aload_n 0, 1) := by decide +kernel
theorem dX4_look_101 : decode cX4_look 101 = .ok (.invokevirtual 122, 3) := by decide +kernel
theorem dX4_look_104 : decode cX4_look 104 = .ok (.iinc 10 1, 3) := by decide +kernel
theorem dX4_look_107 : decode cX4_look 107 = .ok (.goto (-45), 3) := by decide +kernel
theorem dX4_look_110 : decode cX4_look 110 = .ok (.aload_n 0, 1) := by decide +kernel
theorem dX4_look_111 : decode cX4_look 111 = .ok (.dup, 1) := by decide +kernel
theorem dX4_look_112 : decode cX4_look 112 = .ok (.getfield 55, 3) := by decide +kernel
theorem dX4_look_115 : decode cX4_look 115 = .ok (.iload_n 3, 1) := by decide +kernel
theorem dX4_look_116 : decode cX4_look 116 = .ok (.iadd, 1) := by decide +kernel
theorem dX4_look_117 : decode cX4_look 117 = .ok (.putfield 55, 3) := by decide +kernel
theorem dX4_look_120 : decode cX4_look 120 = .ok (.aload_n 0, 1) := by decide +kernel
theorem dX4_look_121 : decode cX4_look 121 = .ok (.getfield 27, 3) := by decide +kernel
theorem dX4_look_124 : decode cX4_look 124 = .ok (.iload_n 2, 1) := by decide +kernel
theorem dX4_look_125 : decode cX4_look 125 = .ok (.aaload, 1) := by decide +kernel
theorem dX4_look_126 : decode cX4_look 126 = .ok (.getfield 69, 3) := by decide +kernel
theorem dX4_look_129 : decode cX4_look 129 = .ok (.iload_n 1, 1) := by decide +kernel
theorem dX4_look_130 : decode cX4_look 130 = .ok (.aaload, 1) := by decide +kernel
theorem dX4_look_131 : decode cX4_look 131 = .ok (.astore 10, 2) := by decide +kernel
theorem dX4_look_133 : decode cX4_look 133 = .ok (.aload 10, 2) := by decide +kernel
theorem dX4_look_135 : decode cX4_look 135 = .ok (.iconst 1, 1) := by decide +kernel
theorem dX4_look_136 : decode cX4_look 136 = .ok (.putfield 73, 3) := by decide +kernel
theorem dX4_look_139 : decode cX4_look 139 = .ok (.aload 10, 2) := by decide +kernel
theorem dX4_look_141 : decode cX4_look 141 = .ok (.aload 8, 2) := by decide +kernel
theorem dX4_look_143 : decode cX4_look 143 = .ok (.invokevirtual 125, 3) := by decide +kernel
theorem dX4_look_146 : decode cX4_look 146 = .ok (.putfield 128, 3) := by decide +kernel
theorem dX4_look_149 : decode cX4_look 149 = .ok (.aload 10, 2) := by decide +kernel
theorem dX4_look_151 : decode cX4_look 151 = .ok (.aload 9, 2) := by decide +kernel
theorem dX4_look_153 : decode cX4_look 153 = .ok (.invokevirtual 125, 3) := by decide +kernel
theorem dX4_look_156 : decode cX4_look 156 = .ok (.putfield 131, 3) := by decide +kernel
theorem dX4_look_159 : decode cX4_look 159 = .ok (.aload 10, 2) := by decide +kernel
theorem dX4_look_161 : decode cX4_look 161 = .ok (.aload 8, 2) := by decide +kernel
theorem dX4_look_163 : decode cX4_look 163 = .ok (.invokevirtual 134, 3) := by decide +kernel
theorem dX4_look_166 : decode cX4_look 166 = .ok (.aload 9, 2) := by decide +kernel
theorem dX4_look_168 : decode cX4_look 168 = .ok (.invokevirtual 134, 3) := by decide +kernel
theorem dX4_look_171 : decode cX4_look 171 = .ok (.invokestatic 137, 3) := by decide +kernel
theorem dX4_look_174 : decode cX4_look 174 = .ok (.putfield 142, 3) := by decide +kernel
theorem dX4_look_177 : decode cX4_look 177 = .ok (.aload 10, 2) := by decide +kernel
theorem dX4_look_179 : decode cX4_look 179 = .ok (.iload_n 3, 1) := by decide +kernel
theorem dX4_look_180 : decode cX4_look 180 = .ok (.putfield 144, 3) := by decide +kernel
theorem dX4_look_183 : decode cX4_look 183 = .ok (.aload 10, 2) := by decide +kernel
theorem dX4_look_185 : decode cX4_look 185 = .ok (.aload_n 0, 1) := by decide +kernel
theorem dX4_look_186 : decode cX4_look 186 = .ok (.getfield 52, 3) := by decide +kernel
theorem dX4_look_189 : decode cX4_look 189 = .ok (.putfield 147, 3) := by decide +kernel
theorem dX4_look_192 : decode cX4_look 192 = .ok (.return_, 1) := by decide +kernel
theorem dX5_init_0 : decode cX5_init 0 = .ok (.aload_n 0, 1) := by decide +kernel
theorem dX5_init_1 : decode cX5_init 1 = .ok (.invokespecial 3, 3) := by decide +kernel
theorem dX5_init_4 : decode cX5_init 4 = .ok (.aload_n 0, 1) := by decide +kernel
theorem dX5_init_5 : decode cX5_init 5 = .ok (.iconst 4, 1) := by decide +kernel
theorem dX5_init_6 : decode cX5_init 6 = .ok (.anewarray 9, 3) := by decide +kernel
theorem dX5_init_9 : decode cX5_init 9 = .ok (.putfield 11, 3) := by decide +kernel
theorem dX5_init_12 : decode cX5_init 12 = .ok (.iconst 0, 1) := by decide +kernel
theorem dX5_init_13 : decode cX5_init 13 = .ok (.istore_n 1, 1) := by decide +kernel
theorem dX5_init_14 : decode cX5_init 14 = .ok (.iload_n 1, 1) := by decide +kernel
theorem dX5_init_15 : decode cX5_init 15 = .ok (.iconst 4, 1) := by decide +kernel
theorem dX5_init_16 : decode cX5_init 16 = .ok (.if_icmp .ge 22, 3) := by decide +kernel
theorem dX5_init_19 : decode cX5_init 19 = .ok (.aload_n 0, 1) := by decide +kernel
theorem dX5_init_20 : decode cX5_init 20 = .ok (.getfield 11, 3) := by decide +kernel
theorem dX5_init_23 : decode cX5_init 23 = .ok (.iload_n 1, 1) := by decide +kernel
theorem dX5_init_24 : decode cX5_init 24 = .ok (.new 9, 3) := by decide +kernel
theorem dX5_init_27 : decode cX5_init 27 = .ok (.dup, 1) := by decide +kernel
theorem dX5_init_28 : decode cX5_init 28 = .ok (.invokespecial 17, 3) := by decide +kernel
theorem dX5_init_31 : decode cX5_init 31 = .ok (.aastore, 1) := by decide +kernel
theorem dX5_init_32 : decode cX5_init 32 = .ok (.iinc 1 1, 3) := by decide +kernel
theorem dX5_init_35 : decode cX5_init 35 = .ok (.goto (-21), 3) := by decide +kernel
theorem dX5_init_38 : decode cX5_init 38 = .ok (.return_, 1) := by decide +kernel
theorem dX5_copyFrom_0 : decode cX5_copyFrom 0 = .ok (.aload_n 0, 1) := by decide +kernel
theorem dX5_copyFrom_1 : decode cX5_copyFrom 1 = .ok (.aload_n 1, 1) := by decide +kernel
theorem dX5_copyFrom_2 : decode cX5_copyFrom 2 = .ok (.getfield 18, 3) := by decide +kernel
theorem dX5_copyFrom_5 : decode cX5_copyFrom 5 = .ok (.putfield 18, 3) := by decide +kernel
theorem dX5_copyFrom_8 : decode cX5_copyFrom 8 = .ok (.aload_n 0, 1) := by decide +kernel
theorem dX5_copyFrom_9 : decode cX5_copyFrom 9 = .ok (.aload_n 1, 1) := by decide +kernel
theorem dX5_copyFrom_10 : decode cX5_copyFrom 10 = .ok (.getfield 22, 3) := by decide +kernel
theorem dX5_copyFrom_13 : decode cX5_copyFrom 13 = .ok (.putfield 22, 3) := by decide +kernel
theorem dX5_copyFrom_16 : decode cX5_copyFrom 16 = .ok (.aload_n 0, 1) := by decide +kernel
theorem dX5_copyFrom_17 : decode cX5_copyFrom 17 = .ok (.aload_n 1, 1) := by decide +kernel
theorem dX5_copyFrom_18 : decode cX5_copyFrom 18 = .ok (.getfield 25, 3) := by decide +kernel
theorem dX5_copyFrom_21 : decode cX5_copyFrom 21 = .ok (.putfield 25, 3) := by decide +kernel
theorem dX5_copyFrom_24 : decode cX5_copyFrom 24 = .ok (.aload_n 0, 1) := by decide +kernel
theorem dX5_copyFrom_25 : decode cX5_copyFrom 25 = .ok (.aload_n 1, 1) := by decide +kernel
theorem dX5_copyFrom_26 : decode cX5_copyFrom 26 = .ok (.getfield 29, 3) := by decide +kernel
theorem dX5_copyFrom_29 : decode cX5_copyFrom 29 = .ok (.putfield 29, 3) := by decide +kernel
theorem dX5_copyFrom_32 : decode cX5_copyFrom 32 = .ok (.iconst 0, 1) := by decide +kernel
theorem dX5_copyFrom_33 : decode cX5_copyFrom 33 = .ok (.istore_n 2, 1) := by decide +kernel
theorem dX5_copyFrom_34 : decode cX5_copyFrom 34 = .ok (.iload_n 2, 1) := by decide +kernel
theorem dX5_copyFrom_35 : decode cX5_copyFrom 35 = .ok (.iconst 4, 1) := by decide +kernel
theorem dX5_copyFrom_36 : decode cX5_copyFrom 36 = .ok (.if_icmp .ge 24, 3) := by decide +kernel
theorem dX5_copyFrom_39 : decode cX5_copyFrom 39 = .ok (.aload_n 0, 1) := by decide +kernel
theorem dX5_copyFrom_40 : decode cX5_copyFrom 40 = .ok (.getfield 11, 3) := by decide +kernel
theorem dX5_copyFrom_43 : decode cX5_copyFrom 43 = .ok (.iload_n 2, 1) := by decide +kernel
theorem dX5_copyFrom_44 : decode cX5_copyFrom 44 = .ok (.aaload, 1) := by decide +kernel
theorem dX5_copyFrom_45 : decode cX5_copyFrom 45 = .ok (.aload_n 1, 1) := by decide +kernel
theorem dX5_copyFrom_46 : decode cX5_copyFrom 46 = .ok (.getfield 11, 3) := by decide +kernel
theorem dX5_copyFrom_49 : decode cX5_copyFrom 49 = .ok (.iload_n 2, 1) := by decide +kernel
theorem dX5_copyFrom_50 : decode cX5_copyFrom 50 = .ok (.aaload, 1) := by decide +kernel
theorem dX5_copyFrom_51 : decode cX5_copyFrom 51 = .ok (.invokevirtual 32, 3) := by decide +kernel
theorem dX5_copyFrom_54 : decode cX5_copyFrom 54 = .ok (.iinc 2 1, 3) := by decide +kernel
theorem dX5_copyFrom_57 : decode cX5_copyFrom 57 = .ok (.goto (-23), 3) := by decide +kernel
theorem dX5_copyFrom_60 : decode cX5_copyFrom 60 = .ok (.return_, 1) := by decide +kernel
theorem dX5_become_0 : decode cX5_become 0 = .ok (.aload_n 0, 1) := by decide +kernel
theorem dX5_become_1 : decode cX5_become 1 = .ok (.iload_n 1, 1) := by decide +kernel
theorem dX5_become_2 : decode cX5_become 2 = .ok (.putfield 18, 3) := by decide +kernel
theorem dX5_become_5 : decode cX5_become 5 = .ok (.aload_n 0, 1) := by decide +kernel
theorem dX5_become_6 : decode cX5_become 6 = .ok (.iload_n 2, 1) := by decide +kernel
theorem dX5_become_7 : decode cX5_become 7 = .ok (.putfield 22, 3) := by decide +kernel
theorem dX5_become_10 : decode cX5_become 10 = .ok (.aload_n 0, 1) := by decide +kernel
theorem dX5_become_11 : decode cX5_become 11 = .ok (.iconst 0, 1) := by decide +kernel
theorem dX5_become_12 : decode cX5_become 12 = .ok (.putfield 25, 3) := by decide +kernel
theorem dX5_become_15 : decode cX5_become 15 = .ok (.aload_n 0, 1) := by decide +kernel
theorem dX5_become_16 : decode cX5_become 16 = .ok (.iconst 0, 1) := by decide +kernel
theorem dX5_become_17 : decode cX5_become 17 = .ok (.putfield 29, 3) := by decide +kernel
theorem dX5_become_20 : decode cX5_become 20 = .ok (.iconst 0, 1) := by decide +kernel
theorem dX5_become_21 : decode cX5_become 21 = .ok (.istore_n 3, 1) := by decide +kernel
theorem dX5_become_22 : decode cX5_become 22 = .ok (.iload_n 3, 1) := by decide +kernel
theorem dX5_become_23 : decode cX5_become 23 = .ok (.iconst 4, 1) := by decide +kernel
theorem dX5_become_24 : decode cX5_become 24 = .ok (.if_icmp .ge 19, 3) := by decide +kernel
theorem dX5_become_27 : decode cX5_become 27 = .ok (.aload_n 0, 1) := by decide +kernel
theorem dX5_become_28 : decode cX5_become 28 = .ok (.getfield 11, 3) := by decide +kernel
theorem dX5_become_31 : decode cX5_become 31 = .ok (.iload_n 3, 1) := by decide +kernel
theorem dX5_become_32 : decode cX5_become 32 = .ok (.aaload, 1) := by decide +kernel
theorem dX5_become_33 : decode cX5_become 33 = .ok (.iconst 0, 1) := by decide +kernel
theorem dX5_become_34 : decode cX5_become 34 = .ok (.putfield 36, 3) := by decide +kernel
theorem dX5_become_37 : decode cX5_become 37 = .ok (.iinc 3 1, 3) := by decide +kernel
theorem dX5_become_40 : decode cX5_become 40 = .ok (.goto (-18), 3) := by decide +kernel
theorem dX5_become_43 : decode cX5_become 43 = .ok (.return_, 1) := by decide +kernel
theorem dX5_validObservations_0 : decode cX5_validObservations 0 = .ok (.iconst 0, 1) := by decide +kernel
theorem dX5_validObservations_1 : decode cX5_validObservations 1 = .ok (.istore_n 1, 1) := by decide +kernel
theorem dX5_validObservations_2 : decode cX5_validObservations 2 = .ok (.iconst 0, 1) := by decide +kernel
theorem dX5_validObservations_3 : decode cX5_validObservations 3 = .ok (.istore_n 2, 1) := by decide +kernel
theorem dX5_validObservations_4 : decode cX5_validObservations 4 = .ok (.iload_n 2, 1) := by decide +kernel
theorem dX5_validObservations_5 : decode cX5_validObservations 5 = .ok (.iconst 4, 1) := by decide +kernel
theorem dX5_validObservations_6 : decode cX5_validObservations 6 = .ok (.if_icmp .ge 24, 3) := by decide +kernel
theorem dX5_validObservations_9 : decode cX5_validObservations 9 = .ok (.aload_n 0, 1) := by decide +kernel
theorem dX5_validObservations_10 : decode cX5_validObservations 10 = .ok (.getfield 11, 3) := by decide +kernel
theorem dX5_validObservations_13 : decode cX5_validObservations 13 = .ok (.iload_n 2, 1) := by decide +kernel
theorem dX5_validObservations_14 : decode cX5_validObservations 14 = .ok (.aaload, 1) := by decide +kernel
theorem dX5_validObservations_15 : decode cX5_validObservations 15 = .ok (.getfield 36, 3) := by decide +kernel
theorem dX5_validObservations_18 : decode cX5_validObservations 18 = .ok (.ifCond .eq 6, 3) := by decide +kernel
theorem dX5_validObservations_21 : decode cX5_validObservations 21 = .ok (.iinc 1 1, 3) := by decide +kernel
theorem dX5_validObservations_24 : decode cX5_validObservations 24 = .ok (.iinc 2 1, 3) := by decide +kernel
theorem dX5_validObservations_27 : decode cX5_validObservations 27 = .ok (.goto (-23), 3) := by decide +kernel
theorem dX5_validObservations_30 : decode cX5_validObservations 30 = .ok (.iload_n 1, 1) := by decide +kernel
theorem dX5_validObservations_31 : decode cX5_validObservations 31 = .ok (.ireturn, 1) := by decide +kernel
theorem dX6_init_0 : decode cX6_init 0 = .ok (.aload_n 0, 1) := by decide +kernel
theorem dX6_init_1 : decode cX6_init 1 = .ok (.invokespecial 3, 3) := by decide +kernel
theorem dX6_init_4 : decode cX6_init 4 = .ok (.return_, 1) := by decide +kernel
theorem dX6_copyFrom_0 : decode cX6_copyFrom 0 = .ok (.aload_n 0, 1) := by decide +kernel
theorem dX6_copyFrom_1 : decode cX6_copyFrom 1 = .ok (.aload_n 1, 1) := by decide +kernel
theorem dX6_copyFrom_2 : decode cX6_copyFrom 2 = .ok (.getfield 9, 3) := by decide +kernel
theorem dX6_copyFrom_5 : decode cX6_copyFrom 5 = .ok (.putfield 9, 3) := by decide +kernel
theorem dX6_copyFrom_8 : decode cX6_copyFrom 8 = .ok (.aload_n 0, 1) := by decide +kernel
theorem dX6_copyFrom_9 : decode cX6_copyFrom 9 = .ok (.aload_n 1, 1) := by decide +kernel
theorem dX6_copyFrom_10 : decode cX6_copyFrom 10 = .ok (.getfield 15, 3) := by decide +kernel
theorem dX6_copyFrom_13 : decode cX6_copyFrom 13 = .ok (.putfield 15, 3) := by decide +kernel
theorem dX6_copyFrom_16 : decode cX6_copyFrom 16 = .ok (.aload_n 0, 1) := by decide +kernel
theorem dX6_copyFrom_17 : decode cX6_copyFrom 17 = .ok (.aload_n 1, 1) := by decide +kernel
theorem dX6_copyFrom_18 : decode cX6_copyFrom 18 = .ok (.getfield 19, 3) := by decide +kernel
theorem dX6_copyFrom_21 : decode cX6_copyFrom 21 = .ok (.putfield 19, 3) := by decide +kernel
theorem dX6_copyFrom_24 : decode cX6_copyFrom 24 = .ok (.aload_n 0, 1) := by decide +kernel
theorem dX6_copyFrom_25 : decode cX6_copyFrom 25 = .ok (.aload_n 1, 1) := by decide +kernel
theorem dX6_copyFrom_26 : decode cX6_copyFrom 26 = .ok (.getfield 22, 3) := by decide +kernel
theorem dX6_copyFrom_29 : decode cX6_copyFrom 29 = .ok (.putfield 22, 3) := by decide +kernel
theorem dX6_copyFrom_32 : decode cX6_copyFrom 32 = .ok (.aload_n 0, 1) := by decide +kernel
theorem dX6_copyFrom_33 : decode cX6_copyFrom 33 = .ok (.aload_n 1, 1) := by decide +kernel
theorem dX6_copyFrom_34 : decode cX6_copyFrom 34 = .ok (.getfield 25, 3) := by decide +kernel
theorem dX6_copyFrom_37 : decode cX6_copyFrom 37 = .ok (.putfield 25, 3) := by decide +kernel
theorem dX6_copyFrom_40 : decode cX6_copyFrom 40 = .ok (.aload_n 0, 1) := by decide +kernel
theorem dX6_copyFrom_41 : decode cX6_copyFrom 41 = .ok (.aload_n 1, 1) := by decide +kernel
theorem dX6_copyFrom_42 : decode cX6_copyFrom 42 = .ok (.getfield 28, 3) := by decide +kernel
theorem dX6_copyFrom_45 : decode cX6_copyFrom 45 = .ok (.putfield 28, 3) := by decide +kernel
theorem dX6_copyFrom_48 : decode cX6_copyFrom 48 = .ok (.aload_n 0, 1) := by decide +kernel
theorem dX6_copyFrom_49 : decode cX6_copyFrom 49 = .ok (.aload_n 1, 1) := by decide +kernel
theorem dX6_copyFrom_50 : decode cX6_copyFrom 50 = .ok (.getfield 31, 3) := by decide +kernel
theorem dX6_copyFrom_53 : decode cX6_copyFrom 53 = .ok (.putfield 31, 3) := by decide +kernel
theorem dX6_copyFrom_56 : decode cX6_copyFrom 56 = .ok (.aload_n 0, 1) := by decide +kernel
theorem dX6_copyFrom_57 : decode cX6_copyFrom 57 = .ok (.aload_n 1, 1) := by decide +kernel
theorem dX6_copyFrom_58 : decode cX6_copyFrom 58 = .ok (.getfield 34, 3) := by decide +kernel
theorem dX6_copyFrom_61 : decode cX6_copyFrom 61 = .ok (.putfield 34, 3) := by decide +kernel
theorem dX6_copyFrom_64 : decode cX6_copyFrom 64 = .ok (.aload_n 0, 1) := by decide +kernel
theorem dX6_copyFrom_65 : decode cX6_copyFrom 65 = .ok (.aload_n 1, 1) := by decide +kernel
theorem dX6_copyFrom_66 : decode cX6_copyFrom 66 = .ok (.getfield 37, 3) := by decide +kernel
theorem dX6_copyFrom_69 : decode cX6_copyFrom 69 = .ok (.putfield 37, 3) := by decide +kernel
theorem dX6_copyFrom_72 : decode cX6_copyFrom 72 = .ok (.aload_n 0, 1) := by decide +kernel
theorem dX6_copyFrom_73 : decode cX6_copyFrom 73 = .ok (.aload_n 1, 1) := by decide +kernel
theorem dX6_copyFrom_74 : decode cX6_copyFrom 74 = .ok (.getfield 40, 3) := by decide +kernel
theorem dX6_copyFrom_77 : decode cX6_copyFrom 77 = .ok (.putfield 40, 3) := by decide +kernel
theorem dX6_copyFrom_80 : decode cX6_copyFrom 80 = .ok (.aload_n 0, 1) := by decide +kernel
theorem dX6_copyFrom_81 : decode cX6_copyFrom 81 = .ok (.aload_n 1, 1) := by decide +kernel
theorem dX6_copyFrom_82 : decode cX6_copyFrom 82 = .ok (.getfield 43, 3) := by decide +kernel
theorem dX6_copyFrom_85 : decode cX6_copyFrom 85 = .ok (.putfield 43, 3) := by decide +kernel
theorem dX6_copyFrom_88 : decode cX6_copyFrom 88 = .ok (.aload_n 0, 1) := by decide +kernel
theorem dX6_copyFrom_89 : decode cX6_copyFrom 89 = .ok (.aload_n 1, 1) := by decide +kernel
theorem dX6_copyFrom_90 : decode cX6_copyFrom 90 = .ok (.getfield 46, 3) := by decide +kernel
theorem dX6_copyFrom_93 : decode cX6_copyFrom 93 = .ok (.putfield 46, 3) := by decide +kernel
theorem dX6_copyFrom_96 : decode cX6_copyFrom 96 = .ok (.return_, 1) := by decide +kernel
theorem dX6_hangAnew_0 : decode cX6_hangAnew 0 = .ok (.aload_n 0, 1) := by decide +kernel
theorem dX6_hangAnew_1 : decode cX6_hangAnew 1 = .ok (.iconst 1, 1) := by decide +kernel
theorem dX6_hangAnew_2 : decode cX6_hangAnew 2 = .ok (.putfield 9, 3) := by decide +kernel
theorem dX6_hangAnew_5 : decode cX6_hangAnew 5 = .ok (.aload_n 0, 1) := by decide +kernel
theorem dX6_hangAnew_6 : decode cX6_hangAnew 6 = .ok (.iload_n 1, 1) := by decide +kernel
theorem dX6_hangAnew_7 : decode cX6_hangAnew 7 = .ok (.putfield 15, 3) := by decide +kernel
theorem dX6_hangAnew_10 : decode cX6_hangAnew 10 = .ok (.aload_n 0, 1) := by decide +kernel
theorem dX6_hangAnew_11 : decode cX6_hangAnew 11 = .ok (.iload_n 2, 1) := by decide +kernel
theorem dX6_hangAnew_12 : decode cX6_hangAnew 12 = .ok (.putfield 19, 3) := by decide +kernel
theorem dX6_hangAnew_15 : decode cX6_hangAnew 15 = .ok (.aload_n 0, 1) := by decide +kernel
theorem dX6_hangAnew_16 : decode cX6_hangAnew 16 = .ok (.iload_n 3, 1) := by decide +kernel
theorem dX6_hangAnew_17 : decode cX6_hangAnew 17 = .ok (.putfield 22, 3) := by decide +kernel
theorem dX6_hangAnew_20 : decode cX6_hangAnew 20 = .ok (.aload_n 0, 1) := by decide +kernel
theorem dX6_hangAnew_21 : decode cX6_hangAnew 21 = .ok (.iload 4, 2) := by decide +kernel
theorem dX6_hangAnew_23 : decode cX6_hangAnew 23 = .ok (.putfield 25, 3) := by decide +kernel
theorem dX6_hangAnew_26 : decode cX6_hangAnew 26 = .ok (.aload_n 0, 1) := by decide +kernel
theorem dX6_hangAnew_27 : decode cX6_hangAnew 27 = .ok (.iconst 1, 1) := by decide +kernel
theorem dX6_hangAnew_28 : decode cX6_hangAnew 28 = .ok (.iload 4, 2) := by decide +kernel
theorem dX6_hangAnew_30 : decode cX6_hangAnew 30 = .ok (.bipush 100, 2) := by decide +kernel
theorem dX6_hangAnew_32 : decode cX6_hangAnew 32 = .ok (.idiv, 1) := by decide +kernel
theorem dX6_hangAnew_33 : decode cX6_hangAnew 33 = .ok (.iadd, 1) := by decide +kernel
theorem dX6_hangAnew_34 : decode cX6_hangAnew 34 = .ok (.putfield 28, 3) := by decide +kernel
theorem dX6_hangAnew_37 : decode cX6_hangAnew 37 = .ok (.aload_n 0, 1) := by decide +kernel
theorem dX6_hangAnew_38 : decode cX6_hangAnew 38 = .ok (.iconst 0, 1) := by decide +kernel
theorem dX6_hangAnew_39 : decode cX6_hangAnew 39 = .ok (.putfield 31, 3) := by decide +kernel
theorem dX6_hangAnew_42 : decode cX6_hangAnew 42 = .ok (.aload_n 0, 1) := by decide +kernel
theorem dX6_hangAnew_43 : decode cX6_hangAnew 43 = .ok (.iconst 0, 1) := by decide +kernel
theorem dX6_hangAnew_44 : decode cX6_hangAnew 44 = .ok (.putfield 34, 3) := by decide +kernel
theorem dX6_hangAnew_47 : decode cX6_hangAnew 47 = .ok (.aload_n 0, 1) := by decide +kernel
theorem dX6_hangAnew_48 : decode cX6_hangAnew 48 = .ok (.iconst 0, 1) := by decide +kernel
theorem dX6_hangAnew_49 : decode cX6_hangAnew 49 = .ok (.putfield 37, 3) := by decide +kernel
theorem dX6_hangAnew_52 : decode cX6_hangAnew 52 = .ok (.aload_n 0, 1) := by decide +kernel
theorem dX6_hangAnew_53 : decode cX6_hangAnew 53 = .ok (.iconst 0, 1) := by decide +kernel
theorem dX6_hangAnew_54 : decode cX6_hangAnew 54 = .ok (.putfield 40, 3) := by decide +kernel
theorem dX6_hangAnew_57 : decode cX6_hangAnew 57 = .ok (.aload_n 0, 1) := by decide +kernel
theorem dX6_hangAnew_58 : decode cX6_hangAnew 58 = .ok (.iconst 0, 1) := by decide +kernel
theorem dX6_hangAnew_59 : decode cX6_hangAnew 59 = .ok (.invokevirtual 49, 3) := by decide +kernel
theorem dX6_hangAnew_62 : decode cX6_hangAnew 62 = .ok (.return_, 1) := by decide +kernel
theorem dX6_startSway_0 : decode cX6_startSway 0 = .ok (.aload_n 0, 1) := by decide +kernel
theorem dX6_startSway_1 : decode cX6_startSway 1 = .ok (.iload_n 1, 1) := by decide +kernel
theorem dX6_startSway_2 : decode cX6_startSway 2 = .ok (.putfield 43, 3) := by decide +kernel
theorem dX6_startSway_5 : decode cX6_startSway 5 = .ok (.aload_n 0, 1) := by decide +kernel
theorem dX6_startSway_6 : decode cX6_startSway 6 = .ok (.iconst 0, 1) := by decide +kernel
theorem dX6_startSway_7 : decode cX6_startSway 7 = .ok (.putfield 46, 3) := by decide +kernel
theorem dX6_startSway_10 : decode cX6_startSway 10 = .ok (.return_, 1) := by decide +kernel
theorem dX6_tradePlaces_0 : decode cX6_tradePlaces 0 = .ok (.aload_n 0, 1) := by decide +kernel
theorem dX6_tradePlaces_1 : decode cX6_tradePlaces 1 = .ok (.getfield 15, 3) := by decide +kernel
theorem dX6_tradePlaces_4 : decode cX6_tradePlaces 4 = .ok (.istore_n 2, 1) := by decide +kernel
theorem dX6_tradePlaces_5 : decode cX6_tradePlaces 5 = .ok (.aload_n 0, 1) := by decide +kernel
theorem dX6_tradePlaces_6 : decode cX6_tradePlaces 6 = .ok (.getfield 19, 3) := by decide +kernel
theorem dX6_tradePlaces_9 : decode cX6_tradePlaces 9 = .ok (.istore_n 3, 1) := by decide +kernel
theorem dX6_tradePlaces_10 : decode cX6_tradePlaces 10 = .ok (.aload_n 0, 1) := by decide +kernel
theorem dX6_tradePlaces_11 : decode cX6_tradePlaces 11 = .ok (.aload_n 1, 1) := by decide +kernel
theorem dX6_tradePlaces_12 : decode cX6_tradePlaces 12 = .ok (.getfield 15, 3) := by decide +kernel
theorem dX6_tradePlaces_15 : decode cX6_tradePlaces 15 = .ok (.putfield 15, 3) := by decide +kernel
theorem dX6_tradePlaces_18 : decode cX6_tradePlaces 18 = .ok (.aload_n 0, 1) := by decide +kernel
theorem dX6_tradePlaces_19 : decode cX6_tradePlaces 19 = .ok (.aload_n 1, 1) := by decide +kernel
theorem dX6_tradePlaces_20 : decode cX6_tradePlaces 20 = .ok (.getfield 19, 3) := by decide +kernel
theorem dX6_tradePlaces_23 : decode cX6_tradePlaces 23 = .ok (.putfield 19, 3) := by decide +kernel
theorem dX6_tradePlaces_26 : decode cX6_tradePlaces 26 = .ok (.aload_n 1, 1) := by decide +kernel
theorem dX6_tradePlaces_27 : decode cX6_tradePlaces 27 = .ok (.iload_n 2, 1) := by decide +kernel
theorem dX6_tradePlaces_28 : decode cX6_tradePlaces 28 = .ok (.putfield 15, 3) := by decide +kernel
theorem dX6_tradePlaces_31 : decode cX6_tradePlaces 31 = .ok (.aload_n 1, 1) := by decide +kernel
theorem dX6_tradePlaces_32 : decode cX6_tradePlaces 32 = .ok (.iload_n 3, 1) := by decide +kernel
theorem dX6_tradePlaces_33 : decode cX6_tradePlaces 33 = .ok (.putfield 19, 3) := by decide +kernel
theorem dX6_tradePlaces_36 : decode cX6_tradePlaces 36 = .ok (.return_, 1) := by decide +kernel
theorem dX6_periodTicks_0 : decode cX6_periodTicks 0 = .ok (.iconst 4, 1) := by decide +kernel
theorem dX6_periodTicks_1 : decode cX6_periodTicks 1 = .ok (.aload_n 0, 1) := by decide +kernel
theorem dX6_periodTicks_2 : decode cX6_periodTicks 2 = .ok (.getfield 28, 3) := by decide +kernel
theorem dX6_periodTicks_5 : decode cX6_periodTicks 5 = .ok (.imul, 1) := by decide +kernel
theorem dX6_periodTicks_6 : decode cX6_periodTicks 6 = .ok (.ireturn, 1) := by decide +kernel
theorem dX6_swayOneTick_0 : decode cX6_swayOneTick 0 = .ok (.aload_n 0, 1) := by decide +kernel
theorem dX6_swayOneTick_1 : decode cX6_swayOneTick 1 = .ok (.dup, 1) := by decide +kernel
theorem dX6_swayOneTick_2 : decode cX6_swayOneTick 2 = .ok (.getfield 46, 3) := by decide +kernel
theorem dX6_swayOneTick_5 : decode cX6_swayOneTick 5 = .ok (.iconst 1, 1) := by decide +kernel
theorem dX6_swayOneTick_6 : decode cX6_swayOneTick 6 = .ok (.iadd, 1) := by decide +kernel
theorem dX6_swayOneTick_7 : decode cX6_swayOneTick 7 = .ok (.putfield 46, 3) := by decide +kernel
theorem dX6_swayOneTick_10 : decode cX6_swayOneTick 10 = .ok (.aload_n 0, 1) := by decide +kernel
theorem dX6_swayOneTick_11 : decode cX6_swayOneTick 11 = .ok (.getfield 46, 3) := by decide +kernel
theorem dX6_swayOneTick_14 : decode cX6_swayOneTick 14 = .ok (.aload_n 0, 1) := by decide +kernel
theorem dX6_swayOneTick_15 : decode cX6_swayOneTick 15 = .ok (.invokevirtual 53, 3) := by decide +kernel
theorem dX6_swayOneTick_18 : decode cX6_swayOneTick 18 = .ok (.if_icmp .lt 20, 3) := by decide +kernel
theorem dX6_swayOneTick_21 : decode cX6_swayOneTick 21 = .ok (.aload_n 0, 1) := by decide +kernel
theorem dX6_swayOneTick_22 : decode cX6_swayOneTick 22 = .ok (.iconst 0, 1) := by decide +kernel
theorem dX6_swayOneTick_23 : decode cX6_swayOneTick 23 = .ok (.putfield 46, 3) := by decide +kernel
theorem dX6_swayOneTick_26 : decode cX6_swayOneTick 26 = .ok (.aload_n 0, 1) := by decide +kernel
theorem dX6_swayOneTick_27 : decode cX6_swayOneTick 27 = .ok (.aload_n 0, 1) := by decide +kernel
theorem dX6_swayOneTick_28 : decode cX6_swayOneTick 28 = .ok (.aload_n 0, 1) := by decide +kernel
theorem dX6_swayOneTick_29 : decode cX6_swayOneTick 29 = .ok (.getfield 43, 3) := by decide +kernel
theorem dX6_swayOneTick_32 : decode cX6_swayOneTick 32 = .ok (.invokevirtual 57, 3) := by decide +kernel
theorem dX6_swayOneTick_35 : decode cX6_swayOneTick 35 = .ok (.putfield 43, 3) := by decide +kernel
theorem dX6_swayOneTick_38 : decode cX6_swayOneTick 38 = .ok (.return_, 1) := by decide +kernel
theorem dX6_calmed_0 : decode cX6_calmed 0 = .ok (.aload_n 0, 1) := by decide +kernel
theorem dX6_calmed_1 : decode cX6_calmed 1 = .ok (.getfield 37, 3) := by decide +kernel
theorem dX6_calmed_4 : decode cX6_calmed 4 = .ok (.lookupswitch 44 #[(1, 28), (2, 36)], 28) := by decide +kernel
theorem dX6_calmed_32 : decode cX6_calmed 32 = .ok (.iload_n 1, 1) := by decide +kernel
theorem dX6_calmed_33 : decode cX6_calmed 33 = .ok (.bipush 70, 2) := by decide +kernel
theorem dX6_calmed_35 : decode cX6_calmed 35 = .ok (.imul, 1) := by decide +kernel
theorem dX6_calmed_36 : decode cX6_calmed 36 = .ok (.bipush 100, 2) := by decide +kernel
theorem dX6_calmed_38 : decode cX6_calmed 38 = .ok (.idiv, 1) := by decide +kernel
theorem dX6_calmed_39 : decode cX6_calmed 39 = .ok (.ireturn, 1) := by decide +kernel
theorem dX6_calmed_40 : decode cX6_calmed 40 = .ok (.iload_n 1, 1) := by decide +kernel
theorem dX6_calmed_41 : decode cX6_calmed 41 = .ok (.bipush 50, 2) := by decide +kernel
theorem dX6_calmed_43 : decode cX6_calmed 43 = .ok (.imul, 1) := by decide +kernel
theorem dX6_calmed_44 : decode cX6_calmed 44 = .ok (.bipush 100, 2) := by decide +kernel
theorem dX6_calmed_46 : decode cX6_calmed 46 = .ok (.idiv, 1) := by decide +kernel
theorem dX6_calmed_47 : decode cX6_calmed 47 = .ok (.ireturn, 1) := by decide +kernel
theorem dX6_calmed_48 : decode cX6_calmed 48 = .ok (.iload_n 1, 1) := by decide +kernel
theorem dX6_calmed_49 : decode cX6_calmed 49 = .ok (.bipush 95, 2) := by decide +kernel
theorem dX6_calmed_51 : decode cX6_calmed 51 = .ok (.imul, 1) := by decide +kernel
theorem dX6_calmed_52 : decode cX6_calmed 52 = .ok (.bipush 100, 2) := by decide +kernel
theorem dX6_calmed_54 : decode cX6_calmed 54 = .ok (.idiv, 1) := by decide +kernel
theorem dX6_calmed_55 : decode cX6_calmed 55 = .ok (.ireturn, 1) := by decide +kernel
theorem dX6_ticksUntilCalm_0 : decode cX6_ticksUntilCalm 0 = .ok (.aload_n 0, 1) := by decide +kernel
theorem dX6_ticksUntilCalm_1 : decode cX6_ticksUntilCalm 1 = .ok (.getfield 43, 3) := by decide +kernel
theorem dX6_ticksUntilCalm_4 : decode cX6_ticksUntilCalm 4 = .ok (.iload_n 1, 1) := by decide +kernel
theorem dX6_ticksUntilCalm_5 : decode cX6_ticksUntilCalm 5 = .ok (.if_icmp .gt 5, 3) := by decide +kernel
theorem dX6_ticksUntilCalm_8 : decode cX6_ticksUntilCalm 8 = .ok (.iconst 0, 1) := by decide +kernel
theorem dX6_ticksUntilCalm_9 : decode cX6_ticksUntilCalm 9 = .ok (.ireturn, 1) := by decide +kernel
theorem dX6_ticksUntilCalm_10 : decode cX6_ticksUntilCalm 10 = .ok (.aload_n 0, 1) := by decide +kernel
theorem dX6_ticksUntilCalm_11 : decode cX6_ticksUntilCalm 11 = .ok (.invokevirtual 53, 3) := by decide +kernel
theorem dX6_ticksUntilCalm_14 : decode cX6_ticksUntilCalm 14 = .ok (.aload_n 0, 1) := by decide +kernel
theorem dX6_ticksUntilCalm_15 : decode cX6_ticksUntilCalm 15 = .ok (.getfield 46, 3) := by decide +kernel
theorem dX6_ticksUntilCalm_18 : decode cX6_ticksUntilCalm 18 = .ok (.isub, 1) := by decide +kernel
theorem dX6_ticksUntilCalm_19 : decode cX6_ticksUntilCalm 19 = .ok (.istore_n 2, 1) := by decide +kernel
theorem dX6_ticksUntilCalm_20 : decode cX6_ticksUntilCalm 20 = .ok (.aload_n 0, 1) := by decide +kernel
theorem dX6_ticksUntilCalm_21 : decode cX6_ticksUntilCalm 21 = .ok (.aload_n 0, 1) := by decide +kernel
theorem dX6_ticksUntilCalm_22 : decode cX6_ticksUntilCalm 22 = .ok (.getfield 43, 3) := by decide +kernel
theorem dX6_ticksUntilCalm_25 : decode cX6_ticksUntilCalm 25 = .ok (.invokevirtual 57, 3) := by decide +kernel
theorem dX6_ticksUntilCalm_28 : decode cX6_ticksUntilCalm 28 = .ok (.istore_n 3, 1) := by decide +kernel
theorem dX6_ticksUntilCalm_29 : decode cX6_ticksUntilCalm 29 = .ok (.iconst 0, 1) := by decide +kernel
theorem dX6_ticksUntilCalm_30 : decode cX6_ticksUntilCalm 30 = .ok (.istore 4, 2) := by decide +kernel
theorem dX6_ticksUntilCalm_32 : decode cX6_ticksUntilCalm 32 = .ok (.iload 4, 2) := by decide +kernel
theorem dX6_ticksUntilCalm_34 : decode cX6_ticksUntilCalm 34 = .ok (.sipush 500, 3) := by decide +kernel
theorem dX6_ticksUntilCalm_37 : decode cX6_ticksUntilCalm 37 = .ok (.if_icmp .ge 27, 3) := by decide +kernel
theorem dX6_ticksUntilCalm_40 : decode cX6_ticksUntilCalm 40 = .ok (.iload_n 3, 1) := by decide +kernel
theorem dX6_ticksUntilCalm_41 : decode cX6_ticksUntilCalm 41 = .ok (.iload_n 1, 1) := by decide +kernel
theorem dX6_ticksUntilCalm_42 : decode cX6_ticksUntilCalm 42 = .ok (.if_icmp .le 22, 3) := by decide +kernel
theorem dX6_ticksUntilCalm_45 : decode cX6_ticksUntilCalm 45 = .ok (.iload_n 2, 1) := by decide +kernel
theorem dX6_ticksUntilCalm_46 : decode cX6_ticksUntilCalm 46 = .ok (.aload_n 0, 1) := by decide +kernel
theorem dX6_ticksUntilCalm_47 : decode cX6_ticksUntilCalm 47 = .ok (.invokevirtual 53, 3) := by decide +kernel
theorem dX6_ticksUntilCalm_50 : decode cX6_ticksUntilCalm 50 = .ok (.iadd, 1) := by decide +kernel
theorem dX6_ticksUntilCalm_51 : decode cX6_ticksUntilCalm 51 = .ok (.istore_n 2, 1) := by decide +kernel
theorem dX6_ticksUntilCalm_52 : decode cX6_ticksUntilCalm 52 = .ok (.aload_n 0, 1) := by decide +kernel
theorem dX6_ticksUntilCalm_53 : decode cX6_ticksUntilCalm 53 = .ok (.iload_n 3, 1) := by decide +kernel
theorem dX6_ticksUntilCalm_54 : decode cX6_ticksUntilCalm 54 = .ok (.invokevirtual 57, 3) := by decide +kernel
theorem dX6_ticksUntilCalm_57 : decode cX6_ticksUntilCalm 57 = .ok (.istore_n 3, 1) := by decide +kernel
theorem dX6_ticksUntilCalm_58 : decode cX6_ticksUntilCalm 58 = .ok (.iinc 4 1, 3) := by decide +kernel
theorem dX6_ticksUntilCalm_61 : decode cX6_ticksUntilCalm 61 = .ok (.goto (-29), 3) := by decide +kernel
theorem dX6_ticksUntilCalm_64 : decode cX6_ticksUntilCalm 64 = .ok (.iload_n 2, 1) := by decide +kernel
theorem dX6_ticksUntilCalm_65 : decode cX6_ticksUntilCalm 65 = .ok (.ireturn, 1) := by decide +kernel
theorem dX6_swing_0 : decode cX6_swing 0 = .ok (.aload_n 0, 1) := by decide +kernel
theorem dX6_swing_1 : decode cX6_swing 1 = .ok (.getfield 46, 3) := by decide +kernel
theorem dX6_swing_4 : decode cX6_swing 4 = .ok (.aload_n 0, 1) := by decide +kernel
theorem dX6_swing_5 : decode cX6_swing 5 = .ok (.getfield 28, 3) := by decide +kernel
theorem dX6_swing_8 : decode cX6_swing 8 = .ok (.if_icmp .ge 20, 3) := by decide +kernel
theorem dX6_swing_11 : decode cX6_swing 11 = .ok (.aload_n 0, 1) := by decide +kernel
theorem dX6_swing_12 : decode cX6_swing 12 = .ok (.getfield 43, 3) := by decide +kernel
theorem dX6_swing_15 : decode cX6_swing 15 = .ok (.aload_n 0, 1) := by decide +kernel
theorem dX6_swing_16 : decode cX6_swing 16 = .ok (.getfield 46, 3) := by decide +kernel
theorem dX6_swing_19 : decode cX6_swing 19 = .ok (.imul, 1) := by decide +kernel
theorem dX6_swing_20 : decode cX6_swing 20 = .ok (.aload_n 0, 1) := by decide +kernel
theorem dX6_swing_21 : decode cX6_swing 21 = .ok (.getfield 28, 3) := by decide +kernel
theorem dX6_swing_24 : decode cX6_swing 24 = .ok (.invokestatic 61, 3) := by decide +kernel
theorem dX6_swing_27 : decode cX6_swing 27 = .ok (.ireturn, 1) := by decide +kernel
theorem dX6_swing_28 : decode cX6_swing 28 = .ok (.aload_n 0, 1) := by decide +kernel
theorem dX6_swing_29 : decode cX6_swing 29 = .ok (.getfield 46, 3) := by decide +kernel
theorem dX6_swing_32 : decode cX6_swing 32 = .ok (.iconst 3, 1) := by decide +kernel
theorem dX6_swing_33 : decode cX6_swing 33 = .ok (.aload_n 0, 1) := by decide +kernel
theorem dX6_swing_34 : decode cX6_swing 34 = .ok (.getfield 28, 3) := by decide +kernel
theorem dX6_swing_37 : decode cX6_swing 37 = .ok (.imul, 1) := by decide +kernel
theorem dX6_swing_38 : decode cX6_swing 38 = .ok (.if_icmp .ge 27, 3) := by decide +kernel
theorem dX6_swing_41 : decode cX6_swing 41 = .ok (.aload_n 0, 1) := by decide +kernel
theorem dX6_swing_42 : decode cX6_swing 42 = .ok (.getfield 43, 3) := by decide +kernel
theorem dX6_swing_45 : decode cX6_swing 45 = .ok (.iconst 2, 1) := by decide +kernel
theorem dX6_swing_46 : decode cX6_swing 46 = .ok (.aload_n 0, 1) := by decide +kernel
theorem dX6_swing_47 : decode cX6_swing 47 = .ok (.getfield 28, 3) := by decide +kernel
theorem dX6_swing_50 : decode cX6_swing 50 = .ok (.imul, 1) := by decide +kernel
theorem dX6_swing_51 : decode cX6_swing 51 = .ok (.aload_n 0, 1) := by decide +kernel
theorem dX6_swing_52 : decode cX6_swing 52 = .ok (.getfield 46, 3) := by decide +kernel
theorem dX6_swing_55 : decode cX6_swing 55 = .ok (.isub, 1) := by decide +kernel
theorem dX6_swing_56 : decode cX6_swing 56 = .ok (.imul, 1) := by decide +kernel
theorem dX6_swing_57 : decode cX6_swing 57 = .ok (.aload_n 0, 1) := by decide +kernel
theorem dX6_swing_58 : decode cX6_swing 58 = .ok (.getfield 28, 3) := by decide +kernel
theorem dX6_swing_61 : decode cX6_swing 61 = .ok (.invokestatic 61, 3) := by decide +kernel
theorem dX6_swing_64 : decode cX6_swing 64 = .ok (.ireturn, 1) := by decide +kernel
theorem dX6_swing_65 : decode cX6_swing 65 = .ok (.aload_n 0, 1) := by decide +kernel
theorem dX6_swing_66 : decode cX6_swing 66 = .ok (.getfield 43, 3) := by decide +kernel
theorem dX6_swing_69 : decode cX6_swing 69 = .ok (.aload_n 0, 1) := by decide +kernel
theorem dX6_swing_70 : decode cX6_swing 70 = .ok (.getfield 46, 3) := by decide +kernel
theorem dX6_swing_73 : decode cX6_swing 73 = .ok (.iconst 4, 1) := by decide +kernel
theorem dX6_swing_74 : decode cX6_swing 74 = .ok (.aload_n 0, 1) := by decide +kernel
theorem dX6_swing_75 : decode cX6_swing 75 = .ok (.getfield 28, 3) := by decide +kernel
theorem dX6_swing_78 : decode cX6_swing 78 = .ok (.imul, 1) := by decide +kernel
theorem dX6_swing_79 : decode cX6_swing 79 = .ok (.isub, 1) := by decide +kernel
theorem dX6_swing_80 : decode cX6_swing 80 = .ok (.imul, 1) := by decide +kernel
theorem dX6_swing_81 : decode cX6_swing 81 = .ok (.aload_n 0, 1) := by decide +kernel
theorem dX6_swing_82 : decode cX6_swing 82 = .ok (.getfield 28, 3) := by decide +kernel
theorem dX6_swing_85 : decode cX6_swing 85 = .ok (.invokestatic 61, 3) := by decide +kernel
theorem dX6_swing_88 : decode cX6_swing 88 = .ok (.ireturn, 1) := by decide +kernel
theorem dX6_swayAt_0 : decode cX6_swayAt 0 = .ok (.aload_n 0, 1) := by decide +kernel
theorem dX6_swayAt_1 : decode cX6_swayAt 1 = .ok (.getfield 40, 3) := by decide +kernel
theorem dX6_swayAt_4 : decode cX6_swayAt 4 = .ok (.iconst 0, 1) := by decide +kernel
theorem dX6_swayAt_5 : decode cX6_swayAt 5 = .ok (.bipush 7, 2) := by decide +kernel
theorem dX6_swayAt_7 : decode cX6_swayAt 7 = .ok (.invokestatic 65, 3) := by decide +kernel
theorem dX6_swayAt_10 : decode cX6_swayAt 10 = .ok (.ifCond .ne 5, 3) := by decide +kernel
theorem dX6_swayAt_13 : decode cX6_swayAt 13 = .ok (.iconst 0, 1) := by decide +kernel
theorem dX6_swayAt_14 : decode cX6_swayAt 14 = .ok (.ireturn, 1) := by decide +kernel
theorem dX6_swayAt_15 : decode cX6_swayAt 15 = .ok (.iload_n 2, 1) := by decide +kernel
theorem dX6_swayAt_16 : decode cX6_swayAt 16 = .ok (.ifCond .ne 14, 3) := by decide +kernel
theorem dX6_swayAt_19 : decode cX6_swayAt 19 = .ok (.getstatic 69, 3) := by decide +kernel
theorem dX6_swayAt_22 : decode cX6_swayAt 22 = .ok (.aload_n 0, 1) := by decide +kernel
theorem dX6_swayAt_23 : decode cX6_swayAt 23 = .ok (.getfield 40, 3) := by decide +kernel
theorem dX6_swayAt_26 : decode cX6_swayAt 26 = .ok (.iaload, 1) := by decide +kernel
theorem dX6_swayAt_27 : decode cX6_swayAt 27 = .ok (.goto 11, 3) := by decide +kernel
theorem dX6_swayAt_30 : decode cX6_swayAt 30 = .ok (.getstatic 73, 3) := by decide +kernel
theorem dX6_swayAt_33 : decode cX6_swayAt 33 = .ok (.aload_n 0, 1) := by decide +kernel
theorem dX6_swayAt_34 : decode cX6_swayAt 34 = .ok (.getfield 40, 3) := by decide +kernel
theorem dX6_swayAt_37 : decode cX6_swayAt 37 = .ok (.iaload, 1) := by decide +kernel
theorem dX6_swayAt_38 : decode cX6_swayAt 38 = .ok (.istore_n 3, 1) := by decide +kernel
theorem dX6_swayAt_39 : decode cX6_swayAt 39 = .ok (.iload_n 3, 1) := by decide +kernel
theorem dX6_swayAt_40 : decode cX6_swayAt 40 = .ok (.aload_n 0, 1) := by decide +kernel
theorem dX6_swayAt_41 : decode cX6_swayAt 41 = .ok (.invokevirtual 76, 3) := by decide +kernel
theorem dX6_swayAt_44 : decode cX6_swayAt 44 = .ok (.iload_n 1, 1) := by decide +kernel
theorem dX6_swayAt_45 : decode cX6_swayAt 45 = .ok (.imul, 1) := by decide +kernel
theorem dX6_swayAt_46 : decode cX6_swayAt 46 = .ok (.aload_n 0, 1) := by decide +kernel
theorem dX6_swayAt_47 : decode cX6_swayAt 47 = .ok (.getfield 25, 3) := by decide +kernel
theorem dX6_swayAt_50 : decode cX6_swayAt 50 = .ok (.invokestatic 61, 3) := by decide +kernel
theorem dX6_swayAt_53 : decode cX6_swayAt 53 = .ok (.imul, 1) := by decide +kernel
theorem dX6_swayAt_54 : decode cX6_swayAt 54 = .ok (.ireturn, 1) := by decide +kernel
theorem dX6_property_0 : decode cX6_property 0 = .ok (.iload_n 1, 1) := by decide +kernel
theorem dX6_property_1 : decode cX6_property 1 = .ok (.tableswitch 105 0 9 #[55, 60, 65, 70, 75, 80, 85, 90, 95, 100], 55) := by decide +kernel
theorem dX6_property_56 : decode cX6_property 56 = .ok (.aload_n 0, 1) := by decide +kernel
theorem dX6_property_57 : decode cX6_property 57 = .ok (.getfield 15, 3) := by decide +kernel
theorem dX6_property_60 : decode cX6_property 60 = .ok (.ireturn, 1) := by decide +kernel
theorem dX6_property_61 : decode cX6_property 61 = .ok (.aload_n 0, 1) := by decide +kernel
theorem dX6_property_62 : decode cX6_property 62 = .ok (.getfield 19, 3) := by decide +kernel
theorem dX6_property_65 : decode cX6_property 65 = .ok (.ireturn, 1) := by decide +kernel
theorem dX6_property_66 : decode cX6_property 66 = .ok (.aload_n 0, 1) := by decide +kernel
theorem dX6_property_67 : decode cX6_property 67 = .ok (.getfield 22, 3) := by decide +kernel
theorem dX6_property_70 : decode cX6_property 70 = .ok (.ireturn, 1) := by decide +kernel
theorem dX6_property_71 : decode cX6_property 71 = .ok (.aload_n 0, 1) := by decide +kernel
theorem dX6_property_72 : decode cX6_property 72 = .ok (.getfield 25, 3) := by decide +kernel
theorem dX6_property_75 : decode cX6_property 75 = .ok (.ireturn, 1) := by decide +kernel
theorem dX6_property_76 : decode cX6_property 76 = .ok (.aload_n 0, 1) := by decide +kernel
theorem dX6_property_77 : decode cX6_property 77 = .ok (.getfield 31, 3) := by decide +kernel
theorem dX6_property_80 : decode cX6_property 80 = .ok (.ireturn, 1) := by decide +kernel
theorem dX6_property_81 : decode cX6_property 81 = .ok (.aload_n 0, 1) := by decide +kernel
theorem dX6_property_82 : decode cX6_property 82 = .ok (.getfield 34, 3) := by decide +kernel
theorem dX6_property_85 : decode cX6_property 85 = .ok (.ireturn, 1) := by decide +kernel
theorem dX6_property_86 : decode cX6_property 86 = .ok (.aload_n 0, 1) := by decide +kernel
theorem dX6_property_87 : decode cX6_property 87 = .ok (.getfield 37, 3) := by decide +kernel
theorem dX6_property_90 : decode cX6_property 90 = .ok (.ireturn, 1) := by decide +kernel
theorem dX6_property_91 : decode cX6_property 91 = .ok (.aload_n 0, 1) := by decide +kernel
theorem dX6_property_92 : decode cX6_property 92 = .ok (.getfield 40, 3) := by decide +kernel
theorem dX6_property_95 : decode cX6_property 95 = .ok (.ireturn, 1) := by decide +kernel
theorem dX6_property_96 : decode cX6_property 96 = .ok (.aload_n 0, 1) := by decide +kernel
theorem dX6_property_97 : decode cX6_property 97 = .ok (.getfield 43, 3) := by decide +kernel
theorem dX6_property_100 : decode cX6_property 100 = .ok (.ireturn, 1) := by decide +kernel
theorem dX6_property_101 : decode cX6_property 101 = .ok (.aload_n 0, 1) := by decide +kernel
theorem dX6_property_102 : decode cX6_property 102 = .ok (.getfield 46, 3) := by decide +kernel
theorem dX6_property_105 : decode cX6_property 105 = .ok (.ireturn, 1) := by decide +kernel
theorem dX6_property_106 : decode cX6_property 106 = .ok (.aload_n 0, 1) := by decide +kernel
theorem dX6_property_107 : decode cX6_property 107 = .ok (.invokevirtual 53, 3) := by decide +kernel
theorem dX6_property_110 : decode cX6_property 110 = .ok (.ireturn, 1) := by decide +kernel
