theorem d_X_init_0 : decode b_X_init 0 = .ok (.aload_n 0, 1) := by decide +kernel
theorem d_X_init_1 : decode b_X_init 1 = .ok (.invokespecial 3, 3) := by decide +kernel
theorem d_X_init_4 : decode b_X_init 4 = .ok (.aload_n 0, 1) := by decide +kernel
theorem d_X_init_5 : decode b_X_init 5 = .ok (.iconst 0, 1) := by decide +kernel
theorem d_X_init_6 : decode b_X_init 6 = .ok (.putfield 9, 3) := by decide +kernel
theorem d_X_init_9 : decode b_X_init 9 = .ok (.aload_n 0, 1) := by decide +kernel
theorem d_X_init_10 : decode b_X_init 10 = .ok (.iconst 0, 1) := by decide +kernel
theorem d_X_init_11 : decode b_X_init 11 = .ok (.putfield 13, 3) := by decide +kernel
theorem d_X_init_14 : decode b_X_init 14 = .ok (.aload_n 0, 1) := by decide +kernel
theorem d_X_init_15 : decode b_X_init 15 = .ok (.bipush 11, 2) := by decide +kernel
theorem d_X_init_17 : decode b_X_init 17 = .ok (.newarray .int, 2) := by decide +kernel
theorem d_X_init_19 : decode b_X_init 19 = .ok (.putfield 16, 3) := by decide +kernel
theorem d_X_init_22 : decode b_X_init 22 = .ok (.aload_n 0, 1) := by decide +kernel
theorem d_X_init_23 : decode b_X_init 23 = .ok (.bipush 11, 2) := by decide +kernel
theorem d_X_init_25 : decode b_X_init 25 = .ok (.newarray .int, 2) := by decide +kernel
theorem d_X_init_27 : decode b_X_init 27 = .ok (.putfield 20, 3) := by decide +kernel
theorem d_X_init_30 : decode b_X_init 30 = .ok (.aload_n 0, 1) := by decide +kernel
theorem d_X_init_31 : decode b_X_init 31 = .ok (.bipush 40, 2) := by decide +kernel
theorem d_X_init_33 : decode b_X_init 33 = .ok (.newarray .int, 2) := by decide +kernel
theorem d_X_init_35 : decode b_X_init 35 = .ok (.putfield 23, 3) := by decide +kernel
theorem d_X_init_38 : decode b_X_init 38 = .ok (.aload_n 0, 1) := by decide +kernel
theorem d_X_init_39 : decode b_X_init 39 = .ok (.iconst 0, 1) := by decide +kernel
theorem d_X_init_40 : decode b_X_init 40 = .ok (.putfield 26, 3) := by decide +kernel
theorem d_X_init_43 : decode b_X_init 43 = .ok (.aload_n 0, 1) := by decide +kernel
theorem d_X_init_44 : decode b_X_init 44 = .ok (.bipush 20, 2) := by decide +kernel
theorem d_X_init_46 : decode b_X_init 46 = .ok (.newarray .int, 2) := by decide +kernel
theorem d_X_init_48 : decode b_X_init 48 = .ok (.putfield 29, 3) := by decide +kernel
theorem d_X_init_51 : decode b_X_init 51 = .ok (.aload_n 0, 1) := by decide +kernel
theorem d_X_init_52 : decode b_X_init 52 = .ok (.bipush 20, 2) := by decide +kernel
theorem d_X_init_54 : decode b_X_init 54 = .ok (.newarray .int, 2) := by decide +kernel
theorem d_X_init_56 : decode b_X_init 56 = .ok (.putfield 32, 3) := by decide +kernel
theorem d_X_init_59 : decode b_X_init 59 = .ok (.aload_n 0, 1) := by decide +kernel
theorem d_X_init_60 : decode b_X_init 60 = .ok (.iconst 0, 1) := by decide +kernel
theorem d_X_init_61 : decode b_X_init 61 = .ok (.putfield 35, 3) := by decide +kernel
theorem d_X_init_64 : decode b_X_init 64 = .ok (.aload_n 0, 1) := by decide +kernel
theorem d_X_init_65 : decode b_X_init 65 = .ok (.iconst 0, 1) := by decide +kernel
theorem d_X_init_66 : decode b_X_init 66 = .ok (.putfield 38, 3) := by decide +kernel
theorem d_X_init_69 : decode b_X_init 69 = .ok (.aload_n 0, 1) := by decide +kernel
theorem d_X_init_70 : decode b_X_init 70 = .ok (.iconst 0, 1) := by decide +kernel
theorem d_X_init_71 : decode b_X_init 71 = .ok (.putfield 41, 3) := by decide +kernel
theorem d_X_init_74 : decode b_X_init 74 = .ok (.aload_n 0, 1) := by decide +kernel
theorem d_X_init_75 : decode b_X_init 75 = .ok (.sipush 2048, 3) := by decide +kernel
theorem d_X_init_78 : decode b_X_init 78 = .ok (.newarray .boolean, 2) := by decide +kernel
theorem d_X_init_80 : decode b_X_init 80 = .ok (.putfield 45, 3) := by decide +kernel
theorem d_X_init_83 : decode b_X_init 83 = .ok (.aload_n 0, 1) := by decide +kernel
theorem d_X_init_84 : decode b_X_init 84 = .ok (.bipush 11, 2) := by decide +kernel
theorem d_X_init_86 : decode b_X_init 86 = .ok (.newarray .int, 2) := by decide +kernel
theorem d_X_init_88 : decode b_X_init 88 = .ok (.putfield 49, 3) := by decide +kernel
theorem d_X_init_91 : decode b_X_init 91 = .ok (.aload_n 0, 1) := by decide +kernel
theorem d_X_init_92 : decode b_X_init 92 = .ok (.sipush 462, 3) := by decide +kernel
theorem d_X_init_95 : decode b_X_init 95 = .ok (.newarray .int, 2) := by decide +kernel
theorem d_X_init_97 : decode b_X_init 97 = .ok (.putfield 52, 3) := by decide +kernel
theorem d_X_init_100 : decode b_X_init 100 = .ok (.aload_n 0, 1) := by decide +kernel
theorem d_X_init_101 : decode b_X_init 101 = .ok (.iconst 0, 1) := by decide +kernel
theorem d_X_init_102 : decode b_X_init 102 = .ok (.putfield 55, 3) := by decide +kernel
theorem d_X_init_105 : decode b_X_init 105 = .ok (.return_, 1) := by decide +kernel
theorem d_X_fact_0 : decode b_X_fact 0 = .ok (.iload_n 2, 1) := by decide +kernel
theorem d_X_fact_1 : decode b_X_fact 1 = .ok (.invokestatic 58, 3) := by decide +kernel
theorem d_X_fact_4 : decode b_X_fact 4 = .ok (.ifCond .eq 10, 3) := by decide +kernel
theorem d_X_fact_7 : decode b_X_fact 7 = .ok (.iload_n 3, 1) := by decide +kernel
theorem d_X_fact_8 : decode b_X_fact 8 = .ok (.invokestatic 62, 3) := by decide +kernel
theorem d_X_fact_11 : decode b_X_fact 11 = .ok (.ifCond .ne 5, 3) := by decide +kernel
theorem d_X_fact_14 : decode b_X_fact 14 = .ok (.iconst (-1), 1) := by decide +kernel
theorem d_X_fact_15 : decode b_X_fact 15 = .ok (.ireturn, 1) := by decide +kernel
theorem d_X_fact_16 : decode b_X_fact 16 = .ok (.aload_n 0, 1) := by decide +kernel
theorem d_X_fact_17 : decode b_X_fact 17 = .ok (.getfield 9, 3) := by decide +kernel
theorem d_X_fact_20 : decode b_X_fact 20 = .ok (.bipush 11, 2) := by decide +kernel
theorem d_X_fact_22 : decode b_X_fact 22 = .ok (.if_icmp .lt 6, 3) := by decide +kernel
theorem d_X_fact_25 : decode b_X_fact 25 = .ok (.bipush (-3), 2) := by decide +kernel
theorem d_X_fact_27 : decode b_X_fact 27 = .ok (.ireturn, 1) := by decide +kernel
theorem d_X_fact_28 : decode b_X_fact 28 = .ok (.aload_n 0, 1) := by decide +kernel
theorem d_X_fact_29 : decode b_X_fact 29 = .ok (.getfield 9, 3) := by decide +kernel
theorem d_X_fact_32 : decode b_X_fact 32 = .ok (.istore 4, 2) := by decide +kernel
theorem d_X_fact_34 : decode b_X_fact 34 = .ok (.aload_n 0, 1) := by decide +kernel
theorem d_X_fact_35 : decode b_X_fact 35 = .ok (.getfield 16, 3) := by decide +kernel
theorem d_X_fact_38 : decode b_X_fact 38 = .ok (.iload 4, 2) := by decide +kernel
theorem d_X_fact_40 : decode b_X_fact 40 = .ok (.iload_n 2, 1) := by decide +kernel
theorem d_X_fact_41 : decode b_X_fact 41 = .ok (.iastore, 1) := by decide +kernel
theorem d_X_fact_42 : decode b_X_fact 42 = .ok (.aload_n 0, 1) := by decide +kernel
theorem d_X_fact_43 : decode b_X_fact 43 = .ok (.getfield 20, 3) := by decide +kernel
theorem d_X_fact_46 : decode b_X_fact 46 = .ok (.iload 4, 2) := by decide +kernel
theorem d_X_fact_48 : decode b_X_fact 48 = .ok (.iload_n 3, 1) := by decide +kernel
theorem d_X_fact_49 : decode b_X_fact 49 = .ok (.iastore, 1) := by decide +kernel
theorem d_X_fact_50 : decode b_X_fact 50 = .ok (.iload_n 1, 1) := by decide +kernel
theorem d_X_fact_51 : decode b_X_fact 51 = .ok (.ifCond .eq 16, 3) := by decide +kernel
theorem d_X_fact_54 : decode b_X_fact 54 = .ok (.aload_n 0, 1) := by decide +kernel
theorem d_X_fact_55 : decode b_X_fact 55 = .ok (.dup, 1) := by decide +kernel
theorem d_X_fact_56 : decode b_X_fact 56 = .ok (.getfield 13, 3) := by decide +kernel
theorem d_X_fact_59 : decode b_X_fact 59 = .ok (.iconst 1, 1) := by decide +kernel
theorem d_X_fact_60 : decode b_X_fact 60 = .ok (.iload 4, 2) := by decide +kernel
theorem d_X_fact_62 : decode b_X_fact 62 = .ok (.ishl, 1) := by decide +kernel
theorem d_X_fact_63 : decode b_X_fact 63 = .ok (.ior, 1) := by decide +kernel
theorem d_X_fact_64 : decode b_X_fact 64 = .ok (.putfield 13, 3) := by decide +kernel
theorem d_X_fact_67 : decode b_X_fact 67 = .ok (.aload_n 0, 1) := by decide +kernel
theorem d_X_fact_68 : decode b_X_fact 68 = .ok (.iload 4, 2) := by decide +kernel
theorem d_X_fact_70 : decode b_X_fact 70 = .ok (.iconst 1, 1) := by decide +kernel
theorem d_X_fact_71 : decode b_X_fact 71 = .ok (.iadd, 1) := by decide +kernel
theorem d_X_fact_72 : decode b_X_fact 72 = .ok (.putfield 9, 3) := by decide +kernel
theorem d_X_fact_75 : decode b_X_fact 75 = .ok (.aload_n 0, 1) := by decide +kernel
theorem d_X_fact_76 : decode b_X_fact 76 = .ok (.iconst 0, 1) := by decide +kernel
theorem d_X_fact_77 : decode b_X_fact 77 = .ok (.putfield 41, 3) := by decide +kernel
theorem d_X_fact_80 : decode b_X_fact 80 = .ok (.iload 4, 2) := by decide +kernel
theorem d_X_fact_82 : decode b_X_fact 82 = .ok (.ireturn, 1) := by decide +kernel
theorem d_X_harden_0 : decode b_X_harden 0 = .ok (.aload_n 0, 1) := by decide +kernel
theorem d_X_harden_1 : decode b_X_harden 1 = .ok (.iload_n 1, 1) := by decide +kernel
theorem d_X_harden_2 : decode b_X_harden 2 = .ok (.invokevirtual 65, 3) := by decide +kernel
theorem d_X_harden_5 : decode b_X_harden 5 = .ok (.ifCond .ne 5, 3) := by decide +kernel
theorem d_X_harden_8 : decode b_X_harden 8 = .ok (.iconst (-1), 1) := by decide +kernel
theorem d_X_harden_9 : decode b_X_harden 9 = .ok (.ireturn, 1) := by decide +kernel
theorem d_X_harden_10 : decode b_X_harden 10 = .ok (.aload_n 0, 1) := by decide +kernel
theorem d_X_harden_11 : decode b_X_harden 11 = .ok (.iload_n 1, 1) := by decide +kernel
theorem d_X_harden_12 : decode b_X_harden 12 = .ok (.invokevirtual 68, 3) := by decide +kernel
theorem d_X_harden_15 : decode b_X_harden 15 = .ok (.iload_n 2, 1) := by decide +kernel
theorem d_X_harden_16 : decode b_X_harden 16 = .ok (.if_icmp .ne 5, 3) := by decide +kernel
theorem d_X_harden_19 : decode b_X_harden 19 = .ok (.iconst 0, 1) := by decide +kernel
theorem d_X_harden_20 : decode b_X_harden 20 = .ok (.ireturn, 1) := by decide +kernel
theorem d_X_harden_21 : decode b_X_harden 21 = .ok (.aload_n 0, 1) := by decide +kernel
theorem d_X_harden_22 : decode b_X_harden 22 = .ok (.dup, 1) := by decide +kernel
theorem d_X_harden_23 : decode b_X_harden 23 = .ok (.getfield 13, 3) := by decide +kernel
theorem d_X_harden_26 : decode b_X_harden 26 = .ok (.iconst 1, 1) := by decide +kernel
theorem d_X_harden_27 : decode b_X_harden 27 = .ok (.iload_n 1, 1) := by decide +kernel
theorem d_X_harden_28 : decode b_X_harden 28 = .ok (.ishl, 1) := by decide +kernel
theorem d_X_harden_29 : decode b_X_harden 29 = .ok (.ixor, 1) := by decide +kernel
theorem d_X_harden_30 : decode b_X_harden 30 = .ok (.putfield 13, 3) := by decide +kernel
theorem d_X_harden_33 : decode b_X_harden 33 = .ok (.aload_n 0, 1) := by decide +kernel
theorem d_X_harden_34 : decode b_X_harden 34 = .ok (.iconst 0, 1) := by decide +kernel
theorem d_X_harden_35 : decode b_X_harden 35 = .ok (.putfield 41, 3) := by decide +kernel
theorem d_X_harden_38 : decode b_X_harden 38 = .ok (.iconst 1, 1) := by decide +kernel
theorem d_X_harden_39 : decode b_X_harden 39 = .ok (.ireturn, 1) := by decide +kernel
theorem d_X_weight_0 : decode b_X_weight 0 = .ok (.aload_n 0, 1) := by decide +kernel
theorem d_X_weight_1 : decode b_X_weight 1 = .ok (.iload_n 1, 1) := by decide +kernel
theorem d_X_weight_2 : decode b_X_weight 2 = .ok (.invokevirtual 65, 3) := by decide +kernel
theorem d_X_weight_5 : decode b_X_weight 5 = .ok (.ifCond .eq 17, 3) := by decide +kernel
theorem d_X_weight_8 : decode b_X_weight 8 = .ok (.iload_n 2, 1) := by decide +kernel
theorem d_X_weight_9 : decode b_X_weight 9 = .ok (.invokestatic 58, 3) := by decide +kernel
theorem d_X_weight_12 : decode b_X_weight 12 = .ok (.ifCond .eq 10, 3) := by decide +kernel
theorem d_X_weight_15 : decode b_X_weight 15 = .ok (.iload_n 3, 1) := by decide +kernel
theorem d_X_weight_16 : decode b_X_weight 16 = .ok (.invokestatic 62, 3) := by decide +kernel
theorem d_X_weight_19 : decode b_X_weight 19 = .ok (.ifCond .ne 5, 3) := by decide +kernel
theorem d_X_weight_22 : decode b_X_weight 22 = .ok (.iconst (-1), 1) := by decide +kernel
theorem d_X_weight_23 : decode b_X_weight 23 = .ok (.ireturn, 1) := by decide +kernel
theorem d_X_weight_24 : decode b_X_weight 24 = .ok (.aload_n 0, 1) := by decide +kernel
theorem d_X_weight_25 : decode b_X_weight 25 = .ok (.getfield 16, 3) := by decide +kernel
theorem d_X_weight_28 : decode b_X_weight 28 = .ok (.iload_n 1, 1) := by decide +kernel
theorem d_X_weight_29 : decode b_X_weight 29 = .ok (.iload_n 2, 1) := by decide +kernel
theorem d_X_weight_30 : decode b_X_weight 30 = .ok (.iastore, 1) := by decide +kernel
theorem d_X_weight_31 : decode b_X_weight 31 = .ok (.aload_n 0, 1) := by decide +kernel
theorem d_X_weight_32 : decode b_X_weight 32 = .ok (.getfield 20, 3) := by decide +kernel
theorem d_X_weight_35 : decode b_X_weight 35 = .ok (.iload_n 1, 1) := by decide +kernel
theorem d_X_weight_36 : decode b_X_weight 36 = .ok (.iload_n 3, 1) := by decide +kernel
theorem d_X_weight_37 : decode b_X_weight 37 = .ok (.iastore, 1) := by decide +kernel
theorem d_X_weight_38 : decode b_X_weight 38 = .ok (.aload_n 0, 1) := by decide +kernel
theorem d_X_weight_39 : decode b_X_weight 39 = .ok (.iconst 0, 1) := by decide +kernel
theorem d_X_weight_40 : decode b_X_weight 40 = .ok (.putfield 41, 3) := by decide +kernel
theorem d_X_weight_43 : decode b_X_weight 43 = .ok (.iconst 1, 1) := by decide +kernel
theorem d_X_weight_44 : decode b_X_weight 44 = .ok (.ireturn, 1) := by decide +kernel
theorem d_X_clash_0 : decode b_X_clash 0 = .ok (.aload_n 0, 1) := by decide +kernel
theorem d_X_clash_1 : decode b_X_clash 1 = .ok (.getfield 26, 3) := by decide +kernel
theorem d_X_clash_4 : decode b_X_clash 4 = .ok (.bipush 40, 2) := by decide +kernel
theorem d_X_clash_6 : decode b_X_clash 6 = .ok (.if_icmp .lt 6, 3) := by decide +kernel
theorem d_X_clash_9 : decode b_X_clash 9 = .ok (.bipush (-3), 2) := by decide +kernel
theorem d_X_clash_11 : decode b_X_clash 11 = .ok (.ireturn, 1) := by decide +kernel
theorem d_X_clash_12 : decode b_X_clash 12 = .ok (.aload_n 0, 1) := by decide +kernel
theorem d_X_clash_13 : decode b_X_clash 13 = .ok (.getfield 23, 3) := by decide +kernel
theorem d_X_clash_16 : decode b_X_clash 16 = .ok (.aload_n 0, 1) := by decide +kernel
theorem d_X_clash_17 : decode b_X_clash 17 = .ok (.getfield 26, 3) := by decide +kernel
theorem d_X_clash_20 : decode b_X_clash 20 = .ok (.iload_n 1, 1) := by decide +kernel
theorem d_X_clash_21 : decode b_X_clash 21 = .ok (.sipush 2047, 3) := by decide +kernel
theorem d_X_clash_24 : decode b_X_clash 24 = .ok (.iand, 1) := by decide +kernel
theorem d_X_clash_25 : decode b_X_clash 25 = .ok (.iastore, 1) := by decide +kernel
theorem d_X_clash_26 : decode b_X_clash 26 = .ok (.aload_n 0, 1) := by decide +kernel
theorem d_X_clash_27 : decode b_X_clash 27 = .ok (.dup, 1) := by decide +kernel
theorem d_X_clash_28 : decode b_X_clash 28 = .ok (.getfield 26, 3) := by decide +kernel
theorem d_X_clash_31 : decode b_X_clash 31 = .ok (.iconst 1, 1) := by decide +kernel
theorem d_X_clash_32 : decode b_X_clash 32 = .ok (.iadd, 1) := by decide +kernel
theorem d_X_clash_33 : decode b_X_clash 33 = .ok (.putfield 26, 3) := by decide +kernel
theorem d_X_clash_36 : decode b_X_clash 36 = .ok (.aload_n 0, 1) := by decide +kernel
theorem d_X_clash_37 : decode b_X_clash 37 = .ok (.iconst 0, 1) := by decide +kernel
theorem d_X_clash_38 : decode b_X_clash 38 = .ok (.putfield 41, 3) := by decide +kernel
theorem d_X_clash_41 : decode b_X_clash 41 = .ok (.aload_n 0, 1) := by decide +kernel
theorem d_X_clash_42 : decode b_X_clash 42 = .ok (.getfield 26, 3) := by decide +kernel
theorem d_X_clash_45 : decode b_X_clash 45 = .ok (.ireturn, 1) := by decide +kernel
theorem d_X_settle_0 : decode b_X_settle 0 = .ok (.aload_n 0, 1) := by decide +kernel
theorem d_X_settle_1 : decode b_X_settle 1 = .ok (.getfield 26, 3) := by decide +kernel
theorem d_X_settle_4 : decode b_X_settle 4 = .ok (.ifCond .gt 6, 3) := by decide +kernel
theorem d_X_settle_7 : decode b_X_settle 7 = .ok (.bipush (-2), 2) := by decide +kernel
theorem d_X_settle_9 : decode b_X_settle 9 = .ok (.ireturn, 1) := by decide +kernel
theorem d_X_settle_10 : decode b_X_settle 10 = .ok (.aload_n 0, 1) := by decide +kernel
theorem d_X_settle_11 : decode b_X_settle 11 = .ok (.dup, 1) := by decide +kernel
theorem d_X_settle_12 : decode b_X_settle 12 = .ok (.getfield 26, 3) := by decide +kernel
theorem d_X_settle_15 : decode b_X_settle 15 = .ok (.iconst 1, 1) := by decide +kernel
theorem d_X_settle_16 : decode b_X_settle 16 = .ok (.isub, 1) := by decide +kernel
theorem d_X_settle_17 : decode b_X_settle 17 = .ok (.putfield 26, 3) := by decide +kernel
theorem d_X_settle_20 : decode b_X_settle 20 = .ok (.aload_n 0, 1) := by decide +kernel
theorem d_X_settle_21 : decode b_X_settle 21 = .ok (.iconst 0, 1) := by decide +kernel
theorem d_X_settle_22 : decode b_X_settle 22 = .ok (.putfield 41, 3) := by decide +kernel
theorem d_X_settle_25 : decode b_X_settle 25 = .ok (.aload_n 0, 1) := by decide +kernel
theorem d_X_settle_26 : decode b_X_settle 26 = .ok (.getfield 26, 3) := by decide +kernel
theorem d_X_settle_29 : decode b_X_settle 29 = .ok (.ireturn, 1) := by decide +kernel
theorem d_X_support_0 : decode b_X_support 0 = .ok (.iload_n 1, 1) := by decide +kernel
theorem d_X_support_1 : decode b_X_support 1 = .ok (.invokestatic 71, 3) := by decide +kernel
theorem d_X_support_4 : decode b_X_support 4 = .ok (.ifCond .ne 5, 3) := by decide +kernel
theorem d_X_support_7 : decode b_X_support 7 = .ok (.iconst (-1), 1) := by decide +kernel
theorem d_X_support_8 : decode b_X_support 8 = .ok (.ireturn, 1) := by decide +kernel
theorem d_X_support_9 : decode b_X_support 9 = .ok (.aload_n 0, 1) := by decide +kernel
theorem d_X_support_10 : decode b_X_support 10 = .ok (.getfield 35, 3) := by decide +kernel
theorem d_X_support_13 : decode b_X_support 13 = .ok (.bipush 20, 2) := by decide +kernel
theorem d_X_support_15 : decode b_X_support 15 = .ok (.if_icmp .lt 6, 3) := by decide +kernel
theorem d_X_support_18 : decode b_X_support 18 = .ok (.bipush (-3), 2) := by decide +kernel
theorem d_X_support_20 : decode b_X_support 20 = .ok (.ireturn, 1) := by decide +kernel
theorem d_X_support_21 : decode b_X_support 21 = .ok (.aload_n 0, 1) := by decide +kernel
theorem d_X_support_22 : decode b_X_support 22 = .ok (.getfield 29, 3) := by decide +kernel
theorem d_X_support_25 : decode b_X_support 25 = .ok (.aload_n 0, 1) := by decide +kernel
theorem d_X_support_26 : decode b_X_support 26 = .ok (.getfield 35, 3) := by decide +kernel
theorem d_X_support_29 : decode b_X_support 29 = .ok (.iload_n 2, 1) := by decide +kernel
theorem d_X_support_30 : decode b_X_support 30 = .ok (.sipush 2047, 3) := by decide +kernel
theorem d_X_support_33 : decode b_X_support 33 = .ok (.iand, 1) := by decide +kernel
theorem d_X_support_34 : decode b_X_support 34 = .ok (.iastore, 1) := by decide +kernel
theorem d_X_support_35 : decode b_X_support 35 = .ok (.aload_n 0, 1) := by decide +kernel
theorem d_X_support_36 : decode b_X_support 36 = .ok (.getfield 32, 3) := by decide +kernel
theorem d_X_support_39 : decode b_X_support 39 = .ok (.aload_n 0, 1) := by decide +kernel
theorem d_X_support_40 : decode b_X_support 40 = .ok (.getfield 35, 3) := by decide +kernel
theorem d_X_support_43 : decode b_X_support 43 = .ok (.iload_n 1, 1) := by decide +kernel
theorem d_X_support_44 : decode b_X_support 44 = .ok (.iastore, 1) := by decide +kernel
theorem d_X_support_45 : decode b_X_support 45 = .ok (.aload_n 0, 1) := by decide +kernel
theorem d_X_support_46 : decode b_X_support 46 = .ok (.dup, 1) := by decide +kernel
theorem d_X_support_47 : decode b_X_support 47 = .ok (.getfield 35, 3) := by decide +kernel
theorem d_X_support_50 : decode b_X_support 50 = .ok (.iconst 1, 1) := by decide +kernel
theorem d_X_support_51 : decode b_X_support 51 = .ok (.iadd, 1) := by decide +kernel
theorem d_X_support_52 : decode b_X_support 52 = .ok (.putfield 35, 3) := by decide +kernel
theorem d_X_support_55 : decode b_X_support 55 = .ok (.aload_n 0, 1) := by decide +kernel
theorem d_X_support_56 : decode b_X_support 56 = .ok (.iload_n 1, 1) := by decide +kernel
theorem d_X_support_57 : decode b_X_support 57 = .ok (.invokevirtual 74, 3) := by decide +kernel
theorem d_X_support_60 : decode b_X_support 60 = .ok (.ireturn, 1) := by decide +kernel
theorem d_X_order_0 : decode b_X_order 0 = .ok (.iload_n 1, 1) := by decide +kernel
theorem d_X_order_1 : decode b_X_order 1 = .ok (.invokestatic 78, 3) := by decide +kernel
theorem d_X_order_4 : decode b_X_order 4 = .ok (.ifCond .ne 5, 3) := by decide +kernel
theorem d_X_order_7 : decode b_X_order 7 = .ok (.iconst (-1), 1) := by decide +kernel
theorem d_X_order_8 : decode b_X_order 8 = .ok (.ireturn, 1) := by decide +kernel
theorem d_X_order_9 : decode b_X_order 9 = .ok (.aload_n 0, 1) := by decide +kernel
theorem d_X_order_10 : decode b_X_order 10 = .ok (.iload_n 1, 1) := by decide +kernel
theorem d_X_order_11 : decode b_X_order 11 = .ok (.putfield 38, 3) := by decide +kernel
theorem d_X_order_14 : decode b_X_order 14 = .ok (.aload_n 0, 1) := by decide +kernel
theorem d_X_order_15 : decode b_X_order 15 = .ok (.iconst 0, 1) := by decide +kernel
theorem d_X_order_16 : decode b_X_order 16 = .ok (.putfield 41, 3) := by decide +kernel
theorem d_X_order_19 : decode b_X_order 19 = .ok (.iconst 1, 1) := by decide +kernel
theorem d_X_order_20 : decode b_X_order 20 = .ok (.ireturn, 1) := by decide +kernel
theorem d_X_find_0 : decode b_X_find 0 = .ok (.aload_n 0, 1) := by decide +kernel
theorem d_X_find_1 : decode b_X_find 1 = .ok (.invokevirtual 81, 3) := by decide +kernel
theorem d_X_find_4 : decode b_X_find 4 = .ok (.aload_n 0, 1) := by decide +kernel
theorem d_X_find_5 : decode b_X_find 5 = .ok (.getfield 55, 3) := by decide +kernel
theorem d_X_find_8 : decode b_X_find 8 = .ok (.ireturn, 1) := by decide +kernel
theorem d_X_kept_0 : decode b_X_kept 0 = .ok (.aload_n 0, 1) := by decide +kernel
theorem d_X_kept_1 : decode b_X_kept 1 = .ok (.invokevirtual 81, 3) := by decide +kernel
theorem d_X_kept_4 : decode b_X_kept 4 = .ok (.aload_n 0, 1) := by decide +kernel
theorem d_X_kept_5 : decode b_X_kept 5 = .ok (.iload_n 1, 1) := by decide +kernel
theorem d_X_kept_6 : decode b_X_kept 6 = .ok (.invokevirtual 84, 3) := by decide +kernel
theorem d_X_kept_9 : decode b_X_kept 9 = .ok (.ifCond .eq 12, 3) := by decide +kernel
theorem d_X_kept_12 : decode b_X_kept 12 = .ok (.aload_n 0, 1) := by decide +kernel
theorem d_X_kept_13 : decode b_X_kept 13 = .ok (.getfield 52, 3) := by decide +kernel
theorem d_X_kept_16 : decode b_X_kept 16 = .ok (.iload_n 1, 1) := by decide +kernel
theorem d_X_kept_17 : decode b_X_kept 17 = .ok (.iaload, 1) := by decide +kernel
theorem d_X_kept_18 : decode b_X_kept 18 = .ok (.goto 5, 3) := by decide +kernel
theorem d_X_kept_21 : decode b_X_kept 21 = .ok (.bipush (-2), 2) := by decide +kernel
theorem d_X_kept_23 : decode b_X_kept 23 = .ok (.ireturn, 1) := by decide +kernel
theorem d_X_left_0 : decode b_X_left 0 = .ok (.aload_n 0, 1) := by decide +kernel
theorem d_X_left_1 : decode b_X_left 1 = .ok (.invokevirtual 81, 3) := by decide +kernel
theorem d_X_left_4 : decode b_X_left 4 = .ok (.aload_n 0, 1) := by decide +kernel
theorem d_X_left_5 : decode b_X_left 5 = .ok (.iload_n 1, 1) := by decide +kernel
theorem d_X_left_6 : decode b_X_left 6 = .ok (.invokevirtual 84, 3) := by decide +kernel
theorem d_X_left_9 : decode b_X_left 9 = .ok (.ifCond .eq 7, 3) := by decide +kernel
theorem d_X_left_12 : decode b_X_left 12 = .ok (.iload_n 2, 1) := by decide +kernel
theorem d_X_left_13 : decode b_X_left 13 = .ok (.ifCond .ge 6, 3) := by decide +kernel
theorem d_X_left_16 : decode b_X_left 16 = .ok (.bipush (-2), 2) := by decide +kernel
theorem d_X_left_18 : decode b_X_left 18 = .ok (.ireturn, 1) := by decide +kernel
theorem d_X_left_19 : decode b_X_left 19 = .ok (.aload_n 0, 1) := by decide +kernel
theorem d_X_left_20 : decode b_X_left 20 = .ok (.getfield 52, 3) := by decide +kernel
theorem d_X_left_23 : decode b_X_left 23 = .ok (.iload_n 1, 1) := by decide +kernel
theorem d_X_left_24 : decode b_X_left 24 = .ok (.iaload, 1) := by decide +kernel
theorem d_X_left_25 : decode b_X_left 25 = .ok (.istore_n 3, 1) := by decide +kernel
theorem d_X_left_26 : decode b_X_left 26 = .ok (.iconst 0, 1) := by decide +kernel
theorem d_X_left_27 : decode b_X_left 27 = .ok (.istore 4, 2) := by decide +kernel
theorem d_X_left_29 : decode b_X_left 29 = .ok (.iconst 0, 1) := by decide +kernel
theorem d_X_left_30 : decode b_X_left 30 = .ok (.istore 5, 2) := by decide +kernel
theorem d_X_left_32 : decode b_X_left 32 = .ok (.iload 5, 2) := by decide +kernel
theorem d_X_left_34 : decode b_X_left 34 = .ok (.aload_n 0, 1) := by decide +kernel
theorem d_X_left_35 : decode b_X_left 35 = .ok (.getfield 9, 3) := by decide +kernel
theorem d_X_left_38 : decode b_X_left 38 = .ok (.if_icmp .ge 30, 3) := by decide +kernel
theorem d_X_left_41 : decode b_X_left 41 = .ok (.iload_n 3, 1) := by decide +kernel
theorem d_X_left_42 : decode b_X_left 42 = .ok (.iconst 1, 1) := by decide +kernel
theorem d_X_left_43 : decode b_X_left 43 = .ok (.iload 5, 2) := by decide +kernel
theorem d_X_left_45 : decode b_X_left 45 = .ok (.ishl, 1) := by decide +kernel
theorem d_X_left_46 : decode b_X_left 46 = .ok (.iand, 1) := by decide +kernel
theorem d_X_left_47 : decode b_X_left 47 = .ok (.ifCond .ne 15, 3) := by decide +kernel
theorem d_X_left_50 : decode b_X_left 50 = .ok (.iload 4, 2) := by decide +kernel
theorem d_X_left_52 : decode b_X_left 52 = .ok (.iload_n 2, 1) := by decide +kernel
theorem d_X_left_53 : decode b_X_left 53 = .ok (.if_icmp .ne 6, 3) := by decide +kernel
theorem d_X_left_56 : decode b_X_left 56 = .ok (.iload 5, 2) := by decide +kernel
theorem d_X_left_58 : decode b_X_left 58 = .ok (.ireturn, 1) := by decide +kernel
theorem d_X_left_59 : decode b_X_left 59 = .ok (.iinc 4 1, 3) := by decide +kernel
theorem d_X_left_62 : decode b_X_left 62 = .ok (.iinc 5 1, 3) := by decide +kernel
theorem d_X_left_65 : decode b_X_left 65 = .ok (.goto (-33), 3) := by decide +kernel
theorem d_X_left_68 : decode b_X_left 68 = .ok (.bipush (-2), 2) := by decide +kernel
theorem d_X_left_70 : decode b_X_left 70 = .ok (.ireturn, 1) := by decide +kernel
theorem d_X_truth_0 : decode b_X_truth 0 = .ok (.iload_n 1, 1) := by decide +kernel
theorem d_X_truth_1 : decode b_X_truth 1 = .ok (.invokestatic 71, 3) := by decide +kernel
theorem d_X_truth_4 : decode b_X_truth 4 = .ok (.ifCond .ne 5, 3) := by decide +kernel
theorem d_X_truth_7 : decode b_X_truth 7 = .ok (.iconst (-1), 1) := by decide +kernel
theorem d_X_truth_8 : decode b_X_truth 8 = .ok (.ireturn, 1) := by decide +kernel
theorem d_X_truth_9 : decode b_X_truth 9 = .ok (.aload_n 0, 1) := by decide +kernel
theorem d_X_truth_10 : decode b_X_truth 10 = .ok (.invokevirtual 81, 3) := by decide +kernel
theorem d_X_truth_13 : decode b_X_truth 13 = .ok (.iconst 0, 1) := by decide +kernel
theorem d_X_truth_14 : decode b_X_truth 14 = .ok (.istore_n 2, 1) := by decide +kernel
theorem d_X_truth_15 : decode b_X_truth 15 = .ok (.iconst 0, 1) := by decide +kernel
theorem d_X_truth_16 : decode b_X_truth 16 = .ok (.istore_n 3, 1) := by decide +kernel
theorem d_X_truth_17 : decode b_X_truth 17 = .ok (.iload_n 3, 1) := by decide +kernel
theorem d_X_truth_18 : decode b_X_truth 18 = .ok (.aload_n 0, 1) := by decide +kernel
theorem d_X_truth_19 : decode b_X_truth 19 = .ok (.getfield 55, 3) := by decide +kernel
theorem d_X_truth_22 : decode b_X_truth 22 = .ok (.if_icmp .ge 26, 3) := by decide +kernel
theorem d_X_truth_25 : decode b_X_truth 25 = .ok (.aload_n 0, 1) := by decide +kernel
theorem d_X_truth_26 : decode b_X_truth 26 = .ok (.iload_n 1, 1) := by decide +kernel
theorem d_X_truth_27 : decode b_X_truth 27 = .ok (.aload_n 0, 1) := by decide +kernel
theorem d_X_truth_28 : decode b_X_truth 28 = .ok (.getfield 52, 3) := by decide +kernel
theorem d_X_truth_31 : decode b_X_truth 31 = .ok (.iload_n 3, 1) := by decide +kernel
theorem d_X_truth_32 : decode b_X_truth 32 = .ok (.iaload, 1) := by decide +kernel
theorem d_X_truth_33 : decode b_X_truth 33 = .ok (.invokevirtual 87, 3) := by decide +kernel
theorem d_X_truth_36 : decode b_X_truth 36 = .ok (.ifCond .eq 6, 3) := by decide +kernel
theorem d_X_truth_39 : decode b_X_truth 39 = .ok (.iinc 2 1, 3) := by decide +kernel
theorem d_X_truth_42 : decode b_X_truth 42 = .ok (.iinc 3 1, 3) := by decide +kernel
theorem d_X_truth_45 : decode b_X_truth 45 = .ok (.goto (-28), 3) := by decide +kernel
theorem d_X_truth_48 : decode b_X_truth 48 = .ok (.aload_n 0, 1) := by decide +kernel
theorem d_X_truth_49 : decode b_X_truth 49 = .ok (.iload_n 2, 1) := by decide +kernel
theorem d_X_truth_50 : decode b_X_truth 50 = .ok (.invokevirtual 91, 3) := by decide +kernel
theorem d_X_truth_53 : decode b_X_truth 53 = .ok (.ireturn, 1) := by decide +kernel
theorem d_X_surely_0 : decode b_X_surely 0 = .ok (.aload_n 0, 1) := by decide +kernel
theorem d_X_surely_1 : decode b_X_surely 1 = .ok (.iload_n 1, 1) := by decide +kernel
theorem d_X_surely_2 : decode b_X_surely 2 = .ok (.invokevirtual 65, 3) := by decide +kernel
theorem d_X_surely_5 : decode b_X_surely 5 = .ok (.ifCond .ne 5, 3) := by decide +kernel
theorem d_X_surely_8 : decode b_X_surely 8 = .ok (.iconst (-1), 1) := by decide +kernel
theorem d_X_surely_9 : decode b_X_surely 9 = .ok (.ireturn, 1) := by decide +kernel
theorem d_X_surely_10 : decode b_X_surely 10 = .ok (.aload_n 0, 1) := by decide +kernel
theorem d_X_surely_11 : decode b_X_surely 11 = .ok (.invokevirtual 81, 3) := by decide +kernel
theorem d_X_surely_14 : decode b_X_surely 14 = .ok (.iconst 0, 1) := by decide +kernel
theorem d_X_surely_15 : decode b_X_surely 15 = .ok (.istore_n 2, 1) := by decide +kernel
theorem d_X_surely_16 : decode b_X_surely 16 = .ok (.iconst 0, 1) := by decide +kernel
theorem d_X_surely_17 : decode b_X_surely 17 = .ok (.istore_n 3, 1) := by decide +kernel
theorem d_X_surely_18 : decode b_X_surely 18 = .ok (.iload_n 3, 1) := by decide +kernel
theorem d_X_surely_19 : decode b_X_surely 19 = .ok (.aload_n 0, 1) := by decide +kernel
theorem d_X_surely_20 : decode b_X_surely 20 = .ok (.getfield 55, 3) := by decide +kernel
theorem d_X_surely_23 : decode b_X_surely 23 = .ok (.if_icmp .ge 25, 3) := by decide +kernel
theorem d_X_surely_26 : decode b_X_surely 26 = .ok (.aload_n 0, 1) := by decide +kernel
theorem d_X_surely_27 : decode b_X_surely 27 = .ok (.getfield 52, 3) := by decide +kernel
theorem d_X_surely_30 : decode b_X_surely 30 = .ok (.iload_n 3, 1) := by decide +kernel
theorem d_X_surely_31 : decode b_X_surely 31 = .ok (.iaload, 1) := by decide +kernel
theorem d_X_surely_32 : decode b_X_surely 32 = .ok (.iconst 1, 1) := by decide +kernel
theorem d_X_surely_33 : decode b_X_surely 33 = .ok (.iload_n 1, 1) := by decide +kernel
theorem d_X_surely_34 : decode b_X_surely 34 = .ok (.ishl, 1) := by decide +kernel
theorem d_X_surely_35 : decode b_X_surely 35 = .ok (.iand, 1) := by decide +kernel
theorem d_X_surely_36 : decode b_X_surely 36 = .ok (.ifCond .eq 6, 3) := by decide +kernel
theorem d_X_surely_39 : decode b_X_surely 39 = .ok (.iinc 2 1, 3) := by decide +kernel
theorem d_X_surely_42 : decode b_X_surely 42 = .ok (.iinc 3 1, 3) := by decide +kernel
theorem d_X_surely_45 : decode b_X_surely 45 = .ok (.goto (-27), 3) := by decide +kernel
theorem d_X_surely_48 : decode b_X_surely 48 = .ok (.aload_n 0, 1) := by decide +kernel
theorem d_X_surely_49 : decode b_X_surely 49 = .ok (.iload_n 2, 1) := by decide +kernel
theorem d_X_surely_50 : decode b_X_surely 50 = .ok (.invokevirtual 91, 3) := by decide +kernel
theorem d_X_surely_53 : decode b_X_surely 53 = .ok (.ireturn, 1) := by decide +kernel
theorem d_X_better_0 : decode b_X_better 0 = .ok (.iload_n 3, 1) := by decide +kernel
theorem d_X_better_1 : decode b_X_better 1 = .ok (.invokestatic 78, 3) := by decide +kernel
theorem d_X_better_4 : decode b_X_better 4 = .ok (.ifCond .ne 5, 3) := by decide +kernel
theorem d_X_better_7 : decode b_X_better 7 = .ok (.iconst (-1), 1) := by decide +kernel
theorem d_X_better_8 : decode b_X_better 8 = .ok (.ireturn, 1) := by decide +kernel
theorem d_X_better_9 : decode b_X_better 9 = .ok (.iload_n 1, 1) := by decide +kernel
theorem d_X_better_10 : decode b_X_better 10 = .ok (.aload_n 0, 1) := by decide +kernel
theorem d_X_better_11 : decode b_X_better 11 = .ok (.invokevirtual 94, 3) := by decide +kernel
theorem d_X_better_14 : decode b_X_better 14 = .ok (.iand, 1) := by decide +kernel
theorem d_X_better_15 : decode b_X_better 15 = .ok (.istore 4, 2) := by decide +kernel
theorem d_X_better_17 : decode b_X_better 17 = .ok (.iload_n 2, 1) := by decide +kernel
theorem d_X_better_18 : decode b_X_better 18 = .ok (.aload_n 0, 1) := by decide +kernel
theorem d_X_better_19 : decode b_X_better 19 = .ok (.invokevirtual 94, 3) := by decide +kernel
theorem d_X_better_22 : decode b_X_better 22 = .ok (.iand, 1) := by decide +kernel
theorem d_X_better_23 : decode b_X_better 23 = .ok (.istore 5, 2) := by decide +kernel
theorem d_X_better_25 : decode b_X_better 25 = .ok (.aload_n 0, 1) := by decide +kernel
theorem d_X_better_26 : decode b_X_better 26 = .ok (.iload 4, 2) := by decide +kernel
theorem d_X_better_28 : decode b_X_better 28 = .ok (.iload 5, 2) := by decide +kernel
theorem d_X_better_30 : decode b_X_better 30 = .ok (.iload_n 3, 1) := by decide +kernel
theorem d_X_better_31 : decode b_X_better 31 = .ok (.invokevirtual 98, 3) := by decide +kernel
theorem d_X_better_34 : decode b_X_better 34 = .ok (.ifCond .eq 7, 3) := by decide +kernel
theorem d_X_better_37 : decode b_X_better 37 = .ok (.iconst 1, 1) := by decide +kernel
theorem d_X_better_38 : decode b_X_better 38 = .ok (.goto 4, 3) := by decide +kernel
theorem d_X_better_41 : decode b_X_better 41 = .ok (.iconst 0, 1) := by decide +kernel
theorem d_X_better_42 : decode b_X_better 42 = .ok (.ireturn, 1) := by decide +kernel
theorem d_X_least_0 : decode b_X_least 0 = .ok (.iload_n 1, 1) := by decide +kernel
theorem d_X_least_1 : decode b_X_least 1 = .ok (.ifCond .lt 11, 3) := by decide +kernel
theorem d_X_least_4 : decode b_X_least 4 = .ok (.iload_n 1, 1) := by decide +kernel
theorem d_X_least_5 : decode b_X_least 5 = .ok (.aload_n 0, 1) := by decide +kernel
theorem d_X_least_6 : decode b_X_least 6 = .ok (.getfield 26, 3) := by decide +kernel
theorem d_X_least_9 : decode b_X_least 9 = .ok (.if_icmp .lt 6, 3) := by decide +kernel
theorem d_X_least_12 : decode b_X_least 12 = .ok (.bipush (-2), 2) := by decide +kernel
theorem d_X_least_14 : decode b_X_least 14 = .ok (.ireturn, 1) := by decide +kernel
theorem d_X_least_15 : decode b_X_least 15 = .ok (.bipush (-2), 2) := by decide +kernel
theorem d_X_least_17 : decode b_X_least 17 = .ok (.istore_n 2, 1) := by decide +kernel
theorem d_X_least_18 : decode b_X_least 18 = .ok (.iconst 0, 1) := by decide +kernel
theorem d_X_least_19 : decode b_X_least 19 = .ok (.istore_n 3, 1) := by decide +kernel
theorem d_X_least_20 : decode b_X_least 20 = .ok (.iload_n 3, 1) := by decide +kernel
theorem d_X_least_21 : decode b_X_least 21 = .ok (.iload_n 1, 1) := by decide +kernel
theorem d_X_least_22 : decode b_X_least 22 = .ok (.if_icmp .gt 22, 3) := by decide +kernel
theorem d_X_least_25 : decode b_X_least 25 = .ok (.aload_n 0, 1) := by decide +kernel
theorem d_X_least_26 : decode b_X_least 26 = .ok (.iload_n 2, 1) := by decide +kernel
theorem d_X_least_27 : decode b_X_least 27 = .ok (.invokevirtual 102, 3) := by decide +kernel
theorem d_X_least_30 : decode b_X_least 30 = .ok (.istore_n 2, 1) := by decide +kernel
theorem d_X_least_31 : decode b_X_least 31 = .ok (.iload_n 2, 1) := by decide +kernel
theorem d_X_least_32 : decode b_X_least 32 = .ok (.ifCond .ge 6, 3) := by decide +kernel
theorem d_X_least_35 : decode b_X_least 35 = .ok (.bipush (-2), 2) := by decide +kernel
theorem d_X_least_37 : decode b_X_least 37 = .ok (.ireturn, 1) := by decide +kernel
theorem d_X_least_38 : decode b_X_least 38 = .ok (.iinc 3 1, 3) := by decide +kernel
theorem d_X_least_41 : decode b_X_least 41 = .ok (.goto (-21), 3) := by decide +kernel
theorem d_X_least_44 : decode b_X_least 44 = .ok (.iload_n 2, 1) := by decide +kernel
theorem d_X_least_45 : decode b_X_least 45 = .ok (.ireturn, 1) := by decide +kernel
theorem d_X_size_0 : decode b_X_size 0 = .ok (.aload_n 0, 1) := by decide +kernel
theorem d_X_size_1 : decode b_X_size 1 = .ok (.getfield 9, 3) := by decide +kernel
theorem d_X_size_4 : decode b_X_size 4 = .ok (.ireturn, 1) := by decide +kernel
theorem d_X_isRank_0 : decode b_X_isRank 0 = .ok (.iload_n 0, 1) := by decide +kernel
theorem d_X_isRank_1 : decode b_X_isRank 1 = .ok (.ifCond .lt 13, 3) := by decide +kernel
theorem d_X_isRank_4 : decode b_X_isRank 4 = .ok (.iload_n 0, 1) := by decide +kernel
theorem d_X_isRank_5 : decode b_X_isRank 5 = .ok (.bipush 7, 2) := by decide +kernel
theorem d_X_isRank_7 : decode b_X_isRank 7 = .ok (.if_icmp .gt 7, 3) := by decide +kernel
theorem d_X_isRank_10 : decode b_X_isRank 10 = .ok (.iconst 1, 1) := by decide +kernel
theorem d_X_isRank_11 : decode b_X_isRank 11 = .ok (.goto 4, 3) := by decide +kernel
theorem d_X_isRank_14 : decode b_X_isRank 14 = .ok (.iconst 0, 1) := by decide +kernel
theorem d_X_isRank_15 : decode b_X_isRank 15 = .ok (.ireturn, 1) := by decide +kernel
theorem d_X_isWeight_0 : decode b_X_isWeight 0 = .ok (.iload_n 0, 1) := by decide +kernel
theorem d_X_isWeight_1 : decode b_X_isWeight 1 = .ok (.iconst 1, 1) := by decide +kernel
theorem d_X_isWeight_2 : decode b_X_isWeight 2 = .ok (.if_icmp .lt 14, 3) := by decide +kernel
theorem d_X_isWeight_5 : decode b_X_isWeight 5 = .ok (.iload_n 0, 1) := by decide +kernel
theorem d_X_isWeight_6 : decode b_X_isWeight 6 = .ok (.sipush 1000, 3) := by decide +kernel
theorem d_X_isWeight_9 : decode b_X_isWeight 9 = .ok (.if_icmp .gt 7, 3) := by decide +kernel
theorem d_X_isWeight_12 : decode b_X_isWeight 12 = .ok (.iconst 1, 1) := by decide +kernel
theorem d_X_isWeight_13 : decode b_X_isWeight 13 = .ok (.goto 4, 3) := by decide +kernel
theorem d_X_isWeight_16 : decode b_X_isWeight 16 = .ok (.iconst 0, 1) := by decide +kernel
theorem d_X_isWeight_17 : decode b_X_isWeight 17 = .ok (.ireturn, 1) := by decide +kernel
theorem d_X_isAnswer_0 : decode b_X_isAnswer 0 = .ok (.iload_n 0, 1) := by decide +kernel
theorem d_X_isAnswer_1 : decode b_X_isAnswer 1 = .ok (.ifCond .lt 13, 3) := by decide +kernel
theorem d_X_isAnswer_4 : decode b_X_isAnswer 4 = .ok (.iload_n 0, 1) := by decide +kernel
theorem d_X_isAnswer_5 : decode b_X_isAnswer 5 = .ok (.bipush 8, 2) := by decide +kernel
theorem d_X_isAnswer_7 : decode b_X_isAnswer 7 = .ok (.if_icmp .ge 7, 3) := by decide +kernel
theorem d_X_isAnswer_10 : decode b_X_isAnswer 10 = .ok (.iconst 1, 1) := by decide +kernel
theorem d_X_isAnswer_11 : decode b_X_isAnswer 11 = .ok (.goto 4, 3) := by decide +kernel
theorem d_X_isAnswer_14 : decode b_X_isAnswer 14 = .ok (.iconst 0, 1) := by decide +kernel
theorem d_X_isAnswer_15 : decode b_X_isAnswer 15 = .ok (.ireturn, 1) := by decide +kernel
theorem d_X_isOrder_0 : decode b_X_isOrder 0 = .ok (.iload_n 0, 1) := by decide +kernel
theorem d_X_isOrder_1 : decode b_X_isOrder 1 = .ok (.ifCond .lt 12, 3) := by decide +kernel
theorem d_X_isOrder_4 : decode b_X_isOrder 4 = .ok (.iload_n 0, 1) := by decide +kernel
theorem d_X_isOrder_5 : decode b_X_isOrder 5 = .ok (.iconst 3, 1) := by decide +kernel
theorem d_X_isOrder_6 : decode b_X_isOrder 6 = .ok (.if_icmp .gt 7, 3) := by decide +kernel
theorem d_X_isOrder_9 : decode b_X_isOrder 9 = .ok (.iconst 1, 1) := by decide +kernel
theorem d_X_isOrder_10 : decode b_X_isOrder 10 = .ok (.goto 4, 3) := by decide +kernel
theorem d_X_isOrder_13 : decode b_X_isOrder 13 = .ok (.iconst 0, 1) := by decide +kernel
theorem d_X_isOrder_14 : decode b_X_isOrder 14 = .ok (.ireturn, 1) := by decide +kernel
theorem d_X_isStatement_0 : decode b_X_isStatement 0 = .ok (.iload_n 1, 1) := by decide +kernel
theorem d_X_isStatement_1 : decode b_X_isStatement 1 = .ok (.ifCond .lt 15, 3) := by decide +kernel
theorem d_X_isStatement_4 : decode b_X_isStatement 4 = .ok (.iload_n 1, 1) := by decide +kernel
theorem d_X_isStatement_5 : decode b_X_isStatement 5 = .ok (.aload_n 0, 1) := by decide +kernel
theorem d_X_isStatement_6 : decode b_X_isStatement 6 = .ok (.getfield 9, 3) := by decide +kernel
theorem d_X_isStatement_9 : decode b_X_isStatement 9 = .ok (.if_icmp .ge 7, 3) := by decide +kernel
theorem d_X_isStatement_12 : decode b_X_isStatement 12 = .ok (.iconst 1, 1) := by decide +kernel
theorem d_X_isStatement_13 : decode b_X_isStatement 13 = .ok (.goto 4, 3) := by decide +kernel
theorem d_X_isStatement_16 : decode b_X_isStatement 16 = .ok (.iconst 0, 1) := by decide +kernel
theorem d_X_isStatement_17 : decode b_X_isStatement 17 = .ok (.ireturn, 1) := by decide +kernel
theorem d_X_isRepair_0 : decode b_X_isRepair 0 = .ok (.iload_n 1, 1) := by decide +kernel
theorem d_X_isRepair_1 : decode b_X_isRepair 1 = .ok (.ifCond .lt 15, 3) := by decide +kernel
theorem d_X_isRepair_4 : decode b_X_isRepair 4 = .ok (.iload_n 1, 1) := by decide +kernel
theorem d_X_isRepair_5 : decode b_X_isRepair 5 = .ok (.aload_n 0, 1) := by decide +kernel
theorem d_X_isRepair_6 : decode b_X_isRepair 6 = .ok (.getfield 55, 3) := by decide +kernel
theorem d_X_isRepair_9 : decode b_X_isRepair 9 = .ok (.if_icmp .ge 7, 3) := by decide +kernel
theorem d_X_isRepair_12 : decode b_X_isRepair 12 = .ok (.iconst 1, 1) := by decide +kernel
theorem d_X_isRepair_13 : decode b_X_isRepair 13 = .ok (.goto 4, 3) := by decide +kernel
theorem d_X_isRepair_16 : decode b_X_isRepair 16 = .ok (.iconst 0, 1) := by decide +kernel
theorem d_X_isRepair_17 : decode b_X_isRepair 17 = .ok (.ireturn, 1) := by decide +kernel
theorem d_X_isHard_0 : decode b_X_isHard 0 = .ok (.aload_n 0, 1) := by decide +kernel
theorem d_X_isHard_1 : decode b_X_isHard 1 = .ok (.getfield 13, 3) := by decide +kernel
theorem d_X_isHard_4 : decode b_X_isHard 4 = .ok (.iconst 1, 1) := by decide +kernel
theorem d_X_isHard_5 : decode b_X_isHard 5 = .ok (.iload_n 1, 1) := by decide +kernel
theorem d_X_isHard_6 : decode b_X_isHard 6 = .ok (.ishl, 1) := by decide +kernel
theorem d_X_isHard_7 : decode b_X_isHard 7 = .ok (.iand, 1) := by decide +kernel
theorem d_X_isHard_8 : decode b_X_isHard 8 = .ok (.ifCond .eq 7, 3) := by decide +kernel
theorem d_X_isHard_11 : decode b_X_isHard 11 = .ok (.iconst 1, 1) := by decide +kernel
theorem d_X_isHard_12 : decode b_X_isHard 12 = .ok (.goto 4, 3) := by decide +kernel
theorem d_X_isHard_15 : decode b_X_isHard 15 = .ok (.iconst 0, 1) := by decide +kernel
theorem d_X_isHard_16 : decode b_X_isHard 16 = .ok (.ireturn, 1) := by decide +kernel
theorem d_X_setCount_0 : decode b_X_setCount 0 = .ok (.iconst 1, 1) := by decide +kernel
theorem d_X_setCount_1 : decode b_X_setCount 1 = .ok (.aload_n 0, 1) := by decide +kernel
theorem d_X_setCount_2 : decode b_X_setCount 2 = .ok (.getfield 9, 3) := by decide +kernel
theorem d_X_setCount_5 : decode b_X_setCount 5 = .ok (.ishl, 1) := by decide +kernel
theorem d_X_setCount_6 : decode b_X_setCount 6 = .ok (.ireturn, 1) := by decide +kernel
theorem d_X_statementBits_0 : decode b_X_statementBits 0 = .ok (.aload_n 0, 1) := by decide +kernel
theorem d_X_statementBits_1 : decode b_X_statementBits 1 = .ok (.invokevirtual 105, 3) := by decide +kernel
theorem d_X_statementBits_4 : decode b_X_statementBits 4 = .ok (.iconst 1, 1) := by decide +kernel
theorem d_X_statementBits_5 : decode b_X_statementBits 5 = .ok (.isub, 1) := by decide +kernel
theorem d_X_statementBits_6 : decode b_X_statementBits 6 = .ok (.ireturn, 1) := by decide +kernel
theorem d_X_isBetter_0 : decode b_X_isBetter 0 = .ok (.iload_n 3, 1) := by decide +kernel
theorem d_X_isBetter_1 : decode b_X_isBetter 1 = .ok (.ifCond .ne 9, 3) := by decide +kernel
theorem d_X_isBetter_4 : decode b_X_isBetter 4 = .ok (.iload_n 1, 1) := by decide +kernel
theorem d_X_isBetter_5 : decode b_X_isBetter 5 = .ok (.iload_n 2, 1) := by decide +kernel
theorem d_X_isBetter_6 : decode b_X_isBetter 6 = .ok (.invokestatic 108, 3) := by decide +kernel
theorem d_X_isBetter_9 : decode b_X_isBetter 9 = .ok (.ireturn, 1) := by decide +kernel
theorem d_X_isBetter_10 : decode b_X_isBetter 10 = .ok (.iload_n 3, 1) := by decide +kernel
theorem d_X_isBetter_11 : decode b_X_isBetter 11 = .ok (.iconst 1, 1) := by decide +kernel
theorem d_X_isBetter_12 : decode b_X_isBetter 12 = .ok (.if_icmp .ne 10, 3) := by decide +kernel
theorem d_X_isBetter_15 : decode b_X_isBetter 15 = .ok (.aload_n 0, 1) := by decide +kernel
theorem d_X_isBetter_16 : decode b_X_isBetter 16 = .ok (.iload_n 1, 1) := by decide +kernel
theorem d_X_isBetter_17 : decode b_X_isBetter 17 = .ok (.iload_n 2, 1) := by decide +kernel
theorem d_X_isBetter_18 : decode b_X_isBetter 18 = .ok (.invokevirtual 111, 3) := by decide +kernel
theorem d_X_isBetter_21 : decode b_X_isBetter 21 = .ok (.ireturn, 1) := by decide +kernel
theorem d_X_isBetter_22 : decode b_X_isBetter 22 = .ok (.aload_n 0, 1) := by decide +kernel
theorem d_X_isBetter_23 : decode b_X_isBetter 23 = .ok (.iload_n 1, 1) := by decide +kernel
theorem d_X_isBetter_24 : decode b_X_isBetter 24 = .ok (.iload_n 3, 1) := by decide +kernel
theorem d_X_isBetter_25 : decode b_X_isBetter 25 = .ok (.invokevirtual 114, 3) := by decide +kernel
theorem d_X_isBetter_28 : decode b_X_isBetter 28 = .ok (.aload_n 0, 1) := by decide +kernel
theorem d_X_isBetter_29 : decode b_X_isBetter 29 = .ok (.iload_n 2, 1) := by decide +kernel
theorem d_X_isBetter_30 : decode b_X_isBetter 30 = .ok (.iload_n 3, 1) := by decide +kernel
theorem d_X_isBetter_31 : decode b_X_isBetter 31 = .ok (.invokevirtual 114, 3) := by decide +kernel
theorem d_X_isBetter_34 : decode b_X_isBetter 34 = .ok (.lcmp, 1) := by decide +kernel
theorem d_X_isBetter_35 : decode b_X_isBetter 35 = .ok (.ifCond .le 7, 3) := by decide +kernel
theorem d_X_isBetter_38 : decode b_X_isBetter 38 = .ok (.iconst 1, 1) := by decide +kernel
theorem d_X_isBetter_39 : decode b_X_isBetter 39 = .ok (.goto 4, 3) := by decide +kernel
theorem d_X_isBetter_42 : decode b_X_isBetter 42 = .ok (.iconst 0, 1) := by decide +kernel
theorem d_X_isBetter_43 : decode b_X_isBetter 43 = .ok (.ireturn, 1) := by decide +kernel
theorem d_X_isPart_0 : decode b_X_isPart 0 = .ok (.iload_n 0, 1) := by decide +kernel
theorem d_X_isPart_1 : decode b_X_isPart 1 = .ok (.iload_n 1, 1) := by decide +kernel
theorem d_X_isPart_2 : decode b_X_isPart 2 = .ok (.iconst (-1), 1) := by decide +kernel
theorem d_X_isPart_3 : decode b_X_isPart 3 = .ok (.ixor, 1) := by decide +kernel
theorem d_X_isPart_4 : decode b_X_isPart 4 = .ok (.iand, 1) := by decide +kernel
theorem d_X_isPart_5 : decode b_X_isPart 5 = .ok (.ifCond .ne 7, 3) := by decide +kernel
theorem d_X_isPart_8 : decode b_X_isPart 8 = .ok (.iconst 1, 1) := by decide +kernel
theorem d_X_isPart_9 : decode b_X_isPart 9 = .ok (.goto 4, 3) := by decide +kernel
theorem d_X_isPart_12 : decode b_X_isPart 12 = .ok (.iconst 0, 1) := by decide +kernel
theorem d_X_isPart_13 : decode b_X_isPart 13 = .ok (.ireturn, 1) := by decide +kernel
theorem d_X_hasMore_0 : decode b_X_hasMore 0 = .ok (.iload_n 0, 1) := by decide +kernel
theorem d_X_hasMore_1 : decode b_X_hasMore 1 = .ok (.iload_n 1, 1) := by decide +kernel
theorem d_X_hasMore_2 : decode b_X_hasMore 2 = .ok (.if_icmp .eq 15, 3) := by decide +kernel
theorem d_X_hasMore_5 : decode b_X_hasMore 5 = .ok (.iload_n 1, 1) := by decide +kernel
theorem d_X_hasMore_6 : decode b_X_hasMore 6 = .ok (.iload_n 0, 1) := by decide +kernel
theorem d_X_hasMore_7 : decode b_X_hasMore 7 = .ok (.invokestatic 118, 3) := by decide +kernel
theorem d_X_hasMore_10 : decode b_X_hasMore 10 = .ok (.ifCond .eq 7, 3) := by decide +kernel
theorem d_X_hasMore_13 : decode b_X_hasMore 13 = .ok (.iconst 1, 1) := by decide +kernel
theorem d_X_hasMore_14 : decode b_X_hasMore 14 = .ok (.goto 4, 3) := by decide +kernel
theorem d_X_hasMore_17 : decode b_X_hasMore 17 = .ok (.iconst 0, 1) := by decide +kernel
theorem d_X_hasMore_18 : decode b_X_hasMore 18 = .ok (.ireturn, 1) := by decide +kernel
theorem d_X_hasMoreByRank_0 : decode b_X_hasMoreByRank 0 = .ok (.iconst 0, 1) := by decide +kernel
theorem d_X_hasMoreByRank_1 : decode b_X_hasMoreByRank 1 = .ok (.istore_n 3, 1) := by decide +kernel
theorem d_X_hasMoreByRank_2 : decode b_X_hasMoreByRank 2 = .ok (.iload_n 3, 1) := by decide +kernel
theorem d_X_hasMoreByRank_3 : decode b_X_hasMoreByRank 3 = .ok (.bipush 7, 2) := by decide +kernel
theorem d_X_hasMoreByRank_5 : decode b_X_hasMoreByRank 5 = .ok (.if_icmp .gt 40, 3) := by decide +kernel
theorem d_X_hasMoreByRank_8 : decode b_X_hasMoreByRank 8 = .ok (.aload_n 0, 1) := by decide +kernel
theorem d_X_hasMoreByRank_9 : decode b_X_hasMoreByRank 9 = .ok (.iload_n 3, 1) := by decide +kernel
theorem d_X_hasMoreByRank_10 : decode b_X_hasMoreByRank 10 = .ok (.iload_n 3, 1) := by decide +kernel
theorem d_X_hasMoreByRank_11 : decode b_X_hasMoreByRank 11 = .ok (.invokevirtual 121, 3) := by decide +kernel
theorem d_X_hasMoreByRank_14 : decode b_X_hasMoreByRank 14 = .ok (.istore 4, 2) := by decide +kernel
theorem d_X_hasMoreByRank_16 : decode b_X_hasMoreByRank 16 = .ok (.iload_n 1, 1) := by decide +kernel
theorem d_X_hasMoreByRank_17 : decode b_X_hasMoreByRank 17 = .ok (.iload 4, 2) := by decide +kernel
theorem d_X_hasMoreByRank_19 : decode b_X_hasMoreByRank 19 = .ok (.iand, 1) := by decide +kernel
theorem d_X_hasMoreByRank_20 : decode b_X_hasMoreByRank 20 = .ok (.iload_n 2, 1) := by decide +kernel
theorem d_X_hasMoreByRank_21 : decode b_X_hasMoreByRank 21 = .ok (.iload 4, 2) := by decide +kernel
theorem d_X_hasMoreByRank_23 : decode b_X_hasMoreByRank 23 = .ok (.iand, 1) := by decide +kernel
theorem d_X_hasMoreByRank_24 : decode b_X_hasMoreByRank 24 = .ok (.if_icmp .eq 15, 3) := by decide +kernel
theorem d_X_hasMoreByRank_27 : decode b_X_hasMoreByRank 27 = .ok (.iload_n 1, 1) := by decide +kernel
theorem d_X_hasMoreByRank_28 : decode b_X_hasMoreByRank 28 = .ok (.iload 4, 2) := by decide +kernel
theorem d_X_hasMoreByRank_30 : decode b_X_hasMoreByRank 30 = .ok (.iand, 1) := by decide +kernel
theorem d_X_hasMoreByRank_31 : decode b_X_hasMoreByRank 31 = .ok (.iload_n 2, 1) := by decide +kernel
theorem d_X_hasMoreByRank_32 : decode b_X_hasMoreByRank 32 = .ok (.iload 4, 2) := by decide +kernel
theorem d_X_hasMoreByRank_34 : decode b_X_hasMoreByRank 34 = .ok (.iand, 1) := by decide +kernel
theorem d_X_hasMoreByRank_35 : decode b_X_hasMoreByRank 35 = .ok (.invokestatic 108, 3) := by decide +kernel
theorem d_X_hasMoreByRank_38 : decode b_X_hasMoreByRank 38 = .ok (.ireturn, 1) := by decide +kernel
theorem d_X_hasMoreByRank_39 : decode b_X_hasMoreByRank 39 = .ok (.iinc 3 1, 3) := by decide +kernel
theorem d_X_hasMoreByRank_42 : decode b_X_hasMoreByRank 42 = .ok (.goto (-40), 3) := by decide +kernel
theorem d_X_hasMoreByRank_45 : decode b_X_hasMoreByRank 45 = .ok (.iconst 0, 1) := by decide +kernel
theorem d_X_hasMoreByRank_46 : decode b_X_hasMoreByRank 46 = .ok (.ireturn, 1) := by decide +kernel
theorem d_X_defaultsOfRanks_0 : decode b_X_defaultsOfRanks 0 = .ok (.iconst 0, 1) := by decide +kernel
theorem d_X_defaultsOfRanks_1 : decode b_X_defaultsOfRanks 1 = .ok (.istore_n 3, 1) := by decide +kernel
theorem d_X_defaultsOfRanks_2 : decode b_X_defaultsOfRanks 2 = .ok (.iconst 0, 1) := by decide +kernel
theorem d_X_defaultsOfRanks_3 : decode b_X_defaultsOfRanks 3 = .ok (.istore 4, 2) := by decide +kernel
theorem d_X_defaultsOfRanks_5 : decode b_X_defaultsOfRanks 5 = .ok (.iload 4, 2) := by decide +kernel
theorem d_X_defaultsOfRanks_7 : decode b_X_defaultsOfRanks 7 = .ok (.aload_n 0, 1) := by decide +kernel
theorem d_X_defaultsOfRanks_8 : decode b_X_defaultsOfRanks 8 = .ok (.getfield 9, 3) := by decide +kernel
theorem d_X_defaultsOfRanks_11 : decode b_X_defaultsOfRanks 11 = .ok (.if_icmp .ge 47, 3) := by decide +kernel
theorem d_X_defaultsOfRanks_14 : decode b_X_defaultsOfRanks 14 = .ok (.aload_n 0, 1) := by decide +kernel
theorem d_X_defaultsOfRanks_15 : decode b_X_defaultsOfRanks 15 = .ok (.iload 4, 2) := by decide +kernel
theorem d_X_defaultsOfRanks_17 : decode b_X_defaultsOfRanks 17 = .ok (.invokevirtual 68, 3) := by decide +kernel
theorem d_X_defaultsOfRanks_20 : decode b_X_defaultsOfRanks 20 = .ok (.ifCond .ne 32, 3) := by decide +kernel
theorem d_X_defaultsOfRanks_23 : decode b_X_defaultsOfRanks 23 = .ok (.aload_n 0, 1) := by decide +kernel
theorem d_X_defaultsOfRanks_24 : decode b_X_defaultsOfRanks 24 = .ok (.getfield 16, 3) := by decide +kernel
theorem d_X_defaultsOfRanks_27 : decode b_X_defaultsOfRanks 27 = .ok (.iload 4, 2) := by decide +kernel
theorem d_X_defaultsOfRanks_29 : decode b_X_defaultsOfRanks 29 = .ok (.iaload, 1) := by decide +kernel
theorem d_X_defaultsOfRanks_30 : decode b_X_defaultsOfRanks 30 = .ok (.iload_n 1, 1) := by decide +kernel
theorem d_X_defaultsOfRanks_31 : decode b_X_defaultsOfRanks 31 = .ok (.if_icmp .lt 21, 3) := by decide +kernel
theorem d_X_defaultsOfRanks_34 : decode b_X_defaultsOfRanks 34 = .ok (.aload_n 0, 1) := by decide +kernel
theorem d_X_defaultsOfRanks_35 : decode b_X_defaultsOfRanks 35 = .ok (.getfield 16, 3) := by decide +kernel
theorem d_X_defaultsOfRanks_38 : decode b_X_defaultsOfRanks 38 = .ok (.iload 4, 2) := by decide +kernel
theorem d_X_defaultsOfRanks_40 : decode b_X_defaultsOfRanks 40 = .ok (.iaload, 1) := by decide +kernel
theorem d_X_defaultsOfRanks_41 : decode b_X_defaultsOfRanks 41 = .ok (.iload_n 2, 1) := by decide +kernel
theorem d_X_defaultsOfRanks_42 : decode b_X_defaultsOfRanks 42 = .ok (.if_icmp .gt 10, 3) := by decide +kernel
theorem d_X_defaultsOfRanks_45 : decode b_X_defaultsOfRanks 45 = .ok (.iload_n 3, 1) := by decide +kernel
theorem d_X_defaultsOfRanks_46 : decode b_X_defaultsOfRanks 46 = .ok (.iconst 1, 1) := by decide +kernel
theorem d_X_defaultsOfRanks_47 : decode b_X_defaultsOfRanks 47 = .ok (.iload 4, 2) := by decide +kernel
theorem d_X_defaultsOfRanks_49 : decode b_X_defaultsOfRanks 49 = .ok (.ishl, 1) := by decide +kernel
theorem d_X_defaultsOfRanks_50 : decode b_X_defaultsOfRanks 50 = .ok (.ior, 1) := by decide +kernel
theorem d_X_defaultsOfRanks_51 : decode b_X_defaultsOfRanks 51 = .ok (.istore_n 3, 1) := by decide +kernel
theorem d_X_defaultsOfRanks_52 : decode b_X_defaultsOfRanks 52 = .ok (.iinc 4 1, 3) := by decide +kernel
theorem d_X_defaultsOfRanks_55 : decode b_X_defaultsOfRanks 55 = .ok (.goto (-50), 3) := by decide +kernel
theorem d_X_defaultsOfRanks_58 : decode b_X_defaultsOfRanks 58 = .ok (.iload_n 3, 1) := by decide +kernel
theorem d_X_defaultsOfRanks_59 : decode b_X_defaultsOfRanks 59 = .ok (.ireturn, 1) := by decide +kernel
theorem d_X_worth_0 : decode b_X_worth 0 = .ok (.lconst 0, 1) := by decide +kernel
theorem d_X_worth_1 : decode b_X_worth 1 = .ok (.lstore_n 3, 1) := by decide +kernel
theorem d_X_worth_2 : decode b_X_worth 2 = .ok (.iconst 0, 1) := by decide +kernel
theorem d_X_worth_3 : decode b_X_worth 3 = .ok (.istore 5, 2) := by decide +kernel
theorem d_X_worth_5 : decode b_X_worth 5 = .ok (.iload 5, 2) := by decide +kernel
theorem d_X_worth_7 : decode b_X_worth 7 = .ok (.aload_n 0, 1) := by decide +kernel
theorem d_X_worth_8 : decode b_X_worth 8 = .ok (.getfield 9, 3) := by decide +kernel
theorem d_X_worth_11 : decode b_X_worth 11 = .ok (.if_icmp .ge 60, 3) := by decide +kernel
theorem d_X_worth_14 : decode b_X_worth 14 = .ok (.iload_n 1, 1) := by decide +kernel
theorem d_X_worth_15 : decode b_X_worth 15 = .ok (.iconst 1, 1) := by decide +kernel
theorem d_X_worth_16 : decode b_X_worth 16 = .ok (.iload 5, 2) := by decide +kernel
theorem d_X_worth_18 : decode b_X_worth 18 = .ok (.ishl, 1) := by decide +kernel
theorem d_X_worth_19 : decode b_X_worth 19 = .ok (.iand, 1) := by decide +kernel
theorem d_X_worth_20 : decode b_X_worth 20 = .ok (.ifCond .eq 45, 3) := by decide +kernel
theorem d_X_worth_23 : decode b_X_worth 23 = .ok (.aload_n 0, 1) := by decide +kernel
theorem d_X_worth_24 : decode b_X_worth 24 = .ok (.iload 5, 2) := by decide +kernel
theorem d_X_worth_26 : decode b_X_worth 26 = .ok (.invokevirtual 68, 3) := by decide +kernel
theorem d_X_worth_29 : decode b_X_worth 29 = .ok (.ifCond .ne 36, 3) := by decide +kernel
theorem d_X_worth_32 : decode b_X_worth 32 = .ok (.lload_n 3, 1) := by decide +kernel
theorem d_X_worth_33 : decode b_X_worth 33 = .ok (.iload_n 2, 1) := by decide +kernel
theorem d_X_worth_34 : decode b_X_worth 34 = .ok (.iconst 2, 1) := by decide +kernel
theorem d_X_worth_35 : decode b_X_worth 35 = .ok (.if_icmp .ne 20, 3) := by decide +kernel
theorem d_X_worth_38 : decode b_X_worth 38 = .ok (.lconst 1, 1) := by decide +kernel
theorem d_X_worth_39 : decode b_X_worth 39 = .ok (.iconst 4, 1) := by decide +kernel
theorem d_X_worth_40 : decode b_X_worth 40 = .ok (.bipush 7, 2) := by decide +kernel
theorem d_X_worth_42 : decode b_X_worth 42 = .ok (.aload_n 0, 1) := by decide +kernel
theorem d_X_worth_43 : decode b_X_worth 43 = .ok (.getfield 16, 3) := by decide +kernel
theorem d_X_worth_46 : decode b_X_worth 46 = .ok (.iload 5, 2) := by decide +kernel
theorem d_X_worth_48 : decode b_X_worth 48 = .ok (.iaload, 1) := by decide +kernel
theorem d_X_worth_49 : decode b_X_worth 49 = .ok (.isub, 1) := by decide +kernel
theorem d_X_worth_50 : decode b_X_worth 50 = .ok (.imul, 1) := by decide +kernel
theorem d_X_worth_51 : decode b_X_worth 51 = .ok (.lshl, 1) := by decide +kernel
theorem d_X_worth_52 : decode b_X_worth 52 = .ok (.goto 11, 3) := by decide +kernel
theorem d_X_worth_55 : decode b_X_worth 55 = .ok (.aload_n 0, 1) := by decide +kernel
theorem d_X_worth_56 : decode b_X_worth 56 = .ok (.getfield 20, 3) := by decide +kernel
theorem d_X_worth_59 : decode b_X_worth 59 = .ok (.iload 5, 2) := by decide +kernel
theorem d_X_worth_61 : decode b_X_worth 61 = .ok (.iaload, 1) := by decide +kernel
theorem d_X_worth_62 : decode b_X_worth 62 = .ok (.i2l, 1) := by decide +kernel
theorem d_X_worth_63 : decode b_X_worth 63 = .ok (.ladd, 1) := by decide +kernel
theorem d_X_worth_64 : decode b_X_worth 64 = .ok (.lstore_n 3, 1) := by decide +kernel
theorem d_X_worth_65 : decode b_X_worth 65 = .ok (.iinc 5 1, 3) := by decide +kernel
theorem d_X_worth_68 : decode b_X_worth 68 = .ok (.goto (-63), 3) := by decide +kernel
theorem d_X_worth_71 : decode b_X_worth 71 = .ok (.lload_n 3, 1) := by decide +kernel
theorem d_X_worth_72 : decode b_X_worth 72 = .ok (.lreturn, 1) := by decide +kernel
theorem d_X_supportsOf_0 : decode b_X_supportsOf 0 = .ok (.iconst 0, 1) := by decide +kernel
theorem d_X_supportsOf_1 : decode b_X_supportsOf 1 = .ok (.istore_n 2, 1) := by decide +kernel
theorem d_X_supportsOf_2 : decode b_X_supportsOf 2 = .ok (.iconst 0, 1) := by decide +kernel
theorem d_X_supportsOf_3 : decode b_X_supportsOf 3 = .ok (.istore_n 3, 1) := by decide +kernel
theorem d_X_supportsOf_4 : decode b_X_supportsOf 4 = .ok (.iload_n 3, 1) := by decide +kernel
theorem d_X_supportsOf_5 : decode b_X_supportsOf 5 = .ok (.aload_n 0, 1) := by decide +kernel
theorem d_X_supportsOf_6 : decode b_X_supportsOf 6 = .ok (.getfield 35, 3) := by decide +kernel
theorem d_X_supportsOf_9 : decode b_X_supportsOf 9 = .ok (.if_icmp .ge 22, 3) := by decide +kernel
theorem d_X_supportsOf_12 : decode b_X_supportsOf 12 = .ok (.aload_n 0, 1) := by decide +kernel
theorem d_X_supportsOf_13 : decode b_X_supportsOf 13 = .ok (.getfield 32, 3) := by decide +kernel
theorem d_X_supportsOf_16 : decode b_X_supportsOf 16 = .ok (.iload_n 3, 1) := by decide +kernel
theorem d_X_supportsOf_17 : decode b_X_supportsOf 17 = .ok (.iaload, 1) := by decide +kernel
theorem d_X_supportsOf_18 : decode b_X_supportsOf 18 = .ok (.iload_n 1, 1) := by decide +kernel
theorem d_X_supportsOf_19 : decode b_X_supportsOf 19 = .ok (.if_icmp .ne 6, 3) := by decide +kernel
theorem d_X_supportsOf_22 : decode b_X_supportsOf 22 = .ok (.iinc 2 1, 3) := by decide +kernel
theorem d_X_supportsOf_25 : decode b_X_supportsOf 25 = .ok (.iinc 3 1, 3) := by decide +kernel
theorem d_X_supportsOf_28 : decode b_X_supportsOf 28 = .ok (.goto (-24), 3) := by decide +kernel
theorem d_X_supportsOf_31 : decode b_X_supportsOf 31 = .ok (.iload_n 2, 1) := by decide +kernel
theorem d_X_supportsOf_32 : decode b_X_supportsOf 32 = .ok (.ireturn, 1) := by decide +kernel
theorem d_X_holds_0 : decode b_X_holds 0 = .ok (.iconst 0, 1) := by decide +kernel
theorem d_X_holds_1 : decode b_X_holds 1 = .ok (.istore_n 3, 1) := by decide +kernel
theorem d_X_holds_2 : decode b_X_holds 2 = .ok (.iload_n 3, 1) := by decide +kernel
theorem d_X_holds_3 : decode b_X_holds 3 = .ok (.aload_n 0, 1) := by decide +kernel
theorem d_X_holds_4 : decode b_X_holds 4 = .ok (.getfield 35, 3) := by decide +kernel
theorem d_X_holds_7 : decode b_X_holds 7 = .ok (.if_icmp .ge 34, 3) := by decide +kernel
theorem d_X_holds_10 : decode b_X_holds 10 = .ok (.aload_n 0, 1) := by decide +kernel
theorem d_X_holds_11 : decode b_X_holds 11 = .ok (.getfield 32, 3) := by decide +kernel
theorem d_X_holds_14 : decode b_X_holds 14 = .ok (.iload_n 3, 1) := by decide +kernel
theorem d_X_holds_15 : decode b_X_holds 15 = .ok (.iaload, 1) := by decide +kernel
theorem d_X_holds_16 : decode b_X_holds 16 = .ok (.iload_n 1, 1) := by decide +kernel
theorem d_X_holds_17 : decode b_X_holds 17 = .ok (.if_icmp .ne 18, 3) := by decide +kernel
theorem d_X_holds_20 : decode b_X_holds 20 = .ok (.aload_n 0, 1) := by decide +kernel
theorem d_X_holds_21 : decode b_X_holds 21 = .ok (.getfield 29, 3) := by decide +kernel
theorem d_X_holds_24 : decode b_X_holds 24 = .ok (.iload_n 3, 1) := by decide +kernel
theorem d_X_holds_25 : decode b_X_holds 25 = .ok (.iaload, 1) := by decide +kernel
theorem d_X_holds_26 : decode b_X_holds 26 = .ok (.iload_n 2, 1) := by decide +kernel
theorem d_X_holds_27 : decode b_X_holds 27 = .ok (.invokestatic 118, 3) := by decide +kernel
theorem d_X_holds_30 : decode b_X_holds 30 = .ok (.ifCond .eq 5, 3) := by decide +kernel
theorem d_X_holds_33 : decode b_X_holds 33 = .ok (.iconst 1, 1) := by decide +kernel
theorem d_X_holds_34 : decode b_X_holds 34 = .ok (.ireturn, 1) := by decide +kernel
theorem d_X_holds_35 : decode b_X_holds 35 = .ok (.iinc 3 1, 3) := by decide +kernel
theorem d_X_holds_38 : decode b_X_holds 38 = .ok (.goto (-36), 3) := by decide +kernel
theorem d_X_holds_41 : decode b_X_holds 41 = .ok (.iconst 0, 1) := by decide +kernel
theorem d_X_holds_42 : decode b_X_holds 42 = .ok (.ireturn, 1) := by decide +kernel
theorem d_X_verdict_0 : decode b_X_verdict 0 = .ok (.aload_n 0, 1) := by decide +kernel
theorem d_X_verdict_1 : decode b_X_verdict 1 = .ok (.getfield 55, 3) := by decide +kernel
theorem d_X_verdict_4 : decode b_X_verdict 4 = .ok (.ifCond .ne 6, 3) := by decide +kernel
theorem d_X_verdict_7 : decode b_X_verdict 7 = .ok (.bipush (-2), 2) := by decide +kernel
theorem d_X_verdict_9 : decode b_X_verdict 9 = .ok (.ireturn, 1) := by decide +kernel
theorem d_X_verdict_10 : decode b_X_verdict 10 = .ok (.iload_n 1, 1) := by decide +kernel
theorem d_X_verdict_11 : decode b_X_verdict 11 = .ok (.aload_n 0, 1) := by decide +kernel
theorem d_X_verdict_12 : decode b_X_verdict 12 = .ok (.getfield 55, 3) := by decide +kernel
theorem d_X_verdict_15 : decode b_X_verdict 15 = .ok (.if_icmp .ne 5, 3) := by decide +kernel
theorem d_X_verdict_18 : decode b_X_verdict 18 = .ok (.iconst 2, 1) := by decide +kernel
theorem d_X_verdict_19 : decode b_X_verdict 19 = .ok (.ireturn, 1) := by decide +kernel
theorem d_X_verdict_20 : decode b_X_verdict 20 = .ok (.iload_n 1, 1) := by decide +kernel
theorem d_X_verdict_21 : decode b_X_verdict 21 = .ok (.ifCond .le 7, 3) := by decide +kernel
theorem d_X_verdict_24 : decode b_X_verdict 24 = .ok (.iconst 1, 1) := by decide +kernel
theorem d_X_verdict_25 : decode b_X_verdict 25 = .ok (.goto 4, 3) := by decide +kernel
theorem d_X_verdict_28 : decode b_X_verdict 28 = .ok (.iconst 0, 1) := by decide +kernel
theorem d_X_verdict_29 : decode b_X_verdict 29 = .ok (.ireturn, 1) := by decide +kernel
theorem d_X_leastAfter_0 : decode b_X_leastAfter 0 = .ok (.bipush (-2), 2) := by decide +kernel
theorem d_X_leastAfter_2 : decode b_X_leastAfter 2 = .ok (.istore_n 2, 1) := by decide +kernel
theorem d_X_leastAfter_3 : decode b_X_leastAfter 3 = .ok (.iconst 0, 1) := by decide +kernel
theorem d_X_leastAfter_4 : decode b_X_leastAfter 4 = .ok (.istore_n 3, 1) := by decide +kernel
theorem d_X_leastAfter_5 : decode b_X_leastAfter 5 = .ok (.iload_n 3, 1) := by decide +kernel
theorem d_X_leastAfter_6 : decode b_X_leastAfter 6 = .ok (.aload_n 0, 1) := by decide +kernel
theorem d_X_leastAfter_7 : decode b_X_leastAfter 7 = .ok (.getfield 26, 3) := by decide +kernel
theorem d_X_leastAfter_10 : decode b_X_leastAfter 10 = .ok (.if_icmp .ge 45, 3) := by decide +kernel
theorem d_X_leastAfter_13 : decode b_X_leastAfter 13 = .ok (.aload_n 0, 1) := by decide +kernel
theorem d_X_leastAfter_14 : decode b_X_leastAfter 14 = .ok (.getfield 23, 3) := by decide +kernel
theorem d_X_leastAfter_17 : decode b_X_leastAfter 17 = .ok (.iload_n 3, 1) := by decide +kernel
theorem d_X_leastAfter_18 : decode b_X_leastAfter 18 = .ok (.iaload, 1) := by decide +kernel
theorem d_X_leastAfter_19 : decode b_X_leastAfter 19 = .ok (.istore 4, 2) := by decide +kernel
theorem d_X_leastAfter_21 : decode b_X_leastAfter 21 = .ok (.iload 4, 2) := by decide +kernel
theorem d_X_leastAfter_23 : decode b_X_leastAfter 23 = .ok (.iload_n 1, 1) := by decide +kernel
theorem d_X_leastAfter_24 : decode b_X_leastAfter 24 = .ok (.if_icmp .le 25, 3) := by decide +kernel
theorem d_X_leastAfter_27 : decode b_X_leastAfter 27 = .ok (.iload_n 2, 1) := by decide +kernel
theorem d_X_leastAfter_28 : decode b_X_leastAfter 28 = .ok (.ifCond .lt 9, 3) := by decide +kernel
theorem d_X_leastAfter_31 : decode b_X_leastAfter 31 = .ok (.iload 4, 2) := by decide +kernel
theorem d_X_leastAfter_33 : decode b_X_leastAfter 33 = .ok (.iload_n 2, 1) := by decide +kernel
theorem d_X_leastAfter_34 : decode b_X_leastAfter 34 = .ok (.if_icmp .ge 15, 3) := by decide +kernel
theorem d_X_leastAfter_37 : decode b_X_leastAfter 37 = .ok (.aload_n 0, 1) := by decide +kernel
theorem d_X_leastAfter_38 : decode b_X_leastAfter 38 = .ok (.iload 4, 2) := by decide +kernel
theorem d_X_leastAfter_40 : decode b_X_leastAfter 40 = .ok (.invokevirtual 125, 3) := by decide +kernel
theorem d_X_leastAfter_43 : decode b_X_leastAfter 43 = .ok (.ifCond .eq 6, 3) := by decide +kernel
theorem d_X_leastAfter_46 : decode b_X_leastAfter 46 = .ok (.iload 4, 2) := by decide +kernel
theorem d_X_leastAfter_48 : decode b_X_leastAfter 48 = .ok (.istore_n 2, 1) := by decide +kernel
theorem d_X_leastAfter_49 : decode b_X_leastAfter 49 = .ok (.iinc 3 1, 3) := by decide +kernel
theorem d_X_leastAfter_52 : decode b_X_leastAfter 52 = .ok (.goto (-47), 3) := by decide +kernel
theorem d_X_leastAfter_55 : decode b_X_leastAfter 55 = .ok (.iload_n 2, 1) := by decide +kernel
theorem d_X_leastAfter_56 : decode b_X_leastAfter 56 = .ok (.ireturn, 1) := by decide +kernel
theorem d_X_isLeast_0 : decode b_X_isLeast 0 = .ok (.iload_n 1, 1) := by decide +kernel
theorem d_X_isLeast_1 : decode b_X_isLeast 1 = .ok (.aload_n 0, 1) := by decide +kernel
theorem d_X_isLeast_2 : decode b_X_isLeast 2 = .ok (.invokevirtual 94, 3) := by decide +kernel
theorem d_X_isLeast_5 : decode b_X_isLeast 5 = .ok (.invokestatic 118, 3) := by decide +kernel
theorem d_X_isLeast_8 : decode b_X_isLeast 8 = .ok (.ifCond .ne 5, 3) := by decide +kernel
theorem d_X_isLeast_11 : decode b_X_isLeast 11 = .ok (.iconst 0, 1) := by decide +kernel
theorem d_X_isLeast_12 : decode b_X_isLeast 12 = .ok (.ireturn, 1) := by decide +kernel
theorem d_X_isLeast_13 : decode b_X_isLeast 13 = .ok (.iconst 0, 1) := by decide +kernel
theorem d_X_isLeast_14 : decode b_X_isLeast 14 = .ok (.istore_n 2, 1) := by decide +kernel
theorem d_X_isLeast_15 : decode b_X_isLeast 15 = .ok (.iload_n 2, 1) := by decide +kernel
theorem d_X_isLeast_16 : decode b_X_isLeast 16 = .ok (.aload_n 0, 1) := by decide +kernel
theorem d_X_isLeast_17 : decode b_X_isLeast 17 = .ok (.getfield 26, 3) := by decide +kernel
theorem d_X_isLeast_20 : decode b_X_isLeast 20 = .ok (.if_icmp .ge 24, 3) := by decide +kernel
theorem d_X_isLeast_23 : decode b_X_isLeast 23 = .ok (.iload_n 1, 1) := by decide +kernel
theorem d_X_isLeast_24 : decode b_X_isLeast 24 = .ok (.aload_n 0, 1) := by decide +kernel
theorem d_X_isLeast_25 : decode b_X_isLeast 25 = .ok (.getfield 23, 3) := by decide +kernel
theorem d_X_isLeast_28 : decode b_X_isLeast 28 = .ok (.iload_n 2, 1) := by decide +kernel
theorem d_X_isLeast_29 : decode b_X_isLeast 29 = .ok (.iaload, 1) := by decide +kernel
theorem d_X_isLeast_30 : decode b_X_isLeast 30 = .ok (.invokestatic 108, 3) := by decide +kernel
theorem d_X_isLeast_33 : decode b_X_isLeast 33 = .ok (.ifCond .eq 5, 3) := by decide +kernel
theorem d_X_isLeast_36 : decode b_X_isLeast 36 = .ok (.iconst 0, 1) := by decide +kernel
theorem d_X_isLeast_37 : decode b_X_isLeast 37 = .ok (.ireturn, 1) := by decide +kernel
theorem d_X_isLeast_38 : decode b_X_isLeast 38 = .ok (.iinc 2 1, 3) := by decide +kernel
theorem d_X_isLeast_41 : decode b_X_isLeast 41 = .ok (.goto (-26), 3) := by decide +kernel
theorem d_X_isLeast_44 : decode b_X_isLeast 44 = .ok (.iconst 1, 1) := by decide +kernel
theorem d_X_isLeast_45 : decode b_X_isLeast 45 = .ok (.ireturn, 1) := by decide +kernel
theorem d_X_refresh_0 : decode b_X_refresh 0 = .ok (.aload_n 0, 1) := by decide +kernel
theorem d_X_refresh_1 : decode b_X_refresh 1 = .ok (.getfield 41, 3) := by decide +kernel
theorem d_X_refresh_4 : decode b_X_refresh 4 = .ok (.ifCond .eq 4, 3) := by decide +kernel
theorem d_X_refresh_7 : decode b_X_refresh 7 = .ok (.return_, 1) := by decide +kernel
theorem d_X_refresh_8 : decode b_X_refresh 8 = .ok (.aload_n 0, 1) := by decide +kernel
theorem d_X_refresh_9 : decode b_X_refresh 9 = .ok (.invokevirtual 128, 3) := by decide +kernel
theorem d_X_refresh_12 : decode b_X_refresh 12 = .ok (.aload_n 0, 1) := by decide +kernel
theorem d_X_refresh_13 : decode b_X_refresh 13 = .ok (.iconst 0, 1) := by decide +kernel
theorem d_X_refresh_14 : decode b_X_refresh 14 = .ok (.putfield 55, 3) := by decide +kernel
theorem d_X_refresh_17 : decode b_X_refresh 17 = .ok (.aload_n 0, 1) := by decide +kernel
theorem d_X_refresh_18 : decode b_X_refresh 18 = .ok (.getfield 38, 3) := by decide +kernel
theorem d_X_refresh_21 : decode b_X_refresh 21 = .ok (.ifCond .eq 11, 3) := by decide +kernel
theorem d_X_refresh_24 : decode b_X_refresh 24 = .ok (.aload_n 0, 1) := by decide +kernel
theorem d_X_refresh_25 : decode b_X_refresh 25 = .ok (.getfield 38, 3) := by decide +kernel
theorem d_X_refresh_28 : decode b_X_refresh 28 = .ok (.iconst 1, 1) := by decide +kernel
theorem d_X_refresh_29 : decode b_X_refresh 29 = .ok (.if_icmp .ne 10, 3) := by decide +kernel
theorem d_X_refresh_32 : decode b_X_refresh 32 = .ok (.aload_n 0, 1) := by decide +kernel
theorem d_X_refresh_33 : decode b_X_refresh 33 = .ok (.invokevirtual 131, 3) := by decide +kernel
theorem d_X_refresh_36 : decode b_X_refresh 36 = .ok (.goto 7, 3) := by decide +kernel
theorem d_X_refresh_39 : decode b_X_refresh 39 = .ok (.aload_n 0, 1) := by decide +kernel
theorem d_X_refresh_40 : decode b_X_refresh 40 = .ok (.invokevirtual 134, 3) := by decide +kernel
theorem d_X_refresh_43 : decode b_X_refresh 43 = .ok (.aload_n 0, 1) := by decide +kernel
theorem d_X_refresh_44 : decode b_X_refresh 44 = .ok (.iconst 1, 1) := by decide +kernel
theorem d_X_refresh_45 : decode b_X_refresh 45 = .ok (.putfield 41, 3) := by decide +kernel
theorem d_X_refresh_48 : decode b_X_refresh 48 = .ok (.return_, 1) := by decide +kernel
theorem d_X_markClashing_0 : decode b_X_markClashing 0 = .ok (.aload_n 0, 1) := by decide +kernel
theorem d_X_markClashing_1 : decode b_X_markClashing 1 = .ok (.invokevirtual 105, 3) := by decide +kernel
theorem d_X_markClashing_4 : decode b_X_markClashing 4 = .ok (.istore_n 1, 1) := by decide +kernel
theorem d_X_markClashing_5 : decode b_X_markClashing 5 = .ok (.iconst 0, 1) := by decide +kernel
theorem d_X_markClashing_6 : decode b_X_markClashing 6 = .ok (.istore_n 2, 1) := by decide +kernel
theorem d_X_markClashing_7 : decode b_X_markClashing 7 = .ok (.iload_n 2, 1) := by decide +kernel
theorem d_X_markClashing_8 : decode b_X_markClashing 8 = .ok (.iload_n 1, 1) := by decide +kernel
theorem d_X_markClashing_9 : decode b_X_markClashing 9 = .ok (.if_icmp .ge 16, 3) := by decide +kernel
theorem d_X_markClashing_12 : decode b_X_markClashing 12 = .ok (.aload_n 0, 1) := by decide +kernel
theorem d_X_markClashing_13 : decode b_X_markClashing 13 = .ok (.getfield 45, 3) := by decide +kernel
theorem d_X_markClashing_16 : decode b_X_markClashing 16 = .ok (.iload_n 2, 1) := by decide +kernel
theorem d_X_markClashing_17 : decode b_X_markClashing 17 = .ok (.iconst 0, 1) := by decide +kernel
theorem d_X_markClashing_18 : decode b_X_markClashing 18 = .ok (.bastore, 1) := by decide +kernel
theorem d_X_markClashing_19 : decode b_X_markClashing 19 = .ok (.iinc 2 1, 3) := by decide +kernel
theorem d_X_markClashing_22 : decode b_X_markClashing 22 = .ok (.goto (-15), 3) := by decide +kernel
theorem d_X_markClashing_25 : decode b_X_markClashing 25 = .ok (.iconst 0, 1) := by decide +kernel
theorem d_X_markClashing_26 : decode b_X_markClashing 26 = .ok (.istore_n 2, 1) := by decide +kernel
theorem d_X_markClashing_27 : decode b_X_markClashing 27 = .ok (.iload_n 2, 1) := by decide +kernel
theorem d_X_markClashing_28 : decode b_X_markClashing 28 = .ok (.aload_n 0, 1) := by decide +kernel
theorem d_X_markClashing_29 : decode b_X_markClashing 29 = .ok (.getfield 26, 3) := by decide +kernel
theorem d_X_markClashing_32 : decode b_X_markClashing 32 = .ok (.if_icmp .ge 31, 3) := by decide +kernel
theorem d_X_markClashing_35 : decode b_X_markClashing 35 = .ok (.aload_n 0, 1) := by decide +kernel
theorem d_X_markClashing_36 : decode b_X_markClashing 36 = .ok (.getfield 23, 3) := by decide +kernel
theorem d_X_markClashing_39 : decode b_X_markClashing 39 = .ok (.iload_n 2, 1) := by decide +kernel
theorem d_X_markClashing_40 : decode b_X_markClashing 40 = .ok (.iaload, 1) := by decide +kernel
theorem d_X_markClashing_41 : decode b_X_markClashing 41 = .ok (.iload_n 1, 1) := by decide +kernel
theorem d_X_markClashing_42 : decode b_X_markClashing 42 = .ok (.if_icmp .ge 15, 3) := by decide +kernel
theorem d_X_markClashing_45 : decode b_X_markClashing 45 = .ok (.aload_n 0, 1) := by decide +kernel
theorem d_X_markClashing_46 : decode b_X_markClashing 46 = .ok (.getfield 45, 3) := by decide +kernel
theorem d_X_markClashing_49 : decode b_X_markClashing 49 = .ok (.aload_n 0, 1) := by decide +kernel
theorem d_X_markClashing_50 : decode b_X_markClashing 50 = .ok (.getfield 23, 3) := by decide +kernel
theorem d_X_markClashing_53 : decode b_X_markClashing 53 = .ok (.iload_n 2, 1) := by decide +kernel
theorem d_X_markClashing_54 : decode b_X_markClashing 54 = .ok (.iaload, 1) := by decide +kernel
theorem d_X_markClashing_55 : decode b_X_markClashing 55 = .ok (.iconst 1, 1) := by decide +kernel
theorem d_X_markClashing_56 : decode b_X_markClashing 56 = .ok (.bastore, 1) := by decide +kernel
theorem d_X_markClashing_57 : decode b_X_markClashing 57 = .ok (.iinc 2 1, 3) := by decide +kernel
theorem d_X_markClashing_60 : decode b_X_markClashing 60 = .ok (.goto (-33), 3) := by decide +kernel
theorem d_X_markClashing_63 : decode b_X_markClashing 63 = .ok (.iconst 0, 1) := by decide +kernel
theorem d_X_markClashing_64 : decode b_X_markClashing 64 = .ok (.istore_n 2, 1) := by decide +kernel
theorem d_X_markClashing_65 : decode b_X_markClashing 65 = .ok (.iload_n 2, 1) := by decide +kernel
theorem d_X_markClashing_66 : decode b_X_markClashing 66 = .ok (.iload_n 1, 1) := by decide +kernel
theorem d_X_markClashing_67 : decode b_X_markClashing 67 = .ok (.if_icmp .ge 29, 3) := by decide +kernel
theorem d_X_markClashing_70 : decode b_X_markClashing 70 = .ok (.aload_n 0, 1) := by decide +kernel
theorem d_X_markClashing_71 : decode b_X_markClashing 71 = .ok (.getfield 45, 3) := by decide +kernel
theorem d_X_markClashing_74 : decode b_X_markClashing 74 = .ok (.iload_n 2, 1) := by decide +kernel
theorem d_X_markClashing_75 : decode b_X_markClashing 75 = .ok (.baload, 1) := by decide +kernel
theorem d_X_markClashing_76 : decode b_X_markClashing 76 = .ok (.ifCond .ne 14, 3) := by decide +kernel
theorem d_X_markClashing_79 : decode b_X_markClashing 79 = .ok (.aload_n 0, 1) := by decide +kernel
theorem d_X_markClashing_80 : decode b_X_markClashing 80 = .ok (.getfield 45, 3) := by decide +kernel
theorem d_X_markClashing_83 : decode b_X_markClashing 83 = .ok (.iload_n 2, 1) := by decide +kernel
theorem d_X_markClashing_84 : decode b_X_markClashing 84 = .ok (.aload_n 0, 1) := by decide +kernel
theorem d_X_markClashing_85 : decode b_X_markClashing 85 = .ok (.iload_n 2, 1) := by decide +kernel
theorem d_X_markClashing_86 : decode b_X_markClashing 86 = .ok (.invokevirtual 137, 3) := by decide +kernel
theorem d_X_markClashing_89 : decode b_X_markClashing 89 = .ok (.bastore, 1) := by decide +kernel
theorem d_X_markClashing_90 : decode b_X_markClashing 90 = .ok (.iinc 2 1, 3) := by decide +kernel
theorem d_X_markClashing_93 : decode b_X_markClashing 93 = .ok (.goto (-28), 3) := by decide +kernel
theorem d_X_markClashing_96 : decode b_X_markClashing 96 = .ok (.return_, 1) := by decide +kernel
theorem d_X_hasClashingPart_0 : decode b_X_hasClashingPart 0 = .ok (.iconst 0, 1) := by decide +kernel
theorem d_X_hasClashingPart_1 : decode b_X_hasClashingPart 1 = .ok (.istore_n 2, 1) := by decide +kernel
theorem d_X_hasClashingPart_2 : decode b_X_hasClashingPart 2 = .ok (.iload_n 2, 1) := by decide +kernel
theorem d_X_hasClashingPart_3 : decode b_X_hasClashingPart 3 = .ok (.aload_n 0, 1) := by decide +kernel
theorem d_X_hasClashingPart_4 : decode b_X_hasClashingPart 4 = .ok (.getfield 9, 3) := by decide +kernel
theorem d_X_hasClashingPart_7 : decode b_X_hasClashingPart 7 = .ok (.if_icmp .ge 32, 3) := by decide +kernel
theorem d_X_hasClashingPart_10 : decode b_X_hasClashingPart 10 = .ok (.iconst 1, 1) := by decide +kernel
theorem d_X_hasClashingPart_11 : decode b_X_hasClashingPart 11 = .ok (.iload_n 2, 1) := by decide +kernel
theorem d_X_hasClashingPart_12 : decode b_X_hasClashingPart 12 = .ok (.ishl, 1) := by decide +kernel
theorem d_X_hasClashingPart_13 : decode b_X_hasClashingPart 13 = .ok (.istore_n 3, 1) := by decide +kernel
theorem d_X_hasClashingPart_14 : decode b_X_hasClashingPart 14 = .ok (.iload_n 1, 1) := by decide +kernel
theorem d_X_hasClashingPart_15 : decode b_X_hasClashingPart 15 = .ok (.iload_n 3, 1) := by decide +kernel
theorem d_X_hasClashingPart_16 : decode b_X_hasClashingPart 16 = .ok (.iand, 1) := by decide +kernel
theorem d_X_hasClashingPart_17 : decode b_X_hasClashingPart 17 = .ok (.ifCond .eq 16, 3) := by decide +kernel
theorem d_X_hasClashingPart_20 : decode b_X_hasClashingPart 20 = .ok (.aload_n 0, 1) := by decide +kernel
theorem d_X_hasClashingPart_21 : decode b_X_hasClashingPart 21 = .ok (.getfield 45, 3) := by decide +kernel
theorem d_X_hasClashingPart_24 : decode b_X_hasClashingPart 24 = .ok (.iload_n 1, 1) := by decide +kernel
theorem d_X_hasClashingPart_25 : decode b_X_hasClashingPart 25 = .ok (.iload_n 3, 1) := by decide +kernel
theorem d_X_hasClashingPart_26 : decode b_X_hasClashingPart 26 = .ok (.ixor, 1) := by decide +kernel
theorem d_X_hasClashingPart_27 : decode b_X_hasClashingPart 27 = .ok (.baload, 1) := by decide +kernel
theorem d_X_hasClashingPart_28 : decode b_X_hasClashingPart 28 = .ok (.ifCond .eq 5, 3) := by decide +kernel
theorem d_X_hasClashingPart_31 : decode b_X_hasClashingPart 31 = .ok (.iconst 1, 1) := by decide +kernel
theorem d_X_hasClashingPart_32 : decode b_X_hasClashingPart 32 = .ok (.ireturn, 1) := by decide +kernel
theorem d_X_hasClashingPart_33 : decode b_X_hasClashingPart 33 = .ok (.iinc 2 1, 3) := by decide +kernel
theorem d_X_hasClashingPart_36 : decode b_X_hasClashingPart 36 = .ok (.goto (-34), 3) := by decide +kernel
theorem d_X_hasClashingPart_39 : decode b_X_hasClashingPart 39 = .ok (.iconst 0, 1) := by decide +kernel
theorem d_X_hasClashingPart_40 : decode b_X_hasClashingPart 40 = .ok (.ireturn, 1) := by decide +kernel
theorem d_X_isKept_0 : decode b_X_isKept 0 = .ok (.aload_n 0, 1) := by decide +kernel
theorem d_X_isKept_1 : decode b_X_isKept 1 = .ok (.getfield 13, 3) := by decide +kernel
theorem d_X_isKept_4 : decode b_X_isKept 4 = .ok (.iload_n 1, 1) := by decide +kernel
theorem d_X_isKept_5 : decode b_X_isKept 5 = .ok (.invokestatic 118, 3) := by decide +kernel
theorem d_X_isKept_8 : decode b_X_isKept 8 = .ok (.ifCond .eq 16, 3) := by decide +kernel
theorem d_X_isKept_11 : decode b_X_isKept 11 = .ok (.aload_n 0, 1) := by decide +kernel
theorem d_X_isKept_12 : decode b_X_isKept 12 = .ok (.getfield 45, 3) := by decide +kernel
theorem d_X_isKept_15 : decode b_X_isKept 15 = .ok (.iload_n 1, 1) := by decide +kernel
theorem d_X_isKept_16 : decode b_X_isKept 16 = .ok (.baload, 1) := by decide +kernel
theorem d_X_isKept_17 : decode b_X_isKept 17 = .ok (.ifCond .ne 7, 3) := by decide +kernel
theorem d_X_isKept_20 : decode b_X_isKept 20 = .ok (.iconst 1, 1) := by decide +kernel
theorem d_X_isKept_21 : decode b_X_isKept 21 = .ok (.goto 4, 3) := by decide +kernel
theorem d_X_isKept_24 : decode b_X_isKept 24 = .ok (.iconst 0, 1) := by decide +kernel
theorem d_X_isKept_25 : decode b_X_isKept 25 = .ok (.ireturn, 1) := by decide +kernel
theorem d_X_addRepair_0 : decode b_X_addRepair 0 = .ok (.aload_n 0, 1) := by decide +kernel
theorem d_X_addRepair_1 : decode b_X_addRepair 1 = .ok (.getfield 55, 3) := by decide +kernel
theorem d_X_addRepair_4 : decode b_X_addRepair 4 = .ok (.sipush 462, 3) := by decide +kernel
theorem d_X_addRepair_7 : decode b_X_addRepair 7 = .ok (.if_icmp .ge 23, 3) := by decide +kernel
theorem d_X_addRepair_10 : decode b_X_addRepair 10 = .ok (.aload_n 0, 1) := by decide +kernel
theorem d_X_addRepair_11 : decode b_X_addRepair 11 = .ok (.getfield 52, 3) := by decide +kernel
theorem d_X_addRepair_14 : decode b_X_addRepair 14 = .ok (.aload_n 0, 1) := by decide +kernel
theorem d_X_addRepair_15 : decode b_X_addRepair 15 = .ok (.getfield 55, 3) := by decide +kernel
theorem d_X_addRepair_18 : decode b_X_addRepair 18 = .ok (.iload_n 1, 1) := by decide +kernel
theorem d_X_addRepair_19 : decode b_X_addRepair 19 = .ok (.iastore, 1) := by decide +kernel
theorem d_X_addRepair_20 : decode b_X_addRepair 20 = .ok (.aload_n 0, 1) := by decide +kernel
theorem d_X_addRepair_21 : decode b_X_addRepair 21 = .ok (.dup, 1) := by decide +kernel
theorem d_X_addRepair_22 : decode b_X_addRepair 22 = .ok (.getfield 55, 3) := by decide +kernel
theorem d_X_addRepair_25 : decode b_X_addRepair 25 = .ok (.iconst 1, 1) := by decide +kernel
theorem d_X_addRepair_26 : decode b_X_addRepair 26 = .ok (.iadd, 1) := by decide +kernel
theorem d_X_addRepair_27 : decode b_X_addRepair 27 = .ok (.putfield 55, 3) := by decide +kernel
theorem d_X_addRepair_30 : decode b_X_addRepair 30 = .ok (.return_, 1) := by decide +kernel
theorem d_X_collectFullGrown_0 : decode b_X_collectFullGrown 0 = .ok (.iconst 0, 1) := by decide +kernel
theorem d_X_collectFullGrown_1 : decode b_X_collectFullGrown 1 = .ok (.istore_n 1, 1) := by decide +kernel
theorem d_X_collectFullGrown_2 : decode b_X_collectFullGrown 2 = .ok (.iload_n 1, 1) := by decide +kernel
theorem d_X_collectFullGrown_3 : decode b_X_collectFullGrown 3 = .ok (.aload_n 0, 1) := by decide +kernel
theorem d_X_collectFullGrown_4 : decode b_X_collectFullGrown 4 = .ok (.getfield 9, 3) := by decide +kernel
theorem d_X_collectFullGrown_7 : decode b_X_collectFullGrown 7 = .ok (.if_icmp .ge 20, 3) := by decide +kernel
theorem d_X_collectFullGrown_10 : decode b_X_collectFullGrown 10 = .ok (.aload_n 0, 1) := by decide +kernel
theorem d_X_collectFullGrown_11 : decode b_X_collectFullGrown 11 = .ok (.getfield 49, 3) := by decide +kernel
theorem d_X_collectFullGrown_14 : decode b_X_collectFullGrown 14 = .ok (.iload_n 1, 1) := by decide +kernel
theorem d_X_collectFullGrown_15 : decode b_X_collectFullGrown 15 = .ok (.aload_n 0, 1) := by decide +kernel
theorem d_X_collectFullGrown_16 : decode b_X_collectFullGrown 16 = .ok (.iload_n 1, 1) := by decide +kernel
theorem d_X_collectFullGrown_17 : decode b_X_collectFullGrown 17 = .ok (.invokevirtual 140, 3) := by decide +kernel
theorem d_X_collectFullGrown_20 : decode b_X_collectFullGrown 20 = .ok (.iastore, 1) := by decide +kernel
theorem d_X_collectFullGrown_21 : decode b_X_collectFullGrown 21 = .ok (.iinc 1 1, 3) := by decide +kernel
theorem d_X_collectFullGrown_24 : decode b_X_collectFullGrown 24 = .ok (.goto (-22), 3) := by decide +kernel
theorem d_X_collectFullGrown_27 : decode b_X_collectFullGrown 27 = .ok (.aload_n 0, 1) := by decide +kernel
theorem d_X_collectFullGrown_28 : decode b_X_collectFullGrown 28 = .ok (.invokevirtual 105, 3) := by decide +kernel
theorem d_X_collectFullGrown_31 : decode b_X_collectFullGrown 31 = .ok (.istore_n 1, 1) := by decide +kernel
theorem d_X_collectFullGrown_32 : decode b_X_collectFullGrown 32 = .ok (.iconst 0, 1) := by decide +kernel
theorem d_X_collectFullGrown_33 : decode b_X_collectFullGrown 33 = .ok (.istore_n 2, 1) := by decide +kernel
theorem d_X_collectFullGrown_34 : decode b_X_collectFullGrown 34 = .ok (.iload_n 2, 1) := by decide +kernel
theorem d_X_collectFullGrown_35 : decode b_X_collectFullGrown 35 = .ok (.iload_n 1, 1) := by decide +kernel
theorem d_X_collectFullGrown_36 : decode b_X_collectFullGrown 36 = .ok (.if_icmp .ge 30, 3) := by decide +kernel
theorem d_X_collectFullGrown_39 : decode b_X_collectFullGrown 39 = .ok (.aload_n 0, 1) := by decide +kernel
theorem d_X_collectFullGrown_40 : decode b_X_collectFullGrown 40 = .ok (.iload_n 2, 1) := by decide +kernel
theorem d_X_collectFullGrown_41 : decode b_X_collectFullGrown 41 = .ok (.invokevirtual 143, 3) := by decide +kernel
theorem d_X_collectFullGrown_44 : decode b_X_collectFullGrown 44 = .ok (.ifCond .eq 16, 3) := by decide +kernel
theorem d_X_collectFullGrown_47 : decode b_X_collectFullGrown 47 = .ok (.aload_n 0, 1) := by decide +kernel
theorem d_X_collectFullGrown_48 : decode b_X_collectFullGrown 48 = .ok (.iload_n 2, 1) := by decide +kernel
theorem d_X_collectFullGrown_49 : decode b_X_collectFullGrown 49 = .ok (.invokevirtual 146, 3) := by decide +kernel
theorem d_X_collectFullGrown_52 : decode b_X_collectFullGrown 52 = .ok (.ifCond .ne 8, 3) := by decide +kernel
theorem d_X_collectFullGrown_55 : decode b_X_collectFullGrown 55 = .ok (.aload_n 0, 1) := by decide +kernel
theorem d_X_collectFullGrown_56 : decode b_X_collectFullGrown 56 = .ok (.iload_n 2, 1) := by decide +kernel
theorem d_X_collectFullGrown_57 : decode b_X_collectFullGrown 57 = .ok (.invokevirtual 149, 3) := by decide +kernel
theorem d_X_collectFullGrown_60 : decode b_X_collectFullGrown 60 = .ok (.iinc 2 1, 3) := by decide +kernel
theorem d_X_collectFullGrown_63 : decode b_X_collectFullGrown 63 = .ok (.goto (-29), 3) := by decide +kernel
theorem d_X_collectFullGrown_66 : decode b_X_collectFullGrown 66 = .ok (.return_, 1) := by decide +kernel
theorem d_X_companyOf_0 : decode b_X_companyOf 0 = .ok (.aload_n 0, 1) := by decide +kernel
theorem d_X_companyOf_1 : decode b_X_companyOf 1 = .ok (.getfield 38, 3) := by decide +kernel
theorem d_X_companyOf_4 : decode b_X_companyOf 4 = .ok (.ifCond .ne 8, 3) := by decide +kernel
theorem d_X_companyOf_7 : decode b_X_companyOf 7 = .ok (.aload_n 0, 1) := by decide +kernel
theorem d_X_companyOf_8 : decode b_X_companyOf 8 = .ok (.invokevirtual 94, 3) := by decide +kernel
theorem d_X_companyOf_11 : decode b_X_companyOf 11 = .ok (.ireturn, 1) := by decide +kernel
theorem d_X_companyOf_12 : decode b_X_companyOf 12 = .ok (.aload_n 0, 1) := by decide +kernel
theorem d_X_companyOf_13 : decode b_X_companyOf 13 = .ok (.getfield 13, 3) := by decide +kernel
theorem d_X_companyOf_16 : decode b_X_companyOf 16 = .ok (.aload_n 0, 1) := by decide +kernel
theorem d_X_companyOf_17 : decode b_X_companyOf 17 = .ok (.iconst 0, 1) := by decide +kernel
theorem d_X_companyOf_18 : decode b_X_companyOf 18 = .ok (.aload_n 0, 1) := by decide +kernel
theorem d_X_companyOf_19 : decode b_X_companyOf 19 = .ok (.getfield 16, 3) := by decide +kernel
theorem d_X_companyOf_22 : decode b_X_companyOf 22 = .ok (.iload_n 1, 1) := by decide +kernel
theorem d_X_companyOf_23 : decode b_X_companyOf 23 = .ok (.iaload, 1) := by decide +kernel
theorem d_X_companyOf_24 : decode b_X_companyOf 24 = .ok (.invokevirtual 121, 3) := by decide +kernel
theorem d_X_companyOf_27 : decode b_X_companyOf 27 = .ok (.ior, 1) := by decide +kernel
theorem d_X_companyOf_28 : decode b_X_companyOf 28 = .ok (.ireturn, 1) := by decide +kernel
theorem d_X_canGrow_0 : decode b_X_canGrow 0 = .ok (.iconst 0, 1) := by decide +kernel
theorem d_X_canGrow_1 : decode b_X_canGrow 1 = .ok (.istore_n 2, 1) := by decide +kernel
theorem d_X_canGrow_2 : decode b_X_canGrow 2 = .ok (.iload_n 2, 1) := by decide +kernel
theorem d_X_canGrow_3 : decode b_X_canGrow 3 = .ok (.aload_n 0, 1) := by decide +kernel
theorem d_X_canGrow_4 : decode b_X_canGrow 4 = .ok (.getfield 9, 3) := by decide +kernel
theorem d_X_canGrow_7 : decode b_X_canGrow 7 = .ok (.if_icmp .ge 39, 3) := by decide +kernel
theorem d_X_canGrow_10 : decode b_X_canGrow 10 = .ok (.iconst 1, 1) := by decide +kernel
theorem d_X_canGrow_11 : decode b_X_canGrow 11 = .ok (.iload_n 2, 1) := by decide +kernel
theorem d_X_canGrow_12 : decode b_X_canGrow 12 = .ok (.ishl, 1) := by decide +kernel
theorem d_X_canGrow_13 : decode b_X_canGrow 13 = .ok (.istore_n 3, 1) := by decide +kernel
theorem d_X_canGrow_14 : decode b_X_canGrow 14 = .ok (.iload_n 1, 1) := by decide +kernel
theorem d_X_canGrow_15 : decode b_X_canGrow 15 = .ok (.iload_n 3, 1) := by decide +kernel
theorem d_X_canGrow_16 : decode b_X_canGrow 16 = .ok (.iand, 1) := by decide +kernel
theorem d_X_canGrow_17 : decode b_X_canGrow 17 = .ok (.ifCond .ne 23, 3) := by decide +kernel
theorem d_X_canGrow_20 : decode b_X_canGrow 20 = .ok (.aload_n 0, 1) := by decide +kernel
theorem d_X_canGrow_21 : decode b_X_canGrow 21 = .ok (.getfield 45, 3) := by decide +kernel
theorem d_X_canGrow_24 : decode b_X_canGrow 24 = .ok (.iload_n 1, 1) := by decide +kernel
theorem d_X_canGrow_25 : decode b_X_canGrow 25 = .ok (.aload_n 0, 1) := by decide +kernel
theorem d_X_canGrow_26 : decode b_X_canGrow 26 = .ok (.getfield 49, 3) := by decide +kernel
theorem d_X_canGrow_29 : decode b_X_canGrow 29 = .ok (.iload_n 2, 1) := by decide +kernel
theorem d_X_canGrow_30 : decode b_X_canGrow 30 = .ok (.iaload, 1) := by decide +kernel
theorem d_X_canGrow_31 : decode b_X_canGrow 31 = .ok (.iand, 1) := by decide +kernel
theorem d_X_canGrow_32 : decode b_X_canGrow 32 = .ok (.iload_n 3, 1) := by decide +kernel
theorem d_X_canGrow_33 : decode b_X_canGrow 33 = .ok (.ior, 1) := by decide +kernel
theorem d_X_canGrow_34 : decode b_X_canGrow 34 = .ok (.baload, 1) := by decide +kernel
theorem d_X_canGrow_35 : decode b_X_canGrow 35 = .ok (.ifCond .ne 5, 3) := by decide +kernel
theorem d_X_canGrow_38 : decode b_X_canGrow 38 = .ok (.iconst 1, 1) := by decide +kernel
theorem d_X_canGrow_39 : decode b_X_canGrow 39 = .ok (.ireturn, 1) := by decide +kernel
theorem d_X_canGrow_40 : decode b_X_canGrow 40 = .ok (.iinc 2 1, 3) := by decide +kernel
theorem d_X_canGrow_43 : decode b_X_canGrow 43 = .ok (.goto (-41), 3) := by decide +kernel
theorem d_X_canGrow_46 : decode b_X_canGrow 46 = .ok (.iconst 0, 1) := by decide +kernel
theorem d_X_canGrow_47 : decode b_X_canGrow 47 = .ok (.ireturn, 1) := by decide +kernel
theorem d_X_collectWorthiest_0 : decode b_X_collectWorthiest 0 = .ok (.aload_n 0, 1) := by decide +kernel
theorem d_X_collectWorthiest_1 : decode b_X_collectWorthiest 1 = .ok (.invokevirtual 105, 3) := by decide +kernel
theorem d_X_collectWorthiest_4 : decode b_X_collectWorthiest 4 = .ok (.istore_n 1, 1) := by decide +kernel
theorem d_X_collectWorthiest_5 : decode b_X_collectWorthiest 5 = .ok (.ldc2_w 153, 3) := by decide +kernel
theorem d_X_collectWorthiest_8 : decode b_X_collectWorthiest 8 = .ok (.lstore_n 2, 1) := by decide +kernel
theorem d_X_collectWorthiest_9 : decode b_X_collectWorthiest 9 = .ok (.iconst 0, 1) := by decide +kernel
theorem d_X_collectWorthiest_10 : decode b_X_collectWorthiest 10 = .ok (.istore 4, 2) := by decide +kernel
theorem d_X_collectWorthiest_12 : decode b_X_collectWorthiest 12 = .ok (.iload 4, 2) := by decide +kernel
theorem d_X_collectWorthiest_14 : decode b_X_collectWorthiest 14 = .ok (.iload_n 1, 1) := by decide +kernel
theorem d_X_collectWorthiest_15 : decode b_X_collectWorthiest 15 = .ok (.if_icmp .ge 58, 3) := by decide +kernel
theorem d_X_collectWorthiest_18 : decode b_X_collectWorthiest 18 = .ok (.aload_n 0, 1) := by decide +kernel
theorem d_X_collectWorthiest_19 : decode b_X_collectWorthiest 19 = .ok (.iload 4, 2) := by decide +kernel
theorem d_X_collectWorthiest_21 : decode b_X_collectWorthiest 21 = .ok (.invokevirtual 143, 3) := by decide +kernel
theorem d_X_collectWorthiest_24 : decode b_X_collectWorthiest 24 = .ok (.ifCond .eq 43, 3) := by decide +kernel
theorem d_X_collectWorthiest_27 : decode b_X_collectWorthiest 27 = .ok (.aload_n 0, 1) := by decide +kernel
theorem d_X_collectWorthiest_28 : decode b_X_collectWorthiest 28 = .ok (.iload 4, 2) := by decide +kernel
theorem d_X_collectWorthiest_30 : decode b_X_collectWorthiest 30 = .ok (.aload_n 0, 1) := by decide +kernel
theorem d_X_collectWorthiest_31 : decode b_X_collectWorthiest 31 = .ok (.getfield 38, 3) := by decide +kernel
theorem d_X_collectWorthiest_34 : decode b_X_collectWorthiest 34 = .ok (.invokevirtual 114, 3) := by decide +kernel
theorem d_X_collectWorthiest_37 : decode b_X_collectWorthiest 37 = .ok (.lstore 5, 2) := by decide +kernel
theorem d_X_collectWorthiest_39 : decode b_X_collectWorthiest 39 = .ok (.lload 5, 2) := by decide +kernel
theorem d_X_collectWorthiest_41 : decode b_X_collectWorthiest 41 = .ok (.lload_n 2, 1) := by decide +kernel
theorem d_X_collectWorthiest_42 : decode b_X_collectWorthiest 42 = .ok (.lcmp, 1) := by decide +kernel
theorem d_X_collectWorthiest_43 : decode b_X_collectWorthiest 43 = .ok (.ifCond .le 11, 3) := by decide +kernel
theorem d_X_collectWorthiest_46 : decode b_X_collectWorthiest 46 = .ok (.lload 5, 2) := by decide +kernel
theorem d_X_collectWorthiest_48 : decode b_X_collectWorthiest 48 = .ok (.lstore_n 2, 1) := by decide +kernel
theorem d_X_collectWorthiest_49 : decode b_X_collectWorthiest 49 = .ok (.aload_n 0, 1) := by decide +kernel
theorem d_X_collectWorthiest_50 : decode b_X_collectWorthiest 50 = .ok (.iconst 0, 1) := by decide +kernel
theorem d_X_collectWorthiest_51 : decode b_X_collectWorthiest 51 = .ok (.putfield 55, 3) := by decide +kernel
theorem d_X_collectWorthiest_54 : decode b_X_collectWorthiest 54 = .ok (.lload 5, 2) := by decide +kernel
theorem d_X_collectWorthiest_56 : decode b_X_collectWorthiest 56 = .ok (.lload_n 2, 1) := by decide +kernel
theorem d_X_collectWorthiest_57 : decode b_X_collectWorthiest 57 = .ok (.lcmp, 1) := by decide +kernel
theorem d_X_collectWorthiest_58 : decode b_X_collectWorthiest 58 = .ok (.ifCond .ne 9, 3) := by decide +kernel
theorem d_X_collectWorthiest_61 : decode b_X_collectWorthiest 61 = .ok (.aload_n 0, 1) := by decide +kernel
theorem d_X_collectWorthiest_62 : decode b_X_collectWorthiest 62 = .ok (.iload 4, 2) := by decide +kernel
theorem d_X_collectWorthiest_64 : decode b_X_collectWorthiest 64 = .ok (.invokevirtual 149, 3) := by decide +kernel
theorem d_X_collectWorthiest_67 : decode b_X_collectWorthiest 67 = .ok (.iinc 4 1, 3) := by decide +kernel
theorem d_X_collectWorthiest_70 : decode b_X_collectWorthiest 70 = .ok (.goto (-58), 3) := by decide +kernel
theorem d_X_collectWorthiest_73 : decode b_X_collectWorthiest 73 = .ok (.return_, 1) := by decide +kernel
