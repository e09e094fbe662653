theorem d_Y_init_0 : decode b_Y_init 0 = .ok (.aload_n 0, 1) := by decide +kernel
theorem d_Y_init_1 : decode b_Y_init 1 = .ok (.invokespecial 1, 3) := by decide +kernel
theorem d_Y_init_4 : decode b_Y_init 4 = .ok (.aload_n 0, 1) := by decide +kernel
theorem d_Y_init_5 : decode b_Y_init 5 = .ok (.bipush 11, 2) := by decide +kernel
theorem d_Y_init_7 : decode b_Y_init 7 = .ok (.newarray .boolean, 2) := by decide +kernel
theorem d_Y_init_9 : decode b_Y_init 9 = .ok (.putfield 7, 3) := by decide +kernel
theorem d_Y_init_12 : decode b_Y_init 12 = .ok (.aload_n 0, 1) := by decide +kernel
theorem d_Y_init_13 : decode b_Y_init 13 = .ok (.bipush 11, 2) := by decide +kernel
theorem d_Y_init_15 : decode b_Y_init 15 = .ok (.newarray .int, 2) := by decide +kernel
theorem d_Y_init_17 : decode b_Y_init 17 = .ok (.putfield 13, 3) := by decide +kernel
theorem d_Y_init_20 : decode b_Y_init 20 = .ok (.aload_n 0, 1) := by decide +kernel
theorem d_Y_init_21 : decode b_Y_init 21 = .ok (.bipush 11, 2) := by decide +kernel
theorem d_Y_init_23 : decode b_Y_init 23 = .ok (.newarray .int, 2) := by decide +kernel
theorem d_Y_init_25 : decode b_Y_init 25 = .ok (.putfield 17, 3) := by decide +kernel
theorem d_Y_init_28 : decode b_Y_init 28 = .ok (.aload_n 0, 1) := by decide +kernel
theorem d_Y_init_29 : decode b_Y_init 29 = .ok (.bipush 40, 2) := by decide +kernel
theorem d_Y_init_31 : decode b_Y_init 31 = .ok (.newarray .int, 2) := by decide +kernel
theorem d_Y_init_33 : decode b_Y_init 33 = .ok (.putfield 20, 3) := by decide +kernel
theorem d_Y_init_36 : decode b_Y_init 36 = .ok (.aload_n 0, 1) := by decide +kernel
theorem d_Y_init_37 : decode b_Y_init 37 = .ok (.bipush 20, 2) := by decide +kernel
theorem d_Y_init_39 : decode b_Y_init 39 = .ok (.newarray .int, 2) := by decide +kernel
theorem d_Y_init_41 : decode b_Y_init 41 = .ok (.putfield 23, 3) := by decide +kernel
theorem d_Y_init_44 : decode b_Y_init 44 = .ok (.aload_n 0, 1) := by decide +kernel
theorem d_Y_init_45 : decode b_Y_init 45 = .ok (.bipush 20, 2) := by decide +kernel
theorem d_Y_init_47 : decode b_Y_init 47 = .ok (.newarray .int, 2) := by decide +kernel
theorem d_Y_init_49 : decode b_Y_init 49 = .ok (.putfield 26, 3) := by decide +kernel
theorem d_Y_init_52 : decode b_Y_init 52 = .ok (.aload_n 0, 1) := by decide +kernel
theorem d_Y_init_53 : decode b_Y_init 53 = .ok (.sipush 2048, 3) := by decide +kernel
theorem d_Y_init_56 : decode b_Y_init 56 = .ok (.newarray .boolean, 2) := by decide +kernel
theorem d_Y_init_58 : decode b_Y_init 58 = .ok (.putfield 29, 3) := by decide +kernel
theorem d_Y_init_61 : decode b_Y_init 61 = .ok (.aload_n 0, 1) := by decide +kernel
theorem d_Y_init_62 : decode b_Y_init 62 = .ok (.sipush 2048, 3) := by decide +kernel
theorem d_Y_init_65 : decode b_Y_init 65 = .ok (.newarray .int, 2) := by decide +kernel
theorem d_Y_init_67 : decode b_Y_init 67 = .ok (.putfield 32, 3) := by decide +kernel
theorem d_Y_init_70 : decode b_Y_init 70 = .ok (.return_, 1) := by decide +kernel
theorem d_Y_isStatement_0 : decode b_Y_isStatement 0 = .ok (.iload_n 1, 1) := by decide +kernel
theorem d_Y_isStatement_1 : decode b_Y_isStatement 1 = .ok (.ifCond .lt 15, 3) := by decide +kernel
theorem d_Y_isStatement_4 : decode b_Y_isStatement 4 = .ok (.iload_n 1, 1) := by decide +kernel
theorem d_Y_isStatement_5 : decode b_Y_isStatement 5 = .ok (.aload_n 0, 1) := by decide +kernel
theorem d_Y_isStatement_6 : decode b_Y_isStatement 6 = .ok (.getfield 35, 3) := by decide +kernel
theorem d_Y_isStatement_9 : decode b_Y_isStatement 9 = .ok (.if_icmp .ge 7, 3) := by decide +kernel
theorem d_Y_isStatement_12 : decode b_Y_isStatement 12 = .ok (.iconst 1, 1) := by decide +kernel
theorem d_Y_isStatement_13 : decode b_Y_isStatement 13 = .ok (.goto 4, 3) := by decide +kernel
theorem d_Y_isStatement_16 : decode b_Y_isStatement 16 = .ok (.iconst 0, 1) := by decide +kernel
theorem d_Y_isStatement_17 : decode b_Y_isStatement 17 = .ok (.ireturn, 1) := by decide +kernel
theorem d_Y_areGood_0 : decode b_Y_areGood 0 = .ok (.iload_n 0, 1) := by decide +kernel
theorem d_Y_areGood_1 : decode b_Y_areGood 1 = .ok (.ifCond .lt 24, 3) := by decide +kernel
theorem d_Y_areGood_4 : decode b_Y_areGood 4 = .ok (.iload_n 0, 1) := by decide +kernel
theorem d_Y_areGood_5 : decode b_Y_areGood 5 = .ok (.bipush 8, 2) := by decide +kernel
theorem d_Y_areGood_7 : decode b_Y_areGood 7 = .ok (.if_icmp .ge 18, 3) := by decide +kernel
theorem d_Y_areGood_10 : decode b_Y_areGood 10 = .ok (.iload_n 1, 1) := by decide +kernel
theorem d_Y_areGood_11 : decode b_Y_areGood 11 = .ok (.ifCond .le 14, 3) := by decide +kernel
theorem d_Y_areGood_14 : decode b_Y_areGood 14 = .ok (.iload_n 1, 1) := by decide +kernel
theorem d_Y_areGood_15 : decode b_Y_areGood 15 = .ok (.sipush 1000, 3) := by decide +kernel
theorem d_Y_areGood_18 : decode b_Y_areGood 18 = .ok (.if_icmp .gt 7, 3) := by decide +kernel
theorem d_Y_areGood_21 : decode b_Y_areGood 21 = .ok (.iconst 1, 1) := by decide +kernel
theorem d_Y_areGood_22 : decode b_Y_areGood 22 = .ok (.goto 4, 3) := by decide +kernel
theorem d_Y_areGood_25 : decode b_Y_areGood 25 = .ok (.iconst 0, 1) := by decide +kernel
theorem d_Y_areGood_26 : decode b_Y_areGood 26 = .ok (.ireturn, 1) := by decide +kernel
theorem d_Y_fact_0 : decode b_Y_fact 0 = .ok (.iload_n 2, 1) := by decide +kernel
theorem d_Y_fact_1 : decode b_Y_fact 1 = .ok (.iload_n 3, 1) := by decide +kernel
theorem d_Y_fact_2 : decode b_Y_fact 2 = .ok (.invokestatic 39, 3) := by decide +kernel
theorem d_Y_fact_5 : decode b_Y_fact 5 = .ok (.ifCond .ne 5, 3) := by decide +kernel
theorem d_Y_fact_8 : decode b_Y_fact 8 = .ok (.iconst (-1), 1) := by decide +kernel
theorem d_Y_fact_9 : decode b_Y_fact 9 = .ok (.ireturn, 1) := by decide +kernel
theorem d_Y_fact_10 : decode b_Y_fact 10 = .ok (.aload_n 0, 1) := by decide +kernel
theorem d_Y_fact_11 : decode b_Y_fact 11 = .ok (.getfield 35, 3) := by decide +kernel
theorem d_Y_fact_14 : decode b_Y_fact 14 = .ok (.bipush 11, 2) := by decide +kernel
theorem d_Y_fact_16 : decode b_Y_fact 16 = .ok (.if_icmp .ne 6, 3) := by decide +kernel
theorem d_Y_fact_19 : decode b_Y_fact 19 = .ok (.bipush (-3), 2) := by decide +kernel
theorem d_Y_fact_21 : decode b_Y_fact 21 = .ok (.ireturn, 1) := by decide +kernel
theorem d_Y_fact_22 : decode b_Y_fact 22 = .ok (.aload_n 0, 1) := by decide +kernel
theorem d_Y_fact_23 : decode b_Y_fact 23 = .ok (.getfield 7, 3) := by decide +kernel
theorem d_Y_fact_26 : decode b_Y_fact 26 = .ok (.aload_n 0, 1) := by decide +kernel
theorem d_Y_fact_27 : decode b_Y_fact 27 = .ok (.getfield 35, 3) := by decide +kernel
theorem d_Y_fact_30 : decode b_Y_fact 30 = .ok (.iload_n 1, 1) := by decide +kernel
theorem d_Y_fact_31 : decode b_Y_fact 31 = .ok (.bastore, 1) := by decide +kernel
theorem d_Y_fact_32 : decode b_Y_fact 32 = .ok (.aload_n 0, 1) := by decide +kernel
theorem d_Y_fact_33 : decode b_Y_fact 33 = .ok (.getfield 13, 3) := by decide +kernel
theorem d_Y_fact_36 : decode b_Y_fact 36 = .ok (.aload_n 0, 1) := by decide +kernel
theorem d_Y_fact_37 : decode b_Y_fact 37 = .ok (.getfield 35, 3) := by decide +kernel
theorem d_Y_fact_40 : decode b_Y_fact 40 = .ok (.iload_n 2, 1) := by decide +kernel
theorem d_Y_fact_41 : decode b_Y_fact 41 = .ok (.iastore, 1) := by decide +kernel
theorem d_Y_fact_42 : decode b_Y_fact 42 = .ok (.aload_n 0, 1) := by decide +kernel
theorem d_Y_fact_43 : decode b_Y_fact 43 = .ok (.getfield 17, 3) := by decide +kernel
theorem d_Y_fact_46 : decode b_Y_fact 46 = .ok (.aload_n 0, 1) := by decide +kernel
theorem d_Y_fact_47 : decode b_Y_fact 47 = .ok (.getfield 35, 3) := by decide +kernel
theorem d_Y_fact_50 : decode b_Y_fact 50 = .ok (.iload_n 3, 1) := by decide +kernel
theorem d_Y_fact_51 : decode b_Y_fact 51 = .ok (.iastore, 1) := by decide +kernel
theorem d_Y_fact_52 : decode b_Y_fact 52 = .ok (.aload_n 0, 1) := by decide +kernel
theorem d_Y_fact_53 : decode b_Y_fact 53 = .ok (.dup, 1) := by decide +kernel
theorem d_Y_fact_54 : decode b_Y_fact 54 = .ok (.getfield 35, 3) := by decide +kernel
theorem d_Y_fact_57 : decode b_Y_fact 57 = .ok (.iconst 1, 1) := by decide +kernel
theorem d_Y_fact_58 : decode b_Y_fact 58 = .ok (.iadd, 1) := by decide +kernel
theorem d_Y_fact_59 : decode b_Y_fact 59 = .ok (.putfield 35, 3) := by decide +kernel
theorem d_Y_fact_62 : decode b_Y_fact 62 = .ok (.aload_n 0, 1) := by decide +kernel
theorem d_Y_fact_63 : decode b_Y_fact 63 = .ok (.iconst 0, 1) := by decide +kernel
theorem d_Y_fact_64 : decode b_Y_fact 64 = .ok (.putfield 43, 3) := by decide +kernel
theorem d_Y_fact_67 : decode b_Y_fact 67 = .ok (.aload_n 0, 1) := by decide +kernel
theorem d_Y_fact_68 : decode b_Y_fact 68 = .ok (.getfield 35, 3) := by decide +kernel
theorem d_Y_fact_71 : decode b_Y_fact 71 = .ok (.iconst 1, 1) := by decide +kernel
theorem d_Y_fact_72 : decode b_Y_fact 72 = .ok (.isub, 1) := by decide +kernel
theorem d_Y_fact_73 : decode b_Y_fact 73 = .ok (.ireturn, 1) := by decide +kernel
theorem d_Y_harden_0 : decode b_Y_harden 0 = .ok (.aload_n 0, 1) := by decide +kernel
theorem d_Y_harden_1 : decode b_Y_harden 1 = .ok (.iload_n 1, 1) := by decide +kernel
theorem d_Y_harden_2 : decode b_Y_harden 2 = .ok (.invokevirtual 47, 3) := by decide +kernel
theorem d_Y_harden_5 : decode b_Y_harden 5 = .ok (.ifCond .ne 5, 3) := by decide +kernel
theorem d_Y_harden_8 : decode b_Y_harden 8 = .ok (.iconst (-1), 1) := by decide +kernel
theorem d_Y_harden_9 : decode b_Y_harden 9 = .ok (.ireturn, 1) := by decide +kernel
theorem d_Y_harden_10 : decode b_Y_harden 10 = .ok (.aload_n 0, 1) := by decide +kernel
theorem d_Y_harden_11 : decode b_Y_harden 11 = .ok (.getfield 7, 3) := by decide +kernel
theorem d_Y_harden_14 : decode b_Y_harden 14 = .ok (.iload_n 1, 1) := by decide +kernel
theorem d_Y_harden_15 : decode b_Y_harden 15 = .ok (.baload, 1) := by decide +kernel
theorem d_Y_harden_16 : decode b_Y_harden 16 = .ok (.iload_n 2, 1) := by decide +kernel
theorem d_Y_harden_17 : decode b_Y_harden 17 = .ok (.if_icmp .ne 7, 3) := by decide +kernel
theorem d_Y_harden_20 : decode b_Y_harden 20 = .ok (.iconst 0, 1) := by decide +kernel
theorem d_Y_harden_21 : decode b_Y_harden 21 = .ok (.goto 4, 3) := by decide +kernel
theorem d_Y_harden_24 : decode b_Y_harden 24 = .ok (.iconst 1, 1) := by decide +kernel
theorem d_Y_harden_25 : decode b_Y_harden 25 = .ok (.istore_n 3, 1) := by decide +kernel
theorem d_Y_harden_26 : decode b_Y_harden 26 = .ok (.aload_n 0, 1) := by decide +kernel
theorem d_Y_harden_27 : decode b_Y_harden 27 = .ok (.getfield 7, 3) := by decide +kernel
theorem d_Y_harden_30 : decode b_Y_harden 30 = .ok (.iload_n 1, 1) := by decide +kernel
theorem d_Y_harden_31 : decode b_Y_harden 31 = .ok (.iload_n 2, 1) := by decide +kernel
theorem d_Y_harden_32 : decode b_Y_harden 32 = .ok (.bastore, 1) := by decide +kernel
theorem d_Y_harden_33 : decode b_Y_harden 33 = .ok (.aload_n 0, 1) := by decide +kernel
theorem d_Y_harden_34 : decode b_Y_harden 34 = .ok (.iconst 0, 1) := by decide +kernel
theorem d_Y_harden_35 : decode b_Y_harden 35 = .ok (.putfield 43, 3) := by decide +kernel
theorem d_Y_harden_38 : decode b_Y_harden 38 = .ok (.iload_n 3, 1) := by decide +kernel
theorem d_Y_harden_39 : decode b_Y_harden 39 = .ok (.ireturn, 1) := by decide +kernel
theorem d_Y_weight_0 : decode b_Y_weight 0 = .ok (.aload_n 0, 1) := by decide +kernel
theorem d_Y_weight_1 : decode b_Y_weight 1 = .ok (.iload_n 1, 1) := by decide +kernel
theorem d_Y_weight_2 : decode b_Y_weight 2 = .ok (.invokevirtual 47, 3) := by decide +kernel
theorem d_Y_weight_5 : decode b_Y_weight 5 = .ok (.ifCond .eq 11, 3) := by decide +kernel
theorem d_Y_weight_8 : decode b_Y_weight 8 = .ok (.iload_n 2, 1) := by decide +kernel
theorem d_Y_weight_9 : decode b_Y_weight 9 = .ok (.iload_n 3, 1) := by decide +kernel
theorem d_Y_weight_10 : decode b_Y_weight 10 = .ok (.invokestatic 39, 3) := by decide +kernel
theorem d_Y_weight_13 : decode b_Y_weight 13 = .ok (.ifCond .ne 5, 3) := by decide +kernel
theorem d_Y_weight_16 : decode b_Y_weight 16 = .ok (.iconst (-1), 1) := by decide +kernel
theorem d_Y_weight_17 : decode b_Y_weight 17 = .ok (.ireturn, 1) := by decide +kernel
theorem d_Y_weight_18 : decode b_Y_weight 18 = .ok (.aload_n 0, 1) := by decide +kernel
theorem d_Y_weight_19 : decode b_Y_weight 19 = .ok (.getfield 13, 3) := by decide +kernel
theorem d_Y_weight_22 : decode b_Y_weight 22 = .ok (.iload_n 1, 1) := by decide +kernel
theorem d_Y_weight_23 : decode b_Y_weight 23 = .ok (.iload_n 2, 1) := by decide +kernel
theorem d_Y_weight_24 : decode b_Y_weight 24 = .ok (.iastore, 1) := by decide +kernel
theorem d_Y_weight_25 : decode b_Y_weight 25 = .ok (.aload_n 0, 1) := by decide +kernel
theorem d_Y_weight_26 : decode b_Y_weight 26 = .ok (.getfield 17, 3) := by decide +kernel
theorem d_Y_weight_29 : decode b_Y_weight 29 = .ok (.iload_n 1, 1) := by decide +kernel
theorem d_Y_weight_30 : decode b_Y_weight 30 = .ok (.iload_n 3, 1) := by decide +kernel
theorem d_Y_weight_31 : decode b_Y_weight 31 = .ok (.iastore, 1) := by decide +kernel
theorem d_Y_weight_32 : decode b_Y_weight 32 = .ok (.aload_n 0, 1) := by decide +kernel
theorem d_Y_weight_33 : decode b_Y_weight 33 = .ok (.iconst 0, 1) := by decide +kernel
theorem d_Y_weight_34 : decode b_Y_weight 34 = .ok (.putfield 43, 3) := by decide +kernel
theorem d_Y_weight_37 : decode b_Y_weight 37 = .ok (.iconst 1, 1) := by decide +kernel
theorem d_Y_weight_38 : decode b_Y_weight 38 = .ok (.ireturn, 1) := by decide +kernel
theorem d_Y_clash_0 : decode b_Y_clash 0 = .ok (.aload_n 0, 1) := by decide +kernel
theorem d_Y_clash_1 : decode b_Y_clash 1 = .ok (.getfield 51, 3) := by decide +kernel
theorem d_Y_clash_4 : decode b_Y_clash 4 = .ok (.bipush 40, 2) := by decide +kernel
theorem d_Y_clash_6 : decode b_Y_clash 6 = .ok (.if_icmp .ne 6, 3) := by decide +kernel
theorem d_Y_clash_9 : decode b_Y_clash 9 = .ok (.bipush (-3), 2) := by decide +kernel
theorem d_Y_clash_11 : decode b_Y_clash 11 = .ok (.ireturn, 1) := by decide +kernel
theorem d_Y_clash_12 : decode b_Y_clash 12 = .ok (.aload_n 0, 1) := by decide +kernel
theorem d_Y_clash_13 : decode b_Y_clash 13 = .ok (.getfield 20, 3) := by decide +kernel
theorem d_Y_clash_16 : decode b_Y_clash 16 = .ok (.aload_n 0, 1) := by decide +kernel
theorem d_Y_clash_17 : decode b_Y_clash 17 = .ok (.getfield 51, 3) := by decide +kernel
theorem d_Y_clash_20 : decode b_Y_clash 20 = .ok (.iload_n 1, 1) := by decide +kernel
theorem d_Y_clash_21 : decode b_Y_clash 21 = .ok (.sipush 2047, 3) := by decide +kernel
theorem d_Y_clash_24 : decode b_Y_clash 24 = .ok (.iand, 1) := by decide +kernel
theorem d_Y_clash_25 : decode b_Y_clash 25 = .ok (.iastore, 1) := by decide +kernel
theorem d_Y_clash_26 : decode b_Y_clash 26 = .ok (.aload_n 0, 1) := by decide +kernel
theorem d_Y_clash_27 : decode b_Y_clash 27 = .ok (.dup, 1) := by decide +kernel
theorem d_Y_clash_28 : decode b_Y_clash 28 = .ok (.getfield 51, 3) := by decide +kernel
theorem d_Y_clash_31 : decode b_Y_clash 31 = .ok (.iconst 1, 1) := by decide +kernel
theorem d_Y_clash_32 : decode b_Y_clash 32 = .ok (.iadd, 1) := by decide +kernel
theorem d_Y_clash_33 : decode b_Y_clash 33 = .ok (.putfield 51, 3) := by decide +kernel
theorem d_Y_clash_36 : decode b_Y_clash 36 = .ok (.aload_n 0, 1) := by decide +kernel
theorem d_Y_clash_37 : decode b_Y_clash 37 = .ok (.iconst 0, 1) := by decide +kernel
theorem d_Y_clash_38 : decode b_Y_clash 38 = .ok (.putfield 43, 3) := by decide +kernel
theorem d_Y_clash_41 : decode b_Y_clash 41 = .ok (.aload_n 0, 1) := by decide +kernel
theorem d_Y_clash_42 : decode b_Y_clash 42 = .ok (.getfield 51, 3) := by decide +kernel
theorem d_Y_clash_45 : decode b_Y_clash 45 = .ok (.ireturn, 1) := by decide +kernel
theorem d_Y_settle_0 : decode b_Y_settle 0 = .ok (.aload_n 0, 1) := by decide +kernel
theorem d_Y_settle_1 : decode b_Y_settle 1 = .ok (.getfield 51, 3) := by decide +kernel
theorem d_Y_settle_4 : decode b_Y_settle 4 = .ok (.ifCond .ne 6, 3) := by decide +kernel
theorem d_Y_settle_7 : decode b_Y_settle 7 = .ok (.bipush (-2), 2) := by decide +kernel
theorem d_Y_settle_9 : decode b_Y_settle 9 = .ok (.ireturn, 1) := by decide +kernel
theorem d_Y_settle_10 : decode b_Y_settle 10 = .ok (.aload_n 0, 1) := by decide +kernel
theorem d_Y_settle_11 : decode b_Y_settle 11 = .ok (.dup, 1) := by decide +kernel
theorem d_Y_settle_12 : decode b_Y_settle 12 = .ok (.getfield 51, 3) := by decide +kernel
theorem d_Y_settle_15 : decode b_Y_settle 15 = .ok (.iconst 1, 1) := by decide +kernel
theorem d_Y_settle_16 : decode b_Y_settle 16 = .ok (.isub, 1) := by decide +kernel
theorem d_Y_settle_17 : decode b_Y_settle 17 = .ok (.putfield 51, 3) := by decide +kernel
theorem d_Y_settle_20 : decode b_Y_settle 20 = .ok (.aload_n 0, 1) := by decide +kernel
theorem d_Y_settle_21 : decode b_Y_settle 21 = .ok (.iconst 0, 1) := by decide +kernel
theorem d_Y_settle_22 : decode b_Y_settle 22 = .ok (.putfield 43, 3) := by decide +kernel
theorem d_Y_settle_25 : decode b_Y_settle 25 = .ok (.aload_n 0, 1) := by decide +kernel
theorem d_Y_settle_26 : decode b_Y_settle 26 = .ok (.getfield 51, 3) := by decide +kernel
theorem d_Y_settle_29 : decode b_Y_settle 29 = .ok (.ireturn, 1) := by decide +kernel
theorem d_Y_support_0 : decode b_Y_support 0 = .ok (.iload_n 1, 1) := by decide +kernel
theorem d_Y_support_1 : decode b_Y_support 1 = .ok (.ifCond .lt 9, 3) := by decide +kernel
theorem d_Y_support_4 : decode b_Y_support 4 = .ok (.iload_n 1, 1) := by decide +kernel
theorem d_Y_support_5 : decode b_Y_support 5 = .ok (.bipush 8, 2) := by decide +kernel
theorem d_Y_support_7 : decode b_Y_support 7 = .ok (.if_icmp .lt 5, 3) := by decide +kernel
theorem d_Y_support_10 : decode b_Y_support 10 = .ok (.iconst (-1), 1) := by decide +kernel
theorem d_Y_support_11 : decode b_Y_support 11 = .ok (.ireturn, 1) := by decide +kernel
theorem d_Y_support_12 : decode b_Y_support 12 = .ok (.aload_n 0, 1) := by decide +kernel
theorem d_Y_support_13 : decode b_Y_support 13 = .ok (.getfield 54, 3) := by decide +kernel
theorem d_Y_support_16 : decode b_Y_support 16 = .ok (.bipush 20, 2) := by decide +kernel
theorem d_Y_support_18 : decode b_Y_support 18 = .ok (.if_icmp .ne 6, 3) := by decide +kernel
theorem d_Y_support_21 : decode b_Y_support 21 = .ok (.bipush (-3), 2) := by decide +kernel
theorem d_Y_support_23 : decode b_Y_support 23 = .ok (.ireturn, 1) := by decide +kernel
theorem d_Y_support_24 : decode b_Y_support 24 = .ok (.aload_n 0, 1) := by decide +kernel
theorem d_Y_support_25 : decode b_Y_support 25 = .ok (.getfield 23, 3) := by decide +kernel
theorem d_Y_support_28 : decode b_Y_support 28 = .ok (.aload_n 0, 1) := by decide +kernel
theorem d_Y_support_29 : decode b_Y_support 29 = .ok (.getfield 54, 3) := by decide +kernel
theorem d_Y_support_32 : decode b_Y_support 32 = .ok (.iload_n 1, 1) := by decide +kernel
theorem d_Y_support_33 : decode b_Y_support 33 = .ok (.iastore, 1) := by decide +kernel
theorem d_Y_support_34 : decode b_Y_support 34 = .ok (.aload_n 0, 1) := by decide +kernel
theorem d_Y_support_35 : decode b_Y_support 35 = .ok (.getfield 26, 3) := by decide +kernel
theorem d_Y_support_38 : decode b_Y_support 38 = .ok (.aload_n 0, 1) := by decide +kernel
theorem d_Y_support_39 : decode b_Y_support 39 = .ok (.getfield 54, 3) := by decide +kernel
theorem d_Y_support_42 : decode b_Y_support 42 = .ok (.iload_n 2, 1) := by decide +kernel
theorem d_Y_support_43 : decode b_Y_support 43 = .ok (.sipush 2047, 3) := by decide +kernel
theorem d_Y_support_46 : decode b_Y_support 46 = .ok (.iand, 1) := by decide +kernel
theorem d_Y_support_47 : decode b_Y_support 47 = .ok (.iastore, 1) := by decide +kernel
theorem d_Y_support_48 : decode b_Y_support 48 = .ok (.aload_n 0, 1) := by decide +kernel
theorem d_Y_support_49 : decode b_Y_support 49 = .ok (.dup, 1) := by decide +kernel
theorem d_Y_support_50 : decode b_Y_support 50 = .ok (.getfield 54, 3) := by decide +kernel
theorem d_Y_support_53 : decode b_Y_support 53 = .ok (.iconst 1, 1) := by decide +kernel
theorem d_Y_support_54 : decode b_Y_support 54 = .ok (.iadd, 1) := by decide +kernel
theorem d_Y_support_55 : decode b_Y_support 55 = .ok (.putfield 54, 3) := by decide +kernel
theorem d_Y_support_58 : decode b_Y_support 58 = .ok (.iconst 0, 1) := by decide +kernel
theorem d_Y_support_59 : decode b_Y_support 59 = .ok (.istore_n 3, 1) := by decide +kernel
theorem d_Y_support_60 : decode b_Y_support 60 = .ok (.iconst 0, 1) := by decide +kernel
theorem d_Y_support_61 : decode b_Y_support 61 = .ok (.istore 4, 2) := by decide +kernel
theorem d_Y_support_63 : decode b_Y_support 63 = .ok (.iload 4, 2) := by decide +kernel
theorem d_Y_support_65 : decode b_Y_support 65 = .ok (.aload_n 0, 1) := by decide +kernel
theorem d_Y_support_66 : decode b_Y_support 66 = .ok (.getfield 54, 3) := by decide +kernel
theorem d_Y_support_69 : decode b_Y_support 69 = .ok (.if_icmp .ge 28, 3) := by decide +kernel
theorem d_Y_support_72 : decode b_Y_support 72 = .ok (.iload_n 3, 1) := by decide +kernel
theorem d_Y_support_73 : decode b_Y_support 73 = .ok (.aload_n 0, 1) := by decide +kernel
theorem d_Y_support_74 : decode b_Y_support 74 = .ok (.getfield 23, 3) := by decide +kernel
theorem d_Y_support_77 : decode b_Y_support 77 = .ok (.iload 4, 2) := by decide +kernel
theorem d_Y_support_79 : decode b_Y_support 79 = .ok (.iaload, 1) := by decide +kernel
theorem d_Y_support_80 : decode b_Y_support 80 = .ok (.iload_n 1, 1) := by decide +kernel
theorem d_Y_support_81 : decode b_Y_support 81 = .ok (.if_icmp .ne 7, 3) := by decide +kernel
theorem d_Y_support_84 : decode b_Y_support 84 = .ok (.iconst 1, 1) := by decide +kernel
theorem d_Y_support_85 : decode b_Y_support 85 = .ok (.goto 4, 3) := by decide +kernel
theorem d_Y_support_88 : decode b_Y_support 88 = .ok (.iconst 0, 1) := by decide +kernel
theorem d_Y_support_89 : decode b_Y_support 89 = .ok (.iadd, 1) := by decide +kernel
theorem d_Y_support_90 : decode b_Y_support 90 = .ok (.istore_n 3, 1) := by decide +kernel
theorem d_Y_support_91 : decode b_Y_support 91 = .ok (.iinc 4 1, 3) := by decide +kernel
theorem d_Y_support_94 : decode b_Y_support 94 = .ok (.goto (-31), 3) := by decide +kernel
theorem d_Y_support_97 : decode b_Y_support 97 = .ok (.iload_n 3, 1) := by decide +kernel
theorem d_Y_support_98 : decode b_Y_support 98 = .ok (.ireturn, 1) := by decide +kernel
theorem d_Y_order_0 : decode b_Y_order 0 = .ok (.iload_n 1, 1) := by decide +kernel
theorem d_Y_order_1 : decode b_Y_order 1 = .ok (.ifCond .lt 8, 3) := by decide +kernel
theorem d_Y_order_4 : decode b_Y_order 4 = .ok (.iload_n 1, 1) := by decide +kernel
theorem d_Y_order_5 : decode b_Y_order 5 = .ok (.iconst 3, 1) := by decide +kernel
theorem d_Y_order_6 : decode b_Y_order 6 = .ok (.if_icmp .le 5, 3) := by decide +kernel
theorem d_Y_order_9 : decode b_Y_order 9 = .ok (.iconst (-1), 1) := by decide +kernel
theorem d_Y_order_10 : decode b_Y_order 10 = .ok (.ireturn, 1) := by decide +kernel
theorem d_Y_order_11 : decode b_Y_order 11 = .ok (.aload_n 0, 1) := by decide +kernel
theorem d_Y_order_12 : decode b_Y_order 12 = .ok (.iload_n 1, 1) := by decide +kernel
theorem d_Y_order_13 : decode b_Y_order 13 = .ok (.putfield 57, 3) := by decide +kernel
theorem d_Y_order_16 : decode b_Y_order 16 = .ok (.aload_n 0, 1) := by decide +kernel
theorem d_Y_order_17 : decode b_Y_order 17 = .ok (.iconst 0, 1) := by decide +kernel
theorem d_Y_order_18 : decode b_Y_order 18 = .ok (.putfield 43, 3) := by decide +kernel
theorem d_Y_order_21 : decode b_Y_order 21 = .ok (.iconst 1, 1) := by decide +kernel
theorem d_Y_order_22 : decode b_Y_order 22 = .ok (.ireturn, 1) := by decide +kernel
theorem d_Y_has_0 : decode b_Y_has 0 = .ok (.iload_n 0, 1) := by decide +kernel
theorem d_Y_has_1 : decode b_Y_has 1 = .ok (.iload_n 1, 1) := by decide +kernel
theorem d_Y_has_2 : decode b_Y_has 2 = .ok (.ishr, 1) := by decide +kernel
theorem d_Y_has_3 : decode b_Y_has 3 = .ok (.iconst 1, 1) := by decide +kernel
theorem d_Y_has_4 : decode b_Y_has 4 = .ok (.iand, 1) := by decide +kernel
theorem d_Y_has_5 : decode b_Y_has 5 = .ok (.iconst 1, 1) := by decide +kernel
theorem d_Y_has_6 : decode b_Y_has 6 = .ok (.if_icmp .ne 7, 3) := by decide +kernel
theorem d_Y_has_9 : decode b_Y_has 9 = .ok (.iconst 1, 1) := by decide +kernel
theorem d_Y_has_10 : decode b_Y_has 10 = .ok (.goto 4, 3) := by decide +kernel
theorem d_Y_has_13 : decode b_Y_has 13 = .ok (.iconst 0, 1) := by decide +kernel
theorem d_Y_has_14 : decode b_Y_has 14 = .ok (.ireturn, 1) := by decide +kernel
theorem d_Y_compare_0 : decode b_Y_compare 0 = .ok (.iconst 0, 1) := by decide +kernel
theorem d_Y_compare_1 : decode b_Y_compare 1 = .ok (.istore 5, 2) := by decide +kernel
theorem d_Y_compare_3 : decode b_Y_compare 3 = .ok (.iconst 0, 1) := by decide +kernel
theorem d_Y_compare_4 : decode b_Y_compare 4 = .ok (.istore 6, 2) := by decide +kernel
theorem d_Y_compare_6 : decode b_Y_compare 6 = .ok (.iconst 0, 1) := by decide +kernel
theorem d_Y_compare_7 : decode b_Y_compare 7 = .ok (.istore 7, 2) := by decide +kernel
theorem d_Y_compare_9 : decode b_Y_compare 9 = .ok (.iload 7, 2) := by decide +kernel
theorem d_Y_compare_11 : decode b_Y_compare 11 = .ok (.aload_n 0, 1) := by decide +kernel
theorem d_Y_compare_12 : decode b_Y_compare 12 = .ok (.getfield 35, 3) := by decide +kernel
theorem d_Y_compare_15 : decode b_Y_compare 15 = .ok (.if_icmp .ge 66, 3) := by decide +kernel
theorem d_Y_compare_18 : decode b_Y_compare 18 = .ok (.aload_n 0, 1) := by decide +kernel
theorem d_Y_compare_19 : decode b_Y_compare 19 = .ok (.getfield 7, 3) := by decide +kernel
theorem d_Y_compare_22 : decode b_Y_compare 22 = .ok (.iload 7, 2) := by decide +kernel
theorem d_Y_compare_24 : decode b_Y_compare 24 = .ok (.baload, 1) := by decide +kernel
theorem d_Y_compare_25 : decode b_Y_compare 25 = .ok (.ifCond .ne 50, 3) := by decide +kernel
theorem d_Y_compare_28 : decode b_Y_compare 28 = .ok (.aload_n 0, 1) := by decide +kernel
theorem d_Y_compare_29 : decode b_Y_compare 29 = .ok (.getfield 13, 3) := by decide +kernel
theorem d_Y_compare_32 : decode b_Y_compare 32 = .ok (.iload 7, 2) := by decide +kernel
theorem d_Y_compare_34 : decode b_Y_compare 34 = .ok (.iaload, 1) := by decide +kernel
theorem d_Y_compare_35 : decode b_Y_compare 35 = .ok (.iload_n 3, 1) := by decide +kernel
theorem d_Y_compare_36 : decode b_Y_compare 36 = .ok (.if_icmp .ne 39, 3) := by decide +kernel
theorem d_Y_compare_39 : decode b_Y_compare 39 = .ok (.iload_n 1, 1) := by decide +kernel
theorem d_Y_compare_40 : decode b_Y_compare 40 = .ok (.iload 7, 2) := by decide +kernel
theorem d_Y_compare_42 : decode b_Y_compare 42 = .ok (.invokestatic 60, 3) := by decide +kernel
theorem d_Y_compare_45 : decode b_Y_compare 45 = .ok (.iload_n 2, 1) := by decide +kernel
theorem d_Y_compare_46 : decode b_Y_compare 46 = .ok (.iload 7, 2) := by decide +kernel
theorem d_Y_compare_48 : decode b_Y_compare 48 = .ok (.invokestatic 60, 3) := by decide +kernel
theorem d_Y_compare_51 : decode b_Y_compare 51 = .ok (.if_icmp .ne 6, 3) := by decide +kernel
theorem d_Y_compare_54 : decode b_Y_compare 54 = .ok (.goto 21, 3) := by decide +kernel
theorem d_Y_compare_57 : decode b_Y_compare 57 = .ok (.iload_n 1, 1) := by decide +kernel
theorem d_Y_compare_58 : decode b_Y_compare 58 = .ok (.iload 7, 2) := by decide +kernel
theorem d_Y_compare_60 : decode b_Y_compare 60 = .ok (.invokestatic 60, 3) := by decide +kernel
theorem d_Y_compare_63 : decode b_Y_compare 63 = .ok (.ifCond .eq 9, 3) := by decide +kernel
theorem d_Y_compare_66 : decode b_Y_compare 66 = .ok (.iinc 5 1, 3) := by decide +kernel
theorem d_Y_compare_69 : decode b_Y_compare 69 = .ok (.goto 6, 3) := by decide +kernel
theorem d_Y_compare_72 : decode b_Y_compare 72 = .ok (.iinc 6 1, 3) := by decide +kernel
theorem d_Y_compare_75 : decode b_Y_compare 75 = .ok (.iinc 7 1, 3) := by decide +kernel
theorem d_Y_compare_78 : decode b_Y_compare 78 = .ok (.goto (-69), 3) := by decide +kernel
theorem d_Y_compare_81 : decode b_Y_compare 81 = .ok (.iload 4, 2) := by decide +kernel
theorem d_Y_compare_83 : decode b_Y_compare 83 = .ok (.ifCond .eq 27, 3) := by decide +kernel
theorem d_Y_compare_86 : decode b_Y_compare 86 = .ok (.iload 5, 2) := by decide +kernel
theorem d_Y_compare_88 : decode b_Y_compare 88 = .ok (.iload 6, 2) := by decide +kernel
theorem d_Y_compare_90 : decode b_Y_compare 90 = .ok (.if_icmp .ne 7, 3) := by decide +kernel
theorem d_Y_compare_93 : decode b_Y_compare 93 = .ok (.iconst 0, 1) := by decide +kernel
theorem d_Y_compare_94 : decode b_Y_compare 94 = .ok (.goto 15, 3) := by decide +kernel
theorem d_Y_compare_97 : decode b_Y_compare 97 = .ok (.iload 5, 2) := by decide +kernel
theorem d_Y_compare_99 : decode b_Y_compare 99 = .ok (.iload 6, 2) := by decide +kernel
theorem d_Y_compare_101 : decode b_Y_compare 101 = .ok (.if_icmp .le 7, 3) := by decide +kernel
theorem d_Y_compare_104 : decode b_Y_compare 104 = .ok (.iconst 1, 1) := by decide +kernel
theorem d_Y_compare_105 : decode b_Y_compare 105 = .ok (.goto 4, 3) := by decide +kernel
theorem d_Y_compare_108 : decode b_Y_compare 108 = .ok (.iconst 2, 1) := by decide +kernel
theorem d_Y_compare_109 : decode b_Y_compare 109 = .ok (.ireturn, 1) := by decide +kernel
theorem d_Y_compare_110 : decode b_Y_compare 110 = .ok (.iload 5, 2) := by decide +kernel
theorem d_Y_compare_112 : decode b_Y_compare 112 = .ok (.ifCond .ne 12, 3) := by decide +kernel
theorem d_Y_compare_115 : decode b_Y_compare 115 = .ok (.iload 6, 2) := by decide +kernel
theorem d_Y_compare_117 : decode b_Y_compare 117 = .ok (.ifCond .ne 7, 3) := by decide +kernel
theorem d_Y_compare_120 : decode b_Y_compare 120 = .ok (.iconst 0, 1) := by decide +kernel
theorem d_Y_compare_121 : decode b_Y_compare 121 = .ok (.goto 22, 3) := by decide +kernel
theorem d_Y_compare_124 : decode b_Y_compare 124 = .ok (.iload 6, 2) := by decide +kernel
theorem d_Y_compare_126 : decode b_Y_compare 126 = .ok (.ifCond .ne 7, 3) := by decide +kernel
theorem d_Y_compare_129 : decode b_Y_compare 129 = .ok (.iconst 1, 1) := by decide +kernel
theorem d_Y_compare_130 : decode b_Y_compare 130 = .ok (.goto 13, 3) := by decide +kernel
theorem d_Y_compare_133 : decode b_Y_compare 133 = .ok (.iload 5, 2) := by decide +kernel
theorem d_Y_compare_135 : decode b_Y_compare 135 = .ok (.ifCond .ne 7, 3) := by decide +kernel
theorem d_Y_compare_138 : decode b_Y_compare 138 = .ok (.iconst 2, 1) := by decide +kernel
theorem d_Y_compare_139 : decode b_Y_compare 139 = .ok (.goto 4, 3) := by decide +kernel
theorem d_Y_compare_142 : decode b_Y_compare 142 = .ok (.iconst 3, 1) := by decide +kernel
theorem d_Y_compare_143 : decode b_Y_compare 143 = .ok (.ireturn, 1) := by decide +kernel
theorem d_Y_isBetter_0 : decode b_Y_isBetter 0 = .ok (.iload_n 3, 1) := by decide +kernel
theorem d_Y_isBetter_1 : decode b_Y_isBetter 1 = .ok (.ifCond .ne 21, 3) := by decide +kernel
theorem d_Y_isBetter_4 : decode b_Y_isBetter 4 = .ok (.iload_n 1, 1) := by decide +kernel
theorem d_Y_isBetter_5 : decode b_Y_isBetter 5 = .ok (.iload_n 2, 1) := by decide +kernel
theorem d_Y_isBetter_6 : decode b_Y_isBetter 6 = .ok (.if_icmp .eq 14, 3) := by decide +kernel
theorem d_Y_isBetter_9 : decode b_Y_isBetter 9 = .ok (.iload_n 1, 1) := by decide +kernel
theorem d_Y_isBetter_10 : decode b_Y_isBetter 10 = .ok (.iload_n 2, 1) := by decide +kernel
theorem d_Y_isBetter_11 : decode b_Y_isBetter 11 = .ok (.ior, 1) := by decide +kernel
theorem d_Y_isBetter_12 : decode b_Y_isBetter 12 = .ok (.iload_n 1, 1) := by decide +kernel
theorem d_Y_isBetter_13 : decode b_Y_isBetter 13 = .ok (.if_icmp .ne 7, 3) := by decide +kernel
theorem d_Y_isBetter_16 : decode b_Y_isBetter 16 = .ok (.iconst 1, 1) := by decide +kernel
theorem d_Y_isBetter_17 : decode b_Y_isBetter 17 = .ok (.goto 4, 3) := by decide +kernel
theorem d_Y_isBetter_20 : decode b_Y_isBetter 20 = .ok (.iconst 0, 1) := by decide +kernel
theorem d_Y_isBetter_21 : decode b_Y_isBetter 21 = .ok (.ireturn, 1) := by decide +kernel
theorem d_Y_isBetter_22 : decode b_Y_isBetter 22 = .ok (.iload_n 3, 1) := by decide +kernel
theorem d_Y_isBetter_23 : decode b_Y_isBetter 23 = .ok (.iconst 3, 1) := by decide +kernel
theorem d_Y_isBetter_24 : decode b_Y_isBetter 24 = .ok (.if_icmp .ne 97, 3) := by decide +kernel
theorem d_Y_isBetter_27 : decode b_Y_isBetter 27 = .ok (.iconst 0, 1) := by decide +kernel
theorem d_Y_isBetter_28 : decode b_Y_isBetter 28 = .ok (.istore 4, 2) := by decide +kernel
theorem d_Y_isBetter_30 : decode b_Y_isBetter 30 = .ok (.iconst 0, 1) := by decide +kernel
theorem d_Y_isBetter_31 : decode b_Y_isBetter 31 = .ok (.istore 5, 2) := by decide +kernel
theorem d_Y_isBetter_33 : decode b_Y_isBetter 33 = .ok (.iload 5, 2) := by decide +kernel
theorem d_Y_isBetter_35 : decode b_Y_isBetter 35 = .ok (.aload_n 0, 1) := by decide +kernel
theorem d_Y_isBetter_36 : decode b_Y_isBetter 36 = .ok (.getfield 35, 3) := by decide +kernel
theorem d_Y_isBetter_39 : decode b_Y_isBetter 39 = .ok (.if_icmp .ge 71, 3) := by decide +kernel
theorem d_Y_isBetter_42 : decode b_Y_isBetter 42 = .ok (.aload_n 0, 1) := by decide +kernel
theorem d_Y_isBetter_43 : decode b_Y_isBetter 43 = .ok (.getfield 7, 3) := by decide +kernel
theorem d_Y_isBetter_46 : decode b_Y_isBetter 46 = .ok (.iload 5, 2) := by decide +kernel
theorem d_Y_isBetter_48 : decode b_Y_isBetter 48 = .ok (.baload, 1) := by decide +kernel
theorem d_Y_isBetter_49 : decode b_Y_isBetter 49 = .ok (.ifCond .ne 24, 3) := by decide +kernel
theorem d_Y_isBetter_52 : decode b_Y_isBetter 52 = .ok (.iload_n 1, 1) := by decide +kernel
theorem d_Y_isBetter_53 : decode b_Y_isBetter 53 = .ok (.iload 5, 2) := by decide +kernel
theorem d_Y_isBetter_55 : decode b_Y_isBetter 55 = .ok (.invokestatic 60, 3) := by decide +kernel
theorem d_Y_isBetter_58 : decode b_Y_isBetter 58 = .ok (.ifCond .eq 15, 3) := by decide +kernel
theorem d_Y_isBetter_61 : decode b_Y_isBetter 61 = .ok (.iload 4, 2) := by decide +kernel
theorem d_Y_isBetter_63 : decode b_Y_isBetter 63 = .ok (.aload_n 0, 1) := by decide +kernel
theorem d_Y_isBetter_64 : decode b_Y_isBetter 64 = .ok (.getfield 17, 3) := by decide +kernel
theorem d_Y_isBetter_67 : decode b_Y_isBetter 67 = .ok (.iload 5, 2) := by decide +kernel
theorem d_Y_isBetter_69 : decode b_Y_isBetter 69 = .ok (.iaload, 1) := by decide +kernel
theorem d_Y_isBetter_70 : decode b_Y_isBetter 70 = .ok (.iadd, 1) := by decide +kernel
theorem d_Y_isBetter_71 : decode b_Y_isBetter 71 = .ok (.istore 4, 2) := by decide +kernel
theorem d_Y_isBetter_73 : decode b_Y_isBetter 73 = .ok (.aload_n 0, 1) := by decide +kernel
theorem d_Y_isBetter_74 : decode b_Y_isBetter 74 = .ok (.getfield 7, 3) := by decide +kernel
theorem d_Y_isBetter_77 : decode b_Y_isBetter 77 = .ok (.iload 5, 2) := by decide +kernel
theorem d_Y_isBetter_79 : decode b_Y_isBetter 79 = .ok (.baload, 1) := by decide +kernel
theorem d_Y_isBetter_80 : decode b_Y_isBetter 80 = .ok (.ifCond .ne 24, 3) := by decide +kernel
theorem d_Y_isBetter_83 : decode b_Y_isBetter 83 = .ok (.iload_n 2, 1) := by decide +kernel
theorem d_Y_isBetter_84 : decode b_Y_isBetter 84 = .ok (.iload 5, 2) := by decide +kernel
theorem d_Y_isBetter_86 : decode b_Y_isBetter 86 = .ok (.invokestatic 60, 3) := by decide +kernel
theorem d_Y_isBetter_89 : decode b_Y_isBetter 89 = .ok (.ifCond .eq 15, 3) := by decide +kernel
theorem d_Y_isBetter_92 : decode b_Y_isBetter 92 = .ok (.iload 4, 2) := by decide +kernel
theorem d_Y_isBetter_94 : decode b_Y_isBetter 94 = .ok (.aload_n 0, 1) := by decide +kernel
theorem d_Y_isBetter_95 : decode b_Y_isBetter 95 = .ok (.getfield 17, 3) := by decide +kernel
theorem d_Y_isBetter_98 : decode b_Y_isBetter 98 = .ok (.iload 5, 2) := by decide +kernel
theorem d_Y_isBetter_100 : decode b_Y_isBetter 100 = .ok (.iaload, 1) := by decide +kernel
theorem d_Y_isBetter_101 : decode b_Y_isBetter 101 = .ok (.isub, 1) := by decide +kernel
theorem d_Y_isBetter_102 : decode b_Y_isBetter 102 = .ok (.istore 4, 2) := by decide +kernel
theorem d_Y_isBetter_104 : decode b_Y_isBetter 104 = .ok (.iinc 5 1, 3) := by decide +kernel
theorem d_Y_isBetter_107 : decode b_Y_isBetter 107 = .ok (.goto (-74), 3) := by decide +kernel
theorem d_Y_isBetter_110 : decode b_Y_isBetter 110 = .ok (.iload 4, 2) := by decide +kernel
theorem d_Y_isBetter_112 : decode b_Y_isBetter 112 = .ok (.ifCond .le 7, 3) := by decide +kernel
theorem d_Y_isBetter_115 : decode b_Y_isBetter 115 = .ok (.iconst 1, 1) := by decide +kernel
theorem d_Y_isBetter_116 : decode b_Y_isBetter 116 = .ok (.goto 4, 3) := by decide +kernel
theorem d_Y_isBetter_119 : decode b_Y_isBetter 119 = .ok (.iconst 0, 1) := by decide +kernel
theorem d_Y_isBetter_120 : decode b_Y_isBetter 120 = .ok (.ireturn, 1) := by decide +kernel
theorem d_Y_isBetter_121 : decode b_Y_isBetter 121 = .ok (.iconst 0, 1) := by decide +kernel
theorem d_Y_isBetter_122 : decode b_Y_isBetter 122 = .ok (.istore 4, 2) := by decide +kernel
theorem d_Y_isBetter_124 : decode b_Y_isBetter 124 = .ok (.iconst 0, 1) := by decide +kernel
theorem d_Y_isBetter_125 : decode b_Y_isBetter 125 = .ok (.istore 5, 2) := by decide +kernel
theorem d_Y_isBetter_127 : decode b_Y_isBetter 127 = .ok (.iload 5, 2) := by decide +kernel
theorem d_Y_isBetter_129 : decode b_Y_isBetter 129 = .ok (.bipush 8, 2) := by decide +kernel
theorem d_Y_isBetter_131 : decode b_Y_isBetter 131 = .ok (.if_icmp .ge 34, 3) := by decide +kernel
theorem d_Y_isBetter_134 : decode b_Y_isBetter 134 = .ok (.iload 4, 2) := by decide +kernel
theorem d_Y_isBetter_136 : decode b_Y_isBetter 136 = .ok (.ifCond .ne 29, 3) := by decide +kernel
theorem d_Y_isBetter_139 : decode b_Y_isBetter 139 = .ok (.aload_n 0, 1) := by decide +kernel
theorem d_Y_isBetter_140 : decode b_Y_isBetter 140 = .ok (.iload_n 1, 1) := by decide +kernel
theorem d_Y_isBetter_141 : decode b_Y_isBetter 141 = .ok (.iload_n 2, 1) := by decide +kernel
theorem d_Y_isBetter_142 : decode b_Y_isBetter 142 = .ok (.iload 5, 2) := by decide +kernel
theorem d_Y_isBetter_144 : decode b_Y_isBetter 144 = .ok (.iload_n 3, 1) := by decide +kernel
theorem d_Y_isBetter_145 : decode b_Y_isBetter 145 = .ok (.iconst 2, 1) := by decide +kernel
theorem d_Y_isBetter_146 : decode b_Y_isBetter 146 = .ok (.if_icmp .ne 7, 3) := by decide +kernel
theorem d_Y_isBetter_149 : decode b_Y_isBetter 149 = .ok (.iconst 1, 1) := by decide +kernel
theorem d_Y_isBetter_150 : decode b_Y_isBetter 150 = .ok (.goto 4, 3) := by decide +kernel
theorem d_Y_isBetter_153 : decode b_Y_isBetter 153 = .ok (.iconst 0, 1) := by decide +kernel
theorem d_Y_isBetter_154 : decode b_Y_isBetter 154 = .ok (.invokevirtual 63, 3) := by decide +kernel
theorem d_Y_isBetter_157 : decode b_Y_isBetter 157 = .ok (.istore 4, 2) := by decide +kernel
theorem d_Y_isBetter_159 : decode b_Y_isBetter 159 = .ok (.iinc 5 1, 3) := by decide +kernel
theorem d_Y_isBetter_162 : decode b_Y_isBetter 162 = .ok (.goto (-35), 3) := by decide +kernel
theorem d_Y_isBetter_165 : decode b_Y_isBetter 165 = .ok (.iload 4, 2) := by decide +kernel
theorem d_Y_isBetter_167 : decode b_Y_isBetter 167 = .ok (.iconst 1, 1) := by decide +kernel
theorem d_Y_isBetter_168 : decode b_Y_isBetter 168 = .ok (.if_icmp .ne 7, 3) := by decide +kernel
theorem d_Y_isBetter_171 : decode b_Y_isBetter 171 = .ok (.iconst 1, 1) := by decide +kernel
theorem d_Y_isBetter_172 : decode b_Y_isBetter 172 = .ok (.goto 4, 3) := by decide +kernel
theorem d_Y_isBetter_175 : decode b_Y_isBetter 175 = .ok (.iconst 0, 1) := by decide +kernel
theorem d_Y_isBetter_176 : decode b_Y_isBetter 176 = .ok (.ireturn, 1) := by decide +kernel
theorem d_Y_better_0 : decode b_Y_better 0 = .ok (.iload_n 3, 1) := by decide +kernel
theorem d_Y_better_1 : decode b_Y_better 1 = .ok (.ifCond .lt 8, 3) := by decide +kernel
theorem d_Y_better_4 : decode b_Y_better 4 = .ok (.iload_n 3, 1) := by decide +kernel
theorem d_Y_better_5 : decode b_Y_better 5 = .ok (.iconst 3, 1) := by decide +kernel
theorem d_Y_better_6 : decode b_Y_better 6 = .ok (.if_icmp .le 5, 3) := by decide +kernel
theorem d_Y_better_9 : decode b_Y_better 9 = .ok (.iconst (-1), 1) := by decide +kernel
theorem d_Y_better_10 : decode b_Y_better 10 = .ok (.ireturn, 1) := by decide +kernel
theorem d_Y_better_11 : decode b_Y_better 11 = .ok (.iconst 1, 1) := by decide +kernel
theorem d_Y_better_12 : decode b_Y_better 12 = .ok (.aload_n 0, 1) := by decide +kernel
theorem d_Y_better_13 : decode b_Y_better 13 = .ok (.getfield 35, 3) := by decide +kernel
theorem d_Y_better_16 : decode b_Y_better 16 = .ok (.ishl, 1) := by decide +kernel
theorem d_Y_better_17 : decode b_Y_better 17 = .ok (.iconst 1, 1) := by decide +kernel
theorem d_Y_better_18 : decode b_Y_better 18 = .ok (.isub, 1) := by decide +kernel
theorem d_Y_better_19 : decode b_Y_better 19 = .ok (.istore 4, 2) := by decide +kernel
theorem d_Y_better_21 : decode b_Y_better 21 = .ok (.aload_n 0, 1) := by decide +kernel
theorem d_Y_better_22 : decode b_Y_better 22 = .ok (.iload_n 1, 1) := by decide +kernel
theorem d_Y_better_23 : decode b_Y_better 23 = .ok (.iload 4, 2) := by decide +kernel
theorem d_Y_better_25 : decode b_Y_better 25 = .ok (.iand, 1) := by decide +kernel
theorem d_Y_better_26 : decode b_Y_better 26 = .ok (.iload_n 2, 1) := by decide +kernel
theorem d_Y_better_27 : decode b_Y_better 27 = .ok (.iload 4, 2) := by decide +kernel
theorem d_Y_better_29 : decode b_Y_better 29 = .ok (.iand, 1) := by decide +kernel
theorem d_Y_better_30 : decode b_Y_better 30 = .ok (.iload_n 3, 1) := by decide +kernel
theorem d_Y_better_31 : decode b_Y_better 31 = .ok (.invokevirtual 67, 3) := by decide +kernel
theorem d_Y_better_34 : decode b_Y_better 34 = .ok (.ifCond .eq 7, 3) := by decide +kernel
theorem d_Y_better_37 : decode b_Y_better 37 = .ok (.iconst 1, 1) := by decide +kernel
theorem d_Y_better_38 : decode b_Y_better 38 = .ok (.goto 4, 3) := by decide +kernel
theorem d_Y_better_41 : decode b_Y_better 41 = .ok (.iconst 0, 1) := by decide +kernel
theorem d_Y_better_42 : decode b_Y_better 42 = .ok (.ireturn, 1) := by decide +kernel
theorem d_Y_isKept_0 : decode b_Y_isKept 0 = .ok (.iconst 1, 1) := by decide +kernel
theorem d_Y_isKept_1 : decode b_Y_isKept 1 = .ok (.istore_n 2, 1) := by decide +kernel
theorem d_Y_isKept_2 : decode b_Y_isKept 2 = .ok (.iconst 0, 1) := by decide +kernel
theorem d_Y_isKept_3 : decode b_Y_isKept 3 = .ok (.istore_n 3, 1) := by decide +kernel
theorem d_Y_isKept_4 : decode b_Y_isKept 4 = .ok (.iload_n 3, 1) := by decide +kernel
theorem d_Y_isKept_5 : decode b_Y_isKept 5 = .ok (.aload_n 0, 1) := by decide +kernel
theorem d_Y_isKept_6 : decode b_Y_isKept 6 = .ok (.getfield 35, 3) := by decide +kernel
theorem d_Y_isKept_9 : decode b_Y_isKept 9 = .ok (.if_icmp .ge 36, 3) := by decide +kernel
theorem d_Y_isKept_12 : decode b_Y_isKept 12 = .ok (.iload_n 2, 1) := by decide +kernel
theorem d_Y_isKept_13 : decode b_Y_isKept 13 = .ok (.ifCond .eq 32, 3) := by decide +kernel
theorem d_Y_isKept_16 : decode b_Y_isKept 16 = .ok (.aload_n 0, 1) := by decide +kernel
theorem d_Y_isKept_17 : decode b_Y_isKept 17 = .ok (.getfield 7, 3) := by decide +kernel
theorem d_Y_isKept_20 : decode b_Y_isKept 20 = .ok (.iload_n 3, 1) := by decide +kernel
theorem d_Y_isKept_21 : decode b_Y_isKept 21 = .ok (.baload, 1) := by decide +kernel
theorem d_Y_isKept_22 : decode b_Y_isKept 22 = .ok (.ifCond .eq 11, 3) := by decide +kernel
theorem d_Y_isKept_25 : decode b_Y_isKept 25 = .ok (.iload_n 1, 1) := by decide +kernel
theorem d_Y_isKept_26 : decode b_Y_isKept 26 = .ok (.iload_n 3, 1) := by decide +kernel
theorem d_Y_isKept_27 : decode b_Y_isKept 27 = .ok (.invokestatic 60, 3) := by decide +kernel
theorem d_Y_isKept_30 : decode b_Y_isKept 30 = .ok (.ifCond .eq 7, 3) := by decide +kernel
theorem d_Y_isKept_33 : decode b_Y_isKept 33 = .ok (.iconst 1, 1) := by decide +kernel
theorem d_Y_isKept_34 : decode b_Y_isKept 34 = .ok (.goto 4, 3) := by decide +kernel
theorem d_Y_isKept_37 : decode b_Y_isKept 37 = .ok (.iconst 0, 1) := by decide +kernel
theorem d_Y_isKept_38 : decode b_Y_isKept 38 = .ok (.istore_n 2, 1) := by decide +kernel
theorem d_Y_isKept_39 : decode b_Y_isKept 39 = .ok (.iinc 3 1, 3) := by decide +kernel
theorem d_Y_isKept_42 : decode b_Y_isKept 42 = .ok (.goto (-38), 3) := by decide +kernel
theorem d_Y_isKept_45 : decode b_Y_isKept 45 = .ok (.iconst 0, 1) := by decide +kernel
theorem d_Y_isKept_46 : decode b_Y_isKept 46 = .ok (.istore_n 3, 1) := by decide +kernel
theorem d_Y_isKept_47 : decode b_Y_isKept 47 = .ok (.iload_n 3, 1) := by decide +kernel
theorem d_Y_isKept_48 : decode b_Y_isKept 48 = .ok (.aload_n 0, 1) := by decide +kernel
theorem d_Y_isKept_49 : decode b_Y_isKept 49 = .ok (.getfield 51, 3) := by decide +kernel
theorem d_Y_isKept_52 : decode b_Y_isKept 52 = .ok (.if_icmp .ge 32, 3) := by decide +kernel
theorem d_Y_isKept_55 : decode b_Y_isKept 55 = .ok (.iload_n 2, 1) := by decide +kernel
theorem d_Y_isKept_56 : decode b_Y_isKept 56 = .ok (.ifCond .eq 28, 3) := by decide +kernel
theorem d_Y_isKept_59 : decode b_Y_isKept 59 = .ok (.aload_n 0, 1) := by decide +kernel
theorem d_Y_isKept_60 : decode b_Y_isKept 60 = .ok (.getfield 20, 3) := by decide +kernel
theorem d_Y_isKept_63 : decode b_Y_isKept 63 = .ok (.iload_n 3, 1) := by decide +kernel
theorem d_Y_isKept_64 : decode b_Y_isKept 64 = .ok (.iaload, 1) := by decide +kernel
theorem d_Y_isKept_65 : decode b_Y_isKept 65 = .ok (.iload_n 1, 1) := by decide +kernel
theorem d_Y_isKept_66 : decode b_Y_isKept 66 = .ok (.iconst (-1), 1) := by decide +kernel
theorem d_Y_isKept_67 : decode b_Y_isKept 67 = .ok (.ixor, 1) := by decide +kernel
theorem d_Y_isKept_68 : decode b_Y_isKept 68 = .ok (.iand, 1) := by decide +kernel
theorem d_Y_isKept_69 : decode b_Y_isKept 69 = .ok (.ifCond .eq 7, 3) := by decide +kernel
theorem d_Y_isKept_72 : decode b_Y_isKept 72 = .ok (.iconst 1, 1) := by decide +kernel
theorem d_Y_isKept_73 : decode b_Y_isKept 73 = .ok (.goto 4, 3) := by decide +kernel
theorem d_Y_isKept_76 : decode b_Y_isKept 76 = .ok (.iconst 0, 1) := by decide +kernel
theorem d_Y_isKept_77 : decode b_Y_isKept 77 = .ok (.istore_n 2, 1) := by decide +kernel
theorem d_Y_isKept_78 : decode b_Y_isKept 78 = .ok (.iinc 3 1, 3) := by decide +kernel
theorem d_Y_isKept_81 : decode b_Y_isKept 81 = .ok (.goto (-34), 3) := by decide +kernel
theorem d_Y_isKept_84 : decode b_Y_isKept 84 = .ok (.iload_n 2, 1) := by decide +kernel
theorem d_Y_isKept_85 : decode b_Y_isKept 85 = .ok (.ireturn, 1) := by decide +kernel
theorem d_Y_work_0 : decode b_Y_work 0 = .ok (.aload_n 0, 1) := by decide +kernel
theorem d_Y_work_1 : decode b_Y_work 1 = .ok (.getfield 43, 3) := by decide +kernel
theorem d_Y_work_4 : decode b_Y_work 4 = .ok (.ifCond .eq 4, 3) := by decide +kernel
theorem d_Y_work_7 : decode b_Y_work 7 = .ok (.return_, 1) := by decide +kernel
theorem d_Y_work_8 : decode b_Y_work 8 = .ok (.iconst 1, 1) := by decide +kernel
theorem d_Y_work_9 : decode b_Y_work 9 = .ok (.aload_n 0, 1) := by decide +kernel
theorem d_Y_work_10 : decode b_Y_work 10 = .ok (.getfield 35, 3) := by decide +kernel
theorem d_Y_work_13 : decode b_Y_work 13 = .ok (.ishl, 1) := by decide +kernel
theorem d_Y_work_14 : decode b_Y_work 14 = .ok (.istore_n 1, 1) := by decide +kernel
theorem d_Y_work_15 : decode b_Y_work 15 = .ok (.iconst 0, 1) := by decide +kernel
theorem d_Y_work_16 : decode b_Y_work 16 = .ok (.istore_n 2, 1) := by decide +kernel
theorem d_Y_work_17 : decode b_Y_work 17 = .ok (.iload_n 2, 1) := by decide +kernel
theorem d_Y_work_18 : decode b_Y_work 18 = .ok (.iload_n 1, 1) := by decide +kernel
theorem d_Y_work_19 : decode b_Y_work 19 = .ok (.if_icmp .ge 20, 3) := by decide +kernel
theorem d_Y_work_22 : decode b_Y_work 22 = .ok (.aload_n 0, 1) := by decide +kernel
theorem d_Y_work_23 : decode b_Y_work 23 = .ok (.getfield 29, 3) := by decide +kernel
theorem d_Y_work_26 : decode b_Y_work 26 = .ok (.iload_n 2, 1) := by decide +kernel
theorem d_Y_work_27 : decode b_Y_work 27 = .ok (.aload_n 0, 1) := by decide +kernel
theorem d_Y_work_28 : decode b_Y_work 28 = .ok (.iload_n 2, 1) := by decide +kernel
theorem d_Y_work_29 : decode b_Y_work 29 = .ok (.invokevirtual 71, 3) := by decide +kernel
theorem d_Y_work_32 : decode b_Y_work 32 = .ok (.bastore, 1) := by decide +kernel
theorem d_Y_work_33 : decode b_Y_work 33 = .ok (.iinc 2 1, 3) := by decide +kernel
theorem d_Y_work_36 : decode b_Y_work 36 = .ok (.goto (-19), 3) := by decide +kernel
theorem d_Y_work_39 : decode b_Y_work 39 = .ok (.aload_n 0, 1) := by decide +kernel
theorem d_Y_work_40 : decode b_Y_work 40 = .ok (.iconst 0, 1) := by decide +kernel
theorem d_Y_work_41 : decode b_Y_work 41 = .ok (.putfield 74, 3) := by decide +kernel
theorem d_Y_work_44 : decode b_Y_work 44 = .ok (.iconst 0, 1) := by decide +kernel
theorem d_Y_work_45 : decode b_Y_work 45 = .ok (.istore_n 2, 1) := by decide +kernel
theorem d_Y_work_46 : decode b_Y_work 46 = .ok (.iload_n 2, 1) := by decide +kernel
theorem d_Y_work_47 : decode b_Y_work 47 = .ok (.iload_n 1, 1) := by decide +kernel
theorem d_Y_work_48 : decode b_Y_work 48 = .ok (.if_icmp .ge 84, 3) := by decide +kernel
theorem d_Y_work_51 : decode b_Y_work 51 = .ok (.aload_n 0, 1) := by decide +kernel
theorem d_Y_work_52 : decode b_Y_work 52 = .ok (.getfield 29, 3) := by decide +kernel
theorem d_Y_work_55 : decode b_Y_work 55 = .ok (.iload_n 2, 1) := by decide +kernel
theorem d_Y_work_56 : decode b_Y_work 56 = .ok (.baload, 1) := by decide +kernel
theorem d_Y_work_57 : decode b_Y_work 57 = .ok (.ifCond .ne 6, 3) := by decide +kernel
theorem d_Y_work_60 : decode b_Y_work 60 = .ok (.goto 66, 3) := by decide +kernel
theorem d_Y_work_63 : decode b_Y_work 63 = .ok (.iload_n 1, 1) := by decide +kernel
theorem d_Y_work_64 : decode b_Y_work 64 = .ok (.iconst 1, 1) := by decide +kernel
theorem d_Y_work_65 : decode b_Y_work 65 = .ok (.isub, 1) := by decide +kernel
theorem d_Y_work_66 : decode b_Y_work 66 = .ok (.istore_n 3, 1) := by decide +kernel
theorem d_Y_work_67 : decode b_Y_work 67 = .ok (.iload_n 3, 1) := by decide +kernel
theorem d_Y_work_68 : decode b_Y_work 68 = .ok (.ifCond .lt 31, 3) := by decide +kernel
theorem d_Y_work_71 : decode b_Y_work 71 = .ok (.aload_n 0, 1) := by decide +kernel
theorem d_Y_work_72 : decode b_Y_work 72 = .ok (.getfield 29, 3) := by decide +kernel
theorem d_Y_work_75 : decode b_Y_work 75 = .ok (.iload_n 3, 1) := by decide +kernel
theorem d_Y_work_76 : decode b_Y_work 76 = .ok (.baload, 1) := by decide +kernel
theorem d_Y_work_77 : decode b_Y_work 77 = .ok (.ifCond .eq 16, 3) := by decide +kernel
theorem d_Y_work_80 : decode b_Y_work 80 = .ok (.aload_n 0, 1) := by decide +kernel
theorem d_Y_work_81 : decode b_Y_work 81 = .ok (.iload_n 3, 1) := by decide +kernel
theorem d_Y_work_82 : decode b_Y_work 82 = .ok (.iload_n 2, 1) := by decide +kernel
theorem d_Y_work_83 : decode b_Y_work 83 = .ok (.aload_n 0, 1) := by decide +kernel
theorem d_Y_work_84 : decode b_Y_work 84 = .ok (.getfield 57, 3) := by decide +kernel
theorem d_Y_work_87 : decode b_Y_work 87 = .ok (.invokevirtual 67, 3) := by decide +kernel
theorem d_Y_work_90 : decode b_Y_work 90 = .ok (.ifCond .ne 9, 3) := by decide +kernel
theorem d_Y_work_93 : decode b_Y_work 93 = .ok (.iinc 3 (-1), 3) := by decide +kernel
theorem d_Y_work_96 : decode b_Y_work 96 = .ok (.goto (-29), 3) := by decide +kernel
theorem d_Y_work_99 : decode b_Y_work 99 = .ok (.iload_n 3, 1) := by decide +kernel
theorem d_Y_work_100 : decode b_Y_work 100 = .ok (.ifCond .lt 6, 3) := by decide +kernel
theorem d_Y_work_103 : decode b_Y_work 103 = .ok (.goto 23, 3) := by decide +kernel
theorem d_Y_work_106 : decode b_Y_work 106 = .ok (.aload_n 0, 1) := by decide +kernel
theorem d_Y_work_107 : decode b_Y_work 107 = .ok (.getfield 32, 3) := by decide +kernel
theorem d_Y_work_110 : decode b_Y_work 110 = .ok (.aload_n 0, 1) := by decide +kernel
theorem d_Y_work_111 : decode b_Y_work 111 = .ok (.getfield 74, 3) := by decide +kernel
theorem d_Y_work_114 : decode b_Y_work 114 = .ok (.iload_n 2, 1) := by decide +kernel
theorem d_Y_work_115 : decode b_Y_work 115 = .ok (.iastore, 1) := by decide +kernel
theorem d_Y_work_116 : decode b_Y_work 116 = .ok (.aload_n 0, 1) := by decide +kernel
theorem d_Y_work_117 : decode b_Y_work 117 = .ok (.dup, 1) := by decide +kernel
theorem d_Y_work_118 : decode b_Y_work 118 = .ok (.getfield 74, 3) := by decide +kernel
theorem d_Y_work_121 : decode b_Y_work 121 = .ok (.iconst 1, 1) := by decide +kernel
theorem d_Y_work_122 : decode b_Y_work 122 = .ok (.iadd, 1) := by decide +kernel
theorem d_Y_work_123 : decode b_Y_work 123 = .ok (.putfield 74, 3) := by decide +kernel
theorem d_Y_work_126 : decode b_Y_work 126 = .ok (.iinc 2 1, 3) := by decide +kernel
theorem d_Y_work_129 : decode b_Y_work 129 = .ok (.goto (-83), 3) := by decide +kernel
theorem d_Y_work_132 : decode b_Y_work 132 = .ok (.aload_n 0, 1) := by decide +kernel
theorem d_Y_work_133 : decode b_Y_work 133 = .ok (.iconst 1, 1) := by decide +kernel
theorem d_Y_work_134 : decode b_Y_work 134 = .ok (.putfield 43, 3) := by decide +kernel
theorem d_Y_work_137 : decode b_Y_work 137 = .ok (.return_, 1) := by decide +kernel
theorem d_Y_find_0 : decode b_Y_find 0 = .ok (.aload_n 0, 1) := by decide +kernel
theorem d_Y_find_1 : decode b_Y_find 1 = .ok (.invokevirtual 77, 3) := by decide +kernel
theorem d_Y_find_4 : decode b_Y_find 4 = .ok (.aload_n 0, 1) := by decide +kernel
theorem d_Y_find_5 : decode b_Y_find 5 = .ok (.getfield 74, 3) := by decide +kernel
theorem d_Y_find_8 : decode b_Y_find 8 = .ok (.ireturn, 1) := by decide +kernel
theorem d_Y_kept_0 : decode b_Y_kept 0 = .ok (.aload_n 0, 1) := by decide +kernel
theorem d_Y_kept_1 : decode b_Y_kept 1 = .ok (.invokevirtual 77, 3) := by decide +kernel
theorem d_Y_kept_4 : decode b_Y_kept 4 = .ok (.iload_n 1, 1) := by decide +kernel
theorem d_Y_kept_5 : decode b_Y_kept 5 = .ok (.ifCond .lt 20, 3) := by decide +kernel
theorem d_Y_kept_8 : decode b_Y_kept 8 = .ok (.iload_n 1, 1) := by decide +kernel
theorem d_Y_kept_9 : decode b_Y_kept 9 = .ok (.aload_n 0, 1) := by decide +kernel
theorem d_Y_kept_10 : decode b_Y_kept 10 = .ok (.getfield 74, 3) := by decide +kernel
theorem d_Y_kept_13 : decode b_Y_kept 13 = .ok (.if_icmp .ge 12, 3) := by decide +kernel
theorem d_Y_kept_16 : decode b_Y_kept 16 = .ok (.aload_n 0, 1) := by decide +kernel
theorem d_Y_kept_17 : decode b_Y_kept 17 = .ok (.getfield 32, 3) := by decide +kernel
theorem d_Y_kept_20 : decode b_Y_kept 20 = .ok (.iload_n 1, 1) := by decide +kernel
theorem d_Y_kept_21 : decode b_Y_kept 21 = .ok (.iaload, 1) := by decide +kernel
theorem d_Y_kept_22 : decode b_Y_kept 22 = .ok (.goto 5, 3) := by decide +kernel
theorem d_Y_kept_25 : decode b_Y_kept 25 = .ok (.bipush (-2), 2) := by decide +kernel
theorem d_Y_kept_27 : decode b_Y_kept 27 = .ok (.ireturn, 1) := by decide +kernel
theorem d_Y_left_0 : decode b_Y_left 0 = .ok (.aload_n 0, 1) := by decide +kernel
theorem d_Y_left_1 : decode b_Y_left 1 = .ok (.invokevirtual 77, 3) := by decide +kernel
theorem d_Y_left_4 : decode b_Y_left 4 = .ok (.iload_n 1, 1) := by decide +kernel
theorem d_Y_left_5 : decode b_Y_left 5 = .ok (.ifCond .lt 15, 3) := by decide +kernel
theorem d_Y_left_8 : decode b_Y_left 8 = .ok (.iload_n 1, 1) := by decide +kernel
theorem d_Y_left_9 : decode b_Y_left 9 = .ok (.aload_n 0, 1) := by decide +kernel
theorem d_Y_left_10 : decode b_Y_left 10 = .ok (.getfield 74, 3) := by decide +kernel
theorem d_Y_left_13 : decode b_Y_left 13 = .ok (.if_icmp .ge 7, 3) := by decide +kernel
theorem d_Y_left_16 : decode b_Y_left 16 = .ok (.iload_n 2, 1) := by decide +kernel
theorem d_Y_left_17 : decode b_Y_left 17 = .ok (.ifCond .ge 6, 3) := by decide +kernel
theorem d_Y_left_20 : decode b_Y_left 20 = .ok (.bipush (-2), 2) := by decide +kernel
theorem d_Y_left_22 : decode b_Y_left 22 = .ok (.ireturn, 1) := by decide +kernel
theorem d_Y_left_23 : decode b_Y_left 23 = .ok (.iload_n 2, 1) := by decide +kernel
theorem d_Y_left_24 : decode b_Y_left 24 = .ok (.istore_n 3, 1) := by decide +kernel
theorem d_Y_left_25 : decode b_Y_left 25 = .ok (.iconst 0, 1) := by decide +kernel
theorem d_Y_left_26 : decode b_Y_left 26 = .ok (.istore 4, 2) := by decide +kernel
theorem d_Y_left_28 : decode b_Y_left 28 = .ok (.iload 4, 2) := by decide +kernel
theorem d_Y_left_30 : decode b_Y_left 30 = .ok (.aload_n 0, 1) := by decide +kernel
theorem d_Y_left_31 : decode b_Y_left 31 = .ok (.getfield 35, 3) := by decide +kernel
theorem d_Y_left_34 : decode b_Y_left 34 = .ok (.if_icmp .ge 36, 3) := by decide +kernel
theorem d_Y_left_37 : decode b_Y_left 37 = .ok (.aload_n 0, 1) := by decide +kernel
theorem d_Y_left_38 : decode b_Y_left 38 = .ok (.getfield 32, 3) := by decide +kernel
theorem d_Y_left_41 : decode b_Y_left 41 = .ok (.iload_n 1, 1) := by decide +kernel
theorem d_Y_left_42 : decode b_Y_left 42 = .ok (.iaload, 1) := by decide +kernel
theorem d_Y_left_43 : decode b_Y_left 43 = .ok (.iload 4, 2) := by decide +kernel
theorem d_Y_left_45 : decode b_Y_left 45 = .ok (.invokestatic 60, 3) := by decide +kernel
theorem d_Y_left_48 : decode b_Y_left 48 = .ok (.ifCond .eq 6, 3) := by decide +kernel
theorem d_Y_left_51 : decode b_Y_left 51 = .ok (.goto 13, 3) := by decide +kernel
theorem d_Y_left_54 : decode b_Y_left 54 = .ok (.iload_n 3, 1) := by decide +kernel
theorem d_Y_left_55 : decode b_Y_left 55 = .ok (.ifCond .ne 6, 3) := by decide +kernel
theorem d_Y_left_58 : decode b_Y_left 58 = .ok (.iload 4, 2) := by decide +kernel
theorem d_Y_left_60 : decode b_Y_left 60 = .ok (.ireturn, 1) := by decide +kernel
theorem d_Y_left_61 : decode b_Y_left 61 = .ok (.iinc 3 (-1), 3) := by decide +kernel
theorem d_Y_left_64 : decode b_Y_left 64 = .ok (.iinc 4 1, 3) := by decide +kernel
theorem d_Y_left_67 : decode b_Y_left 67 = .ok (.goto (-39), 3) := by decide +kernel
theorem d_Y_left_70 : decode b_Y_left 70 = .ok (.bipush (-2), 2) := by decide +kernel
theorem d_Y_left_72 : decode b_Y_left 72 = .ok (.ireturn, 1) := by decide +kernel
theorem d_Y_told_0 : decode b_Y_told 0 = .ok (.aload_n 0, 1) := by decide +kernel
theorem d_Y_told_1 : decode b_Y_told 1 = .ok (.getfield 74, 3) := by decide +kernel
theorem d_Y_told_4 : decode b_Y_told 4 = .ok (.ifCond .ne 8, 3) := by decide +kernel
theorem d_Y_told_7 : decode b_Y_told 7 = .ok (.bipush (-2), 2) := by decide +kernel
theorem d_Y_told_9 : decode b_Y_told 9 = .ok (.goto 24, 3) := by decide +kernel
theorem d_Y_told_12 : decode b_Y_told 12 = .ok (.iload_n 1, 1) := by decide +kernel
theorem d_Y_told_13 : decode b_Y_told 13 = .ok (.aload_n 0, 1) := by decide +kernel
theorem d_Y_told_14 : decode b_Y_told 14 = .ok (.getfield 74, 3) := by decide +kernel
theorem d_Y_told_17 : decode b_Y_told 17 = .ok (.if_icmp .ne 7, 3) := by decide +kernel
theorem d_Y_told_20 : decode b_Y_told 20 = .ok (.iconst 2, 1) := by decide +kernel
theorem d_Y_told_21 : decode b_Y_told 21 = .ok (.goto 12, 3) := by decide +kernel
theorem d_Y_told_24 : decode b_Y_told 24 = .ok (.iload_n 1, 1) := by decide +kernel
theorem d_Y_told_25 : decode b_Y_told 25 = .ok (.ifCond .le 7, 3) := by decide +kernel
theorem d_Y_told_28 : decode b_Y_told 28 = .ok (.iconst 1, 1) := by decide +kernel
theorem d_Y_told_29 : decode b_Y_told 29 = .ok (.goto 4, 3) := by decide +kernel
theorem d_Y_told_32 : decode b_Y_told 32 = .ok (.iconst 0, 1) := by decide +kernel
theorem d_Y_told_33 : decode b_Y_told 33 = .ok (.ireturn, 1) := by decide +kernel
theorem d_Y_truth_0 : decode b_Y_truth 0 = .ok (.iload_n 1, 1) := by decide +kernel
theorem d_Y_truth_1 : decode b_Y_truth 1 = .ok (.ifCond .lt 9, 3) := by decide +kernel
theorem d_Y_truth_4 : decode b_Y_truth 4 = .ok (.iload_n 1, 1) := by decide +kernel
theorem d_Y_truth_5 : decode b_Y_truth 5 = .ok (.bipush 8, 2) := by decide +kernel
theorem d_Y_truth_7 : decode b_Y_truth 7 = .ok (.if_icmp .lt 5, 3) := by decide +kernel
theorem d_Y_truth_10 : decode b_Y_truth 10 = .ok (.iconst (-1), 1) := by decide +kernel
theorem d_Y_truth_11 : decode b_Y_truth 11 = .ok (.ireturn, 1) := by decide +kernel
theorem d_Y_truth_12 : decode b_Y_truth 12 = .ok (.aload_n 0, 1) := by decide +kernel
theorem d_Y_truth_13 : decode b_Y_truth 13 = .ok (.invokevirtual 77, 3) := by decide +kernel
theorem d_Y_truth_16 : decode b_Y_truth 16 = .ok (.iconst 0, 1) := by decide +kernel
theorem d_Y_truth_17 : decode b_Y_truth 17 = .ok (.istore_n 2, 1) := by decide +kernel
theorem d_Y_truth_18 : decode b_Y_truth 18 = .ok (.iconst 0, 1) := by decide +kernel
theorem d_Y_truth_19 : decode b_Y_truth 19 = .ok (.istore_n 3, 1) := by decide +kernel
theorem d_Y_truth_20 : decode b_Y_truth 20 = .ok (.iload_n 3, 1) := by decide +kernel
theorem d_Y_truth_21 : decode b_Y_truth 21 = .ok (.aload_n 0, 1) := by decide +kernel
theorem d_Y_truth_22 : decode b_Y_truth 22 = .ok (.getfield 74, 3) := by decide +kernel
theorem d_Y_truth_25 : decode b_Y_truth 25 = .ok (.if_icmp .ge 85, 3) := by decide +kernel
theorem d_Y_truth_28 : decode b_Y_truth 28 = .ok (.iconst 0, 1) := by decide +kernel
theorem d_Y_truth_29 : decode b_Y_truth 29 = .ok (.istore 4, 2) := by decide +kernel
theorem d_Y_truth_31 : decode b_Y_truth 31 = .ok (.iconst 0, 1) := by decide +kernel
theorem d_Y_truth_32 : decode b_Y_truth 32 = .ok (.istore 5, 2) := by decide +kernel
theorem d_Y_truth_34 : decode b_Y_truth 34 = .ok (.iload 5, 2) := by decide +kernel
theorem d_Y_truth_36 : decode b_Y_truth 36 = .ok (.aload_n 0, 1) := by decide +kernel
theorem d_Y_truth_37 : decode b_Y_truth 37 = .ok (.getfield 54, 3) := by decide +kernel
theorem d_Y_truth_40 : decode b_Y_truth 40 = .ok (.if_icmp .ge 51, 3) := by decide +kernel
theorem d_Y_truth_43 : decode b_Y_truth 43 = .ok (.iload 4, 2) := by decide +kernel
theorem d_Y_truth_45 : decode b_Y_truth 45 = .ok (.ifCond .ne 33, 3) := by decide +kernel
theorem d_Y_truth_48 : decode b_Y_truth 48 = .ok (.aload_n 0, 1) := by decide +kernel
theorem d_Y_truth_49 : decode b_Y_truth 49 = .ok (.getfield 23, 3) := by decide +kernel
theorem d_Y_truth_52 : decode b_Y_truth 52 = .ok (.iload 5, 2) := by decide +kernel
theorem d_Y_truth_54 : decode b_Y_truth 54 = .ok (.iaload, 1) := by decide +kernel
theorem d_Y_truth_55 : decode b_Y_truth 55 = .ok (.iload_n 1, 1) := by decide +kernel
theorem d_Y_truth_56 : decode b_Y_truth 56 = .ok (.if_icmp .ne 26, 3) := by decide +kernel
theorem d_Y_truth_59 : decode b_Y_truth 59 = .ok (.aload_n 0, 1) := by decide +kernel
theorem d_Y_truth_60 : decode b_Y_truth 60 = .ok (.getfield 26, 3) := by decide +kernel
theorem d_Y_truth_63 : decode b_Y_truth 63 = .ok (.iload 5, 2) := by decide +kernel
theorem d_Y_truth_65 : decode b_Y_truth 65 = .ok (.iaload, 1) := by decide +kernel
theorem d_Y_truth_66 : decode b_Y_truth 66 = .ok (.aload_n 0, 1) := by decide +kernel
theorem d_Y_truth_67 : decode b_Y_truth 67 = .ok (.getfield 32, 3) := by decide +kernel
theorem d_Y_truth_70 : decode b_Y_truth 70 = .ok (.iload_n 3, 1) := by decide +kernel
theorem d_Y_truth_71 : decode b_Y_truth 71 = .ok (.iaload, 1) := by decide +kernel
theorem d_Y_truth_72 : decode b_Y_truth 72 = .ok (.iconst (-1), 1) := by decide +kernel
theorem d_Y_truth_73 : decode b_Y_truth 73 = .ok (.ixor, 1) := by decide +kernel
theorem d_Y_truth_74 : decode b_Y_truth 74 = .ok (.iand, 1) := by decide +kernel
theorem d_Y_truth_75 : decode b_Y_truth 75 = .ok (.ifCond .ne 7, 3) := by decide +kernel
theorem d_Y_truth_78 : decode b_Y_truth 78 = .ok (.iconst 1, 1) := by decide +kernel
theorem d_Y_truth_79 : decode b_Y_truth 79 = .ok (.goto 4, 3) := by decide +kernel
theorem d_Y_truth_82 : decode b_Y_truth 82 = .ok (.iconst 0, 1) := by decide +kernel
theorem d_Y_truth_83 : decode b_Y_truth 83 = .ok (.istore 4, 2) := by decide +kernel
theorem d_Y_truth_85 : decode b_Y_truth 85 = .ok (.iinc 5 1, 3) := by decide +kernel
theorem d_Y_truth_88 : decode b_Y_truth 88 = .ok (.goto (-54), 3) := by decide +kernel
theorem d_Y_truth_91 : decode b_Y_truth 91 = .ok (.iload_n 2, 1) := by decide +kernel
theorem d_Y_truth_92 : decode b_Y_truth 92 = .ok (.iload 4, 2) := by decide +kernel
theorem d_Y_truth_94 : decode b_Y_truth 94 = .ok (.ifCond .eq 7, 3) := by decide +kernel
theorem d_Y_truth_97 : decode b_Y_truth 97 = .ok (.iconst 1, 1) := by decide +kernel
theorem d_Y_truth_98 : decode b_Y_truth 98 = .ok (.goto 4, 3) := by decide +kernel
theorem d_Y_truth_101 : decode b_Y_truth 101 = .ok (.iconst 0, 1) := by decide +kernel
theorem d_Y_truth_102 : decode b_Y_truth 102 = .ok (.iadd, 1) := by decide +kernel
theorem d_Y_truth_103 : decode b_Y_truth 103 = .ok (.istore_n 2, 1) := by decide +kernel
theorem d_Y_truth_104 : decode b_Y_truth 104 = .ok (.iinc 3 1, 3) := by decide +kernel
theorem d_Y_truth_107 : decode b_Y_truth 107 = .ok (.goto (-87), 3) := by decide +kernel
theorem d_Y_truth_110 : decode b_Y_truth 110 = .ok (.aload_n 0, 1) := by decide +kernel
theorem d_Y_truth_111 : decode b_Y_truth 111 = .ok (.iload_n 2, 1) := by decide +kernel
theorem d_Y_truth_112 : decode b_Y_truth 112 = .ok (.invokevirtual 80, 3) := by decide +kernel
theorem d_Y_truth_115 : decode b_Y_truth 115 = .ok (.ireturn, 1) := by decide +kernel
theorem d_Y_surely_0 : decode b_Y_surely 0 = .ok (.aload_n 0, 1) := by decide +kernel
theorem d_Y_surely_1 : decode b_Y_surely 1 = .ok (.iload_n 1, 1) := by decide +kernel
theorem d_Y_surely_2 : decode b_Y_surely 2 = .ok (.invokevirtual 47, 3) := by decide +kernel
theorem d_Y_surely_5 : decode b_Y_surely 5 = .ok (.ifCond .ne 5, 3) := by decide +kernel
theorem d_Y_surely_8 : decode b_Y_surely 8 = .ok (.iconst (-1), 1) := by decide +kernel
theorem d_Y_surely_9 : decode b_Y_surely 9 = .ok (.ireturn, 1) := by decide +kernel
theorem d_Y_surely_10 : decode b_Y_surely 10 = .ok (.aload_n 0, 1) := by decide +kernel
theorem d_Y_surely_11 : decode b_Y_surely 11 = .ok (.invokevirtual 77, 3) := by decide +kernel
theorem d_Y_surely_14 : decode b_Y_surely 14 = .ok (.iconst 0, 1) := by decide +kernel
theorem d_Y_surely_15 : decode b_Y_surely 15 = .ok (.istore_n 2, 1) := by decide +kernel
theorem d_Y_surely_16 : decode b_Y_surely 16 = .ok (.iconst 0, 1) := by decide +kernel
theorem d_Y_surely_17 : decode b_Y_surely 17 = .ok (.istore_n 3, 1) := by decide +kernel
theorem d_Y_surely_18 : decode b_Y_surely 18 = .ok (.iload_n 3, 1) := by decide +kernel
theorem d_Y_surely_19 : decode b_Y_surely 19 = .ok (.aload_n 0, 1) := by decide +kernel
theorem d_Y_surely_20 : decode b_Y_surely 20 = .ok (.getfield 74, 3) := by decide +kernel
theorem d_Y_surely_23 : decode b_Y_surely 23 = .ok (.if_icmp .ge 30, 3) := by decide +kernel
theorem d_Y_surely_26 : decode b_Y_surely 26 = .ok (.iload_n 2, 1) := by decide +kernel
theorem d_Y_surely_27 : decode b_Y_surely 27 = .ok (.aload_n 0, 1) := by decide +kernel
theorem d_Y_surely_28 : decode b_Y_surely 28 = .ok (.getfield 32, 3) := by decide +kernel
theorem d_Y_surely_31 : decode b_Y_surely 31 = .ok (.iload_n 3, 1) := by decide +kernel
theorem d_Y_surely_32 : decode b_Y_surely 32 = .ok (.iaload, 1) := by decide +kernel
theorem d_Y_surely_33 : decode b_Y_surely 33 = .ok (.iload_n 1, 1) := by decide +kernel
theorem d_Y_surely_34 : decode b_Y_surely 34 = .ok (.invokestatic 60, 3) := by decide +kernel
theorem d_Y_surely_37 : decode b_Y_surely 37 = .ok (.ifCond .eq 7, 3) := by decide +kernel
theorem d_Y_surely_40 : decode b_Y_surely 40 = .ok (.iconst 1, 1) := by decide +kernel
theorem d_Y_surely_41 : decode b_Y_surely 41 = .ok (.goto 4, 3) := by decide +kernel
theorem d_Y_surely_44 : decode b_Y_surely 44 = .ok (.iconst 0, 1) := by decide +kernel
theorem d_Y_surely_45 : decode b_Y_surely 45 = .ok (.iadd, 1) := by decide +kernel
theorem d_Y_surely_46 : decode b_Y_surely 46 = .ok (.istore_n 2, 1) := by decide +kernel
theorem d_Y_surely_47 : decode b_Y_surely 47 = .ok (.iinc 3 1, 3) := by decide +kernel
theorem d_Y_surely_50 : decode b_Y_surely 50 = .ok (.goto (-32), 3) := by decide +kernel
theorem d_Y_surely_53 : decode b_Y_surely 53 = .ok (.aload_n 0, 1) := by decide +kernel
theorem d_Y_surely_54 : decode b_Y_surely 54 = .ok (.iload_n 2, 1) := by decide +kernel
theorem d_Y_surely_55 : decode b_Y_surely 55 = .ok (.invokevirtual 80, 3) := by decide +kernel
theorem d_Y_surely_58 : decode b_Y_surely 58 = .ok (.ireturn, 1) := by decide +kernel
theorem d_Y_isLeast_0 : decode b_Y_isLeast 0 = .ok (.iload_n 1, 1) := by decide +kernel
theorem d_Y_isLeast_1 : decode b_Y_isLeast 1 = .ok (.aload_n 0, 1) := by decide +kernel
theorem d_Y_isLeast_2 : decode b_Y_isLeast 2 = .ok (.getfield 35, 3) := by decide +kernel
theorem d_Y_isLeast_5 : decode b_Y_isLeast 5 = .ok (.ishr, 1) := by decide +kernel
theorem d_Y_isLeast_6 : decode b_Y_isLeast 6 = .ok (.ifCond .eq 5, 3) := by decide +kernel
theorem d_Y_isLeast_9 : decode b_Y_isLeast 9 = .ok (.iconst 0, 1) := by decide +kernel
theorem d_Y_isLeast_10 : decode b_Y_isLeast 10 = .ok (.ireturn, 1) := by decide +kernel
theorem d_Y_isLeast_11 : decode b_Y_isLeast 11 = .ok (.iconst 0, 1) := by decide +kernel
theorem d_Y_isLeast_12 : decode b_Y_isLeast 12 = .ok (.istore_n 2, 1) := by decide +kernel
theorem d_Y_isLeast_13 : decode b_Y_isLeast 13 = .ok (.iconst 1, 1) := by decide +kernel
theorem d_Y_isLeast_14 : decode b_Y_isLeast 14 = .ok (.istore_n 3, 1) := by decide +kernel
theorem d_Y_isLeast_15 : decode b_Y_isLeast 15 = .ok (.iconst 0, 1) := by decide +kernel
theorem d_Y_isLeast_16 : decode b_Y_isLeast 16 = .ok (.istore 4, 2) := by decide +kernel
theorem d_Y_isLeast_18 : decode b_Y_isLeast 18 = .ok (.iload 4, 2) := by decide +kernel
theorem d_Y_isLeast_20 : decode b_Y_isLeast 20 = .ok (.aload_n 0, 1) := by decide +kernel
theorem d_Y_isLeast_21 : decode b_Y_isLeast 21 = .ok (.getfield 51, 3) := by decide +kernel
theorem d_Y_isLeast_24 : decode b_Y_isLeast 24 = .ok (.if_icmp .ge 65, 3) := by decide +kernel
theorem d_Y_isLeast_27 : decode b_Y_isLeast 27 = .ok (.iload_n 2, 1) := by decide +kernel
theorem d_Y_isLeast_28 : decode b_Y_isLeast 28 = .ok (.ifCond .ne 14, 3) := by decide +kernel
theorem d_Y_isLeast_31 : decode b_Y_isLeast 31 = .ok (.aload_n 0, 1) := by decide +kernel
theorem d_Y_isLeast_32 : decode b_Y_isLeast 32 = .ok (.getfield 20, 3) := by decide +kernel
theorem d_Y_isLeast_35 : decode b_Y_isLeast 35 = .ok (.iload 4, 2) := by decide +kernel
theorem d_Y_isLeast_37 : decode b_Y_isLeast 37 = .ok (.iaload, 1) := by decide +kernel
theorem d_Y_isLeast_38 : decode b_Y_isLeast 38 = .ok (.iload_n 1, 1) := by decide +kernel
theorem d_Y_isLeast_39 : decode b_Y_isLeast 39 = .ok (.if_icmp .ne 7, 3) := by decide +kernel
theorem d_Y_isLeast_42 : decode b_Y_isLeast 42 = .ok (.iconst 1, 1) := by decide +kernel
theorem d_Y_isLeast_43 : decode b_Y_isLeast 43 = .ok (.goto 4, 3) := by decide +kernel
theorem d_Y_isLeast_46 : decode b_Y_isLeast 46 = .ok (.iconst 0, 1) := by decide +kernel
theorem d_Y_isLeast_47 : decode b_Y_isLeast 47 = .ok (.istore_n 2, 1) := by decide +kernel
theorem d_Y_isLeast_48 : decode b_Y_isLeast 48 = .ok (.iload_n 3, 1) := by decide +kernel
theorem d_Y_isLeast_49 : decode b_Y_isLeast 49 = .ok (.ifCond .eq 32, 3) := by decide +kernel
theorem d_Y_isLeast_52 : decode b_Y_isLeast 52 = .ok (.aload_n 0, 1) := by decide +kernel
theorem d_Y_isLeast_53 : decode b_Y_isLeast 53 = .ok (.getfield 20, 3) := by decide +kernel
theorem d_Y_isLeast_56 : decode b_Y_isLeast 56 = .ok (.iload 4, 2) := by decide +kernel
theorem d_Y_isLeast_58 : decode b_Y_isLeast 58 = .ok (.iaload, 1) := by decide +kernel
theorem d_Y_isLeast_59 : decode b_Y_isLeast 59 = .ok (.iload_n 1, 1) := by decide +kernel
theorem d_Y_isLeast_60 : decode b_Y_isLeast 60 = .ok (.if_icmp .eq 17, 3) := by decide +kernel
theorem d_Y_isLeast_63 : decode b_Y_isLeast 63 = .ok (.aload_n 0, 1) := by decide +kernel
theorem d_Y_isLeast_64 : decode b_Y_isLeast 64 = .ok (.getfield 20, 3) := by decide +kernel
theorem d_Y_isLeast_67 : decode b_Y_isLeast 67 = .ok (.iload 4, 2) := by decide +kernel
theorem d_Y_isLeast_69 : decode b_Y_isLeast 69 = .ok (.iaload, 1) := by decide +kernel
theorem d_Y_isLeast_70 : decode b_Y_isLeast 70 = .ok (.iload_n 1, 1) := by decide +kernel
theorem d_Y_isLeast_71 : decode b_Y_isLeast 71 = .ok (.iconst (-1), 1) := by decide +kernel
theorem d_Y_isLeast_72 : decode b_Y_isLeast 72 = .ok (.ixor, 1) := by decide +kernel
theorem d_Y_isLeast_73 : decode b_Y_isLeast 73 = .ok (.iand, 1) := by decide +kernel
theorem d_Y_isLeast_74 : decode b_Y_isLeast 74 = .ok (.ifCond .eq 7, 3) := by decide +kernel
theorem d_Y_isLeast_77 : decode b_Y_isLeast 77 = .ok (.iconst 1, 1) := by decide +kernel
theorem d_Y_isLeast_78 : decode b_Y_isLeast 78 = .ok (.goto 4, 3) := by decide +kernel
theorem d_Y_isLeast_81 : decode b_Y_isLeast 81 = .ok (.iconst 0, 1) := by decide +kernel
theorem d_Y_isLeast_82 : decode b_Y_isLeast 82 = .ok (.istore_n 3, 1) := by decide +kernel
theorem d_Y_isLeast_83 : decode b_Y_isLeast 83 = .ok (.iinc 4 1, 3) := by decide +kernel
theorem d_Y_isLeast_86 : decode b_Y_isLeast 86 = .ok (.goto (-68), 3) := by decide +kernel
theorem d_Y_isLeast_89 : decode b_Y_isLeast 89 = .ok (.iload_n 2, 1) := by decide +kernel
theorem d_Y_isLeast_90 : decode b_Y_isLeast 90 = .ok (.ifCond .eq 11, 3) := by decide +kernel
theorem d_Y_isLeast_93 : decode b_Y_isLeast 93 = .ok (.iload_n 3, 1) := by decide +kernel
theorem d_Y_isLeast_94 : decode b_Y_isLeast 94 = .ok (.ifCond .eq 7, 3) := by decide +kernel
theorem d_Y_isLeast_97 : decode b_Y_isLeast 97 = .ok (.iconst 1, 1) := by decide +kernel
theorem d_Y_isLeast_98 : decode b_Y_isLeast 98 = .ok (.goto 4, 3) := by decide +kernel
theorem d_Y_isLeast_101 : decode b_Y_isLeast 101 = .ok (.iconst 0, 1) := by decide +kernel
theorem d_Y_isLeast_102 : decode b_Y_isLeast 102 = .ok (.ireturn, 1) := by decide +kernel
theorem d_Y_least_0 : decode b_Y_least 0 = .ok (.iload_n 1, 1) := by decide +kernel
theorem d_Y_least_1 : decode b_Y_least 1 = .ok (.istore_n 2, 1) := by decide +kernel
theorem d_Y_least_2 : decode b_Y_least 2 = .ok (.iconst 0, 1) := by decide +kernel
theorem d_Y_least_3 : decode b_Y_least 3 = .ok (.istore_n 3, 1) := by decide +kernel
theorem d_Y_least_4 : decode b_Y_least 4 = .ok (.iload_n 3, 1) := by decide +kernel
theorem d_Y_least_5 : decode b_Y_least 5 = .ok (.sipush 2048, 3) := by decide +kernel
theorem d_Y_least_8 : decode b_Y_least 8 = .ok (.if_icmp .ge 33, 3) := by decide +kernel
theorem d_Y_least_11 : decode b_Y_least 11 = .ok (.iload_n 1, 1) := by decide +kernel
theorem d_Y_least_12 : decode b_Y_least 12 = .ok (.ifCond .lt 29, 3) := by decide +kernel
theorem d_Y_least_15 : decode b_Y_least 15 = .ok (.aload_n 0, 1) := by decide +kernel
theorem d_Y_least_16 : decode b_Y_least 16 = .ok (.iload_n 3, 1) := by decide +kernel
theorem d_Y_least_17 : decode b_Y_least 17 = .ok (.invokevirtual 84, 3) := by decide +kernel
theorem d_Y_least_20 : decode b_Y_least 20 = .ok (.ifCond .ne 6, 3) := by decide +kernel
theorem d_Y_least_23 : decode b_Y_least 23 = .ok (.goto 12, 3) := by decide +kernel
theorem d_Y_least_26 : decode b_Y_least 26 = .ok (.iload_n 2, 1) := by decide +kernel
theorem d_Y_least_27 : decode b_Y_least 27 = .ok (.ifCond .ne 5, 3) := by decide +kernel
theorem d_Y_least_30 : decode b_Y_least 30 = .ok (.iload_n 3, 1) := by decide +kernel
theorem d_Y_least_31 : decode b_Y_least 31 = .ok (.ireturn, 1) := by decide +kernel
theorem d_Y_least_32 : decode b_Y_least 32 = .ok (.iinc 2 (-1), 3) := by decide +kernel
theorem d_Y_least_35 : decode b_Y_least 35 = .ok (.iinc 3 1, 3) := by decide +kernel
theorem d_Y_least_38 : decode b_Y_least 38 = .ok (.goto (-34), 3) := by decide +kernel
theorem d_Y_least_41 : decode b_Y_least 41 = .ok (.bipush (-2), 2) := by decide +kernel
theorem d_Y_least_43 : decode b_Y_least 43 = .ok (.ireturn, 1) := by decide +kernel
theorem d_Y_size_0 : decode b_Y_size 0 = .ok (.aload_n 0, 1) := by decide +kernel
theorem d_Y_size_1 : decode b_Y_size 1 = .ok (.getfield 35, 3) := by decide +kernel
theorem d_Y_size_4 : decode b_Y_size 4 = .ok (.ireturn, 1) := by decide +kernel
