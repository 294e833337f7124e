theorem dX4_joined_72 : decode cX4_joined 72 = .ok (.iload_n 1, 1) := by decide +kernel
theorem dX4_joined_73 : decode cX4_joined 73 = .ok (.iload_n 2, 1) := by decide +kernel
theorem dX4_joined_74 : decode cX4_joined 74 = .ok (.irem, 1) := by decide +kernel
theorem dX4_joined_75 : decode cX4_joined 75 = .ok (.ireturn, 1) := by decide +kernel
theorem dX4_joined_76 : decode cX4_joined 76 = .ok (.iload_n 1, 1) := by decide +kernel
theorem dX4_joined_77 : decode cX4_joined 77 = .ok (.iload_n 2, 1) := by decide +kernel
theorem dX4_joined_78 : decode cX4_joined 78 = .ok (.if_icmp .ge 7, 3) := by decide +kernel
theorem dX4_joined_81 : decode cX4_joined 81 = .ok (.iload_n 1, 1) := by decide +kernel
theorem dX4_joined_82 : decode cX4_joined 82 = .ok (.goto 4, 3) := by decide +kernel
theorem dX4_joined_85 : decode cX4_joined 85 = .ok (.iload_n 2, 1) := by decide +kernel
theorem dX4_joined_86 : decode cX4_joined 86 = .ok (.ireturn, 1) := by decide +kernel
theorem dX4_joined_87 : decode cX4_joined 87 = .ok (.iload_n 1, 1) := by decide +kernel
theorem dX4_joined_88 : decode cX4_joined 88 = .ok (.iload_n 2, 1) := by decide +kernel
theorem dX4_joined_89 : decode cX4_joined 89 = .ok (.if_icmp .le 7, 3) := by decide +kernel
theorem dX4_joined_92 : decode cX4_joined 92 = .ok (.iload_n 1, 1) := by decide +kernel
theorem dX4_joined_93 : decode cX4_joined 93 = .ok (.goto 4, 3) := by decide +kernel
theorem dX4_joined_96 : decode cX4_joined 96 = .ok (.iload_n 2, 1) := by decide +kernel
theorem dX4_joined_97 : decode cX4_joined 97 = .ok (.ireturn, 1) := by decide +kernel
theorem dX5_init_0 : decode cX5_init 0 = .ok (.aload_n 0, 1) := by decide +kernel
theorem dX5_init_1 : decode cX5_init 1 = .ok (.invokespecial 3, 3) := by decide +kernel
theorem dX5_init_4 : decode cX5_init 4 = .ok (.aload_n 0, 1) := by decide +kernel
theorem dX5_init_5 : decode cX5_init 5 = .ok (.sipush 1088, 3) := by decide +kernel
theorem dX5_init_8 : decode cX5_init 8 = .ok (.newarray .int, 2) := by decide +kernel
theorem dX5_init_10 : decode cX5_init 10 = .ok (.putfield 11, 3) := by decide +kernel
theorem dX5_init_13 : decode cX5_init 13 = .ok (.return_, 1) := by decide +kernel
theorem dX5_push_0 : decode cX5_push 0 = .ok (.aload_n 0, 1) := by decide +kernel
theorem dX5_push_1 : decode cX5_push 1 = .ok (.getfield 17, 3) := by decide +kernel
theorem dX5_push_4 : decode cX5_push 4 = .ok (.bipush 16, 2) := by decide +kernel
theorem dX5_push_6 : decode cX5_push 6 = .ok (.if_icmp .gt 34, 3) := by decide +kernel
theorem dX5_push_9 : decode cX5_push 9 = .ok (.aload_n 1, 1) := by decide +kernel
theorem dX5_push_10 : decode cX5_push 10 = .ok (.getfield 21, 3) := by decide +kernel
theorem dX5_push_13 : decode cX5_push 13 = .ok (.iconst 0, 1) := by decide +kernel
theorem dX5_push_14 : decode cX5_push 14 = .ok (.aload_n 0, 1) := by decide +kernel
theorem dX5_push_15 : decode cX5_push 15 = .ok (.getfield 11, 3) := by decide +kernel
theorem dX5_push_18 : decode cX5_push 18 = .ok (.aload_n 0, 1) := by decide +kernel
theorem dX5_push_19 : decode cX5_push 19 = .ok (.getfield 17, 3) := by decide +kernel
theorem dX5_push_22 : decode cX5_push 22 = .ok (.bipush 64, 2) := by decide +kernel
theorem dX5_push_24 : decode cX5_push 24 = .ok (.imul, 1) := by decide +kernel
theorem dX5_push_25 : decode cX5_push 25 = .ok (.bipush 64, 2) := by decide +kernel
theorem dX5_push_27 : decode cX5_push 27 = .ok (.invokestatic 24, 3) := by decide +kernel
theorem dX5_push_30 : decode cX5_push 30 = .ok (.aload_n 0, 1) := by decide +kernel
theorem dX5_push_31 : decode cX5_push 31 = .ok (.dup, 1) := by decide +kernel
theorem dX5_push_32 : decode cX5_push 32 = .ok (.getfield 17, 3) := by decide +kernel
theorem dX5_push_35 : decode cX5_push 35 = .ok (.iconst 1, 1) := by decide +kernel
theorem dX5_push_36 : decode cX5_push 36 = .ok (.iadd, 1) := by decide +kernel
theorem dX5_push_37 : decode cX5_push 37 = .ok (.putfield 17, 3) := by decide +kernel
theorem dX5_push_40 : decode cX5_push 40 = .ok (.return_, 1) := by decide +kernel
theorem dX5_pop_0 : decode cX5_pop 0 = .ok (.aload_n 0, 1) := by decide +kernel
theorem dX5_pop_1 : decode cX5_pop 1 = .ok (.getfield 17, 3) := by decide +kernel
theorem dX5_pop_4 : decode cX5_pop 4 = .ok (.ifCond .le 34, 3) := by decide +kernel
theorem dX5_pop_7 : decode cX5_pop 7 = .ok (.aload_n 0, 1) := by decide +kernel
theorem dX5_pop_8 : decode cX5_pop 8 = .ok (.dup, 1) := by decide +kernel
theorem dX5_pop_9 : decode cX5_pop 9 = .ok (.getfield 17, 3) := by decide +kernel
theorem dX5_pop_12 : decode cX5_pop 12 = .ok (.iconst 1, 1) := by decide +kernel
theorem dX5_pop_13 : decode cX5_pop 13 = .ok (.isub, 1) := by decide +kernel
theorem dX5_pop_14 : decode cX5_pop 14 = .ok (.putfield 17, 3) := by decide +kernel
theorem dX5_pop_17 : decode cX5_pop 17 = .ok (.aload_n 0, 1) := by decide +kernel
theorem dX5_pop_18 : decode cX5_pop 18 = .ok (.getfield 11, 3) := by decide +kernel
theorem dX5_pop_21 : decode cX5_pop 21 = .ok (.aload_n 0, 1) := by decide +kernel
theorem dX5_pop_22 : decode cX5_pop 22 = .ok (.getfield 17, 3) := by decide +kernel
theorem dX5_pop_25 : decode cX5_pop 25 = .ok (.bipush 64, 2) := by decide +kernel
theorem dX5_pop_27 : decode cX5_pop 27 = .ok (.imul, 1) := by decide +kernel
theorem dX5_pop_28 : decode cX5_pop 28 = .ok (.aload_n 1, 1) := by decide +kernel
theorem dX5_pop_29 : decode cX5_pop 29 = .ok (.getfield 21, 3) := by decide +kernel
theorem dX5_pop_32 : decode cX5_pop 32 = .ok (.iconst 0, 1) := by decide +kernel
theorem dX5_pop_33 : decode cX5_pop 33 = .ok (.bipush 64, 2) := by decide +kernel
theorem dX5_pop_35 : decode cX5_pop 35 = .ok (.invokestatic 24, 3) := by decide +kernel
theorem dX5_pop_38 : decode cX5_pop 38 = .ok (.return_, 1) := by decide +kernel
theorem dX5_copyFrom_0 : decode cX5_copyFrom 0 = .ok (.aload_n 1, 1) := by decide +kernel
theorem dX5_copyFrom_1 : decode cX5_copyFrom 1 = .ok (.getfield 11, 3) := by decide +kernel
theorem dX5_copyFrom_4 : decode cX5_copyFrom 4 = .ok (.iconst 0, 1) := by decide +kernel
theorem dX5_copyFrom_5 : decode cX5_copyFrom 5 = .ok (.aload_n 0, 1) := by decide +kernel
theorem dX5_copyFrom_6 : decode cX5_copyFrom 6 = .ok (.getfield 11, 3) := by decide +kernel
theorem dX5_copyFrom_9 : decode cX5_copyFrom 9 = .ok (.iconst 0, 1) := by decide +kernel
theorem dX5_copyFrom_10 : decode cX5_copyFrom 10 = .ok (.aload_n 1, 1) := by decide +kernel
theorem dX5_copyFrom_11 : decode cX5_copyFrom 11 = .ok (.getfield 17, 3) := by decide +kernel
theorem dX5_copyFrom_14 : decode cX5_copyFrom 14 = .ok (.bipush 64, 2) := by decide +kernel
theorem dX5_copyFrom_16 : decode cX5_copyFrom 16 = .ok (.imul, 1) := by decide +kernel
theorem dX5_copyFrom_17 : decode cX5_copyFrom 17 = .ok (.invokestatic 24, 3) := by decide +kernel
theorem dX5_copyFrom_20 : decode cX5_copyFrom 20 = .ok (.aload_n 0, 1) := by decide +kernel
theorem dX5_copyFrom_21 : decode cX5_copyFrom 21 = .ok (.aload_n 1, 1) := by decide +kernel
theorem dX5_copyFrom_22 : decode cX5_copyFrom 22 = .ok (.getfield 17, 3) := by decide +kernel
theorem dX5_copyFrom_25 : decode cX5_copyFrom 25 = .ok (.putfield 17, 3) := by decide +kernel
theorem dX5_copyFrom_28 : decode cX5_copyFrom 28 = .ok (.return_, 1) := by decide +kernel
theorem dX6_init_0 : decode cX6_init 0 = .ok (.aload_n 0, 1) := by decide +kernel
theorem dX6_init_1 : decode cX6_init 1 = .ok (.invokespecial 3, 3) := by decide +kernel
theorem dX6_init_4 : decode cX6_init 4 = .ok (.aload_n 0, 1) := by decide +kernel
theorem dX6_init_5 : decode cX6_init 5 = .ok (.sipush 1024, 3) := by decide +kernel
theorem dX6_init_8 : decode cX6_init 8 = .ok (.newarray .int, 2) := by decide +kernel
theorem dX6_init_10 : decode cX6_init 10 = .ok (.putfield 9, 3) := by decide +kernel
theorem dX6_init_13 : decode cX6_init 13 = .ok (.aload_n 0, 1) := by decide +kernel
theorem dX6_init_14 : decode cX6_init 14 = .ok (.bipush 8, 2) := by decide +kernel
theorem dX6_init_16 : decode cX6_init 16 = .ok (.newarray .int, 2) := by decide +kernel
theorem dX6_init_18 : decode cX6_init 18 = .ok (.putfield 15, 3) := by decide +kernel
theorem dX6_init_21 : decode cX6_init 21 = .ok (.return_, 1) := by decide +kernel
theorem dX6_settle_0 : decode cX6_settle 0 = .ok (.aload_n 0, 1) := by decide +kernel
theorem dX6_settle_1 : decode cX6_settle 1 = .ok (.iconst 0, 1) := by decide +kernel
theorem dX6_settle_2 : decode cX6_settle 2 = .ok (.putfield 18, 3) := by decide +kernel
theorem dX6_settle_5 : decode cX6_settle 5 = .ok (.aload_n 1, 1) := by decide +kernel
theorem dX6_settle_6 : decode cX6_settle 6 = .ok (.getfield 22, 3) := by decide +kernel
theorem dX6_settle_9 : decode cX6_settle 9 = .ok (.ifCond .ne 4, 3) := by decide +kernel
theorem dX6_settle_12 : decode cX6_settle 12 = .ok (.return_, 1) := by decide +kernel
theorem dX6_settle_13 : decode cX6_settle 13 = .ok (.iconst 1, 1) := by decide +kernel
theorem dX6_settle_14 : decode cX6_settle 14 = .ok (.aload_n 1, 1) := by decide +kernel
theorem dX6_settle_15 : decode cX6_settle 15 = .ok (.getfield 22, 3) := by decide +kernel
theorem dX6_settle_18 : decode cX6_settle 18 = .ok (.iconst 1, 1) := by decide +kernel
theorem dX6_settle_19 : decode cX6_settle 19 = .ok (.isub, 1) := by decide +kernel
theorem dX6_settle_20 : decode cX6_settle 20 = .ok (.ishl, 1) := by decide +kernel
theorem dX6_settle_21 : decode cX6_settle 21 = .ok (.iconst 1, 1) := by decide +kernel
theorem dX6_settle_22 : decode cX6_settle 22 = .ok (.isub, 1) := by decide +kernel
theorem dX6_settle_23 : decode cX6_settle 23 = .ok (.istore_n 2, 1) := by decide +kernel
theorem dX6_settle_24 : decode cX6_settle 24 = .ok (.iconst 0, 1) := by decide +kernel
theorem dX6_settle_25 : decode cX6_settle 25 = .ok (.istore_n 3, 1) := by decide +kernel
theorem dX6_settle_26 : decode cX6_settle 26 = .ok (.iload_n 3, 1) := by decide +kernel
theorem dX6_settle_27 : decode cX6_settle 27 = .ok (.iload_n 2, 1) := by decide +kernel
theorem dX6_settle_28 : decode cX6_settle 28 = .ok (.if_icmp .gt 15, 3) := by decide +kernel
theorem dX6_settle_31 : decode cX6_settle 31 = .ok (.aload_n 0, 1) := by decide +kernel
theorem dX6_settle_32 : decode cX6_settle 32 = .ok (.aload_n 1, 1) := by decide +kernel
theorem dX6_settle_33 : decode cX6_settle 33 = .ok (.iload_n 3, 1) := by decide +kernel
theorem dX6_settle_34 : decode cX6_settle 34 = .ok (.invokevirtual 27, 3) := by decide +kernel
theorem dX6_settle_37 : decode cX6_settle 37 = .ok (.iinc 3 1, 3) := by decide +kernel
theorem dX6_settle_40 : decode cX6_settle 40 = .ok (.goto (-14), 3) := by decide +kernel
theorem dX6_settle_43 : decode cX6_settle 43 = .ok (.aload_n 0, 1) := by decide +kernel
theorem dX6_settle_44 : decode cX6_settle 44 = .ok (.getfield 9, 3) := by decide +kernel
theorem dX6_settle_47 : decode cX6_settle 47 = .ok (.iload_n 2, 1) := by decide +kernel
theorem dX6_settle_48 : decode cX6_settle 48 = .ok (.bipush 8, 2) := by decide +kernel
theorem dX6_settle_50 : decode cX6_settle 50 = .ok (.imul, 1) := by decide +kernel
theorem dX6_settle_51 : decode cX6_settle 51 = .ok (.aload_n 0, 1) := by decide +kernel
theorem dX6_settle_52 : decode cX6_settle 52 = .ok (.aload_n 1, 1) := by decide +kernel
theorem dX6_settle_53 : decode cX6_settle 53 = .ok (.iload_n 2, 1) := by decide +kernel
theorem dX6_settle_54 : decode cX6_settle 54 = .ok (.iconst 0, 1) := by decide +kernel
theorem dX6_settle_55 : decode cX6_settle 55 = .ok (.invokevirtual 31, 3) := by decide +kernel
theorem dX6_settle_58 : decode cX6_settle 58 = .ok (.iastore, 1) := by decide +kernel
theorem dX6_settle_59 : decode cX6_settle 59 = .ok (.aload_n 0, 1) := by decide +kernel
theorem dX6_settle_60 : decode cX6_settle 60 = .ok (.aload_n 0, 1) := by decide +kernel
theorem dX6_settle_61 : decode cX6_settle 61 = .ok (.getfield 9, 3) := by decide +kernel
theorem dX6_settle_64 : decode cX6_settle 64 = .ok (.iload_n 2, 1) := by decide +kernel
theorem dX6_settle_65 : decode cX6_settle 65 = .ok (.bipush 8, 2) := by decide +kernel
theorem dX6_settle_67 : decode cX6_settle 67 = .ok (.imul, 1) := by decide +kernel
theorem dX6_settle_68 : decode cX6_settle 68 = .ok (.iaload, 1) := by decide +kernel
theorem dX6_settle_69 : decode cX6_settle 69 = .ok (.putfield 18, 3) := by decide +kernel
theorem dX6_settle_72 : decode cX6_settle 72 = .ok (.aload_n 0, 1) := by decide +kernel
theorem dX6_settle_73 : decode cX6_settle 73 = .ok (.aload_n 1, 1) := by decide +kernel
theorem dX6_settle_74 : decode cX6_settle 74 = .ok (.iload_n 2, 1) := by decide +kernel
theorem dX6_settle_75 : decode cX6_settle 75 = .ok (.invokevirtual 35, 3) := by decide +kernel
theorem dX6_settle_78 : decode cX6_settle 78 = .ok (.return_, 1) := by decide +kernel
theorem dX6_settleFor_0 : decode cX6_settleFor 0 = .ok (.iconst 1, 1) := by decide +kernel
theorem dX6_settleFor_1 : decode cX6_settleFor 1 = .ok (.istore_n 3, 1) := by decide +kernel
theorem dX6_settleFor_2 : decode cX6_settleFor 2 = .ok (.iload_n 3, 1) := by decide +kernel
theorem dX6_settleFor_3 : decode cX6_settleFor 3 = .ok (.aload_n 1, 1) := by decide +kernel
theorem dX6_settleFor_4 : decode cX6_settleFor 4 = .ok (.getfield 22, 3) := by decide +kernel
theorem dX6_settleFor_7 : decode cX6_settleFor 7 = .ok (.if_icmp .ge 37, 3) := by decide +kernel
theorem dX6_settleFor_10 : decode cX6_settleFor 10 = .ok (.iload_n 2, 1) := by decide +kernel
theorem dX6_settleFor_11 : decode cX6_settleFor 11 = .ok (.iload_n 3, 1) := by decide +kernel
theorem dX6_settleFor_12 : decode cX6_settleFor 12 = .ok (.iconst 1, 1) := by decide +kernel
theorem dX6_settleFor_13 : decode cX6_settleFor 13 = .ok (.isub, 1) := by decide +kernel
theorem dX6_settleFor_14 : decode cX6_settleFor 14 = .ok (.invokestatic 38, 3) := by decide +kernel
theorem dX6_settleFor_17 : decode cX6_settleFor 17 = .ok (.ifCond .ne 21, 3) := by decide +kernel
theorem dX6_settleFor_20 : decode cX6_settleFor 20 = .ok (.aload_n 0, 1) := by decide +kernel
theorem dX6_settleFor_21 : decode cX6_settleFor 21 = .ok (.getfield 9, 3) := by decide +kernel
theorem dX6_settleFor_24 : decode cX6_settleFor 24 = .ok (.iload_n 2, 1) := by decide +kernel
theorem dX6_settleFor_25 : decode cX6_settleFor 25 = .ok (.bipush 8, 2) := by decide +kernel
theorem dX6_settleFor_27 : decode cX6_settleFor 27 = .ok (.imul, 1) := by decide +kernel
theorem dX6_settleFor_28 : decode cX6_settleFor 28 = .ok (.iload_n 3, 1) := by decide +kernel
theorem dX6_settleFor_29 : decode cX6_settleFor 29 = .ok (.iadd, 1) := by decide +kernel
theorem dX6_settleFor_30 : decode cX6_settleFor 30 = .ok (.aload_n 0, 1) := by decide +kernel
theorem dX6_settleFor_31 : decode cX6_settleFor 31 = .ok (.aload_n 1, 1) := by decide +kernel
theorem dX6_settleFor_32 : decode cX6_settleFor 32 = .ok (.iload_n 2, 1) := by decide +kernel
theorem dX6_settleFor_33 : decode cX6_settleFor 33 = .ok (.iload_n 3, 1) := by decide +kernel
theorem dX6_settleFor_34 : decode cX6_settleFor 34 = .ok (.invokevirtual 31, 3) := by decide +kernel
theorem dX6_settleFor_37 : decode cX6_settleFor 37 = .ok (.iastore, 1) := by decide +kernel
theorem dX6_settleFor_38 : decode cX6_settleFor 38 = .ok (.iinc 3 1, 3) := by decide +kernel
theorem dX6_settleFor_41 : decode cX6_settleFor 41 = .ok (.goto (-39), 3) := by decide +kernel
theorem dX6_settleFor_44 : decode cX6_settleFor 44 = .ok (.return_, 1) := by decide +kernel
theorem dX6_leastWay_0 : decode cX6_leastWay 0 = .ok (.iload_n 2, 1) := by decide +kernel
theorem dX6_leastWay_1 : decode cX6_leastWay 1 = .ok (.ifCond .ne 10, 3) := by decide +kernel
theorem dX6_leastWay_4 : decode cX6_leastWay 4 = .ok (.aload_n 1, 1) := by decide +kernel
theorem dX6_leastWay_5 : decode cX6_leastWay 5 = .ok (.iload_n 3, 1) := by decide +kernel
theorem dX6_leastWay_6 : decode cX6_leastWay 6 = .ok (.iconst 0, 1) := by decide +kernel
theorem dX6_leastWay_7 : decode cX6_leastWay 7 = .ok (.invokevirtual 42, 3) := by decide +kernel
theorem dX6_leastWay_10 : decode cX6_leastWay 10 = .ok (.ireturn, 1) := by decide +kernel
theorem dX6_leastWay_11 : decode cX6_leastWay 11 = .ok (.ldc 48, 2) := by decide +kernel
theorem dX6_leastWay_13 : decode cX6_leastWay 13 = .ok (.istore 4, 2) := by decide +kernel
theorem dX6_leastWay_15 : decode cX6_leastWay 15 = .ok (.iconst 1, 1) := by decide +kernel
theorem dX6_leastWay_16 : decode cX6_leastWay 16 = .ok (.istore 5, 2) := by decide +kernel
theorem dX6_leastWay_18 : decode cX6_leastWay 18 = .ok (.iload 5, 2) := by decide +kernel
theorem dX6_leastWay_20 : decode cX6_leastWay 20 = .ok (.aload_n 1, 1) := by decide +kernel
theorem dX6_leastWay_21 : decode cX6_leastWay 21 = .ok (.getfield 22, 3) := by decide +kernel
theorem dX6_leastWay_24 : decode cX6_leastWay 24 = .ok (.if_icmp .ge 36, 3) := by decide +kernel
theorem dX6_leastWay_27 : decode cX6_leastWay 27 = .ok (.iload_n 2, 1) := by decide +kernel
theorem dX6_leastWay_28 : decode cX6_leastWay 28 = .ok (.iload 5, 2) := by decide +kernel
theorem dX6_leastWay_30 : decode cX6_leastWay 30 = .ok (.iconst 1, 1) := by decide +kernel
theorem dX6_leastWay_31 : decode cX6_leastWay 31 = .ok (.isub, 1) := by decide +kernel
theorem dX6_leastWay_32 : decode cX6_leastWay 32 = .ok (.invokestatic 38, 3) := by decide +kernel
theorem dX6_leastWay_35 : decode cX6_leastWay 35 = .ok (.ifCond .eq 19, 3) := by decide +kernel
theorem dX6_leastWay_38 : decode cX6_leastWay 38 = .ok (.iload 4, 2) := by decide +kernel
theorem dX6_leastWay_40 : decode cX6_leastWay 40 = .ok (.aload_n 0, 1) := by decide +kernel
theorem dX6_leastWay_41 : decode cX6_leastWay 41 = .ok (.aload_n 1, 1) := by decide +kernel
theorem dX6_leastWay_42 : decode cX6_leastWay 42 = .ok (.iload_n 2, 1) := by decide +kernel
theorem dX6_leastWay_43 : decode cX6_leastWay 43 = .ok (.iload_n 3, 1) := by decide +kernel
theorem dX6_leastWay_44 : decode cX6_leastWay 44 = .ok (.iload 5, 2) := by decide +kernel
theorem dX6_leastWay_46 : decode cX6_leastWay 46 = .ok (.invokevirtual 49, 3) := by decide +kernel
theorem dX6_leastWay_49 : decode cX6_leastWay 49 = .ok (.invokestatic 53, 3) := by decide +kernel
theorem dX6_leastWay_52 : decode cX6_leastWay 52 = .ok (.istore 4, 2) := by decide +kernel
theorem dX6_leastWay_54 : decode cX6_leastWay 54 = .ok (.iinc 5 1, 3) := by decide +kernel
theorem dX6_leastWay_57 : decode cX6_leastWay 57 = .ok (.goto (-39), 3) := by decide +kernel
theorem dX6_leastWay_60 : decode cX6_leastWay 60 = .ok (.iload 4, 2) := by decide +kernel
theorem dX6_leastWay_62 : decode cX6_leastWay 62 = .ok (.ireturn, 1) := by decide +kernel
theorem dX6_wayOver_0 : decode cX6_wayOver 0 = .ok (.iload_n 2, 1) := by decide +kernel
theorem dX6_wayOver_1 : decode cX6_wayOver 1 = .ok (.iconst 1, 1) := by decide +kernel
theorem dX6_wayOver_2 : decode cX6_wayOver 2 = .ok (.iload 4, 2) := by decide +kernel
theorem dX6_wayOver_4 : decode cX6_wayOver 4 = .ok (.iconst 1, 1) := by decide +kernel
theorem dX6_wayOver_5 : decode cX6_wayOver 5 = .ok (.isub, 1) := by decide +kernel
theorem dX6_wayOver_6 : decode cX6_wayOver 6 = .ok (.ishl, 1) := by decide +kernel
theorem dX6_wayOver_7 : decode cX6_wayOver 7 = .ok (.iconst (-1), 1) := by decide +kernel
theorem dX6_wayOver_8 : decode cX6_wayOver 8 = .ok (.ixor, 1) := by decide +kernel
theorem dX6_wayOver_9 : decode cX6_wayOver 9 = .ok (.iand, 1) := by decide +kernel
theorem dX6_wayOver_10 : decode cX6_wayOver 10 = .ok (.istore 5, 2) := by decide +kernel
theorem dX6_wayOver_12 : decode cX6_wayOver 12 = .ok (.aload_n 1, 1) := by decide +kernel
theorem dX6_wayOver_13 : decode cX6_wayOver 13 = .ok (.iload_n 3, 1) := by decide +kernel
theorem dX6_wayOver_14 : decode cX6_wayOver 14 = .ok (.iload 4, 2) := by decide +kernel
theorem dX6_wayOver_16 : decode cX6_wayOver 16 = .ok (.invokevirtual 42, 3) := by decide +kernel
theorem dX6_wayOver_19 : decode cX6_wayOver 19 = .ok (.aload_n 0, 1) := by decide +kernel
theorem dX6_wayOver_20 : decode cX6_wayOver 20 = .ok (.getfield 9, 3) := by decide +kernel
theorem dX6_wayOver_23 : decode cX6_wayOver 23 = .ok (.iload 5, 2) := by decide +kernel
theorem dX6_wayOver_25 : decode cX6_wayOver 25 = .ok (.bipush 8, 2) := by decide +kernel
theorem dX6_wayOver_27 : decode cX6_wayOver 27 = .ok (.imul, 1) := by decide +kernel
theorem dX6_wayOver_28 : decode cX6_wayOver 28 = .ok (.iload 4, 2) := by decide +kernel
theorem dX6_wayOver_30 : decode cX6_wayOver 30 = .ok (.iadd, 1) := by decide +kernel
theorem dX6_wayOver_31 : decode cX6_wayOver 31 = .ok (.iaload, 1) := by decide +kernel
theorem dX6_wayOver_32 : decode cX6_wayOver 32 = .ok (.iadd, 1) := by decide +kernel
theorem dX6_wayOver_33 : decode cX6_wayOver 33 = .ok (.ireturn, 1) := by decide +kernel
theorem dX6_walk_0 : decode cX6_walk 0 = .ok (.iload_n 2, 1) := by decide +kernel
theorem dX6_walk_1 : decode cX6_walk 1 = .ok (.istore_n 3, 1) := by decide +kernel
theorem dX6_walk_2 : decode cX6_walk 2 = .ok (.iconst 0, 1) := by decide +kernel
theorem dX6_walk_3 : decode cX6_walk 3 = .ok (.istore 4, 2) := by decide +kernel
theorem dX6_walk_5 : decode cX6_walk 5 = .ok (.aload_n 0, 1) := by decide +kernel
theorem dX6_walk_6 : decode cX6_walk 6 = .ok (.getfield 15, 3) := by decide +kernel
theorem dX6_walk_9 : decode cX6_walk 9 = .ok (.iconst 0, 1) := by decide +kernel
theorem dX6_walk_10 : decode cX6_walk 10 = .ok (.iconst 0, 1) := by decide +kernel
theorem dX6_walk_11 : decode cX6_walk 11 = .ok (.iastore, 1) := by decide +kernel
theorem dX6_walk_12 : decode cX6_walk 12 = .ok (.iconst 1, 1) := by decide +kernel
theorem dX6_walk_13 : decode cX6_walk 13 = .ok (.istore 5, 2) := by decide +kernel
theorem dX6_walk_15 : decode cX6_walk 15 = .ok (.iload 5, 2) := by decide +kernel
theorem dX6_walk_17 : decode cX6_walk 17 = .ok (.aload_n 1, 1) := by decide +kernel
theorem dX6_walk_18 : decode cX6_walk 18 = .ok (.getfield 22, 3) := by decide +kernel
theorem dX6_walk_21 : decode cX6_walk 21 = .ok (.if_icmp .ge 39, 3) := by decide +kernel
theorem dX6_walk_24 : decode cX6_walk 24 = .ok (.aload_n 0, 1) := by decide +kernel
theorem dX6_walk_25 : decode cX6_walk 25 = .ok (.aload_n 1, 1) := by decide +kernel
theorem dX6_walk_26 : decode cX6_walk 26 = .ok (.iload_n 3, 1) := by decide +kernel
theorem dX6_walk_27 : decode cX6_walk 27 = .ok (.iload 4, 2) := by decide +kernel
theorem dX6_walk_29 : decode cX6_walk 29 = .ok (.invokevirtual 58, 3) := by decide +kernel
theorem dX6_walk_32 : decode cX6_walk 32 = .ok (.istore 4, 2) := by decide +kernel
theorem dX6_walk_34 : decode cX6_walk 34 = .ok (.iload_n 3, 1) := by decide +kernel
theorem dX6_walk_35 : decode cX6_walk 35 = .ok (.iconst 1, 1) := by decide +kernel
theorem dX6_walk_36 : decode cX6_walk 36 = .ok (.iload 4, 2) := by decide +kernel
theorem dX6_walk_38 : decode cX6_walk 38 = .ok (.iconst 1, 1) := by decide +kernel
theorem dX6_walk_39 : decode cX6_walk 39 = .ok (.isub, 1) := by decide +kernel
theorem dX6_walk_40 : decode cX6_walk 40 = .ok (.ishl, 1) := by decide +kernel
theorem dX6_walk_41 : decode cX6_walk 41 = .ok (.iconst (-1), 1) := by decide +kernel
theorem dX6_walk_42 : decode cX6_walk 42 = .ok (.ixor, 1) := by decide +kernel
theorem dX6_walk_43 : decode cX6_walk 43 = .ok (.iand, 1) := by decide +kernel
theorem dX6_walk_44 : decode cX6_walk 44 = .ok (.istore_n 3, 1) := by decide +kernel
theorem dX6_walk_45 : decode cX6_walk 45 = .ok (.aload_n 0, 1) := by decide +kernel
theorem dX6_walk_46 : decode cX6_walk 46 = .ok (.getfield 15, 3) := by decide +kernel
theorem dX6_walk_49 : decode cX6_walk 49 = .ok (.iload 5, 2) := by decide +kernel
theorem dX6_walk_51 : decode cX6_walk 51 = .ok (.iload 4, 2) := by decide +kernel
theorem dX6_walk_53 : decode cX6_walk 53 = .ok (.iastore, 1) := by decide +kernel
theorem dX6_walk_54 : decode cX6_walk 54 = .ok (.iinc 5 1, 3) := by decide +kernel
theorem dX6_walk_57 : decode cX6_walk 57 = .ok (.goto (-42), 3) := by decide +kernel
theorem dX6_walk_60 : decode cX6_walk 60 = .ok (.return_, 1) := by decide +kernel
theorem dX6_firstBest_0 : decode cX6_firstBest 0 = .ok (.aload_n 0, 1) := by decide +kernel
theorem dX6_firstBest_1 : decode cX6_firstBest 1 = .ok (.getfield 9, 3) := by decide +kernel
theorem dX6_firstBest_4 : decode cX6_firstBest 4 = .ok (.iload_n 2, 1) := by decide +kernel
theorem dX6_firstBest_5 : decode cX6_firstBest 5 = .ok (.bipush 8, 2) := by decide +kernel
theorem dX6_firstBest_7 : decode cX6_firstBest 7 = .ok (.imul, 1) := by decide +kernel
theorem dX6_firstBest_8 : decode cX6_firstBest 8 = .ok (.iload_n 3, 1) := by decide +kernel
theorem dX6_firstBest_9 : decode cX6_firstBest 9 = .ok (.iadd, 1) := by decide +kernel
theorem dX6_firstBest_10 : decode cX6_firstBest 10 = .ok (.iaload, 1) := by decide +kernel
theorem dX6_firstBest_11 : decode cX6_firstBest 11 = .ok (.istore 4, 2) := by decide +kernel
theorem dX6_firstBest_13 : decode cX6_firstBest 13 = .ok (.iconst 1, 1) := by decide +kernel
theorem dX6_firstBest_14 : decode cX6_firstBest 14 = .ok (.istore 5, 2) := by decide +kernel
theorem dX6_firstBest_16 : decode cX6_firstBest 16 = .ok (.iload 5, 2) := by decide +kernel
theorem dX6_firstBest_18 : decode cX6_firstBest 18 = .ok (.aload_n 1, 1) := by decide +kernel
theorem dX6_firstBest_19 : decode cX6_firstBest 19 = .ok (.getfield 22, 3) := by decide +kernel
theorem dX6_firstBest_22 : decode cX6_firstBest 22 = .ok (.if_icmp .ge 37, 3) := by decide +kernel
theorem dX6_firstBest_25 : decode cX6_firstBest 25 = .ok (.iload_n 2, 1) := by decide +kernel
theorem dX6_firstBest_26 : decode cX6_firstBest 26 = .ok (.iload 5, 2) := by decide +kernel
theorem dX6_firstBest_28 : decode cX6_firstBest 28 = .ok (.iconst 1, 1) := by decide +kernel
theorem dX6_firstBest_29 : decode cX6_firstBest 29 = .ok (.isub, 1) := by decide +kernel
theorem dX6_firstBest_30 : decode cX6_firstBest 30 = .ok (.invokestatic 38, 3) := by decide +kernel
theorem dX6_firstBest_33 : decode cX6_firstBest 33 = .ok (.ifCond .eq 20, 3) := by decide +kernel
theorem dX6_firstBest_36 : decode cX6_firstBest 36 = .ok (.aload_n 0, 1) := by decide +kernel
theorem dX6_firstBest_37 : decode cX6_firstBest 37 = .ok (.aload_n 1, 1) := by decide +kernel
theorem dX6_firstBest_38 : decode cX6_firstBest 38 = .ok (.iload_n 2, 1) := by decide +kernel
theorem dX6_firstBest_39 : decode cX6_firstBest 39 = .ok (.iload_n 3, 1) := by decide +kernel
theorem dX6_firstBest_40 : decode cX6_firstBest 40 = .ok (.iload 5, 2) := by decide +kernel
theorem dX6_firstBest_42 : decode cX6_firstBest 42 = .ok (.invokevirtual 49, 3) := by decide +kernel
theorem dX6_firstBest_45 : decode cX6_firstBest 45 = .ok (.iload 4, 2) := by decide +kernel
theorem dX6_firstBest_47 : decode cX6_firstBest 47 = .ok (.if_icmp .ne 6, 3) := by decide +kernel
theorem dX6_firstBest_50 : decode cX6_firstBest 50 = .ok (.iload 5, 2) := by decide +kernel
theorem dX6_firstBest_52 : decode cX6_firstBest 52 = .ok (.ireturn, 1) := by decide +kernel
theorem dX6_firstBest_53 : decode cX6_firstBest 53 = .ok (.iinc 5 1, 3) := by decide +kernel
theorem dX6_firstBest_56 : decode cX6_firstBest 56 = .ok (.goto (-40), 3) := by decide +kernel
theorem dX6_firstBest_59 : decode cX6_firstBest 59 = .ok (.iload_n 3, 1) := by decide +kernel
theorem dX6_firstBest_60 : decode cX6_firstBest 60 = .ok (.ireturn, 1) := by decide +kernel
theorem dX7_init_0 : decode cX7_init 0 = .ok (.aload_n 0, 1) := by decide +kernel
theorem dX7_init_1 : decode cX7_init 1 = .ok (.invokespecial 3, 3) := by decide +kernel
theorem dX7_init_4 : decode cX7_init 4 = .ok (.aload_n 0, 1) := by decide +kernel
theorem dX7_init_5 : decode cX7_init 5 = .ok (.sipush 1792, 3) := by decide +kernel
theorem dX7_init_8 : decode cX7_init 8 = .ok (.newarray .int, 2) := by decide +kernel
theorem dX7_init_10 : decode cX7_init 10 = .ok (.putfield 9, 3) := by decide +kernel
theorem dX7_init_13 : decode cX7_init 13 = .ok (.aload_n 0, 1) := by decide +kernel
theorem dX7_init_14 : decode cX7_init 14 = .ok (.bipush 6, 2) := by decide +kernel
theorem dX7_init_16 : decode cX7_init 16 = .ok (.newarray .int, 2) := by decide +kernel
theorem dX7_init_18 : decode cX7_init 18 = .ok (.putfield 15, 3) := by decide +kernel
theorem dX7_init_21 : decode cX7_init 21 = .ok (.aload_n 0, 1) := by decide +kernel
theorem dX7_init_22 : decode cX7_init 22 = .ok (.bipush 6, 2) := by decide +kernel
theorem dX7_init_24 : decode cX7_init 24 = .ok (.newarray .int, 2) := by decide +kernel
theorem dX7_init_26 : decode cX7_init 26 = .ok (.putfield 18, 3) := by decide +kernel
theorem dX7_init_29 : decode cX7_init 29 = .ok (.return_, 1) := by decide +kernel
theorem dX7_settle_0 : decode cX7_settle 0 = .ok (.aload_n 1, 1) := by decide +kernel
theorem dX7_settle_1 : decode cX7_settle 1 = .ok (.getfield 21, 3) := by decide +kernel
theorem dX7_settle_4 : decode cX7_settle 4 = .ok (.getfield 27, 3) := by decide +kernel
theorem dX7_settle_7 : decode cX7_settle 7 = .ok (.istore_n 2, 1) := by decide +kernel
theorem dX7_settle_8 : decode cX7_settle 8 = .ok (.iconst 1, 1) := by decide +kernel
theorem dX7_settle_9 : decode cX7_settle 9 = .ok (.aload_n 1, 1) := by decide +kernel
theorem dX7_settle_10 : decode cX7_settle 10 = .ok (.getfield 21, 3) := by decide +kernel
theorem dX7_settle_13 : decode cX7_settle 13 = .ok (.getfield 33, 3) := by decide +kernel
theorem dX7_settle_16 : decode cX7_settle 16 = .ok (.ishl, 1) := by decide +kernel
theorem dX7_settle_17 : decode cX7_settle 17 = .ok (.istore_n 3, 1) := by decide +kernel
theorem dX7_settle_18 : decode cX7_settle 18 = .ok (.iconst 0, 1) := by decide +kernel
theorem dX7_settle_19 : decode cX7_settle 19 = .ok (.istore 4, 2) := by decide +kernel
theorem dX7_settle_21 : decode cX7_settle 21 = .ok (.iload 4, 2) := by decide +kernel
theorem dX7_settle_23 : decode cX7_settle 23 = .ok (.iload_n 3, 1) := by decide +kernel
theorem dX7_settle_24 : decode cX7_settle 24 = .ok (.if_icmp .ge 22, 3) := by decide +kernel
theorem dX7_settle_27 : decode cX7_settle 27 = .ok (.aload_n 0, 1) := by decide +kernel
theorem dX7_settle_28 : decode cX7_settle 28 = .ok (.getfield 9, 3) := by decide +kernel
theorem dX7_settle_31 : decode cX7_settle 31 = .ok (.iload_n 2, 1) := by decide +kernel
theorem dX7_settle_32 : decode cX7_settle 32 = .ok (.bipush 8, 2) := by decide +kernel
theorem dX7_settle_34 : decode cX7_settle 34 = .ok (.ishl, 1) := by decide +kernel
theorem dX7_settle_35 : decode cX7_settle 35 = .ok (.iload 4, 2) := by decide +kernel
theorem dX7_settle_37 : decode cX7_settle 37 = .ok (.iadd, 1) := by decide +kernel
theorem dX7_settle_38 : decode cX7_settle 38 = .ok (.iconst 0, 1) := by decide +kernel
theorem dX7_settle_39 : decode cX7_settle 39 = .ok (.iastore, 1) := by decide +kernel
theorem dX7_settle_40 : decode cX7_settle 40 = .ok (.iinc 4 1, 3) := by decide +kernel
theorem dX7_settle_43 : decode cX7_settle 43 = .ok (.goto (-22), 3) := by decide +kernel
theorem dX7_settle_46 : decode cX7_settle 46 = .ok (.iload_n 2, 1) := by decide +kernel
theorem dX7_settle_47 : decode cX7_settle 47 = .ok (.iconst 1, 1) := by decide +kernel
theorem dX7_settle_48 : decode cX7_settle 48 = .ok (.isub, 1) := by decide +kernel
theorem dX7_settle_49 : decode cX7_settle 49 = .ok (.istore 4, 2) := by decide +kernel
theorem dX7_settle_51 : decode cX7_settle 51 = .ok (.iload 4, 2) := by decide +kernel
theorem dX7_settle_53 : decode cX7_settle 53 = .ok (.ifCond .lt 59, 3) := by decide +kernel
theorem dX7_settle_56 : decode cX7_settle 56 = .ok (.aload_n 0, 1) := by decide +kernel
theorem dX7_settle_57 : decode cX7_settle 57 = .ok (.getfield 15, 3) := by decide +kernel
theorem dX7_settle_60 : decode cX7_settle 60 = .ok (.iload 4, 2) := by decide +kernel
theorem dX7_settle_62 : decode cX7_settle 62 = .ok (.aload_n 0, 1) := by decide +kernel
theorem dX7_settle_63 : decode cX7_settle 63 = .ok (.aload_n 1, 1) := by decide +kernel
theorem dX7_settle_64 : decode cX7_settle 64 = .ok (.iload 4, 2) := by decide +kernel
theorem dX7_settle_66 : decode cX7_settle 66 = .ok (.invokevirtual 36, 3) := by decide +kernel
theorem dX7_settle_69 : decode cX7_settle 69 = .ok (.iastore, 1) := by decide +kernel
theorem dX7_settle_70 : decode cX7_settle 70 = .ok (.iconst 0, 1) := by decide +kernel
theorem dX7_settle_71 : decode cX7_settle 71 = .ok (.istore 5, 2) := by decide +kernel
theorem dX7_settle_73 : decode cX7_settle 73 = .ok (.iload 5, 2) := by decide +kernel
theorem dX7_settle_75 : decode cX7_settle 75 = .ok (.iload_n 3, 1) := by decide +kernel
theorem dX7_settle_76 : decode cX7_settle 76 = .ok (.if_icmp .ge 30, 3) := by decide +kernel
theorem dX7_settle_79 : decode cX7_settle 79 = .ok (.aload_n 0, 1) := by decide +kernel
theorem dX7_settle_80 : decode cX7_settle 80 = .ok (.getfield 9, 3) := by decide +kernel
theorem dX7_settle_83 : decode cX7_settle 83 = .ok (.iload 4, 2) := by decide +kernel
theorem dX7_settle_85 : decode cX7_settle 85 = .ok (.bipush 8, 2) := by decide +kernel
theorem dX7_settle_87 : decode cX7_settle 87 = .ok (.ishl, 1) := by decide +kernel
theorem dX7_settle_88 : decode cX7_settle 88 = .ok (.iload 5, 2) := by decide +kernel
theorem dX7_settle_90 : decode cX7_settle 90 = .ok (.iadd, 1) := by decide +kernel
theorem dX7_settle_91 : decode cX7_settle 91 = .ok (.aload_n 0, 1) := by decide +kernel
theorem dX7_settle_92 : decode cX7_settle 92 = .ok (.iload 4, 2) := by decide +kernel
theorem dX7_settle_94 : decode cX7_settle 94 = .ok (.iload 5, 2) := by decide +kernel
theorem dX7_settle_96 : decode cX7_settle 96 = .ok (.invokevirtual 40, 3) := by decide +kernel
theorem dX7_settle_99 : decode cX7_settle 99 = .ok (.iastore, 1) := by decide +kernel
theorem dX7_settle_100 : decode cX7_settle 100 = .ok (.iinc 5 1, 3) := by decide +kernel
theorem dX7_settle_103 : decode cX7_settle 103 = .ok (.goto (-30), 3) := by decide +kernel
theorem dX7_settle_106 : decode cX7_settle 106 = .ok (.iinc 4 (-1), 3) := by decide +kernel
theorem dX7_settle_109 : decode cX7_settle 109 = .ok (.goto (-58), 3) := by decide +kernel
theorem dX7_settle_112 : decode cX7_settle 112 = .ok (.aload_n 0, 1) := by decide +kernel
theorem dX7_settle_113 : decode cX7_settle 113 = .ok (.aload_n 0, 1) := by decide +kernel
theorem dX7_settle_114 : decode cX7_settle 114 = .ok (.getfield 9, 3) := by decide +kernel
theorem dX7_settle_117 : decode cX7_settle 117 = .ok (.iconst 0, 1) := by decide +kernel
theorem dX7_settle_118 : decode cX7_settle 118 = .ok (.iaload, 1) := by decide +kernel
theorem dX7_settle_119 : decode cX7_settle 119 = .ok (.putfield 44, 3) := by decide +kernel
theorem dX7_settle_122 : decode cX7_settle 122 = .ok (.aload_n 0, 1) := by decide +kernel
theorem dX7_settle_123 : decode cX7_settle 123 = .ok (.iload_n 2, 1) := by decide +kernel
theorem dX7_settle_124 : decode cX7_settle 124 = .ok (.invokevirtual 47, 3) := by decide +kernel
theorem dX7_settle_127 : decode cX7_settle 127 = .ok (.return_, 1) := by decide +kernel
theorem dX7_allowedTo_0 : decode cX7_allowedTo 0 = .ok (.aload_n 1, 1) := by decide +kernel
theorem dX7_allowedTo_1 : decode cX7_allowedTo 1 = .ok (.iload_n 2, 1) := by decide +kernel
theorem dX7_allowedTo_2 : decode cX7_allowedTo 2 = .ok (.invokevirtual 51, 3) := by decide +kernel
theorem dX7_allowedTo_5 : decode cX7_allowedTo 5 = .ok (.ifCond .eq 5, 3) := by decide +kernel
theorem dX7_allowedTo_8 : decode cX7_allowedTo 8 = .ok (.iconst 0, 1) := by decide +kernel
theorem dX7_allowedTo_9 : decode cX7_allowedTo 9 = .ok (.ireturn, 1) := by decide +kernel
theorem dX7_allowedTo_10 : decode cX7_allowedTo 10 = .ok (.aload_n 1, 1) := by decide +kernel
theorem dX7_allowedTo_11 : decode cX7_allowedTo 11 = .ok (.iload_n 2, 1) := by decide +kernel
theorem dX7_allowedTo_12 : decode cX7_allowedTo 12 = .ok (.invokevirtual 55, 3) := by decide +kernel
theorem dX7_allowedTo_15 : decode cX7_allowedTo 15 = .ok (.iconst 1, 1) := by decide +kernel
theorem dX7_allowedTo_16 : decode cX7_allowedTo 16 = .ok (.aload_n 1, 1) := by decide +kernel
theorem dX7_allowedTo_17 : decode cX7_allowedTo 17 = .ok (.iload_n 2, 1) := by decide +kernel
theorem dX7_allowedTo_18 : decode cX7_allowedTo 18 = .ok (.invokevirtual 59, 3) := by decide +kernel
theorem dX7_allowedTo_21 : decode cX7_allowedTo 21 = .ok (.ishl, 1) := by decide +kernel
theorem dX7_allowedTo_22 : decode cX7_allowedTo 22 = .ok (.ior, 1) := by decide +kernel
theorem dX7_allowedTo_23 : decode cX7_allowedTo 23 = .ok (.aload_n 1, 1) := by decide +kernel
theorem dX7_allowedTo_24 : decode cX7_allowedTo 24 = .ok (.getfield 21, 3) := by decide +kernel
theorem dX7_allowedTo_27 : decode cX7_allowedTo 27 = .ok (.getfield 62, 3) := by decide +kernel
theorem dX7_allowedTo_30 : decode cX7_allowedTo 30 = .ok (.iand, 1) := by decide +kernel
theorem dX7_allowedTo_31 : decode cX7_allowedTo 31 = .ok (.ireturn, 1) := by decide +kernel
theorem dX7_mostFrom_0 : decode cX7_mostFrom 0 = .ok (.aload_n 0, 1) := by decide +kernel
theorem dX7_mostFrom_1 : decode cX7_mostFrom 1 = .ok (.getfield 15, 3) := by decide +kernel
theorem dX7_mostFrom_4 : decode cX7_mostFrom 4 = .ok (.iload_n 1, 1) := by decide +kernel
theorem dX7_mostFrom_5 : decode cX7_mostFrom 5 = .ok (.iaload, 1) := by decide +kernel
theorem dX7_mostFrom_6 : decode cX7_mostFrom 6 = .ok (.iload_n 2, 1) := by decide +kernel
theorem dX7_mostFrom_7 : decode cX7_mostFrom 7 = .ok (.iconst (-1), 1) := by decide +kernel
theorem dX7_mostFrom_8 : decode cX7_mostFrom 8 = .ok (.ixor, 1) := by decide +kernel
theorem dX7_mostFrom_9 : decode cX7_mostFrom 9 = .ok (.iand, 1) := by decide +kernel
theorem dX7_mostFrom_10 : decode cX7_mostFrom 10 = .ok (.istore_n 3, 1) := by decide +kernel
theorem dX7_mostFrom_11 : decode cX7_mostFrom 11 = .ok (.aload_n 0, 1) := by decide +kernel
theorem dX7_mostFrom_12 : decode cX7_mostFrom 12 = .ok (.iload_n 1, 1) := by decide +kernel
theorem dX7_mostFrom_13 : decode cX7_mostFrom 13 = .ok (.iload_n 2, 1) := by decide +kernel
theorem dX7_mostFrom_14 : decode cX7_mostFrom 14 = .ok (.invokevirtual 65, 3) := by decide +kernel
theorem dX7_mostFrom_17 : decode cX7_mostFrom 17 = .ok (.istore 4, 2) := by decide +kernel
theorem dX7_mostFrom_19 : decode cX7_mostFrom 19 = .ok (.iconst 0, 1) := by decide +kernel
theorem dX7_mostFrom_20 : decode cX7_mostFrom 20 = .ok (.istore 5, 2) := by decide +kernel
theorem dX7_mostFrom_22 : decode cX7_mostFrom 22 = .ok (.iload 5, 2) := by decide +kernel
theorem dX7_mostFrom_24 : decode cX7_mostFrom 24 = .ok (.bipush 8, 2) := by decide +kernel
theorem dX7_mostFrom_26 : decode cX7_mostFrom 26 = .ok (.if_icmp .ge 38, 3) := by decide +kernel
theorem dX7_mostFrom_29 : decode cX7_mostFrom 29 = .ok (.iload_n 3, 1) := by decide +kernel
theorem dX7_mostFrom_30 : decode cX7_mostFrom 30 = .ok (.iload 5, 2) := by decide +kernel
theorem dX7_mostFrom_32 : decode cX7_mostFrom 32 = .ok (.invokestatic 68, 3) := by decide +kernel
theorem dX7_mostFrom_35 : decode cX7_mostFrom 35 = .ok (.ifCond .eq 23, 3) := by decide +kernel
theorem dX7_mostFrom_38 : decode cX7_mostFrom 38 = .ok (.iload 4, 2) := by decide +kernel
theorem dX7_mostFrom_40 : decode cX7_mostFrom 40 = .ok (.iconst 1, 1) := by decide +kernel
theorem dX7_mostFrom_41 : decode cX7_mostFrom 41 = .ok (.aload_n 0, 1) := by decide +kernel
theorem dX7_mostFrom_42 : decode cX7_mostFrom 42 = .ok (.iload_n 1, 1) := by decide +kernel
theorem dX7_mostFrom_43 : decode cX7_mostFrom 43 = .ok (.iload_n 2, 1) := by decide +kernel
theorem dX7_mostFrom_44 : decode cX7_mostFrom 44 = .ok (.iconst 1, 1) := by decide +kernel
theorem dX7_mostFrom_45 : decode cX7_mostFrom 45 = .ok (.iload 5, 2) := by decide +kernel
theorem dX7_mostFrom_47 : decode cX7_mostFrom 47 = .ok (.ishl, 1) := by decide +kernel
theorem dX7_mostFrom_48 : decode cX7_mostFrom 48 = .ok (.ior, 1) := by decide +kernel
theorem dX7_mostFrom_49 : decode cX7_mostFrom 49 = .ok (.invokevirtual 65, 3) := by decide +kernel
theorem dX7_mostFrom_52 : decode cX7_mostFrom 52 = .ok (.iadd, 1) := by decide +kernel
theorem dX7_mostFrom_53 : decode cX7_mostFrom 53 = .ok (.invokestatic 72, 3) := by decide +kernel
theorem dX7_mostFrom_56 : decode cX7_mostFrom 56 = .ok (.istore 4, 2) := by decide +kernel
theorem dX7_mostFrom_58 : decode cX7_mostFrom 58 = .ok (.iinc 5 1, 3) := by decide +kernel
theorem dX7_mostFrom_61 : decode cX7_mostFrom 61 = .ok (.goto (-39), 3) := by decide +kernel
theorem dX7_mostFrom_64 : decode cX7_mostFrom 64 = .ok (.iload 4, 2) := by decide +kernel
theorem dX7_mostFrom_66 : decode cX7_mostFrom 66 = .ok (.ireturn, 1) := by decide +kernel
theorem dX7_mostBehind_0 : decode cX7_mostBehind 0 = .ok (.aload_n 0, 1) := by decide +kernel
theorem dX7_mostBehind_1 : decode cX7_mostBehind 1 = .ok (.getfield 9, 3) := by decide +kernel
theorem dX7_mostBehind_4 : decode cX7_mostBehind 4 = .ok (.iload_n 1, 1) := by decide +kernel
theorem dX7_mostBehind_5 : decode cX7_mostBehind 5 = .ok (.iconst 1, 1) := by decide +kernel
theorem dX7_mostBehind_6 : decode cX7_mostBehind 6 = .ok (.iadd, 1) := by decide +kernel
theorem dX7_mostBehind_7 : decode cX7_mostBehind 7 = .ok (.bipush 8, 2) := by decide +kernel
theorem dX7_mostBehind_9 : decode cX7_mostBehind 9 = .ok (.ishl, 1) := by decide +kernel
theorem dX7_mostBehind_10 : decode cX7_mostBehind 10 = .ok (.iload_n 2, 1) := by decide +kernel
theorem dX7_mostBehind_11 : decode cX7_mostBehind 11 = .ok (.iadd, 1) := by decide +kernel
theorem dX7_mostBehind_12 : decode cX7_mostBehind 12 = .ok (.iaload, 1) := by decide +kernel
theorem dX7_mostBehind_13 : decode cX7_mostBehind 13 = .ok (.ireturn, 1) := by decide +kernel
theorem dX7_give_0 : decode cX7_give 0 = .ok (.iconst 0, 1) := by decide +kernel
theorem dX7_give_1 : decode cX7_give 1 = .ok (.istore_n 2, 1) := by decide +kernel
theorem dX7_give_2 : decode cX7_give 2 = .ok (.iconst 0, 1) := by decide +kernel
theorem dX7_give_3 : decode cX7_give 3 = .ok (.istore_n 3, 1) := by decide +kernel
theorem dX7_give_4 : decode cX7_give 4 = .ok (.iload_n 3, 1) := by decide +kernel
theorem dX7_give_5 : decode cX7_give 5 = .ok (.iload_n 1, 1) := by decide +kernel
theorem dX7_give_6 : decode cX7_give 6 = .ok (.if_icmp .ge 42, 3) := by decide +kernel
theorem dX7_give_9 : decode cX7_give 9 = .ok (.aload_n 0, 1) := by decide +kernel
theorem dX7_give_10 : decode cX7_give 10 = .ok (.getfield 18, 3) := by decide +kernel
theorem dX7_give_13 : decode cX7_give 13 = .ok (.iload_n 3, 1) := by decide +kernel
theorem dX7_give_14 : decode cX7_give 14 = .ok (.aload_n 0, 1) := by decide +kernel
theorem dX7_give_15 : decode cX7_give 15 = .ok (.iload_n 3, 1) := by decide +kernel
theorem dX7_give_16 : decode cX7_give 16 = .ok (.iload_n 2, 1) := by decide +kernel
theorem dX7_give_17 : decode cX7_give 17 = .ok (.invokevirtual 77, 3) := by decide +kernel
theorem dX7_give_20 : decode cX7_give 20 = .ok (.iastore, 1) := by decide +kernel
theorem dX7_give_21 : decode cX7_give 21 = .ok (.aload_n 0, 1) := by decide +kernel
theorem dX7_give_22 : decode cX7_give 22 = .ok (.getfield 18, 3) := by decide +kernel
theorem dX7_give_25 : decode cX7_give 25 = .ok (.iload_n 3, 1) := by decide +kernel
theorem dX7_give_26 : decode cX7_give 26 = .ok (.iaload, 1) := by decide +kernel
theorem dX7_give_27 : decode cX7_give 27 = .ok (.iconst (-1), 1) := by decide +kernel
theorem dX7_give_28 : decode cX7_give 28 = .ok (.if_icmp .eq 14, 3) := by decide +kernel
theorem dX7_give_31 : decode cX7_give 31 = .ok (.iload_n 2, 1) := by decide +kernel
theorem dX7_give_32 : decode cX7_give 32 = .ok (.iconst 1, 1) := by decide +kernel
theorem dX7_give_33 : decode cX7_give 33 = .ok (.aload_n 0, 1) := by decide +kernel
theorem dX7_give_34 : decode cX7_give 34 = .ok (.getfield 18, 3) := by decide +kernel
theorem dX7_give_37 : decode cX7_give 37 = .ok (.iload_n 3, 1) := by decide +kernel
theorem dX7_give_38 : decode cX7_give 38 = .ok (.iaload, 1) := by decide +kernel
theorem dX7_give_39 : decode cX7_give 39 = .ok (.ishl, 1) := by decide +kernel
theorem dX7_give_40 : decode cX7_give 40 = .ok (.ior, 1) := by decide +kernel
theorem dX7_give_41 : decode cX7_give 41 = .ok (.istore_n 2, 1) := by decide +kernel
theorem dX7_give_42 : decode cX7_give 42 = .ok (.iinc 3 1, 3) := by decide +kernel
theorem dX7_give_45 : decode cX7_give 45 = .ok (.goto (-41), 3) := by decide +kernel
theorem dX7_give_48 : decode cX7_give 48 = .ok (.return_, 1) := by decide +kernel
theorem dX7_firstBest_0 : decode cX7_firstBest 0 = .ok (.aload_n 0, 1) := by decide +kernel
theorem dX7_firstBest_1 : decode cX7_firstBest 1 = .ok (.getfield 15, 3) := by decide +kernel
theorem dX7_firstBest_4 : decode cX7_firstBest 4 = .ok (.iload_n 1, 1) := by decide +kernel
theorem dX7_firstBest_5 : decode cX7_firstBest 5 = .ok (.iaload, 1) := by decide +kernel
theorem dX7_firstBest_6 : decode cX7_firstBest 6 = .ok (.iload_n 2, 1) := by decide +kernel
theorem dX7_firstBest_7 : decode cX7_firstBest 7 = .ok (.iconst (-1), 1) := by decide +kernel
theorem dX7_firstBest_8 : decode cX7_firstBest 8 = .ok (.ixor, 1) := by decide +kernel
theorem dX7_firstBest_9 : decode cX7_firstBest 9 = .ok (.iand, 1) := by decide +kernel
theorem dX7_firstBest_10 : decode cX7_firstBest 10 = .ok (.istore_n 3, 1) := by decide +kernel
theorem dX7_firstBest_11 : decode cX7_firstBest 11 = .ok (.aload_n 0, 1) := by decide +kernel
theorem dX7_firstBest_12 : decode cX7_firstBest 12 = .ok (.getfield 9, 3) := by decide +kernel
theorem dX7_firstBest_15 : decode cX7_firstBest 15 = .ok (.iload_n 1, 1) := by decide +kernel
theorem dX7_firstBest_16 : decode cX7_firstBest 16 = .ok (.bipush 8, 2) := by decide +kernel
theorem dX7_firstBest_18 : decode cX7_firstBest 18 = .ok (.ishl, 1) := by decide +kernel
theorem dX7_firstBest_19 : decode cX7_firstBest 19 = .ok (.iload_n 2, 1) := by decide +kernel
theorem dX7_firstBest_20 : decode cX7_firstBest 20 = .ok (.iadd, 1) := by decide +kernel
theorem dX7_firstBest_21 : decode cX7_firstBest 21 = .ok (.iaload, 1) := by decide +kernel
theorem dX7_firstBest_22 : decode cX7_firstBest 22 = .ok (.istore 4, 2) := by decide +kernel
theorem dX7_firstBest_24 : decode cX7_firstBest 24 = .ok (.iconst 0, 1) := by decide +kernel
theorem dX7_firstBest_25 : decode cX7_firstBest 25 = .ok (.istore 5, 2) := by decide +kernel
theorem dX7_firstBest_27 : decode cX7_firstBest 27 = .ok (.iload 5, 2) := by decide +kernel
theorem dX7_firstBest_29 : decode cX7_firstBest 29 = .ok (.bipush 8, 2) := by decide +kernel
theorem dX7_firstBest_31 : decode cX7_firstBest 31 = .ok (.if_icmp .ge 39, 3) := by decide +kernel
theorem dX7_firstBest_34 : decode cX7_firstBest 34 = .ok (.iload_n 3, 1) := by decide +kernel
theorem dX7_firstBest_35 : decode cX7_firstBest 35 = .ok (.iload 5, 2) := by decide +kernel
theorem dX7_firstBest_37 : decode cX7_firstBest 37 = .ok (.invokestatic 68, 3) := by decide +kernel
theorem dX7_firstBest_40 : decode cX7_firstBest 40 = .ok (.ifCond .eq 24, 3) := by decide +kernel
theorem dX7_firstBest_43 : decode cX7_firstBest 43 = .ok (.iconst 1, 1) := by decide +kernel
theorem dX7_firstBest_44 : decode cX7_firstBest 44 = .ok (.aload_n 0, 1) := by decide +kernel
theorem dX7_firstBest_45 : decode cX7_firstBest 45 = .ok (.iload_n 1, 1) := by decide +kernel
theorem dX7_firstBest_46 : decode cX7_firstBest 46 = .ok (.iload_n 2, 1) := by decide +kernel
theorem dX7_firstBest_47 : decode cX7_firstBest 47 = .ok (.iconst 1, 1) := by decide +kernel
theorem dX7_firstBest_48 : decode cX7_firstBest 48 = .ok (.iload 5, 2) := by decide +kernel
theorem dX7_firstBest_50 : decode cX7_firstBest 50 = .ok (.ishl, 1) := by decide +kernel
theorem dX7_firstBest_51 : decode cX7_firstBest 51 = .ok (.ior, 1) := by decide +kernel
theorem dX7_firstBest_52 : decode cX7_firstBest 52 = .ok (.invokevirtual 65, 3) := by decide +kernel
theorem dX7_firstBest_55 : decode cX7_firstBest 55 = .ok (.iadd, 1) := by decide +kernel
theorem dX7_firstBest_56 : decode cX7_firstBest 56 = .ok (.iload 4, 2) := by decide +kernel
theorem dX7_firstBest_58 : decode cX7_firstBest 58 = .ok (.if_icmp .ne 6, 3) := by decide +kernel
theorem dX7_firstBest_61 : decode cX7_firstBest 61 = .ok (.iload 5, 2) := by decide +kernel
theorem dX7_firstBest_63 : decode cX7_firstBest 63 = .ok (.ireturn, 1) := by decide +kernel
theorem dX7_firstBest_64 : decode cX7_firstBest 64 = .ok (.iinc 5 1, 3) := by decide +kernel
theorem dX7_firstBest_67 : decode cX7_firstBest 67 = .ok (.goto (-40), 3) := by decide +kernel
theorem dX7_firstBest_70 : decode cX7_firstBest 70 = .ok (.iconst (-1), 1) := by decide +kernel
theorem dX7_firstBest_71 : decode cX7_firstBest 71 = .ok (.ireturn, 1) := by decide +kernel
theorem dX8_init_0 : decode cX8_init 0 = .ok (.aload_n 0, 1) := by decide +kernel
theorem dX8_init_1 : decode cX8_init 1 = .ok (.invokespecial 3, 3) := by decide +kernel
theorem dX8_init_4 : decode cX8_init 4 = .ok (.aload_n 0, 1) := by decide +kernel
theorem dX8_init_5 : decode cX8_init 5 = .ok (.sipush 600, 3) := by decide +kernel
theorem dX8_init_8 : decode cX8_init 8 = .ok (.newarray .byte, 2) := by decide +kernel
theorem dX8_init_10 : decode cX8_init 10 = .ok (.putfield 11, 3) := by decide +kernel
theorem dX8_init_13 : decode cX8_init 13 = .ok (.aload_n 0, 1) := by decide +kernel
theorem dX8_init_14 : decode cX8_init 14 = .ok (.iconst (-1), 1) := by decide +kernel
theorem dX8_init_15 : decode cX8_init 15 = .ok (.putfield 15, 3) := by decide +kernel
theorem dX8_init_18 : decode cX8_init 18 = .ok (.return_, 1) := by decide +kernel
theorem dX8_hasRoom_0 : decode cX8_hasRoom 0 = .ok (.aload_n 0, 1) := by decide +kernel
theorem dX8_hasRoom_1 : decode cX8_hasRoom 1 = .ok (.getfield 19, 3) := by decide +kernel
theorem dX8_hasRoom_4 : decode cX8_hasRoom 4 = .ok (.bipush 20, 2) := by decide +kernel
theorem dX8_hasRoom_6 : decode cX8_hasRoom 6 = .ok (.iadd, 1) := by decide +kernel
theorem dX8_hasRoom_7 : decode cX8_hasRoom 7 = .ok (.sipush 600, 3) := by decide +kernel
theorem dX8_hasRoom_10 : decode cX8_hasRoom 10 = .ok (.if_icmp .gt 7, 3) := by decide +kernel
theorem dX8_hasRoom_13 : decode cX8_hasRoom 13 = .ok (.iconst 1, 1) := by decide +kernel
theorem dX8_hasRoom_14 : decode cX8_hasRoom 14 = .ok (.goto 4, 3) := by decide +kernel
theorem dX8_hasRoom_17 : decode cX8_hasRoom 17 = .ok (.iconst 0, 1) := by decide +kernel
theorem dX8_hasRoom_18 : decode cX8_hasRoom 18 = .ok (.ireturn, 1) := by decide +kernel
theorem dX8_put_0 : decode cX8_put 0 = .ok (.bipush 24, 2) := by decide +kernel
theorem dX8_put_2 : decode cX8_put 2 = .ok (.istore_n 2, 1) := by decide +kernel
theorem dX8_put_3 : decode cX8_put 3 = .ok (.iload_n 2, 1) := by decide +kernel
theorem dX8_put_4 : decode cX8_put 4 = .ok (.ifCond .lt 42, 3) := by decide +kernel
theorem dX8_put_7 : decode cX8_put 7 = .ok (.aload_n 0, 1) := by decide +kernel
theorem dX8_put_8 : decode cX8_put 8 = .ok (.getfield 19, 3) := by decide +kernel
theorem dX8_put_11 : decode cX8_put 11 = .ok (.sipush 600, 3) := by decide +kernel
theorem dX8_put_14 : decode cX8_put 14 = .ok (.if_icmp .ge 26, 3) := by decide +kernel
theorem dX8_put_17 : decode cX8_put 17 = .ok (.aload_n 0, 1) := by decide +kernel
theorem dX8_put_18 : decode cX8_put 18 = .ok (.getfield 11, 3) := by decide +kernel
theorem dX8_put_21 : decode cX8_put 21 = .ok (.aload_n 0, 1) := by decide +kernel
theorem dX8_put_22 : decode cX8_put 22 = .ok (.getfield 19, 3) := by decide +kernel
theorem dX8_put_25 : decode cX8_put 25 = .ok (.iload_n 1, 1) := by decide +kernel
theorem dX8_put_26 : decode cX8_put 26 = .ok (.iload_n 2, 1) := by decide +kernel
theorem dX8_put_27 : decode cX8_put 27 = .ok (.ishr, 1) := by decide +kernel
theorem dX8_put_28 : decode cX8_put 28 = .ok (.i2b, 1) := by decide +kernel
theorem dX8_put_29 : decode cX8_put 29 = .ok (.bastore, 1) := by decide +kernel
theorem dX8_put_30 : decode cX8_put 30 = .ok (.aload_n 0, 1) := by decide +kernel
theorem dX8_put_31 : decode cX8_put 31 = .ok (.dup, 1) := by decide +kernel
theorem dX8_put_32 : decode cX8_put 32 = .ok (.getfield 19, 3) := by decide +kernel
theorem dX8_put_35 : decode cX8_put 35 = .ok (.iconst 1, 1) := by decide +kernel
theorem dX8_put_36 : decode cX8_put 36 = .ok (.iadd, 1) := by decide +kernel
theorem dX8_put_37 : decode cX8_put 37 = .ok (.putfield 19, 3) := by decide +kernel
theorem dX8_put_40 : decode cX8_put 40 = .ok (.iinc 2 (-8), 3) := by decide +kernel
theorem dX8_put_43 : decode cX8_put 43 = .ok (.goto (-40), 3) := by decide +kernel
theorem dX8_put_46 : decode cX8_put 46 = .ok (.return_, 1) := by decide +kernel
theorem dX8_open_0 : decode cX8_open 0 = .ok (.aload_n 0, 1) := by decide +kernel
theorem dX8_open_1 : decode cX8_open 1 = .ok (.iload_n 1, 1) := by decide +kernel
theorem dX8_open_2 : decode cX8_open 2 = .ok (.sipush 600, 3) := by decide +kernel
theorem dX8_open_5 : decode cX8_open 5 = .ok (.invokestatic 22, 3) := by decide +kernel
theorem dX8_open_8 : decode cX8_open 8 = .ok (.putfield 28, 3) := by decide +kernel
theorem dX8_open_11 : decode cX8_open 11 = .ok (.aload_n 0, 1) := by decide +kernel
theorem dX8_open_12 : decode cX8_open 12 = .ok (.iconst 0, 1) := by decide +kernel
theorem dX8_open_13 : decode cX8_open 13 = .ok (.putfield 31, 3) := by decide +kernel
theorem dX8_open_16 : decode cX8_open 16 = .ok (.aload_n 0, 1) := by decide +kernel
theorem dX8_open_17 : decode cX8_open 17 = .ok (.iconst 0, 1) := by decide +kernel
theorem dX8_open_18 : decode cX8_open 18 = .ok (.putfield 34, 3) := by decide +kernel
theorem dX8_open_21 : decode cX8_open 21 = .ok (.aload_n 0, 1) := by decide +kernel
theorem dX8_open_22 : decode cX8_open 22 = .ok (.iconst 0, 1) := by decide +kernel
theorem dX8_open_23 : decode cX8_open 23 = .ok (.putfield 19, 3) := by decide +kernel
theorem dX8_open_26 : decode cX8_open 26 = .ok (.aload_n 0, 1) := by decide +kernel
theorem dX8_open_27 : decode cX8_open 27 = .ok (.iconst 0, 1) := by decide +kernel
theorem dX8_open_28 : decode cX8_open 28 = .ok (.putfield 37, 3) := by decide +kernel
theorem dX8_open_31 : decode cX8_open 31 = .ok (.aload_n 0, 1) := by decide +kernel
theorem dX8_open_32 : decode cX8_open 32 = .ok (.iconst (-1), 1) := by decide +kernel
theorem dX8_open_33 : decode cX8_open 33 = .ok (.putfield 15, 3) := by decide +kernel
theorem dX8_open_36 : decode cX8_open 36 = .ok (.return_, 1) := by decide +kernel
theorem dX8_isFaulty_0 : decode cX8_isFaulty 0 = .ok (.aload_n 0, 1) := by decide +kernel
theorem dX8_isFaulty_1 : decode cX8_isFaulty 1 = .ok (.getfield 37, 3) := by decide +kernel
theorem dX8_isFaulty_4 : decode cX8_isFaulty 4 = .ok (.ifCond .eq 7, 3) := by decide +kernel
theorem dX8_isFaulty_7 : decode cX8_isFaulty 7 = .ok (.iconst 1, 1) := by decide +kernel
theorem dX8_isFaulty_8 : decode cX8_isFaulty 8 = .ok (.goto 4, 3) := by decide +kernel
theorem dX8_isFaulty_11 : decode cX8_isFaulty 11 = .ok (.iconst 0, 1) := by decide +kernel
theorem dX8_isFaulty_12 : decode cX8_isFaulty 12 = .ok (.ireturn, 1) := by decide +kernel
theorem dX8_blame_0 : decode cX8_blame 0 = .ok (.aload_n 0, 1) := by decide +kernel
theorem dX8_blame_1 : decode cX8_blame 1 = .ok (.getfield 37, 3) := by decide +kernel
theorem dX8_blame_4 : decode cX8_blame 4 = .ok (.ifCond .ne 13, 3) := by decide +kernel
theorem dX8_blame_7 : decode cX8_blame 7 = .ok (.aload_n 0, 1) := by decide +kernel
theorem dX8_blame_8 : decode cX8_blame 8 = .ok (.iload_n 1, 1) := by decide +kernel
theorem dX8_blame_9 : decode cX8_blame 9 = .ok (.putfield 37, 3) := by decide +kernel
theorem dX8_blame_12 : decode cX8_blame 12 = .ok (.aload_n 0, 1) := by decide +kernel
theorem dX8_blame_13 : decode cX8_blame 13 = .ok (.iload_n 2, 1) := by decide +kernel
theorem dX8_blame_14 : decode cX8_blame 14 = .ok (.putfield 15, 3) := by decide +kernel
theorem dX8_blame_17 : decode cX8_blame 17 = .ok (.return_, 1) := by decide +kernel
theorem dX8_blameSign_0 : decode cX8_blameSign 0 = .ok (.aload_n 0, 1) := by decide +kernel
theorem dX8_blameSign_1 : decode cX8_blameSign 1 = .ok (.invokevirtual 40, 3) := by decide +kernel
theorem dX8_blameSign_4 : decode cX8_blameSign 4 = .ok (.aload_n 0, 1) := by decide +kernel
theorem dX8_blameSign_5 : decode cX8_blameSign 5 = .ok (.iconst 1, 1) := by decide +kernel
theorem dX8_blameSign_6 : decode cX8_blameSign 6 = .ok (.aload_n 0, 1) := by decide +kernel
theorem dX8_blameSign_7 : decode cX8_blameSign 7 = .ok (.getfield 31, 3) := by decide +kernel
theorem dX8_blameSign_10 : decode cX8_blameSign 10 = .ok (.invokevirtual 43, 3) := by decide +kernel
theorem dX8_blameSign_13 : decode cX8_blameSign 13 = .ok (.return_, 1) := by decide +kernel
theorem dX8_blameToken_0 : decode cX8_blameToken 0 = .ok (.aload_n 0, 1) := by decide +kernel
theorem dX8_blameToken_1 : decode cX8_blameToken 1 = .ok (.iload_n 1, 1) := by decide +kernel
theorem dX8_blameToken_2 : decode cX8_blameToken 2 = .ok (.aload_n 0, 1) := by decide +kernel
theorem dX8_blameToken_3 : decode cX8_blameToken 3 = .ok (.getfield 34, 3) := by decide +kernel
theorem dX8_blameToken_6 : decode cX8_blameToken 6 = .ok (.invokevirtual 43, 3) := by decide +kernel
theorem dX8_blameToken_9 : decode cX8_blameToken 9 = .ok (.return_, 1) := by decide +kernel
theorem dX8_skipBlanks_0 : decode cX8_skipBlanks 0 = .ok (.aload_n 0, 1) := by decide +kernel
theorem dX8_skipBlanks_1 : decode cX8_skipBlanks 1 = .ok (.getfield 31, 3) := by decide +kernel
theorem dX8_skipBlanks_4 : decode cX8_skipBlanks 4 = .ok (.aload_n 0, 1) := by decide +kernel
theorem dX8_skipBlanks_5 : decode cX8_skipBlanks 5 = .ok (.getfield 28, 3) := by decide +kernel
theorem dX8_skipBlanks_8 : decode cX8_skipBlanks 8 = .ok (.if_icmp .ge 30, 3) := by decide +kernel
theorem dX8_skipBlanks_11 : decode cX8_skipBlanks 11 = .ok (.aload_n 0, 1) := by decide +kernel
theorem dX8_skipBlanks_12 : decode cX8_skipBlanks 12 = .ok (.getfield 11, 3) := by decide +kernel
theorem dX8_skipBlanks_15 : decode cX8_skipBlanks 15 = .ok (.aload_n 0, 1) := by decide +kernel
theorem dX8_skipBlanks_16 : decode cX8_skipBlanks 16 = .ok (.getfield 31, 3) := by decide +kernel
theorem dX8_skipBlanks_19 : decode cX8_skipBlanks 19 = .ok (.baload, 1) := by decide +kernel
theorem dX8_skipBlanks_20 : decode cX8_skipBlanks 20 = .ok (.bipush 32, 2) := by decide +kernel
theorem dX8_skipBlanks_22 : decode cX8_skipBlanks 22 = .ok (.if_icmp .ne 16, 3) := by decide +kernel
theorem dX8_skipBlanks_25 : decode cX8_skipBlanks 25 = .ok (.aload_n 0, 1) := by decide +kernel
theorem dX8_skipBlanks_26 : decode cX8_skipBlanks 26 = .ok (.dup, 1) := by decide +kernel
theorem dX8_skipBlanks_27 : decode cX8_skipBlanks 27 = .ok (.getfield 31, 3) := by decide +kernel
theorem dX8_skipBlanks_30 : decode cX8_skipBlanks 30 = .ok (.iconst 1, 1) := by decide +kernel
theorem dX8_skipBlanks_31 : decode cX8_skipBlanks 31 = .ok (.iadd, 1) := by decide +kernel
theorem dX8_skipBlanks_32 : decode cX8_skipBlanks 32 = .ok (.putfield 31, 3) := by decide +kernel
theorem dX8_skipBlanks_35 : decode cX8_skipBlanks 35 = .ok (.goto (-35), 3) := by decide +kernel
theorem dX8_skipBlanks_38 : decode cX8_skipBlanks 38 = .ok (.return_, 1) := by decide +kernel
theorem dX8_isEnded_0 : decode cX8_isEnded 0 = .ok (.aload_n 0, 1) := by decide +kernel
theorem dX8_isEnded_1 : decode cX8_isEnded 1 = .ok (.invokevirtual 40, 3) := by decide +kernel
theorem dX8_isEnded_4 : decode cX8_isEnded 4 = .ok (.aload_n 0, 1) := by decide +kernel
theorem dX8_isEnded_5 : decode cX8_isEnded 5 = .ok (.getfield 31, 3) := by decide +kernel
theorem dX8_isEnded_8 : decode cX8_isEnded 8 = .ok (.aload_n 0, 1) := by decide +kernel
theorem dX8_isEnded_9 : decode cX8_isEnded 9 = .ok (.getfield 28, 3) := by decide +kernel
theorem dX8_isEnded_12 : decode cX8_isEnded 12 = .ok (.if_icmp .lt 7, 3) := by decide +kernel
theorem dX8_isEnded_15 : decode cX8_isEnded 15 = .ok (.iconst 1, 1) := by decide +kernel
theorem dX8_isEnded_16 : decode cX8_isEnded 16 = .ok (.goto 4, 3) := by decide +kernel
theorem dX8_isEnded_19 : decode cX8_isEnded 19 = .ok (.iconst 0, 1) := by decide +kernel
theorem dX8_isEnded_20 : decode cX8_isEnded 20 = .ok (.ireturn, 1) := by decide +kernel
theorem dX8_seesDigit_0 : decode cX8_seesDigit 0 = .ok (.aload_n 0, 1) := by decide +kernel
theorem dX8_seesDigit_1 : decode cX8_seesDigit 1 = .ok (.invokevirtual 40, 3) := by decide +kernel
theorem dX8_seesDigit_4 : decode cX8_seesDigit 4 = .ok (.aload_n 0, 1) := by decide +kernel
theorem dX8_seesDigit_5 : decode cX8_seesDigit 5 = .ok (.aload_n 0, 1) := by decide +kernel
theorem dX8_seesDigit_6 : decode cX8_seesDigit 6 = .ok (.getfield 31, 3) := by decide +kernel
theorem dX8_seesDigit_9 : decode cX8_seesDigit 9 = .ok (.invokevirtual 47, 3) := by decide +kernel
theorem dX8_seesDigit_12 : decode cX8_seesDigit 12 = .ok (.ifCond .lt 7, 3) := by decide +kernel
theorem dX8_seesDigit_15 : decode cX8_seesDigit 15 = .ok (.iconst 1, 1) := by decide +kernel
theorem dX8_seesDigit_16 : decode cX8_seesDigit 16 = .ok (.goto 4, 3) := by decide +kernel
theorem dX8_seesDigit_19 : decode cX8_seesDigit 19 = .ok (.iconst 0, 1) := by decide +kernel
theorem dX8_seesDigit_20 : decode cX8_seesDigit 20 = .ok (.ireturn, 1) := by decide +kernel
theorem dX8_digitAt_0 : decode cX8_digitAt 0 = .ok (.iload_n 1, 1) := by decide +kernel
theorem dX8_digitAt_1 : decode cX8_digitAt 1 = .ok (.aload_n 0, 1) := by decide +kernel
theorem dX8_digitAt_2 : decode cX8_digitAt 2 = .ok (.getfield 28, 3) := by decide +kernel
theorem dX8_digitAt_5 : decode cX8_digitAt 5 = .ok (.if_icmp .ge 25, 3) := by decide +kernel
theorem dX8_digitAt_8 : decode cX8_digitAt 8 = .ok (.aload_n 0, 1) := by decide +kernel
theorem dX8_digitAt_9 : decode cX8_digitAt 9 = .ok (.getfield 11, 3) := by decide +kernel
theorem dX8_digitAt_12 : decode cX8_digitAt 12 = .ok (.iload_n 1, 1) := by decide +kernel
theorem dX8_digitAt_13 : decode cX8_digitAt 13 = .ok (.baload, 1) := by decide +kernel
theorem dX8_digitAt_14 : decode cX8_digitAt 14 = .ok (.bipush 48, 2) := by decide +kernel
theorem dX8_digitAt_16 : decode cX8_digitAt 16 = .ok (.if_icmp .lt 14, 3) := by decide +kernel
theorem dX8_digitAt_19 : decode cX8_digitAt 19 = .ok (.aload_n 0, 1) := by decide +kernel
theorem dX8_digitAt_20 : decode cX8_digitAt 20 = .ok (.getfield 11, 3) := by decide +kernel
theorem dX8_digitAt_23 : decode cX8_digitAt 23 = .ok (.iload_n 1, 1) := by decide +kernel
theorem dX8_digitAt_24 : decode cX8_digitAt 24 = .ok (.baload, 1) := by decide +kernel
theorem dX8_digitAt_25 : decode cX8_digitAt 25 = .ok (.bipush 57, 2) := by decide +kernel
theorem dX8_digitAt_27 : decode cX8_digitAt 27 = .ok (.if_icmp .le 5, 3) := by decide +kernel
theorem dX8_digitAt_30 : decode cX8_digitAt 30 = .ok (.iconst (-1), 1) := by decide +kernel
theorem dX8_digitAt_31 : decode cX8_digitAt 31 = .ok (.ireturn, 1) := by decide +kernel
theorem dX8_digitAt_32 : decode cX8_digitAt 32 = .ok (.aload_n 0, 1) := by decide +kernel
theorem dX8_digitAt_33 : decode cX8_digitAt 33 = .ok (.getfield 11, 3) := by decide +kernel
theorem dX8_digitAt_36 : decode cX8_digitAt 36 = .ok (.iload_n 1, 1) := by decide +kernel
theorem dX8_digitAt_37 : decode cX8_digitAt 37 = .ok (.baload, 1) := by decide +kernel
theorem dX8_digitAt_38 : decode cX8_digitAt 38 = .ok (.bipush 48, 2) := by decide +kernel
theorem dX8_digitAt_40 : decode cX8_digitAt 40 = .ok (.isub, 1) := by decide +kernel
theorem dX8_digitAt_41 : decode cX8_digitAt 41 = .ok (.ireturn, 1) := by decide +kernel
theorem dX8_isLetter_0 : decode cX8_isLetter 0 = .ok (.iload_n 1, 1) := by decide +kernel
theorem dX8_isLetter_1 : decode cX8_isLetter 1 = .ok (.aload_n 0, 1) := by decide +kernel
theorem dX8_isLetter_2 : decode cX8_isLetter 2 = .ok (.getfield 28, 3) := by decide +kernel
theorem dX8_isLetter_5 : decode cX8_isLetter 5 = .ok (.if_icmp .ge 29, 3) := by decide +kernel
theorem dX8_isLetter_8 : decode cX8_isLetter 8 = .ok (.aload_n 0, 1) := by decide +kernel
theorem dX8_isLetter_9 : decode cX8_isLetter 9 = .ok (.getfield 11, 3) := by decide +kernel
theorem dX8_isLetter_12 : decode cX8_isLetter 12 = .ok (.iload_n 1, 1) := by decide +kernel
theorem dX8_isLetter_13 : decode cX8_isLetter 13 = .ok (.baload, 1) := by decide +kernel
theorem dX8_isLetter_14 : decode cX8_isLetter 14 = .ok (.bipush 97, 2) := by decide +kernel
theorem dX8_isLetter_16 : decode cX8_isLetter 16 = .ok (.if_icmp .lt 18, 3) := by decide +kernel
theorem dX8_isLetter_19 : decode cX8_isLetter 19 = .ok (.aload_n 0, 1) := by decide +kernel
theorem dX8_isLetter_20 : decode cX8_isLetter 20 = .ok (.getfield 11, 3) := by decide +kernel
theorem dX8_isLetter_23 : decode cX8_isLetter 23 = .ok (.iload_n 1, 1) := by decide +kernel
theorem dX8_isLetter_24 : decode cX8_isLetter 24 = .ok (.baload, 1) := by decide +kernel
theorem dX8_isLetter_25 : decode cX8_isLetter 25 = .ok (.bipush 122, 2) := by decide +kernel
theorem dX8_isLetter_27 : decode cX8_isLetter 27 = .ok (.if_icmp .gt 7, 3) := by decide +kernel
theorem dX8_isLetter_30 : decode cX8_isLetter 30 = .ok (.iconst 1, 1) := by decide +kernel
theorem dX8_isLetter_31 : decode cX8_isLetter 31 = .ok (.goto 4, 3) := by decide +kernel
theorem dX8_isLetter_34 : decode cX8_isLetter 34 = .ok (.iconst 0, 1) := by decide +kernel
theorem dX8_isLetter_35 : decode cX8_isLetter 35 = .ok (.ireturn, 1) := by decide +kernel
theorem dX8_takes_0 : decode cX8_takes 0 = .ok (.aload_n 0, 1) := by decide +kernel
theorem dX8_takes_1 : decode cX8_takes 1 = .ok (.invokevirtual 40, 3) := by decide +kernel
theorem dX8_takes_4 : decode cX8_takes 4 = .ok (.aload_n 0, 1) := by decide +kernel
theorem dX8_takes_5 : decode cX8_takes 5 = .ok (.invokevirtual 51, 3) := by decide +kernel
theorem dX8_takes_8 : decode cX8_takes 8 = .ok (.ifCond .ne 27, 3) := by decide +kernel
theorem dX8_takes_11 : decode cX8_takes 11 = .ok (.aload_n 0, 1) := by decide +kernel
theorem dX8_takes_12 : decode cX8_takes 12 = .ok (.getfield 31, 3) := by decide +kernel
theorem dX8_takes_15 : decode cX8_takes 15 = .ok (.aload_n 0, 1) := by decide +kernel
theorem dX8_takes_16 : decode cX8_takes 16 = .ok (.getfield 28, 3) := by decide +kernel
theorem dX8_takes_19 : decode cX8_takes 19 = .ok (.if_icmp .ge 16, 3) := by decide +kernel
theorem dX8_takes_22 : decode cX8_takes 22 = .ok (.aload_n 0, 1) := by decide +kernel
theorem dX8_takes_23 : decode cX8_takes 23 = .ok (.getfield 11, 3) := by decide +kernel
theorem dX8_takes_26 : decode cX8_takes 26 = .ok (.aload_n 0, 1) := by decide +kernel
theorem dX8_takes_27 : decode cX8_takes 27 = .ok (.getfield 31, 3) := by decide +kernel
theorem dX8_takes_30 : decode cX8_takes 30 = .ok (.baload, 1) := by decide +kernel
theorem dX8_takes_31 : decode cX8_takes 31 = .ok (.iload_n 1, 1) := by decide +kernel
theorem dX8_takes_32 : decode cX8_takes 32 = .ok (.if_icmp .eq 5, 3) := by decide +kernel
theorem dX8_takes_35 : decode cX8_takes 35 = .ok (.iconst 0, 1) := by decide +kernel
theorem dX8_takes_36 : decode cX8_takes 36 = .ok (.ireturn, 1) := by decide +kernel
theorem dX8_takes_37 : decode cX8_takes 37 = .ok (.aload_n 0, 1) := by decide +kernel
theorem dX8_takes_38 : decode cX8_takes 38 = .ok (.aload_n 0, 1) := by decide +kernel
theorem dX8_takes_39 : decode cX8_takes 39 = .ok (.getfield 31, 3) := by decide +kernel
theorem dX8_takes_42 : decode cX8_takes 42 = .ok (.putfield 34, 3) := by decide +kernel
theorem dX8_takes_45 : decode cX8_takes 45 = .ok (.aload_n 0, 1) := by decide +kernel
theorem dX8_takes_46 : decode cX8_takes 46 = .ok (.dup, 1) := by decide +kernel
theorem dX8_takes_47 : decode cX8_takes 47 = .ok (.getfield 31, 3) := by decide +kernel
theorem dX8_takes_50 : decode cX8_takes 50 = .ok (.iconst 1, 1) := by decide +kernel
theorem dX8_takes_51 : decode cX8_takes 51 = .ok (.iadd, 1) := by decide +kernel
theorem dX8_takes_52 : decode cX8_takes 52 = .ok (.putfield 31, 3) := by decide +kernel
theorem dX8_takes_55 : decode cX8_takes 55 = .ok (.iconst 1, 1) := by decide +kernel
theorem dX8_takes_56 : decode cX8_takes 56 = .ok (.ireturn, 1) := by decide +kernel
theorem dX8_needs_0 : decode cX8_needs 0 = .ok (.aload_n 0, 1) := by decide +kernel
theorem dX8_needs_1 : decode cX8_needs 1 = .ok (.iload_n 1, 1) := by decide +kernel
theorem dX8_needs_2 : decode cX8_needs 2 = .ok (.invokevirtual 55, 3) := by decide +kernel
theorem dX8_needs_5 : decode cX8_needs 5 = .ok (.ifCond .ne 7, 3) := by decide +kernel
theorem dX8_needs_8 : decode cX8_needs 8 = .ok (.aload_n 0, 1) := by decide +kernel
theorem dX8_needs_9 : decode cX8_needs 9 = .ok (.invokevirtual 59, 3) := by decide +kernel
theorem dX8_needs_12 : decode cX8_needs 12 = .ok (.return_, 1) := by decide +kernel
theorem dX8_needsEnd_0 : decode cX8_needsEnd 0 = .ok (.aload_n 0, 1) := by decide +kernel
theorem dX8_needsEnd_1 : decode cX8_needsEnd 1 = .ok (.invokevirtual 62, 3) := by decide +kernel
theorem dX8_needsEnd_4 : decode cX8_needsEnd 4 = .ok (.ifCond .ne 7, 3) := by decide +kernel
theorem dX8_needsEnd_7 : decode cX8_needsEnd 7 = .ok (.aload_n 0, 1) := by decide +kernel
theorem dX8_needsEnd_8 : decode cX8_needsEnd 8 = .ok (.invokevirtual 59, 3) := by decide +kernel
theorem dX8_needsEnd_11 : decode cX8_needsEnd 11 = .ok (.return_, 1) := by decide +kernel
theorem dX8_takesWord_0 : decode cX8_takesWord 0 = .ok (.aload_n 0, 1) := by decide +kernel
theorem dX8_takesWord_1 : decode cX8_takesWord 1 = .ok (.invokevirtual 40, 3) := by decide +kernel
theorem dX8_takesWord_4 : decode cX8_takesWord 4 = .ok (.aload_n 0, 1) := by decide +kernel
theorem dX8_takesWord_5 : decode cX8_takesWord 5 = .ok (.getfield 31, 3) := by decide +kernel
theorem dX8_takesWord_8 : decode cX8_takesWord 8 = .ok (.aload_n 1, 1) := by decide +kernel
theorem dX8_takesWord_9 : decode cX8_takesWord 9 = .ok (.invokevirtual 65, 3) := by decide +kernel
theorem dX8_takesWord_12 : decode cX8_takesWord 12 = .ok (.iadd, 1) := by decide +kernel
theorem dX8_takesWord_13 : decode cX8_takesWord 13 = .ok (.istore_n 2, 1) := by decide +kernel
theorem dX8_takesWord_14 : decode cX8_takesWord 14 = .ok (.aload_n 0, 1) := by decide +kernel
theorem dX8_takesWord_15 : decode cX8_takesWord 15 = .ok (.invokevirtual 51, 3) := by decide +kernel
theorem dX8_takesWord_18 : decode cX8_takesWord 18 = .ok (.ifCond .ne 19, 3) := by decide +kernel
theorem dX8_takesWord_21 : decode cX8_takesWord 21 = .ok (.iload_n 2, 1) := by decide +kernel
theorem dX8_takesWord_22 : decode cX8_takesWord 22 = .ok (.aload_n 0, 1) := by decide +kernel
theorem dX8_takesWord_23 : decode cX8_takesWord 23 = .ok (.getfield 28, 3) := by decide +kernel
theorem dX8_takesWord_26 : decode cX8_takesWord 26 = .ok (.if_icmp .gt 11, 3) := by decide +kernel
theorem dX8_takesWord_29 : decode cX8_takesWord 29 = .ok (.aload_n 0, 1) := by decide +kernel
theorem dX8_takesWord_30 : decode cX8_takesWord 30 = .ok (.iload_n 2, 1) := by decide +kernel
theorem dX8_takesWord_31 : decode cX8_takesWord 31 = .ok (.invokevirtual 70, 3) := by decide +kernel
theorem dX8_takesWord_34 : decode cX8_takesWord 34 = .ok (.ifCond .eq 5, 3) := by decide +kernel
theorem dX8_takesWord_37 : decode cX8_takesWord 37 = .ok (.iconst 0, 1) := by decide +kernel
theorem dX8_takesWord_38 : decode cX8_takesWord 38 = .ok (.ireturn, 1) := by decide +kernel
theorem dX8_takesWord_39 : decode cX8_takesWord 39 = .ok (.iconst 0, 1) := by decide +kernel
theorem dX8_takesWord_40 : decode cX8_takesWord 40 = .ok (.istore_n 3, 1) := by decide +kernel
theorem dX8_takesWord_41 : decode cX8_takesWord 41 = .ok (.iload_n 3, 1) := by decide +kernel
theorem dX8_takesWord_42 : decode cX8_takesWord 42 = .ok (.aload_n 1, 1) := by decide +kernel
theorem dX8_takesWord_43 : decode cX8_takesWord 43 = .ok (.invokevirtual 65, 3) := by decide +kernel
theorem dX8_takesWord_46 : decode cX8_takesWord 46 = .ok (.if_icmp .ge 30, 3) := by decide +kernel
theorem dX8_takesWord_49 : decode cX8_takesWord 49 = .ok (.aload_n 0, 1) := by decide +kernel
theorem dX8_takesWord_50 : decode cX8_takesWord 50 = .ok (.getfield 11, 3) := by decide +kernel
theorem dX8_takesWord_53 : decode cX8_takesWord 53 = .ok (.aload_n 0, 1) := by decide +kernel
theorem dX8_takesWord_54 : decode cX8_takesWord 54 = .ok (.getfield 31, 3) := by decide +kernel
theorem dX8_takesWord_57 : decode cX8_takesWord 57 = .ok (.iload_n 3, 1) := by decide +kernel
theorem dX8_takesWord_58 : decode cX8_takesWord 58 = .ok (.iadd, 1) := by decide +kernel
theorem dX8_takesWord_59 : decode cX8_takesWord 59 = .ok (.baload, 1) := by decide +kernel
theorem dX8_takesWord_60 : decode cX8_takesWord 60 = .ok (.aload_n 1, 1) := by decide +kernel
theorem dX8_takesWord_61 : decode cX8_takesWord 61 = .ok (.iload_n 3, 1) := by decide +kernel
theorem dX8_takesWord_62 : decode cX8_takesWord 62 = .ok (.invokevirtual 74, 3) := by decide +kernel
theorem dX8_takesWord_65 : decode cX8_takesWord 65 = .ok (.if_icmp .eq 5, 3) := by decide +kernel
theorem dX8_takesWord_68 : decode cX8_takesWord 68 = .ok (.iconst 0, 1) := by decide +kernel
theorem dX8_takesWord_69 : decode cX8_takesWord 69 = .ok (.ireturn, 1) := by decide +kernel
theorem dX8_takesWord_70 : decode cX8_takesWord 70 = .ok (.iinc 3 1, 3) := by decide +kernel
theorem dX8_takesWord_73 : decode cX8_takesWord 73 = .ok (.goto (-32), 3) := by decide +kernel
theorem dX8_takesWord_76 : decode cX8_takesWord 76 = .ok (.aload_n 0, 1) := by decide +kernel
theorem dX8_takesWord_77 : decode cX8_takesWord 77 = .ok (.aload_n 0, 1) := by decide +kernel
theorem dX8_takesWord_78 : decode cX8_takesWord 78 = .ok (.getfield 31, 3) := by decide +kernel
theorem dX8_takesWord_81 : decode cX8_takesWord 81 = .ok (.putfield 34, 3) := by decide +kernel
theorem dX8_takesWord_84 : decode cX8_takesWord 84 = .ok (.aload_n 0, 1) := by decide +kernel
theorem dX8_takesWord_85 : decode cX8_takesWord 85 = .ok (.iload_n 2, 1) := by decide +kernel
theorem dX8_takesWord_86 : decode cX8_takesWord 86 = .ok (.putfield 31, 3) := by decide +kernel
theorem dX8_takesWord_89 : decode cX8_takesWord 89 = .ok (.iconst 1, 1) := by decide +kernel
theorem dX8_takesWord_90 : decode cX8_takesWord 90 = .ok (.ireturn, 1) := by decide +kernel
theorem dX8_number_0 : decode cX8_number 0 = .ok (.aload_n 0, 1) := by decide +kernel
theorem dX8_number_1 : decode cX8_number 1 = .ok (.invokevirtual 40, 3) := by decide +kernel
theorem dX8_number_4 : decode cX8_number 4 = .ok (.aload_n 0, 1) := by decide +kernel
theorem dX8_number_5 : decode cX8_number 5 = .ok (.aload_n 0, 1) := by decide +kernel
theorem dX8_number_6 : decode cX8_number 6 = .ok (.getfield 31, 3) := by decide +kernel
theorem dX8_number_9 : decode cX8_number 9 = .ok (.invokevirtual 47, 3) := by decide +kernel
theorem dX8_number_12 : decode cX8_number 12 = .ok (.ifCond .ge 12, 3) := by decide +kernel
theorem dX8_number_15 : decode cX8_number 15 = .ok (.aload_n 0, 1) := by decide +kernel
theorem dX8_number_16 : decode cX8_number 16 = .ok (.iconst 1, 1) := by decide +kernel
theorem dX8_number_17 : decode cX8_number 17 = .ok (.aload_n 0, 1) := by decide +kernel
theorem dX8_number_18 : decode cX8_number 18 = .ok (.getfield 31, 3) := by decide +kernel
theorem dX8_number_21 : decode cX8_number 21 = .ok (.invokevirtual 43, 3) := by decide +kernel
theorem dX8_number_24 : decode cX8_number 24 = .ok (.aload_n 0, 1) := by decide +kernel
theorem dX8_number_25 : decode cX8_number 25 = .ok (.invokevirtual 51, 3) := by decide +kernel
theorem dX8_number_28 : decode cX8_number 28 = .ok (.ifCond .eq 5, 3) := by decide +kernel
theorem dX8_number_31 : decode cX8_number 31 = .ok (.iconst 0, 1) := by decide +kernel
theorem dX8_number_32 : decode cX8_number 32 = .ok (.ireturn, 1) := by decide +kernel
theorem dX8_number_33 : decode cX8_number 33 = .ok (.aload_n 0, 1) := by decide +kernel
theorem dX8_number_34 : decode cX8_number 34 = .ok (.aload_n 0, 1) := by decide +kernel
theorem dX8_number_35 : decode cX8_number 35 = .ok (.getfield 31, 3) := by decide +kernel
theorem dX8_number_38 : decode cX8_number 38 = .ok (.putfield 34, 3) := by decide +kernel
theorem dX8_number_41 : decode cX8_number 41 = .ok (.iconst 0, 1) := by decide +kernel
theorem dX8_number_42 : decode cX8_number 42 = .ok (.istore_n 3, 1) := by decide +kernel
theorem dX8_number_43 : decode cX8_number 43 = .ok (.aload_n 0, 1) := by decide +kernel
theorem dX8_number_44 : decode cX8_number 44 = .ok (.getfield 31, 3) := by decide +kernel
theorem dX8_number_47 : decode cX8_number 47 = .ok (.aload_n 0, 1) := by decide +kernel
theorem dX8_number_48 : decode cX8_number 48 = .ok (.getfield 28, 3) := by decide +kernel
theorem dX8_number_51 : decode cX8_number 51 = .ok (.if_icmp .ge 46, 3) := by decide +kernel
theorem dX8_number_54 : decode cX8_number 54 = .ok (.aload_n 0, 1) := by decide +kernel
theorem dX8_number_55 : decode cX8_number 55 = .ok (.aload_n 0, 1) := by decide +kernel
theorem dX8_number_56 : decode cX8_number 56 = .ok (.getfield 31, 3) := by decide +kernel
theorem dX8_number_59 : decode cX8_number 59 = .ok (.invokevirtual 47, 3) := by decide +kernel
theorem dX8_number_62 : decode cX8_number 62 = .ok (.ifCond .lt 35, 3) := by decide +kernel
theorem dX8_number_65 : decode cX8_number 65 = .ok (.ldc 78, 2) := by decide +kernel
theorem dX8_number_67 : decode cX8_number 67 = .ok (.iload_n 3, 1) := by decide +kernel
theorem dX8_number_68 : decode cX8_number 68 = .ok (.bipush 10, 2) := by decide +kernel
theorem dX8_number_70 : decode cX8_number 70 = .ok (.imul, 1) := by decide +kernel
theorem dX8_number_71 : decode cX8_number 71 = .ok (.aload_n 0, 1) := by decide +kernel
theorem dX8_number_72 : decode cX8_number 72 = .ok (.aload_n 0, 1) := by decide +kernel
theorem dX8_number_73 : decode cX8_number 73 = .ok (.getfield 31, 3) := by decide +kernel
theorem dX8_number_76 : decode cX8_number 76 = .ok (.invokevirtual 47, 3) := by decide +kernel
theorem dX8_number_79 : decode cX8_number 79 = .ok (.iadd, 1) := by decide +kernel
theorem dX8_number_80 : decode cX8_number 80 = .ok (.invokestatic 22, 3) := by decide +kernel
theorem dX8_number_83 : decode cX8_number 83 = .ok (.istore_n 3, 1) := by decide +kernel
theorem dX8_number_84 : decode cX8_number 84 = .ok (.aload_n 0, 1) := by decide +kernel
theorem dX8_number_85 : decode cX8_number 85 = .ok (.dup, 1) := by decide +kernel
theorem dX8_number_86 : decode cX8_number 86 = .ok (.getfield 31, 3) := by decide +kernel
theorem dX8_number_89 : decode cX8_number 89 = .ok (.iconst 1, 1) := by decide +kernel
theorem dX8_number_90 : decode cX8_number 90 = .ok (.iadd, 1) := by decide +kernel
theorem dX8_number_91 : decode cX8_number 91 = .ok (.putfield 31, 3) := by decide +kernel
theorem dX8_number_94 : decode cX8_number 94 = .ok (.goto (-51), 3) := by decide +kernel
theorem dX8_number_97 : decode cX8_number 97 = .ok (.iload_n 3, 1) := by decide +kernel
theorem dX8_number_98 : decode cX8_number 98 = .ok (.iload_n 1, 1) := by decide +kernel
theorem dX8_number_99 : decode cX8_number 99 = .ok (.iload_n 2, 1) := by decide +kernel
theorem dX8_number_100 : decode cX8_number 100 = .ok (.invokestatic 79, 3) := by decide +kernel
theorem dX8_number_103 : decode cX8_number 103 = .ok (.ifCond .ne 12, 3) := by decide +kernel
theorem dX8_number_106 : decode cX8_number 106 = .ok (.aload_n 0, 1) := by decide +kernel
theorem dX8_number_107 : decode cX8_number 107 = .ok (.iconst 2, 1) := by decide +kernel
theorem dX8_number_108 : decode cX8_number 108 = .ok (.aload_n 0, 1) := by decide +kernel
theorem dX8_number_109 : decode cX8_number 109 = .ok (.getfield 34, 3) := by decide +kernel
theorem dX8_number_112 : decode cX8_number 112 = .ok (.invokevirtual 43, 3) := by decide +kernel
theorem dX8_number_115 : decode cX8_number 115 = .ok (.iload_n 3, 1) := by decide +kernel
theorem dX8_number_116 : decode cX8_number 116 = .ok (.ireturn, 1) := by decide +kernel
theorem dX9_init_0 : decode cX9_init 0 = .ok (.aload_n 0, 1) := by decide +kernel
theorem dX9_init_1 : decode cX9_init 1 = .ok (.invokespecial 3, 3) := by decide +kernel
theorem dX9_init_4 : decode cX9_init 4 = .ok (.aload_n 0, 1) := by decide +kernel
theorem dX9_init_5 : decode cX9_init 5 = .ok (.bipush 50, 2) := by decide +kernel
theorem dX9_init_7 : decode cX9_init 7 = .ok (.newarray .int, 2) := by decide +kernel
theorem dX9_init_9 : decode cX9_init 9 = .ok (.putfield 11, 3) := by decide +kernel
theorem dX9_init_12 : decode cX9_init 12 = .ok (.aload_n 0, 1) := by decide +kernel
theorem dX9_init_13 : decode cX9_init 13 = .ok (.bipush 50, 2) := by decide +kernel
theorem dX9_init_15 : decode cX9_init 15 = .ok (.newarray .int, 2) := by decide +kernel
theorem dX9_init_17 : decode cX9_init 17 = .ok (.putfield 15, 3) := by decide +kernel
theorem dX9_init_20 : decode cX9_init 20 = .ok (.aload_n 0, 1) := by decide +kernel
theorem dX9_init_21 : decode cX9_init 21 = .ok (.bipush 50, 2) := by decide +kernel
theorem dX9_init_23 : decode cX9_init 23 = .ok (.newarray .int, 2) := by decide +kernel
theorem dX9_init_25 : decode cX9_init 25 = .ok (.putfield 18, 3) := by decide +kernel
theorem dX9_init_28 : decode cX9_init 28 = .ok (.aload_n 0, 1) := by decide +kernel
theorem dX9_init_29 : decode cX9_init 29 = .ok (.bipush 50, 2) := by decide +kernel
theorem dX9_init_31 : decode cX9_init 31 = .ok (.newarray .int, 2) := by decide +kernel
theorem dX9_init_33 : decode cX9_init 33 = .ok (.putfield 21, 3) := by decide +kernel
theorem dX9_init_36 : decode cX9_init 36 = .ok (.aload_n 0, 1) := by decide +kernel
theorem dX9_init_37 : decode cX9_init 37 = .ok (.bipush 6, 2) := by decide +kernel
theorem dX9_init_39 : decode cX9_init 39 = .ok (.newarray .int, 2) := by decide +kernel
theorem dX9_init_41 : decode cX9_init 41 = .ok (.putfield 24, 3) := by decide +kernel
theorem dX9_init_44 : decode cX9_init 44 = .ok (.aload_n 0, 1) := by decide +kernel
theorem dX9_init_45 : decode cX9_init 45 = .ok (.bipush 6, 2) := by decide +kernel
theorem dX9_init_47 : decode cX9_init 47 = .ok (.newarray .int, 2) := by decide +kernel
theorem dX9_init_49 : decode cX9_init 49 = .ok (.putfield 27, 3) := by decide +kernel
theorem dX9_init_52 : decode cX9_init 52 = .ok (.return_, 1) := by decide +kernel
theorem dX9_readFrom_0 : decode cX9_readFrom 0 = .ok (.aload_n 0, 1) := by decide +kernel
theorem dX9_readFrom_1 : decode cX9_readFrom 1 = .ok (.iload_n 2, 1) := by decide +kernel
theorem dX9_readFrom_2 : decode cX9_readFrom 2 = .ok (.putfield 30, 3) := by decide +kernel
theorem dX9_readFrom_5 : decode cX9_readFrom 5 = .ok (.aload_n 0, 1) := by decide +kernel
theorem dX9_readFrom_6 : decode cX9_readFrom 6 = .ok (.iload_n 3, 1) := by decide +kernel
theorem dX9_readFrom_7 : decode cX9_readFrom 7 = .ok (.putfield 34, 3) := by decide +kernel
theorem dX9_readFrom_10 : decode cX9_readFrom 10 = .ok (.aload_n 0, 1) := by decide +kernel
theorem dX9_readFrom_11 : decode cX9_readFrom 11 = .ok (.iconst 0, 1) := by decide +kernel
theorem dX9_readFrom_12 : decode cX9_readFrom 12 = .ok (.putfield 37, 3) := by decide +kernel
theorem dX9_readFrom_15 : decode cX9_readFrom 15 = .ok (.aload_n 0, 1) := by decide +kernel
theorem dX9_readFrom_16 : decode cX9_readFrom 16 = .ok (.iconst 0, 1) := by decide +kernel
theorem dX9_readFrom_17 : decode cX9_readFrom 17 = .ok (.putfield 40, 3) := by decide +kernel
theorem dX9_readFrom_20 : decode cX9_readFrom 20 = .ok (.iconst 0, 1) := by decide +kernel
theorem dX9_readFrom_21 : decode cX9_readFrom 21 = .ok (.istore 4, 2) := by decide +kernel
theorem dX9_readFrom_23 : decode cX9_readFrom 23 = .ok (.iload 4, 2) := by decide +kernel
theorem dX9_readFrom_25 : decode cX9_readFrom 25 = .ok (.sipush 150, 3) := by decide +kernel
theorem dX9_readFrom_28 : decode cX9_readFrom 28 = .ok (.if_icmp .gt 65, 3) := by decide +kernel
theorem dX9_readFrom_31 : decode cX9_readFrom 31 = .ok (.aload_n 1, 1) := by decide +kernel
theorem dX9_readFrom_32 : decode cX9_readFrom 32 = .ok (.invokevirtual 43, 3) := by decide +kernel
theorem dX9_readFrom_35 : decode cX9_readFrom 35 = .ok (.ifCond .ne 58, 3) := by decide +kernel
theorem dX9_readFrom_38 : decode cX9_readFrom 38 = .ok (.aload_n 0, 1) := by decide +kernel
theorem dX9_readFrom_39 : decode cX9_readFrom 39 = .ok (.getfield 40, 3) := by decide +kernel
theorem dX9_readFrom_42 : decode cX9_readFrom 42 = .ok (.ifCond .ne 11, 3) := by decide +kernel
theorem dX9_readFrom_45 : decode cX9_readFrom 45 = .ok (.aload_n 1, 1) := by decide +kernel
theorem dX9_readFrom_46 : decode cX9_readFrom 46 = .ok (.invokevirtual 49, 3) := by decide +kernel
theorem dX9_readFrom_49 : decode cX9_readFrom 49 = .ok (.ifCond .eq 4, 3) := by decide +kernel
theorem dX9_readFrom_52 : decode cX9_readFrom 52 = .ok (.return_, 1) := by decide +kernel
theorem dX9_readFrom_53 : decode cX9_readFrom 53 = .ok (.aload_n 0, 1) := by decide +kernel
theorem dX9_readFrom_54 : decode cX9_readFrom 54 = .ok (.getfield 40, 3) := by decide +kernel
theorem dX9_readFrom_57 : decode cX9_readFrom 57 = .ok (.ifCond .le 25, 3) := by decide +kernel
theorem dX9_readFrom_60 : decode cX9_readFrom 60 = .ok (.aload_n 1, 1) := by decide +kernel
theorem dX9_readFrom_61 : decode cX9_readFrom 61 = .ok (.bipush 93, 2) := by decide +kernel
theorem dX9_readFrom_63 : decode cX9_readFrom 63 = .ok (.invokevirtual 52, 3) := by decide +kernel
theorem dX9_readFrom_66 : decode cX9_readFrom 66 = .ok (.ifCond .eq 16, 3) := by decide +kernel
theorem dX9_readFrom_69 : decode cX9_readFrom 69 = .ok (.aload_n 0, 1) := by decide +kernel
theorem dX9_readFrom_70 : decode cX9_readFrom 70 = .ok (.invokevirtual 56, 3) := by decide +kernel
theorem dX9_readFrom_73 : decode cX9_readFrom 73 = .ok (.aload_n 1, 1) := by decide +kernel
theorem dX9_readFrom_74 : decode cX9_readFrom 74 = .ok (.bipush 59, 2) := by decide +kernel
theorem dX9_readFrom_76 : decode cX9_readFrom 76 = .ok (.invokevirtual 59, 3) := by decide +kernel
theorem dX9_readFrom_79 : decode cX9_readFrom 79 = .ok (.goto 8, 3) := by decide +kernel
theorem dX9_readFrom_82 : decode cX9_readFrom 82 = .ok (.aload_n 0, 1) := by decide +kernel
theorem dX9_readFrom_83 : decode cX9_readFrom 83 = .ok (.aload_n 1, 1) := by decide +kernel
theorem dX9_readFrom_84 : decode cX9_readFrom 84 = .ok (.invokevirtual 63, 3) := by decide +kernel
theorem dX9_readFrom_87 : decode cX9_readFrom 87 = .ok (.iinc 4 1, 3) := by decide +kernel
theorem dX9_readFrom_90 : decode cX9_readFrom 90 = .ok (.goto (-67), 3) := by decide +kernel
theorem dX9_readFrom_93 : decode cX9_readFrom 93 = .ok (.return_, 1) := by decide +kernel
theorem dX9_readStep_0 : decode cX9_readStep 0 = .ok (.aload_n 1, 1) := by decide +kernel
theorem dX9_readStep_1 : decode cX9_readStep 1 = .ok (.ldc 67, 2) := by decide +kernel
theorem dX9_readStep_3 : decode cX9_readStep 3 = .ok (.invokevirtual 69, 3) := by decide +kernel
theorem dX9_readStep_6 : decode cX9_readStep 6 = .ok (.ifCond .eq 9, 3) := by decide +kernel
theorem dX9_readStep_9 : decode cX9_readStep 9 = .ok (.aload_n 0, 1) := by decide +kernel
theorem dX9_readStep_10 : decode cX9_readStep 10 = .ok (.aload_n 1, 1) := by decide +kernel
theorem dX9_readStep_11 : decode cX9_readStep 11 = .ok (.invokevirtual 73, 3) := by decide +kernel
theorem dX9_readStep_14 : decode cX9_readStep 14 = .ok (.return_, 1) := by decide +kernel
theorem dX9_readStep_15 : decode cX9_readStep 15 = .ok (.aload_n 1, 1) := by decide +kernel
theorem dX9_readStep_16 : decode cX9_readStep 16 = .ok (.ldc 76, 2) := by decide +kernel
theorem dX9_readStep_18 : decode cX9_readStep 18 = .ok (.invokevirtual 69, 3) := by decide +kernel
theorem dX9_readStep_21 : decode cX9_readStep 21 = .ok (.ifCond .eq 36, 3) := by decide +kernel
theorem dX9_readStep_24 : decode cX9_readStep 24 = .ok (.aload_n 1, 1) := by decide +kernel
theorem dX9_readStep_25 : decode cX9_readStep 25 = .ok (.iconst 0, 1) := by decide +kernel
theorem dX9_readStep_26 : decode cX9_readStep 26 = .ok (.aload_n 0, 1) := by decide +kernel
theorem dX9_readStep_27 : decode cX9_readStep 27 = .ok (.getfield 30, 3) := by decide +kernel
theorem dX9_readStep_30 : decode cX9_readStep 30 = .ok (.iconst 1, 1) := by decide +kernel
theorem dX9_readStep_31 : decode cX9_readStep 31 = .ok (.isub, 1) := by decide +kernel
theorem dX9_readStep_32 : decode cX9_readStep 32 = .ok (.invokevirtual 78, 3) := by decide +kernel
theorem dX9_readStep_35 : decode cX9_readStep 35 = .ok (.istore_n 2, 1) := by decide +kernel
theorem dX9_readStep_36 : decode cX9_readStep 36 = .ok (.aload_n 0, 1) := by decide +kernel
theorem dX9_readStep_37 : decode cX9_readStep 37 = .ok (.iconst 0, 1) := by decide +kernel
theorem dX9_readStep_38 : decode cX9_readStep 38 = .ok (.iload_n 2, 1) := by decide +kernel
theorem dX9_readStep_39 : decode cX9_readStep 39 = .ok (.aload_n 1, 1) := by decide +kernel
theorem dX9_readStep_40 : decode cX9_readStep 40 = .ok (.iconst 0, 1) := by decide +kernel
theorem dX9_readStep_41 : decode cX9_readStep 41 = .ok (.aload_n 0, 1) := by decide +kernel
theorem dX9_readStep_42 : decode cX9_readStep 42 = .ok (.getfield 34, 3) := by decide +kernel
theorem dX9_readStep_45 : decode cX9_readStep 45 = .ok (.iconst 1, 1) := by decide +kernel
theorem dX9_readStep_46 : decode cX9_readStep 46 = .ok (.isub, 1) := by decide +kernel
theorem dX9_readStep_47 : decode cX9_readStep 47 = .ok (.invokevirtual 78, 3) := by decide +kernel
theorem dX9_readStep_50 : decode cX9_readStep 50 = .ok (.iconst 0, 1) := by decide +kernel
theorem dX9_readStep_51 : decode cX9_readStep 51 = .ok (.invokevirtual 82, 3) := by decide +kernel
theorem dX9_readStep_54 : decode cX9_readStep 54 = .ok (.goto 119, 3) := by decide +kernel
theorem dX9_readStep_57 : decode cX9_readStep 57 = .ok (.aload_n 1, 1) := by decide +kernel
theorem dX9_readStep_58 : decode cX9_readStep 58 = .ok (.ldc 86, 2) := by decide +kernel
theorem dX9_readStep_60 : decode cX9_readStep 60 = .ok (.invokevirtual 69, 3) := by decide +kernel
theorem dX9_readStep_63 : decode cX9_readStep 63 = .ok (.ifCond .eq 36, 3) := by decide +kernel
theorem dX9_readStep_66 : decode cX9_readStep 66 = .ok (.aload_n 1, 1) := by decide +kernel
theorem dX9_readStep_67 : decode cX9_readStep 67 = .ok (.iconst 0, 1) := by decide +kernel
theorem dX9_readStep_68 : decode cX9_readStep 68 = .ok (.aload_n 0, 1) := by decide +kernel
theorem dX9_readStep_69 : decode cX9_readStep 69 = .ok (.getfield 30, 3) := by decide +kernel
theorem dX9_readStep_72 : decode cX9_readStep 72 = .ok (.iconst 1, 1) := by decide +kernel
theorem dX9_readStep_73 : decode cX9_readStep 73 = .ok (.isub, 1) := by decide +kernel
theorem dX9_readStep_74 : decode cX9_readStep 74 = .ok (.invokevirtual 78, 3) := by decide +kernel
theorem dX9_readStep_77 : decode cX9_readStep 77 = .ok (.istore_n 2, 1) := by decide +kernel
theorem dX9_readStep_78 : decode cX9_readStep 78 = .ok (.aload_n 0, 1) := by decide +kernel
theorem dX9_readStep_79 : decode cX9_readStep 79 = .ok (.iconst 1, 1) := by decide +kernel
theorem dX9_readStep_80 : decode cX9_readStep 80 = .ok (.iload_n 2, 1) := by decide +kernel
theorem dX9_readStep_81 : decode cX9_readStep 81 = .ok (.aload_n 1, 1) := by decide +kernel
theorem dX9_readStep_82 : decode cX9_readStep 82 = .ok (.iconst 0, 1) := by decide +kernel
theorem dX9_readStep_83 : decode cX9_readStep 83 = .ok (.aload_n 0, 1) := by decide +kernel
theorem dX9_readStep_84 : decode cX9_readStep 84 = .ok (.getfield 30, 3) := by decide +kernel
theorem dX9_readStep_87 : decode cX9_readStep 87 = .ok (.iconst 1, 1) := by decide +kernel
theorem dX9_readStep_88 : decode cX9_readStep 88 = .ok (.isub, 1) := by decide +kernel
theorem dX9_readStep_89 : decode cX9_readStep 89 = .ok (.invokevirtual 78, 3) := by decide +kernel
theorem dX9_readStep_92 : decode cX9_readStep 92 = .ok (.iconst 0, 1) := by decide +kernel
theorem dX9_readStep_93 : decode cX9_readStep 93 = .ok (.invokevirtual 82, 3) := by decide +kernel
theorem dX9_readStep_96 : decode cX9_readStep 96 = .ok (.goto 77, 3) := by decide +kernel
theorem dX9_readStep_99 : decode cX9_readStep 99 = .ok (.aload_n 1, 1) := by decide +kernel
theorem dX9_readStep_100 : decode cX9_readStep 100 = .ok (.ldc 88, 2) := by decide +kernel
theorem dX9_readStep_102 : decode cX9_readStep 102 = .ok (.invokevirtual 69, 3) := by decide +kernel
theorem dX9_readStep_105 : decode cX9_readStep 105 = .ok (.ifCond .eq 44, 3) := by decide +kernel
theorem dX9_readStep_108 : decode cX9_readStep 108 = .ok (.aload_n 1, 1) := by decide +kernel
theorem dX9_readStep_109 : decode cX9_readStep 109 = .ok (.iconst 0, 1) := by decide +kernel
theorem dX9_readStep_110 : decode cX9_readStep 110 = .ok (.aload_n 0, 1) := by decide +kernel
theorem dX9_readStep_111 : decode cX9_readStep 111 = .ok (.getfield 30, 3) := by decide +kernel
theorem dX9_readStep_114 : decode cX9_readStep 114 = .ok (.iconst 1, 1) := by decide +kernel
theorem dX9_readStep_115 : decode cX9_readStep 115 = .ok (.isub, 1) := by decide +kernel
theorem dX9_readStep_116 : decode cX9_readStep 116 = .ok (.invokevirtual 78, 3) := by decide +kernel
theorem dX9_readStep_119 : decode cX9_readStep 119 = .ok (.istore_n 2, 1) := by decide +kernel
theorem dX9_readStep_120 : decode cX9_readStep 120 = .ok (.aload_n 1, 1) := by decide +kernel
theorem dX9_readStep_121 : decode cX9_readStep 121 = .ok (.iconst 0, 1) := by decide +kernel
theorem dX9_readStep_122 : decode cX9_readStep 122 = .ok (.aload_n 0, 1) := by decide +kernel
theorem dX9_readStep_123 : decode cX9_readStep 123 = .ok (.getfield 30, 3) := by decide +kernel
theorem dX9_readStep_126 : decode cX9_readStep 126 = .ok (.iconst 1, 1) := by decide +kernel
theorem dX9_readStep_127 : decode cX9_readStep 127 = .ok (.isub, 1) := by decide +kernel
theorem dX9_readStep_128 : decode cX9_readStep 128 = .ok (.invokevirtual 78, 3) := by decide +kernel
theorem dX9_readStep_131 : decode cX9_readStep 131 = .ok (.istore_n 3, 1) := by decide +kernel
theorem dX9_readStep_132 : decode cX9_readStep 132 = .ok (.aload_n 0, 1) := by decide +kernel
theorem dX9_readStep_133 : decode cX9_readStep 133 = .ok (.iconst 2, 1) := by decide +kernel
theorem dX9_readStep_134 : decode cX9_readStep 134 = .ok (.iload_n 2, 1) := by decide +kernel
theorem dX9_readStep_135 : decode cX9_readStep 135 = .ok (.iload_n 3, 1) := by decide +kernel
theorem dX9_readStep_136 : decode cX9_readStep 136 = .ok (.aload_n 1, 1) := by decide +kernel
theorem dX9_readStep_137 : decode cX9_readStep 137 = .ok (.iconst 1, 1) := by decide +kernel
theorem dX9_readStep_138 : decode cX9_readStep 138 = .ok (.bipush 99, 2) := by decide +kernel
theorem dX9_readStep_140 : decode cX9_readStep 140 = .ok (.invokevirtual 78, 3) := by decide +kernel
theorem dX9_readStep_143 : decode cX9_readStep 143 = .ok (.invokevirtual 82, 3) := by decide +kernel
theorem dX9_readStep_146 : decode cX9_readStep 146 = .ok (.goto 27, 3) := by decide +kernel
theorem dX9_readStep_149 : decode cX9_readStep 149 = .ok (.aload_n 1, 1) := by decide +kernel
theorem dX9_readStep_150 : decode cX9_readStep 150 = .ok (.ldc 90, 2) := by decide +kernel
theorem dX9_readStep_152 : decode cX9_readStep 152 = .ok (.invokevirtual 69, 3) := by decide +kernel
theorem dX9_readStep_155 : decode cX9_readStep 155 = .ok (.ifCond .eq 14, 3) := by decide +kernel
theorem dX9_readStep_158 : decode cX9_readStep 158 = .ok (.aload_n 0, 1) := by decide +kernel
theorem dX9_readStep_159 : decode cX9_readStep 159 = .ok (.iconst 3, 1) := by decide +kernel
theorem dX9_readStep_160 : decode cX9_readStep 160 = .ok (.iconst 0, 1) := by decide +kernel
theorem dX9_readStep_161 : decode cX9_readStep 161 = .ok (.iconst 0, 1) := by decide +kernel
theorem dX9_readStep_162 : decode cX9_readStep 162 = .ok (.iconst 0, 1) := by decide +kernel
theorem dX9_readStep_163 : decode cX9_readStep 163 = .ok (.invokevirtual 82, 3) := by decide +kernel
theorem dX9_readStep_166 : decode cX9_readStep 166 = .ok (.goto 7, 3) := by decide +kernel
theorem dX9_readStep_169 : decode cX9_readStep 169 = .ok (.aload_n 1, 1) := by decide +kernel
theorem dX9_readStep_170 : decode cX9_readStep 170 = .ok (.invokevirtual 92, 3) := by decide +kernel
theorem dX9_readStep_173 : decode cX9_readStep 173 = .ok (.aload_n 1, 1) := by decide +kernel
theorem dX9_readStep_174 : decode cX9_readStep 174 = .ok (.bipush 59, 2) := by decide +kernel
theorem dX9_readStep_176 : decode cX9_readStep 176 = .ok (.invokevirtual 59, 3) := by decide +kernel
theorem dX9_readStep_179 : decode cX9_readStep 179 = .ok (.return_, 1) := by decide +kernel
theorem dX9_openLoop_0 : decode cX9_openLoop 0 = .ok (.aload_n 0, 1) := by decide +kernel
theorem dX9_openLoop_1 : decode cX9_openLoop 1 = .ok (.getfield 40, 3) := by decide +kernel
theorem dX9_openLoop_4 : decode cX9_openLoop 4 = .ok (.bipush 6, 2) := by decide +kernel
theorem dX9_openLoop_6 : decode cX9_openLoop 6 = .ok (.if_icmp .lt 9, 3) := by decide +kernel
theorem dX9_openLoop_9 : decode cX9_openLoop 9 = .ok (.aload_n 1, 1) := by decide +kernel
theorem dX9_openLoop_10 : decode cX9_openLoop 10 = .ok (.iconst 3, 1) := by decide +kernel
theorem dX9_openLoop_11 : decode cX9_openLoop 11 = .ok (.invokevirtual 95, 3) := by decide +kernel
theorem dX9_openLoop_14 : decode cX9_openLoop 14 = .ok (.return_, 1) := by decide +kernel
theorem dX9_openLoop_15 : decode cX9_openLoop 15 = .ok (.aload_n 1, 1) := by decide +kernel
theorem dX9_openLoop_16 : decode cX9_openLoop 16 = .ok (.iconst 0, 1) := by decide +kernel
theorem dX9_openLoop_17 : decode cX9_openLoop 17 = .ok (.bipush 40, 2) := by decide +kernel
theorem dX9_openLoop_19 : decode cX9_openLoop 19 = .ok (.invokevirtual 78, 3) := by decide +kernel
theorem dX9_openLoop_22 : decode cX9_openLoop 22 = .ok (.istore_n 2, 1) := by decide +kernel
theorem dX9_openLoop_23 : decode cX9_openLoop 23 = .ok (.aload_n 1, 1) := by decide +kernel
theorem dX9_openLoop_24 : decode cX9_openLoop 24 = .ok (.bipush 91, 2) := by decide +kernel
theorem dX9_openLoop_26 : decode cX9_openLoop 26 = .ok (.invokevirtual 59, 3) := by decide +kernel
theorem dX9_openLoop_29 : decode cX9_openLoop 29 = .ok (.aload_n 0, 1) := by decide +kernel
theorem dX9_openLoop_30 : decode cX9_openLoop 30 = .ok (.getfield 24, 3) := by decide +kernel
theorem dX9_openLoop_33 : decode cX9_openLoop 33 = .ok (.aload_n 0, 1) := by decide +kernel
theorem dX9_openLoop_34 : decode cX9_openLoop 34 = .ok (.getfield 40, 3) := by decide +kernel
theorem dX9_openLoop_37 : decode cX9_openLoop 37 = .ok (.aload_n 0, 1) := by decide +kernel
theorem dX9_openLoop_38 : decode cX9_openLoop 38 = .ok (.getfield 37, 3) := by decide +kernel
theorem dX9_openLoop_41 : decode cX9_openLoop 41 = .ok (.iastore, 1) := by decide +kernel
theorem dX9_openLoop_42 : decode cX9_openLoop 42 = .ok (.aload_n 0, 1) := by decide +kernel
theorem dX9_openLoop_43 : decode cX9_openLoop 43 = .ok (.dup, 1) := by decide +kernel
theorem dX9_openLoop_44 : decode cX9_openLoop 44 = .ok (.getfield 40, 3) := by decide +kernel
theorem dX9_openLoop_47 : decode cX9_openLoop 47 = .ok (.iconst 1, 1) := by decide +kernel
theorem dX9_openLoop_48 : decode cX9_openLoop 48 = .ok (.iadd, 1) := by decide +kernel
theorem dX9_openLoop_49 : decode cX9_openLoop 49 = .ok (.putfield 40, 3) := by decide +kernel
theorem dX9_openLoop_52 : decode cX9_openLoop 52 = .ok (.aload_n 0, 1) := by decide +kernel
theorem dX9_openLoop_53 : decode cX9_openLoop 53 = .ok (.iconst 4, 1) := by decide +kernel
theorem dX9_openLoop_54 : decode cX9_openLoop 54 = .ok (.iload_n 2, 1) := by decide +kernel
theorem dX9_openLoop_55 : decode cX9_openLoop 55 = .ok (.iconst 0, 1) := by decide +kernel
theorem dX9_openLoop_56 : decode cX9_openLoop 56 = .ok (.iconst 0, 1) := by decide +kernel
theorem dX9_openLoop_57 : decode cX9_openLoop 57 = .ok (.invokevirtual 82, 3) := by decide +kernel
theorem dX9_openLoop_60 : decode cX9_openLoop 60 = .ok (.return_, 1) := by decide +kernel
theorem dX9_closeLoop_0 : decode cX9_closeLoop 0 = .ok (.aload_n 0, 1) := by decide +kernel
theorem dX9_closeLoop_1 : decode cX9_closeLoop 1 = .ok (.dup, 1) := by decide +kernel
theorem dX9_closeLoop_2 : decode cX9_closeLoop 2 = .ok (.getfield 40, 3) := by decide +kernel
theorem dX9_closeLoop_5 : decode cX9_closeLoop 5 = .ok (.iconst 1, 1) := by decide +kernel
theorem dX9_closeLoop_6 : decode cX9_closeLoop 6 = .ok (.isub, 1) := by decide +kernel
theorem dX9_closeLoop_7 : decode cX9_closeLoop 7 = .ok (.putfield 40, 3) := by decide +kernel
theorem dX9_closeLoop_10 : decode cX9_closeLoop 10 = .ok (.aload_n 0, 1) := by decide +kernel
theorem dX9_closeLoop_11 : decode cX9_closeLoop 11 = .ok (.getfield 24, 3) := by decide +kernel
theorem dX9_closeLoop_14 : decode cX9_closeLoop 14 = .ok (.aload_n 0, 1) := by decide +kernel
theorem dX9_closeLoop_15 : decode cX9_closeLoop 15 = .ok (.getfield 40, 3) := by decide +kernel
theorem dX9_closeLoop_18 : decode cX9_closeLoop 18 = .ok (.iaload, 1) := by decide +kernel
theorem dX9_closeLoop_19 : decode cX9_closeLoop 19 = .ok (.istore_n 1, 1) := by decide +kernel
theorem dX9_closeLoop_20 : decode cX9_closeLoop 20 = .ok (.iload_n 1, 1) := by decide +kernel
theorem dX9_closeLoop_21 : decode cX9_closeLoop 21 = .ok (.bipush 50, 2) := by decide +kernel
theorem dX9_closeLoop_23 : decode cX9_closeLoop 23 = .ok (.if_icmp .ge 13, 3) := by decide +kernel
theorem dX9_closeLoop_26 : decode cX9_closeLoop 26 = .ok (.aload_n 0, 1) := by decide +kernel
theorem dX9_closeLoop_27 : decode cX9_closeLoop 27 = .ok (.getfield 18, 3) := by decide +kernel
theorem dX9_closeLoop_30 : decode cX9_closeLoop 30 = .ok (.iload_n 1, 1) := by decide +kernel
theorem dX9_closeLoop_31 : decode cX9_closeLoop 31 = .ok (.aload_n 0, 1) := by decide +kernel
theorem dX9_closeLoop_32 : decode cX9_closeLoop 32 = .ok (.getfield 37, 3) := by decide +kernel
theorem dX9_closeLoop_35 : decode cX9_closeLoop 35 = .ok (.iastore, 1) := by decide +kernel
theorem dX9_closeLoop_36 : decode cX9_closeLoop 36 = .ok (.aload_n 0, 1) := by decide +kernel
theorem dX9_closeLoop_37 : decode cX9_closeLoop 37 = .ok (.iconst 5, 1) := by decide +kernel
theorem dX9_closeLoop_38 : decode cX9_closeLoop 38 = .ok (.iload_n 1, 1) := by decide +kernel
theorem dX9_closeLoop_39 : decode cX9_closeLoop 39 = .ok (.iconst 0, 1) := by decide +kernel
theorem dX9_closeLoop_40 : decode cX9_closeLoop 40 = .ok (.iconst 0, 1) := by decide +kernel
theorem dX9_closeLoop_41 : decode cX9_closeLoop 41 = .ok (.invokevirtual 82, 3) := by decide +kernel
theorem dX9_closeLoop_44 : decode cX9_closeLoop 44 = .ok (.return_, 1) := by decide +kernel
theorem dX9_add_0 : decode cX9_add 0 = .ok (.aload_n 0, 1) := by decide +kernel
theorem dX9_add_1 : decode cX9_add 1 = .ok (.getfield 37, 3) := by decide +kernel
theorem dX9_add_4 : decode cX9_add 4 = .ok (.bipush 50, 2) := by decide +kernel
theorem dX9_add_6 : decode cX9_add 6 = .ok (.if_icmp .ge 54, 3) := by decide +kernel
theorem dX9_add_9 : decode cX9_add 9 = .ok (.aload_n 0, 1) := by decide +kernel
theorem dX9_add_10 : decode cX9_add 10 = .ok (.getfield 11, 3) := by decide +kernel
theorem dX9_add_13 : decode cX9_add 13 = .ok (.aload_n 0, 1) := by decide +kernel
theorem dX9_add_14 : decode cX9_add 14 = .ok (.getfield 37, 3) := by decide +kernel
theorem dX9_add_17 : decode cX9_add 17 = .ok (.iload_n 1, 1) := by decide +kernel
theorem dX9_add_18 : decode cX9_add 18 = .ok (.iastore, 1) := by decide +kernel
theorem dX9_add_19 : decode cX9_add 19 = .ok (.aload_n 0, 1) := by decide +kernel
theorem dX9_add_20 : decode cX9_add 20 = .ok (.getfield 15, 3) := by decide +kernel
theorem dX9_add_23 : decode cX9_add 23 = .ok (.aload_n 0, 1) := by decide +kernel
theorem dX9_add_24 : decode cX9_add 24 = .ok (.getfield 37, 3) := by decide +kernel
theorem dX9_add_27 : decode cX9_add 27 = .ok (.iload_n 2, 1) := by decide +kernel
theorem dX9_add_28 : decode cX9_add 28 = .ok (.iastore, 1) := by decide +kernel
theorem dX9_add_29 : decode cX9_add 29 = .ok (.aload_n 0, 1) := by decide +kernel
theorem dX9_add_30 : decode cX9_add 30 = .ok (.getfield 18, 3) := by decide +kernel
theorem dX9_add_33 : decode cX9_add 33 = .ok (.aload_n 0, 1) := by decide +kernel
theorem dX9_add_34 : decode cX9_add 34 = .ok (.getfield 37, 3) := by decide +kernel
theorem dX9_add_37 : decode cX9_add 37 = .ok (.iload_n 3, 1) := by decide +kernel
theorem dX9_add_38 : decode cX9_add 38 = .ok (.iastore, 1) := by decide +kernel
theorem dX9_add_39 : decode cX9_add 39 = .ok (.aload_n 0, 1) := by decide +kernel
theorem dX9_add_40 : decode cX9_add 40 = .ok (.getfield 21, 3) := by decide +kernel
theorem dX9_add_43 : decode cX9_add 43 = .ok (.aload_n 0, 1) := by decide +kernel
theorem dX9_add_44 : decode cX9_add 44 = .ok (.getfield 37, 3) := by decide +kernel
theorem dX9_add_47 : decode cX9_add 47 = .ok (.iload 4, 2) := by decide +kernel
theorem dX9_add_49 : decode cX9_add 49 = .ok (.iastore, 1) := by decide +kernel
theorem dX9_add_50 : decode cX9_add 50 = .ok (.aload_n 0, 1) := by decide +kernel
theorem dX9_add_51 : decode cX9_add 51 = .ok (.dup, 1) := by decide +kernel
theorem dX9_add_52 : decode cX9_add 52 = .ok (.getfield 37, 3) := by decide +kernel
theorem dX9_add_55 : decode cX9_add 55 = .ok (.iconst 1, 1) := by decide +kernel
theorem dX9_add_56 : decode cX9_add 56 = .ok (.iadd, 1) := by decide +kernel
theorem dX9_add_57 : decode cX9_add 57 = .ok (.putfield 37, 3) := by decide +kernel
theorem dX9_add_60 : decode cX9_add 60 = .ok (.return_, 1) := by decide +kernel
theorem dX9_runOn_0 : decode cX9_runOn 0 = .ok (.aload_n 0, 1) := by decide +kernel
theorem dX9_runOn_1 : decode cX9_runOn 1 = .ok (.iconst 0, 1) := by decide +kernel
theorem dX9_runOn_2 : decode cX9_runOn 2 = .ok (.putfield 99, 3) := by decide +kernel
theorem dX9_runOn_5 : decode cX9_runOn 5 = .ok (.aload_n 0, 1) := by decide +kernel
theorem dX9_runOn_6 : decode cX9_runOn 6 = .ok (.iconst 0, 1) := by decide +kernel
theorem dX9_runOn_7 : decode cX9_runOn 7 = .ok (.putfield 102, 3) := by decide +kernel
theorem dX9_runOn_10 : decode cX9_runOn 10 = .ok (.aload_n 0, 1) := by decide +kernel
theorem dX9_runOn_11 : decode cX9_runOn 11 = .ok (.iconst 0, 1) := by decide +kernel
theorem dX9_runOn_12 : decode cX9_runOn 12 = .ok (.putfield 40, 3) := by decide +kernel
theorem dX9_runOn_15 : decode cX9_runOn 15 = .ok (.iconst 0, 1) := by decide +kernel
theorem dX9_runOn_16 : decode cX9_runOn 16 = .ok (.istore_n 2, 1) := by decide +kernel
theorem dX9_runOn_17 : decode cX9_runOn 17 = .ok (.iconst 0, 1) := by decide +kernel
theorem dX9_runOn_18 : decode cX9_runOn 18 = .ok (.istore_n 3, 1) := by decide +kernel
theorem dX9_runOn_19 : decode cX9_runOn 19 = .ok (.iconst 0, 1) := by decide +kernel
theorem dX9_runOn_20 : decode cX9_runOn 20 = .ok (.istore 4, 2) := by decide +kernel
theorem dX9_runOn_22 : decode cX9_runOn 22 = .ok (.iload 4, 2) := by decide +kernel
theorem dX9_runOn_24 : decode cX9_runOn 24 = .ok (.sipush 20000, 3) := by decide +kernel
theorem dX9_runOn_27 : decode cX9_runOn 27 = .ok (.if_icmp .ge 106, 3) := by decide +kernel
theorem dX9_runOn_30 : decode cX9_runOn 30 = .ok (.iload_n 2, 1) := by decide +kernel
theorem dX9_runOn_31 : decode cX9_runOn 31 = .ok (.sipush 200, 3) := by decide +kernel
theorem dX9_runOn_34 : decode cX9_runOn 34 = .ok (.if_icmp .ge 99, 3) := by decide +kernel
theorem dX9_runOn_37 : decode cX9_runOn 37 = .ok (.iload_n 3, 1) := by decide +kernel
theorem dX9_runOn_38 : decode cX9_runOn 38 = .ok (.aload_n 0, 1) := by decide +kernel
theorem dX9_runOn_39 : decode cX9_runOn 39 = .ok (.getfield 37, 3) := by decide +kernel
theorem dX9_runOn_42 : decode cX9_runOn 42 = .ok (.if_icmp .ge 91, 3) := by decide +kernel
theorem dX9_runOn_45 : decode cX9_runOn 45 = .ok (.aload_n 0, 1) := by decide +kernel
theorem dX9_runOn_46 : decode cX9_runOn 46 = .ok (.getfield 11, 3) := by decide +kernel
theorem dX9_runOn_49 : decode cX9_runOn 49 = .ok (.iload_n 3, 1) := by decide +kernel
theorem dX9_runOn_50 : decode cX9_runOn 50 = .ok (.iaload, 1) := by decide +kernel
theorem dX9_runOn_51 : decode cX9_runOn 51 = .ok (.iconst 5, 1) := by decide +kernel
theorem dX9_runOn_52 : decode cX9_runOn 52 = .ok (.if_icmp .ne 12, 3) := by decide +kernel
theorem dX9_runOn_55 : decode cX9_runOn 55 = .ok (.aload_n 0, 1) := by decide +kernel
theorem dX9_runOn_56 : decode cX9_runOn 56 = .ok (.iload_n 3, 1) := by decide +kernel
theorem dX9_runOn_57 : decode cX9_runOn 57 = .ok (.invokevirtual 105, 3) := by decide +kernel
theorem dX9_runOn_60 : decode cX9_runOn 60 = .ok (.istore_n 3, 1) := by decide +kernel
theorem dX9_runOn_61 : decode cX9_runOn 61 = .ok (.goto 66, 3) := by decide +kernel
theorem dX9_runOn_64 : decode cX9_runOn 64 = .ok (.iinc 2 1, 3) := by decide +kernel
theorem dX9_runOn_67 : decode cX9_runOn 67 = .ok (.aload_n 0, 1) := by decide +kernel
theorem dX9_runOn_68 : decode cX9_runOn 68 = .ok (.getfield 11, 3) := by decide +kernel
theorem dX9_runOn_71 : decode cX9_runOn 71 = .ok (.iload_n 3, 1) := by decide +kernel
theorem dX9_runOn_72 : decode cX9_runOn 72 = .ok (.iaload, 1) := by decide +kernel
theorem dX9_runOn_73 : decode cX9_runOn 73 = .ok (.iconst 4, 1) := by decide +kernel
theorem dX9_runOn_74 : decode cX9_runOn 74 = .ok (.if_icmp .ne 12, 3) := by decide +kernel
theorem dX9_runOn_77 : decode cX9_runOn 77 = .ok (.aload_n 0, 1) := by decide +kernel
theorem dX9_runOn_78 : decode cX9_runOn 78 = .ok (.iload_n 3, 1) := by decide +kernel
theorem dX9_runOn_79 : decode cX9_runOn 79 = .ok (.invokevirtual 109, 3) := by decide +kernel
theorem dX9_runOn_82 : decode cX9_runOn 82 = .ok (.istore_n 3, 1) := by decide +kernel
theorem dX9_runOn_83 : decode cX9_runOn 83 = .ok (.goto 44, 3) := by decide +kernel
theorem dX9_runOn_86 : decode cX9_runOn 86 = .ok (.aload_n 0, 1) := by decide +kernel
theorem dX9_runOn_87 : decode cX9_runOn 87 = .ok (.iload_n 3, 1) := by decide +kernel
theorem dX9_runOn_88 : decode cX9_runOn 88 = .ok (.aload_n 1, 1) := by decide +kernel
theorem dX9_runOn_89 : decode cX9_runOn 89 = .ok (.invokevirtual 112, 3) := by decide +kernel
theorem dX9_runOn_92 : decode cX9_runOn 92 = .ok (.ifCond .eq 22, 3) := by decide +kernel
theorem dX9_runOn_95 : decode cX9_runOn 95 = .ok (.aload_n 0, 1) := by decide +kernel
theorem dX9_runOn_96 : decode cX9_runOn 96 = .ok (.iload_n 3, 1) := by decide +kernel
theorem dX9_runOn_97 : decode cX9_runOn 97 = .ok (.aload_n 1, 1) := by decide +kernel
theorem dX9_runOn_98 : decode cX9_runOn 98 = .ok (.invokevirtual 116, 3) := by decide +kernel
theorem dX9_runOn_101 : decode cX9_runOn 101 = .ok (.aload_n 0, 1) := by decide +kernel
theorem dX9_runOn_102 : decode cX9_runOn 102 = .ok (.dup, 1) := by decide +kernel
theorem dX9_runOn_103 : decode cX9_runOn 103 = .ok (.getfield 99, 3) := by decide +kernel
theorem dX9_runOn_106 : decode cX9_runOn 106 = .ok (.iconst 1, 1) := by decide +kernel
theorem dX9_runOn_107 : decode cX9_runOn 107 = .ok (.iadd, 1) := by decide +kernel
theorem dX9_runOn_108 : decode cX9_runOn 108 = .ok (.putfield 99, 3) := by decide +kernel
theorem dX9_runOn_111 : decode cX9_runOn 111 = .ok (.goto 13, 3) := by decide +kernel
theorem dX9_runOn_114 : decode cX9_runOn 114 = .ok (.aload_n 0, 1) := by decide +kernel
theorem dX9_runOn_115 : decode cX9_runOn 115 = .ok (.dup, 1) := by decide +kernel
theorem dX9_runOn_116 : decode cX9_runOn 116 = .ok (.getfield 102, 3) := by decide +kernel
theorem dX9_runOn_119 : decode cX9_runOn 119 = .ok (.iconst 1, 1) := by decide +kernel
theorem dX9_runOn_120 : decode cX9_runOn 120 = .ok (.iadd, 1) := by decide +kernel
theorem dX9_runOn_121 : decode cX9_runOn 121 = .ok (.putfield 102, 3) := by decide +kernel
theorem dX9_runOn_124 : decode cX9_runOn 124 = .ok (.iinc 3 1, 3) := by decide +kernel
theorem dX9_runOn_127 : decode cX9_runOn 127 = .ok (.iinc 4 1, 3) := by decide +kernel
theorem dX9_runOn_130 : decode cX9_runOn 130 = .ok (.goto (-108), 3) := by decide +kernel
theorem dX9_runOn_133 : decode cX9_runOn 133 = .ok (.return_, 1) := by decide +kernel
theorem dX9_behindEnd_0 : decode cX9_behindEnd 0 = .ok (.aload_n 0, 1) := by decide +kernel
theorem dX9_behindEnd_1 : decode cX9_behindEnd 1 = .ok (.getfield 40, 3) := by decide +kernel
theorem dX9_behindEnd_4 : decode cX9_behindEnd 4 = .ok (.ifCond .ne 7, 3) := by decide +kernel
theorem dX9_behindEnd_7 : decode cX9_behindEnd 7 = .ok (.iload_n 1, 1) := by decide +kernel
theorem dX9_behindEnd_8 : decode cX9_behindEnd 8 = .ok (.iconst 1, 1) := by decide +kernel
theorem dX9_behindEnd_9 : decode cX9_behindEnd 9 = .ok (.iadd, 1) := by decide +kernel
theorem dX9_behindEnd_10 : decode cX9_behindEnd 10 = .ok (.ireturn, 1) := by decide +kernel
theorem dX9_behindEnd_11 : decode cX9_behindEnd 11 = .ok (.aload_n 0, 1) := by decide +kernel
theorem dX9_behindEnd_12 : decode cX9_behindEnd 12 = .ok (.getfield 27, 3) := by decide +kernel
theorem dX9_behindEnd_15 : decode cX9_behindEnd 15 = .ok (.aload_n 0, 1) := by decide +kernel
theorem dX9_behindEnd_16 : decode cX9_behindEnd 16 = .ok (.getfield 40, 3) := by decide +kernel
theorem dX9_behindEnd_19 : decode cX9_behindEnd 19 = .ok (.iconst 1, 1) := by decide +kernel
theorem dX9_behindEnd_20 : decode cX9_behindEnd 20 = .ok (.isub, 1) := by decide +kernel
theorem dX9_behindEnd_21 : decode cX9_behindEnd 21 = .ok (.dup2, 1) := by decide +kernel
theorem dX9_behindEnd_22 : decode cX9_behindEnd 22 = .ok (.iaload, 1) := by decide +kernel
theorem dX9_behindEnd_23 : decode cX9_behindEnd 23 = .ok (.iconst 1, 1) := by decide +kernel
theorem dX9_behindEnd_24 : decode cX9_behindEnd 24 = .ok (.isub, 1) := by decide +kernel
theorem dX9_behindEnd_25 : decode cX9_behindEnd 25 = .ok (.iastore, 1) := by decide +kernel
theorem dX9_behindEnd_26 : decode cX9_behindEnd 26 = .ok (.aload_n 0, 1) := by decide +kernel
theorem dX9_behindEnd_27 : decode cX9_behindEnd 27 = .ok (.getfield 27, 3) := by decide +kernel
theorem dX9_behindEnd_30 : decode cX9_behindEnd 30 = .ok (.aload_n 0, 1) := by decide +kernel
theorem dX9_behindEnd_31 : decode cX9_behindEnd 31 = .ok (.getfield 40, 3) := by decide +kernel
theorem dX9_behindEnd_34 : decode cX9_behindEnd 34 = .ok (.iconst 1, 1) := by decide +kernel
theorem dX9_behindEnd_35 : decode cX9_behindEnd 35 = .ok (.isub, 1) := by decide +kernel
theorem dX9_behindEnd_36 : decode cX9_behindEnd 36 = .ok (.iaload, 1) := by decide +kernel
theorem dX9_behindEnd_37 : decode cX9_behindEnd 37 = .ok (.ifCond .le 12, 3) := by decide +kernel
theorem dX9_behindEnd_40 : decode cX9_behindEnd 40 = .ok (.aload_n 0, 1) := by decide +kernel
theorem dX9_behindEnd_41 : decode cX9_behindEnd 41 = .ok (.getfield 15, 3) := by decide +kernel
theorem dX9_behindEnd_44 : decode cX9_behindEnd 44 = .ok (.iload_n 1, 1) := by decide +kernel
theorem dX9_behindEnd_45 : decode cX9_behindEnd 45 = .ok (.iaload, 1) := by decide +kernel
theorem dX9_behindEnd_46 : decode cX9_behindEnd 46 = .ok (.iconst 1, 1) := by decide +kernel
theorem dX9_behindEnd_47 : decode cX9_behindEnd 47 = .ok (.iadd, 1) := by decide +kernel
theorem dX9_behindEnd_48 : decode cX9_behindEnd 48 = .ok (.ireturn, 1) := by decide +kernel
theorem dX9_behindEnd_49 : decode cX9_behindEnd 49 = .ok (.aload_n 0, 1) := by decide +kernel
theorem dX9_behindEnd_50 : decode cX9_behindEnd 50 = .ok (.dup, 1) := by decide +kernel
theorem dX9_behindEnd_51 : decode cX9_behindEnd 51 = .ok (.getfield 40, 3) := by decide +kernel
theorem dX9_behindEnd_54 : decode cX9_behindEnd 54 = .ok (.iconst 1, 1) := by decide +kernel
theorem dX9_behindEnd_55 : decode cX9_behindEnd 55 = .ok (.isub, 1) := by decide +kernel
theorem dX9_behindEnd_56 : decode cX9_behindEnd 56 = .ok (.putfield 40, 3) := by decide +kernel
theorem dX9_behindEnd_59 : decode cX9_behindEnd 59 = .ok (.iload_n 1, 1) := by decide +kernel
theorem dX9_behindEnd_60 : decode cX9_behindEnd 60 = .ok (.iconst 1, 1) := by decide +kernel
theorem dX9_behindEnd_61 : decode cX9_behindEnd 61 = .ok (.iadd, 1) := by decide +kernel
theorem dX9_behindEnd_62 : decode cX9_behindEnd 62 = .ok (.ireturn, 1) := by decide +kernel
theorem dX9_behindAgain_0 : decode cX9_behindAgain 0 = .ok (.aload_n 0, 1) := by decide +kernel
theorem dX9_behindAgain_1 : decode cX9_behindAgain 1 = .ok (.getfield 15, 3) := by decide +kernel
theorem dX9_behindAgain_4 : decode cX9_behindAgain 4 = .ok (.iload_n 1, 1) := by decide +kernel
theorem dX9_behindAgain_5 : decode cX9_behindAgain 5 = .ok (.iaload, 1) := by decide +kernel
theorem dX9_behindAgain_6 : decode cX9_behindAgain 6 = .ok (.ifCond .eq 12, 3) := by decide +kernel
theorem dX9_behindAgain_9 : decode cX9_behindAgain 9 = .ok (.aload_n 0, 1) := by decide +kernel
theorem dX9_behindAgain_10 : decode cX9_behindAgain 10 = .ok (.getfield 40, 3) := by decide +kernel
theorem dX9_behindAgain_13 : decode cX9_behindAgain 13 = .ok (.bipush 6, 2) := by decide +kernel
theorem dX9_behindAgain_15 : decode cX9_behindAgain 15 = .ok (.if_icmp .lt 12, 3) := by decide +kernel
theorem dX9_behindAgain_18 : decode cX9_behindAgain 18 = .ok (.aload_n 0, 1) := by decide +kernel
theorem dX9_behindAgain_19 : decode cX9_behindAgain 19 = .ok (.getfield 18, 3) := by decide +kernel
theorem dX9_behindAgain_22 : decode cX9_behindAgain 22 = .ok (.iload_n 1, 1) := by decide +kernel
theorem dX9_behindAgain_23 : decode cX9_behindAgain 23 = .ok (.iaload, 1) := by decide +kernel
theorem dX9_behindAgain_24 : decode cX9_behindAgain 24 = .ok (.iconst 1, 1) := by decide +kernel
theorem dX9_behindAgain_25 : decode cX9_behindAgain 25 = .ok (.iadd, 1) := by decide +kernel
theorem dX9_behindAgain_26 : decode cX9_behindAgain 26 = .ok (.ireturn, 1) := by decide +kernel
theorem dX9_behindAgain_27 : decode cX9_behindAgain 27 = .ok (.aload_n 0, 1) := by decide +kernel
theorem dX9_behindAgain_28 : decode cX9_behindAgain 28 = .ok (.getfield 27, 3) := by decide +kernel
theorem dX9_behindAgain_31 : decode cX9_behindAgain 31 = .ok (.aload_n 0, 1) := by decide +kernel
theorem dX9_behindAgain_32 : decode cX9_behindAgain 32 = .ok (.getfield 40, 3) := by decide +kernel
theorem dX9_behindAgain_35 : decode cX9_behindAgain 35 = .ok (.aload_n 0, 1) := by decide +kernel
theorem dX9_behindAgain_36 : decode cX9_behindAgain 36 = .ok (.getfield 15, 3) := by decide +kernel
theorem dX9_behindAgain_39 : decode cX9_behindAgain 39 = .ok (.iload_n 1, 1) := by decide +kernel
theorem dX9_behindAgain_40 : decode cX9_behindAgain 40 = .ok (.iaload, 1) := by decide +kernel
theorem dX9_behindAgain_41 : decode cX9_behindAgain 41 = .ok (.iastore, 1) := by decide +kernel
theorem dX9_behindAgain_42 : decode cX9_behindAgain 42 = .ok (.aload_n 0, 1) := by decide +kernel
theorem dX9_behindAgain_43 : decode cX9_behindAgain 43 = .ok (.dup, 1) := by decide +kernel
theorem dX9_behindAgain_44 : decode cX9_behindAgain 44 = .ok (.getfield 40, 3) := by decide +kernel
theorem dX9_behindAgain_47 : decode cX9_behindAgain 47 = .ok (.iconst 1, 1) := by decide +kernel
theorem dX9_behindAgain_48 : decode cX9_behindAgain 48 = .ok (.iadd, 1) := by decide +kernel
theorem dX9_behindAgain_49 : decode cX9_behindAgain 49 = .ok (.putfield 40, 3) := by decide +kernel
theorem dX9_behindAgain_52 : decode cX9_behindAgain 52 = .ok (.iload_n 1, 1) := by decide +kernel
theorem dX9_behindAgain_53 : decode cX9_behindAgain 53 = .ok (.iconst 1, 1) := by decide +kernel
theorem dX9_behindAgain_54 : decode cX9_behindAgain 54 = .ok (.iadd, 1) := by decide +kernel
theorem dX9_behindAgain_55 : decode cX9_behindAgain 55 = .ok (.ireturn, 1) := by decide +kernel
theorem dX9_doStep_0 : decode cX9_doStep 0 = .ok (.aload_n 0, 1) := by decide +kernel
theorem dX9_doStep_1 : decode cX9_doStep 1 = .ok (.getfield 11, 3) := by decide +kernel
theorem dX9_doStep_4 : decode cX9_doStep 4 = .ok (.iload_n 1, 1) := by decide +kernel
theorem dX9_doStep_5 : decode cX9_doStep 5 = .ok (.iaload, 1) := by decide +kernel
theorem dX9_doStep_6 : decode cX9_doStep 6 = .ok (.tableswitch 89 0 2 #[26, 45, 64], 26) := by decide +kernel
theorem dX9_doStep_32 : decode cX9_doStep 32 = .ok (.aload_n 2, 1) := by decide +kernel
theorem dX9_doStep_33 : decode cX9_doStep 33 = .ok (.aload_n 0, 1) := by decide +kernel
theorem dX9_doStep_34 : decode cX9_doStep 34 = .ok (.getfield 15, 3) := by decide +kernel
theorem dX9_doStep_37 : decode cX9_doStep 37 = .ok (.iload_n 1, 1) := by decide +kernel
theorem dX9_doStep_38 : decode cX9_doStep 38 = .ok (.iaload, 1) := by decide +kernel
theorem dX9_doStep_39 : decode cX9_doStep 39 = .ok (.aload_n 0, 1) := by decide +kernel
theorem dX9_doStep_40 : decode cX9_doStep 40 = .ok (.getfield 18, 3) := by decide +kernel
theorem dX9_doStep_43 : decode cX9_doStep 43 = .ok (.iload_n 1, 1) := by decide +kernel
theorem dX9_doStep_44 : decode cX9_doStep 44 = .ok (.iaload, 1) := by decide +kernel
theorem dX9_doStep_45 : decode cX9_doStep 45 = .ok (.invokevirtual 120, 3) := by decide +kernel
theorem dX9_doStep_48 : decode cX9_doStep 48 = .ok (.goto 51, 3) := by decide +kernel
theorem dX9_doStep_51 : decode cX9_doStep 51 = .ok (.aload_n 2, 1) := by decide +kernel
theorem dX9_doStep_52 : decode cX9_doStep 52 = .ok (.aload_n 0, 1) := by decide +kernel
theorem dX9_doStep_53 : decode cX9_doStep 53 = .ok (.getfield 15, 3) := by decide +kernel
theorem dX9_doStep_56 : decode cX9_doStep 56 = .ok (.iload_n 1, 1) := by decide +kernel
theorem dX9_doStep_57 : decode cX9_doStep 57 = .ok (.iaload, 1) := by decide +kernel
theorem dX9_doStep_58 : decode cX9_doStep 58 = .ok (.aload_n 0, 1) := by decide +kernel
theorem dX9_doStep_59 : decode cX9_doStep 59 = .ok (.getfield 18, 3) := by decide +kernel
theorem dX9_doStep_62 : decode cX9_doStep 62 = .ok (.iload_n 1, 1) := by decide +kernel
theorem dX9_doStep_63 : decode cX9_doStep 63 = .ok (.iaload, 1) := by decide +kernel
theorem dX9_doStep_64 : decode cX9_doStep 64 = .ok (.invokevirtual 126, 3) := by decide +kernel
theorem dX9_doStep_67 : decode cX9_doStep 67 = .ok (.goto 32, 3) := by decide +kernel
theorem dX9_doStep_70 : decode cX9_doStep 70 = .ok (.aload_n 2, 1) := by decide +kernel
theorem dX9_doStep_71 : decode cX9_doStep 71 = .ok (.aload_n 0, 1) := by decide +kernel
theorem dX9_doStep_72 : decode cX9_doStep 72 = .ok (.getfield 15, 3) := by decide +kernel
theorem dX9_doStep_75 : decode cX9_doStep 75 = .ok (.iload_n 1, 1) := by decide +kernel
theorem dX9_doStep_76 : decode cX9_doStep 76 = .ok (.iaload, 1) := by decide +kernel
theorem dX9_doStep_77 : decode cX9_doStep 77 = .ok (.aload_n 0, 1) := by decide +kernel
theorem dX9_doStep_78 : decode cX9_doStep 78 = .ok (.getfield 18, 3) := by decide +kernel
theorem dX9_doStep_81 : decode cX9_doStep 81 = .ok (.iload_n 1, 1) := by decide +kernel
theorem dX9_doStep_82 : decode cX9_doStep 82 = .ok (.iaload, 1) := by decide +kernel
theorem dX9_doStep_83 : decode cX9_doStep 83 = .ok (.aload_n 0, 1) := by decide +kernel
theorem dX9_doStep_84 : decode cX9_doStep 84 = .ok (.getfield 21, 3) := by decide +kernel
theorem dX9_doStep_87 : decode cX9_doStep 87 = .ok (.iload_n 1, 1) := by decide +kernel
theorem dX9_doStep_88 : decode cX9_doStep 88 = .ok (.iaload, 1) := by decide +kernel
theorem dX9_doStep_89 : decode cX9_doStep 89 = .ok (.invokevirtual 129, 3) := by decide +kernel
theorem dX9_doStep_92 : decode cX9_doStep 92 = .ok (.goto 7, 3) := by decide +kernel
theorem dX9_doStep_95 : decode cX9_doStep 95 = .ok (.aload_n 2, 1) := by decide +kernel
theorem dX9_doStep_96 : decode cX9_doStep 96 = .ok (.invokevirtual 133, 3) := by decide +kernel
theorem dX9_doStep_99 : decode cX9_doStep 99 = .ok (.return_, 1) := by decide +kernel
theorem dX9_isAllowed_0 : decode cX9_isAllowed 0 = .ok (.aload_n 0, 1) := by decide +kernel
theorem dX9_isAllowed_1 : decode cX9_isAllowed 1 = .ok (.getfield 11, 3) := by decide +kernel
theorem dX9_isAllowed_4 : decode cX9_isAllowed 4 = .ok (.iload_n 1, 1) := by decide +kernel
theorem dX9_isAllowed_5 : decode cX9_isAllowed 5 = .ok (.iaload, 1) := by decide +kernel
theorem dX9_isAllowed_6 : decode cX9_isAllowed 6 = .ok (.tableswitch 83 0 2 #[26, 43, 60], 26) := by decide +kernel
theorem dX9_isAllowed_32 : decode cX9_isAllowed 32 = .ok (.aload_n 2, 1) := by decide +kernel
theorem dX9_isAllowed_33 : decode cX9_isAllowed 33 = .ok (.aload_n 0, 1) := by decide +kernel
theorem dX9_isAllowed_34 : decode cX9_isAllowed 34 = .ok (.getfield 15, 3) := by decide +kernel
theorem dX9_isAllowed_37 : decode cX9_isAllowed 37 = .ok (.iload_n 1, 1) := by decide +kernel
theorem dX9_isAllowed_38 : decode cX9_isAllowed 38 = .ok (.iaload, 1) := by decide +kernel
theorem dX9_isAllowed_39 : decode cX9_isAllowed 39 = .ok (.aload_n 0, 1) := by decide +kernel
theorem dX9_isAllowed_40 : decode cX9_isAllowed 40 = .ok (.getfield 18, 3) := by decide +kernel
theorem dX9_isAllowed_43 : decode cX9_isAllowed 43 = .ok (.iload_n 1, 1) := by decide +kernel
theorem dX9_isAllowed_44 : decode cX9_isAllowed 44 = .ok (.iaload, 1) := by decide +kernel
theorem dX9_isAllowed_45 : decode cX9_isAllowed 45 = .ok (.invokevirtual 136, 3) := by decide +kernel
theorem dX9_isAllowed_48 : decode cX9_isAllowed 48 = .ok (.ireturn, 1) := by decide +kernel
theorem dX9_isAllowed_49 : decode cX9_isAllowed 49 = .ok (.aload_n 2, 1) := by decide +kernel
theorem dX9_isAllowed_50 : decode cX9_isAllowed 50 = .ok (.aload_n 0, 1) := by decide +kernel
theorem dX9_isAllowed_51 : decode cX9_isAllowed 51 = .ok (.getfield 15, 3) := by decide +kernel
theorem dX9_isAllowed_54 : decode cX9_isAllowed 54 = .ok (.iload_n 1, 1) := by decide +kernel
theorem dX9_isAllowed_55 : decode cX9_isAllowed 55 = .ok (.iaload, 1) := by decide +kernel
theorem dX9_isAllowed_56 : decode cX9_isAllowed 56 = .ok (.aload_n 0, 1) := by decide +kernel
theorem dX9_isAllowed_57 : decode cX9_isAllowed 57 = .ok (.getfield 18, 3) := by decide +kernel
theorem dX9_isAllowed_60 : decode cX9_isAllowed 60 = .ok (.iload_n 1, 1) := by decide +kernel
theorem dX9_isAllowed_61 : decode cX9_isAllowed 61 = .ok (.iaload, 1) := by decide +kernel
theorem dX9_isAllowed_62 : decode cX9_isAllowed 62 = .ok (.invokevirtual 140, 3) := by decide +kernel
theorem dX9_isAllowed_65 : decode cX9_isAllowed 65 = .ok (.ireturn, 1) := by decide +kernel
theorem dX9_isAllowed_66 : decode cX9_isAllowed 66 = .ok (.aload_n 2, 1) := by decide +kernel
theorem dX9_isAllowed_67 : decode cX9_isAllowed 67 = .ok (.aload_n 0, 1) := by decide +kernel
theorem dX9_isAllowed_68 : decode cX9_isAllowed 68 = .ok (.getfield 15, 3) := by decide +kernel
theorem dX9_isAllowed_71 : decode cX9_isAllowed 71 = .ok (.iload_n 1, 1) := by decide +kernel
theorem dX9_isAllowed_72 : decode cX9_isAllowed 72 = .ok (.iaload, 1) := by decide +kernel
theorem dX9_isAllowed_73 : decode cX9_isAllowed 73 = .ok (.aload_n 0, 1) := by decide +kernel
theorem dX9_isAllowed_74 : decode cX9_isAllowed 74 = .ok (.getfield 18, 3) := by decide +kernel
theorem dX9_isAllowed_77 : decode cX9_isAllowed 77 = .ok (.iload_n 1, 1) := by decide +kernel
theorem dX9_isAllowed_78 : decode cX9_isAllowed 78 = .ok (.iaload, 1) := by decide +kernel
theorem dX9_isAllowed_79 : decode cX9_isAllowed 79 = .ok (.aload_n 0, 1) := by decide +kernel
theorem dX9_isAllowed_80 : decode cX9_isAllowed 80 = .ok (.getfield 21, 3) := by decide +kernel
theorem dX9_isAllowed_83 : decode cX9_isAllowed 83 = .ok (.iload_n 1, 1) := by decide +kernel
theorem dX9_isAllowed_84 : decode cX9_isAllowed 84 = .ok (.iaload, 1) := by decide +kernel
theorem dX9_isAllowed_85 : decode cX9_isAllowed 85 = .ok (.invokevirtual 143, 3) := by decide +kernel
theorem dX9_isAllowed_88 : decode cX9_isAllowed 88 = .ok (.ireturn, 1) := by decide +kernel
theorem dX9_isAllowed_89 : decode cX9_isAllowed 89 = .ok (.aload_n 2, 1) := by decide +kernel
theorem dX9_isAllowed_90 : decode cX9_isAllowed 90 = .ok (.invokevirtual 147, 3) := by decide +kernel
theorem dX9_isAllowed_93 : decode cX9_isAllowed 93 = .ok (.bipush 40, 2) := by decide +kernel
theorem dX9_isAllowed_95 : decode cX9_isAllowed 95 = .ok (.if_icmp .ge 7, 3) := by decide +kernel
theorem dX9_isAllowed_98 : decode cX9_isAllowed 98 = .ok (.iconst 1, 1) := by decide +kernel
theorem dX9_isAllowed_99 : decode cX9_isAllowed 99 = .ok (.goto 4, 3) := by decide +kernel
theorem dX9_isAllowed_102 : decode cX9_isAllowed 102 = .ok (.iconst 0, 1) := by decide +kernel
theorem dX9_isAllowed_103 : decode cX9_isAllowed 103 = .ok (.ireturn, 1) := by decide +kernel
theorem dX10_init_0 : decode cX10_init 0 = .ok (.aload_n 0, 1) := by decide +kernel
theorem dX10_init_1 : decode cX10_init 1 = .ok (.invokespecial 1, 3) := by decide +kernel
theorem dX10_init_4 : decode cX10_init 4 = .ok (.aload_n 0, 1) := by decide +kernel
theorem dX10_init_5 : decode cX10_init 5 = .ok (.new 7, 3) := by decide +kernel
theorem dX10_init_8 : decode cX10_init 8 = .ok (.dup, 1) := by decide +kernel
theorem dX10_init_9 : decode cX10_init 9 = .ok (.invokespecial 9, 3) := by decide +kernel
theorem dX10_init_12 : decode cX10_init 12 = .ok (.putfield 10, 3) := by decide +kernel
theorem dX10_init_15 : decode cX10_init 15 = .ok (.aload_n 0, 1) := by decide +kernel
theorem dX10_init_16 : decode cX10_init 16 = .ok (.new 16, 3) := by decide +kernel
theorem dX10_init_19 : decode cX10_init 19 = .ok (.dup, 1) := by decide +kernel
theorem dX10_init_20 : decode cX10_init 20 = .ok (.invokespecial 18, 3) := by decide +kernel
theorem dX10_init_23 : decode cX10_init 23 = .ok (.putfield 19, 3) := by decide +kernel
theorem dX10_init_26 : decode cX10_init 26 = .ok (.aload_n 0, 1) := by decide +kernel
theorem dX10_init_27 : decode cX10_init 27 = .ok (.new 16, 3) := by decide +kernel
theorem dX10_init_30 : decode cX10_init 30 = .ok (.dup, 1) := by decide +kernel
theorem dX10_init_31 : decode cX10_init 31 = .ok (.invokespecial 18, 3) := by decide +kernel
theorem dX10_init_34 : decode cX10_init 34 = .ok (.putfield 23, 3) := by decide +kernel
theorem dX10_init_37 : decode cX10_init 37 = .ok (.aload_n 0, 1) := by decide +kernel
theorem dX10_init_38 : decode cX10_init 38 = .ok (.new 26, 3) := by decide +kernel
theorem dX10_init_41 : decode cX10_init 41 = .ok (.dup, 1) := by decide +kernel
theorem dX10_init_42 : decode cX10_init 42 = .ok (.invokespecial 28, 3) := by decide +kernel
theorem dX10_init_45 : decode cX10_init 45 = .ok (.putfield 29, 3) := by decide +kernel
theorem dX10_init_48 : decode cX10_init 48 = .ok (.aload_n 0, 1) := by decide +kernel
theorem dX10_init_49 : decode cX10_init 49 = .ok (.new 26, 3) := by decide +kernel
theorem dX10_init_52 : decode cX10_init 52 = .ok (.dup, 1) := by decide +kernel
theorem dX10_init_53 : decode cX10_init 53 = .ok (.invokespecial 28, 3) := by decide +kernel
theorem dX10_init_56 : decode cX10_init 56 = .ok (.putfield 33, 3) := by decide +kernel
theorem dX10_init_59 : decode cX10_init 59 = .ok (.aload_n 0, 1) := by decide +kernel
theorem dX10_init_60 : decode cX10_init 60 = .ok (.new 36, 3) := by decide +kernel
theorem dX10_init_63 : decode cX10_init 63 = .ok (.dup, 1) := by decide +kernel
theorem dX10_init_64 : decode cX10_init 64 = .ok (.invokespecial 38, 3) := by decide +kernel
theorem dX10_init_67 : decode cX10_init 67 = .ok (.putfield 39, 3) := by decide +kernel
theorem dX10_init_70 : decode cX10_init 70 = .ok (.aload_n 0, 1) := by decide +kernel
theorem dX10_init_71 : decode cX10_init 71 = .ok (.new 36, 3) := by decide +kernel
theorem dX10_init_74 : decode cX10_init 74 = .ok (.dup, 1) := by decide +kernel
theorem dX10_init_75 : decode cX10_init 75 = .ok (.invokespecial 38, 3) := by decide +kernel
theorem dX10_init_78 : decode cX10_init 78 = .ok (.putfield 43, 3) := by decide +kernel
theorem dX10_init_81 : decode cX10_init 81 = .ok (.aload_n 0, 1) := by decide +kernel
theorem dX10_init_82 : decode cX10_init 82 = .ok (.new 46, 3) := by decide +kernel
theorem dX10_init_85 : decode cX10_init 85 = .ok (.dup, 1) := by decide +kernel
theorem dX10_init_86 : decode cX10_init 86 = .ok (.invokespecial 48, 3) := by decide +kernel
theorem dX10_init_89 : decode cX10_init 89 = .ok (.putfield 49, 3) := by decide +kernel
theorem dX10_init_92 : decode cX10_init 92 = .ok (.aload_n 0, 1) := by decide +kernel
theorem dX10_init_93 : decode cX10_init 93 = .ok (.new 53, 3) := by decide +kernel
theorem dX10_init_96 : decode cX10_init 96 = .ok (.dup, 1) := by decide +kernel
theorem dX10_init_97 : decode cX10_init 97 = .ok (.aload_n 0, 1) := by decide +kernel
theorem dX10_init_98 : decode cX10_init 98 = .ok (.getfield 19, 3) := by decide +kernel
theorem dX10_init_101 : decode cX10_init 101 = .ok (.aload_n 0, 1) := by decide +kernel
theorem dX10_init_102 : decode cX10_init 102 = .ok (.getfield 29, 3) := by decide +kernel
theorem dX10_init_105 : decode cX10_init 105 = .ok (.invokespecial 55, 3) := by decide +kernel
theorem dX10_init_108 : decode cX10_init 108 = .ok (.putfield 58, 3) := by decide +kernel
theorem dX10_init_111 : decode cX10_init 111 = .ok (.aload_n 0, 1) := by decide +kernel
theorem dX10_init_112 : decode cX10_init 112 = .ok (.new 53, 3) := by decide +kernel
theorem dX10_init_115 : decode cX10_init 115 = .ok (.dup, 1) := by decide +kernel
theorem dX10_init_116 : decode cX10_init 116 = .ok (.aload_n 0, 1) := by decide +kernel
theorem dX10_init_117 : decode cX10_init 117 = .ok (.getfield 19, 3) := by decide +kernel
theorem dX10_init_120 : decode cX10_init 120 = .ok (.aload_n 0, 1) := by decide +kernel
theorem dX10_init_121 : decode cX10_init 121 = .ok (.getfield 29, 3) := by decide +kernel
theorem dX10_init_124 : decode cX10_init 124 = .ok (.invokespecial 55, 3) := by decide +kernel
theorem dX10_init_127 : decode cX10_init 127 = .ok (.putfield 62, 3) := by decide +kernel
theorem dX10_init_130 : decode cX10_init 130 = .ok (.aload_n 0, 1) := by decide +kernel
theorem dX10_init_131 : decode cX10_init 131 = .ok (.new 65, 3) := by decide +kernel
theorem dX10_init_134 : decode cX10_init 134 = .ok (.dup, 1) := by decide +kernel
theorem dX10_init_135 : decode cX10_init 135 = .ok (.invokespecial 67, 3) := by decide +kernel
theorem dX10_init_138 : decode cX10_init 138 = .ok (.putfield 68, 3) := by decide +kernel
theorem dX10_init_141 : decode cX10_init 141 = .ok (.aload_n 0, 1) := by decide +kernel
theorem dX10_init_142 : decode cX10_init 142 = .ok (.iconst 3, 1) := by decide +kernel
theorem dX10_init_143 : decode cX10_init 143 = .ok (.anewarray 65, 3) := by decide +kernel
theorem dX10_init_146 : decode cX10_init 146 = .ok (.putfield 72, 3) := by decide +kernel
theorem dX10_init_149 : decode cX10_init 149 = .ok (.iconst 0, 1) := by decide +kernel
theorem dX10_init_150 : decode cX10_init 150 = .ok (.istore_n 1, 1) := by decide +kernel
theorem dX10_init_151 : decode cX10_init 151 = .ok (.iload_n 1, 1) := by decide +kernel
theorem dX10_init_152 : decode cX10_init 152 = .ok (.iconst 3, 1) := by decide +kernel
theorem dX10_init_153 : decode cX10_init 153 = .ok (.if_icmp .ge 22, 3) := by decide +kernel
theorem dX10_init_156 : decode cX10_init 156 = .ok (.aload_n 0, 1) := by decide +kernel
theorem dX10_init_157 : decode cX10_init 157 = .ok (.getfield 72, 3) := by decide +kernel
theorem dX10_init_160 : decode cX10_init 160 = .ok (.iload_n 1, 1) := by decide +kernel
theorem dX10_init_161 : decode cX10_init 161 = .ok (.new 65, 3) := by decide +kernel
theorem dX10_init_164 : decode cX10_init 164 = .ok (.dup, 1) := by decide +kernel
theorem dX10_init_165 : decode cX10_init 165 = .ok (.invokespecial 67, 3) := by decide +kernel
theorem dX10_init_168 : decode cX10_init 168 = .ok (.aastore, 1) := by decide +kernel
theorem dX10_init_169 : decode cX10_init 169 = .ok (.iinc 1 1, 3) := by decide +kernel
theorem dX10_init_172 : decode cX10_init 172 = .ok (.goto (-21), 3) := by decide +kernel
theorem dX10_init_175 : decode cX10_init 175 = .ok (.aload_n 0, 1) := by decide +kernel
theorem dX10_init_176 : decode cX10_init 176 = .ok (.new 76, 3) := by decide +kernel
theorem dX10_init_179 : decode cX10_init 179 = .ok (.dup, 1) := by decide +kernel
theorem dX10_init_180 : decode cX10_init 180 = .ok (.invokespecial 78, 3) := by decide +kernel
theorem dX10_init_183 : decode cX10_init 183 = .ok (.putfield 79, 3) := by decide +kernel
theorem dX10_init_186 : decode cX10_init 186 = .ok (.aload_n 0, 1) := by decide +kernel
theorem dX10_init_187 : decode cX10_init 187 = .ok (.new 83, 3) := by decide +kernel
theorem dX10_init_190 : decode cX10_init 190 = .ok (.dup, 1) := by decide +kernel
theorem dX10_init_191 : decode cX10_init 191 = .ok (.invokespecial 85, 3) := by decide +kernel
theorem dX10_init_194 : decode cX10_init 194 = .ok (.putfield 86, 3) := by decide +kernel
theorem dX10_init_197 : decode cX10_init 197 = .ok (.aload_n 0, 1) := by decide +kernel
theorem dX10_init_198 : decode cX10_init 198 = .ok (.new 90, 3) := by decide +kernel
theorem dX10_init_201 : decode cX10_init 201 = .ok (.dup, 1) := by decide +kernel
theorem dX10_init_202 : decode cX10_init 202 = .ok (.invokespecial 92, 3) := by decide +kernel
theorem dX10_init_205 : decode cX10_init 205 = .ok (.putfield 93, 3) := by decide +kernel
theorem dX10_init_208 : decode cX10_init 208 = .ok (.return_, 1) := by decide +kernel
theorem dX10_feed_0 : decode cX10_feed 0 = .ok (.aload_n 0, 1) := by decide +kernel
theorem dX10_feed_1 : decode cX10_feed 1 = .ok (.getfield 10, 3) := by decide +kernel
theorem dX10_feed_4 : decode cX10_feed 4 = .ok (.invokevirtual 97, 3) := by decide +kernel
theorem dX10_feed_7 : decode cX10_feed 7 = .ok (.ifCond .ne 5, 3) := by decide +kernel
theorem dX10_feed_10 : decode cX10_feed 10 = .ok (.iconst (-1), 1) := by decide +kernel
theorem dX10_feed_11 : decode cX10_feed 11 = .ok (.ireturn, 1) := by decide +kernel
theorem dX10_feed_12 : decode cX10_feed 12 = .ok (.aload_n 0, 1) := by decide +kernel
theorem dX10_feed_13 : decode cX10_feed 13 = .ok (.getfield 10, 3) := by decide +kernel
theorem dX10_feed_16 : decode cX10_feed 16 = .ok (.iload_n 1, 1) := by decide +kernel
theorem dX10_feed_17 : decode cX10_feed 17 = .ok (.invokevirtual 101, 3) := by decide +kernel
theorem dX10_feed_20 : decode cX10_feed 20 = .ok (.aload_n 0, 1) := by decide +kernel
theorem dX10_feed_21 : decode cX10_feed 21 = .ok (.getfield 10, 3) := by decide +kernel
theorem dX10_feed_24 : decode cX10_feed 24 = .ok (.iload_n 2, 1) := by decide +kernel
theorem dX10_feed_25 : decode cX10_feed 25 = .ok (.invokevirtual 101, 3) := by decide +kernel
theorem dX10_feed_28 : decode cX10_feed 28 = .ok (.aload_n 0, 1) := by decide +kernel
theorem dX10_feed_29 : decode cX10_feed 29 = .ok (.getfield 10, 3) := by decide +kernel
theorem dX10_feed_32 : decode cX10_feed 32 = .ok (.iload_n 3, 1) := by decide +kernel
theorem dX10_feed_33 : decode cX10_feed 33 = .ok (.invokevirtual 101, 3) := by decide +kernel
theorem dX10_feed_36 : decode cX10_feed 36 = .ok (.aload_n 0, 1) := by decide +kernel
theorem dX10_feed_37 : decode cX10_feed 37 = .ok (.getfield 10, 3) := by decide +kernel
theorem dX10_feed_40 : decode cX10_feed 40 = .ok (.iload 4, 2) := by decide +kernel
theorem dX10_feed_42 : decode cX10_feed 42 = .ok (.invokevirtual 101, 3) := by decide +kernel
theorem dX10_feed_45 : decode cX10_feed 45 = .ok (.aload_n 0, 1) := by decide +kernel
theorem dX10_feed_46 : decode cX10_feed 46 = .ok (.getfield 10, 3) := by decide +kernel
theorem dX10_feed_49 : decode cX10_feed 49 = .ok (.iload 5, 2) := by decide +kernel
theorem dX10_feed_51 : decode cX10_feed 51 = .ok (.invokevirtual 101, 3) := by decide +kernel
theorem dX10_feed_54 : decode cX10_feed 54 = .ok (.aload_n 0, 1) := by decide +kernel
theorem dX10_feed_55 : decode cX10_feed 55 = .ok (.getfield 10, 3) := by decide +kernel
theorem dX10_feed_58 : decode cX10_feed 58 = .ok (.getfield 105, 3) := by decide +kernel
theorem dX10_feed_61 : decode cX10_feed 61 = .ok (.ireturn, 1) := by decide +kernel
theorem dX10_down_0 : decode cX10_down 0 = .ok (.aload_n 0, 1) := by decide +kernel
theorem dX10_down_1 : decode cX10_down 1 = .ok (.iload_n 1, 1) := by decide +kernel
theorem dX10_down_2 : decode cX10_down 2 = .ok (.sipush 600, 3) := by decide +kernel
theorem dX10_down_5 : decode cX10_down 5 = .ok (.invokevirtual 109, 3) := by decide +kernel
theorem dX10_down_8 : decode cX10_down 8 = .ok (.aload_n 0, 1) := by decide +kernel
theorem dX10_down_9 : decode cX10_down 9 = .ok (.getfield 23, 3) := by decide +kernel
theorem dX10_down_12 : decode cX10_down 12 = .ok (.aload_n 0, 1) := by decide +kernel
theorem dX10_down_13 : decode cX10_down 13 = .ok (.getfield 10, 3) := by decide +kernel
theorem dX10_down_16 : decode cX10_down 16 = .ok (.invokevirtual 113, 3) := by decide +kernel
theorem dX10_down_19 : decode cX10_down 19 = .ok (.aload_n 0, 1) := by decide +kernel
theorem dX10_down_20 : decode cX10_down 20 = .ok (.getfield 10, 3) := by decide +kernel
theorem dX10_down_23 : decode cX10_down 23 = .ok (.invokevirtual 117, 3) := by decide +kernel
theorem dX10_down_26 : decode cX10_down 26 = .ok (.ifCond .eq 14, 3) := by decide +kernel
theorem dX10_down_29 : decode cX10_down 29 = .ok (.aload_n 0, 1) := by decide +kernel
theorem dX10_down_30 : decode cX10_down 30 = .ok (.getfield 10, 3) := by decide +kernel
theorem dX10_down_33 : decode cX10_down 33 = .ok (.getfield 120, 3) := by decide +kernel
theorem dX10_down_36 : decode cX10_down 36 = .ok (.bipush 10, 2) := by decide +kernel
theorem dX10_down_38 : decode cX10_down 38 = .ok (.isub, 1) := by decide +kernel
theorem dX10_down_39 : decode cX10_down 39 = .ok (.ireturn, 1) := by decide +kernel
theorem dX10_down_40 : decode cX10_down 40 = .ok (.aload_n 0, 1) := by decide +kernel
theorem dX10_down_41 : decode cX10_down 41 = .ok (.getfield 19, 3) := by decide +kernel
theorem dX10_down_44 : decode cX10_down 44 = .ok (.astore_n 2, 1) := by decide +kernel
theorem dX10_down_45 : decode cX10_down 45 = .ok (.aload_n 0, 1) := by decide +kernel
theorem dX10_down_46 : decode cX10_down 46 = .ok (.aload_n 0, 1) := by decide +kernel
theorem dX10_down_47 : decode cX10_down 47 = .ok (.getfield 23, 3) := by decide +kernel
theorem dX10_down_50 : decode cX10_down 50 = .ok (.putfield 19, 3) := by decide +kernel
theorem dX10_down_53 : decode cX10_down 53 = .ok (.aload_n 0, 1) := by decide +kernel
theorem dX10_down_54 : decode cX10_down 54 = .ok (.aload_n 2, 1) := by decide +kernel
theorem dX10_down_55 : decode cX10_down 55 = .ok (.putfield 23, 3) := by decide +kernel
theorem dX10_down_58 : decode cX10_down 58 = .ok (.aload_n 0, 1) := by decide +kernel
theorem dX10_down_59 : decode cX10_down 59 = .ok (.getfield 29, 3) := by decide +kernel
theorem dX10_down_62 : decode cX10_down 62 = .ok (.invokevirtual 123, 3) := by decide +kernel
theorem dX10_down_65 : decode cX10_down 65 = .ok (.aload_n 0, 1) := by decide +kernel
theorem dX10_down_66 : decode cX10_down 66 = .ok (.getfield 39, 3) := by decide +kernel
theorem dX10_down_69 : decode cX10_down 69 = .ok (.invokevirtual 126, 3) := by decide +kernel
theorem dX10_down_72 : decode cX10_down 72 = .ok (.aload_n 0, 1) := by decide +kernel
theorem dX10_down_73 : decode cX10_down 73 = .ok (.getfield 58, 3) := by decide +kernel
theorem dX10_down_76 : decode cX10_down 76 = .ok (.aload_n 0, 1) := by decide +kernel
theorem dX10_down_77 : decode cX10_down 77 = .ok (.getfield 19, 3) := by decide +kernel
theorem dX10_down_80 : decode cX10_down 80 = .ok (.aload_n 0, 1) := by decide +kernel
theorem dX10_down_81 : decode cX10_down 81 = .ok (.getfield 29, 3) := by decide +kernel
theorem dX10_down_84 : decode cX10_down 84 = .ok (.invokevirtual 129, 3) := by decide +kernel
theorem dX10_down_87 : decode cX10_down 87 = .ok (.aload_n 0, 1) := by decide +kernel
theorem dX10_down_88 : decode cX10_down 88 = .ok (.getfield 68, 3) := by decide +kernel
theorem dX10_down_91 : decode cX10_down 91 = .ok (.iconst 0, 1) := by decide +kernel
theorem dX10_down_92 : decode cX10_down 92 = .ok (.putfield 132, 3) := by decide +kernel
theorem dX10_down_95 : decode cX10_down 95 = .ok (.aload_n 0, 1) := by decide +kernel
theorem dX10_down_96 : decode cX10_down 96 = .ok (.iconst 0, 1) := by decide +kernel
theorem dX10_down_97 : decode cX10_down 97 = .ok (.putfield 135, 3) := by decide +kernel
theorem dX10_down_100 : decode cX10_down 100 = .ok (.aload_n 0, 1) := by decide +kernel
theorem dX10_down_101 : decode cX10_down 101 = .ok (.iconst 0, 1) := by decide +kernel
theorem dX10_down_102 : decode cX10_down 102 = .ok (.putfield 138, 3) := by decide +kernel
theorem dX10_down_105 : decode cX10_down 105 = .ok (.aload_n 0, 1) := by decide +kernel
theorem dX10_down_106 : decode cX10_down 106 = .ok (.getfield 19, 3) := by decide +kernel
theorem dX10_down_109 : decode cX10_down 109 = .ok (.getfield 141, 3) := by decide +kernel
theorem dX10_down_112 : decode cX10_down 112 = .ok (.ireturn, 1) := by decide +kernel
theorem dX10_law_0 : decode cX10_law 0 = .ok (.aload_n 0, 1) := by decide +kernel
theorem dX10_law_1 : decode cX10_law 1 = .ok (.iload_n 1, 1) := by decide +kernel
theorem dX10_law_2 : decode cX10_law 2 = .ok (.sipush 150, 3) := by decide +kernel
theorem dX10_law_5 : decode cX10_law 5 = .ok (.invokevirtual 109, 3) := by decide +kernel
theorem dX10_law_8 : decode cX10_law 8 = .ok (.aload_n 0, 1) := by decide +kernel
theorem dX10_law_9 : decode cX10_law 9 = .ok (.getfield 33, 3) := by decide +kernel
theorem dX10_law_12 : decode cX10_law 12 = .ok (.aload_n 0, 1) := by decide +kernel
theorem dX10_law_13 : decode cX10_law 13 = .ok (.getfield 10, 3) := by decide +kernel
theorem dX10_law_16 : decode cX10_law 16 = .ok (.invokevirtual 144, 3) := by decide +kernel
theorem dX10_law_19 : decode cX10_law 19 = .ok (.aload_n 0, 1) := by decide +kernel
theorem dX10_law_20 : decode cX10_law 20 = .ok (.getfield 10, 3) := by decide +kernel
theorem dX10_law_23 : decode cX10_law 23 = .ok (.invokevirtual 117, 3) := by decide +kernel
theorem dX10_law_26 : decode cX10_law 26 = .ok (.ifCond .eq 14, 3) := by decide +kernel
theorem dX10_law_29 : decode cX10_law 29 = .ok (.aload_n 0, 1) := by decide +kernel
theorem dX10_law_30 : decode cX10_law 30 = .ok (.getfield 10, 3) := by decide +kernel
theorem dX10_law_33 : decode cX10_law 33 = .ok (.getfield 120, 3) := by decide +kernel
theorem dX10_law_36 : decode cX10_law 36 = .ok (.bipush 10, 2) := by decide +kernel
theorem dX10_law_38 : decode cX10_law 38 = .ok (.isub, 1) := by decide +kernel
theorem dX10_law_39 : decode cX10_law 39 = .ok (.ireturn, 1) := by decide +kernel
theorem dX10_law_40 : decode cX10_law 40 = .ok (.aload_n 0, 1) := by decide +kernel
theorem dX10_law_41 : decode cX10_law 41 = .ok (.getfield 29, 3) := by decide +kernel
theorem dX10_law_44 : decode cX10_law 44 = .ok (.astore_n 2, 1) := by decide +kernel
theorem dX10_law_45 : decode cX10_law 45 = .ok (.aload_n 0, 1) := by decide +kernel
theorem dX10_law_46 : decode cX10_law 46 = .ok (.aload_n 0, 1) := by decide +kernel
theorem dX10_law_47 : decode cX10_law 47 = .ok (.getfield 33, 3) := by decide +kernel
theorem dX10_law_50 : decode cX10_law 50 = .ok (.putfield 29, 3) := by decide +kernel
theorem dX10_law_53 : decode cX10_law 53 = .ok (.aload_n 0, 1) := by decide +kernel
theorem dX10_law_54 : decode cX10_law 54 = .ok (.aload_n 2, 1) := by decide +kernel
theorem dX10_law_55 : decode cX10_law 55 = .ok (.putfield 33, 3) := by decide +kernel
theorem dX10_law_58 : decode cX10_law 58 = .ok (.aload_n 0, 1) := by decide +kernel
theorem dX10_law_59 : decode cX10_law 59 = .ok (.getfield 58, 3) := by decide +kernel
theorem dX10_law_62 : decode cX10_law 62 = .ok (.aload_n 0, 1) := by decide +kernel
theorem dX10_law_63 : decode cX10_law 63 = .ok (.getfield 29, 3) := by decide +kernel
theorem dX10_law_66 : decode cX10_law 66 = .ok (.invokevirtual 145, 3) := by decide +kernel
theorem dX10_law_69 : decode cX10_law 69 = .ok (.iconst 1, 1) := by decide +kernel
theorem dX10_law_70 : decode cX10_law 70 = .ok (.ireturn, 1) := by decide +kernel
theorem dX10_work_0 : decode cX10_work 0 = .ok (.aload_n 0, 1) := by decide +kernel
theorem dX10_work_1 : decode cX10_work 1 = .ok (.iload_n 1, 1) := by decide +kernel
theorem dX10_work_2 : decode cX10_work 2 = .ok (.sipush 150, 3) := by decide +kernel
theorem dX10_work_5 : decode cX10_work 5 = .ok (.invokevirtual 109, 3) := by decide +kernel
theorem dX10_work_8 : decode cX10_work 8 = .ok (.aload_n 0, 1) := by decide +kernel
theorem dX10_work_9 : decode cX10_work 9 = .ok (.getfield 68, 3) := by decide +kernel
theorem dX10_work_12 : decode cX10_work 12 = .ok (.getfield 132, 3) := by decide +kernel
theorem dX10_work_15 : decode cX10_work 15 = .ok (.bipush 16, 2) := by decide +kernel
theorem dX10_work_17 : decode cX10_work 17 = .ok (.if_icmp .lt 6, 3) := by decide +kernel
theorem dX10_work_20 : decode cX10_work 20 = .ok (.bipush (-20), 2) := by decide +kernel
theorem dX10_work_22 : decode cX10_work 22 = .ok (.ireturn, 1) := by decide +kernel
theorem dX10_work_23 : decode cX10_work 23 = .ok (.aload_n 0, 1) := by decide +kernel
theorem dX10_work_24 : decode cX10_work 24 = .ok (.getfield 49, 3) := by decide +kernel
theorem dX10_work_27 : decode cX10_work 27 = .ok (.aload_n 0, 1) := by decide +kernel
theorem dX10_work_28 : decode cX10_work 28 = .ok (.getfield 10, 3) := by decide +kernel
theorem dX10_work_31 : decode cX10_work 31 = .ok (.aload_n 0, 1) := by decide +kernel
theorem dX10_work_32 : decode cX10_work 32 = .ok (.getfield 19, 3) := by decide +kernel
theorem dX10_work_35 : decode cX10_work 35 = .ok (.getfield 141, 3) := by decide +kernel
theorem dX10_work_38 : decode cX10_work 38 = .ok (.aload_n 0, 1) := by decide +kernel
theorem dX10_work_39 : decode cX10_work 39 = .ok (.getfield 19, 3) := by decide +kernel
theorem dX10_work_42 : decode cX10_work 42 = .ok (.getfield 149, 3) := by decide +kernel
theorem dX10_work_45 : decode cX10_work 45 = .ok (.invokevirtual 152, 3) := by decide +kernel
theorem dX10_work_48 : decode cX10_work 48 = .ok (.aload_n 0, 1) := by decide +kernel
theorem dX10_work_49 : decode cX10_work 49 = .ok (.getfield 10, 3) := by decide +kernel
theorem dX10_work_52 : decode cX10_work 52 = .ok (.invokevirtual 117, 3) := by decide +kernel
theorem dX10_work_55 : decode cX10_work 55 = .ok (.ifCond .eq 14, 3) := by decide +kernel
theorem dX10_work_58 : decode cX10_work 58 = .ok (.aload_n 0, 1) := by decide +kernel
theorem dX10_work_59 : decode cX10_work 59 = .ok (.getfield 10, 3) := by decide +kernel
theorem dX10_work_62 : decode cX10_work 62 = .ok (.getfield 120, 3) := by decide +kernel
theorem dX10_work_65 : decode cX10_work 65 = .ok (.bipush 10, 2) := by decide +kernel
theorem dX10_work_67 : decode cX10_work 67 = .ok (.isub, 1) := by decide +kernel
theorem dX10_work_68 : decode cX10_work 68 = .ok (.ireturn, 1) := by decide +kernel
theorem dX10_work_69 : decode cX10_work 69 = .ok (.aload_n 0, 1) := by decide +kernel
theorem dX10_work_70 : decode cX10_work 70 = .ok (.getfield 68, 3) := by decide +kernel
theorem dX10_work_73 : decode cX10_work 73 = .ok (.aload_n 0, 1) := by decide +kernel
theorem dX10_work_74 : decode cX10_work 74 = .ok (.getfield 58, 3) := by decide +kernel
theorem dX10_work_77 : decode cX10_work 77 = .ok (.invokevirtual 155, 3) := by decide +kernel
theorem dX10_work_80 : decode cX10_work 80 = .ok (.aload_n 0, 1) := by decide +kernel
theorem dX10_work_81 : decode cX10_work 81 = .ok (.getfield 49, 3) := by decide +kernel
theorem dX10_work_84 : decode cX10_work 84 = .ok (.aload_n 0, 1) := by decide +kernel
theorem dX10_work_85 : decode cX10_work 85 = .ok (.getfield 58, 3) := by decide +kernel
theorem dX10_work_88 : decode cX10_work 88 = .ok (.invokevirtual 159, 3) := by decide +kernel
theorem dX10_work_91 : decode cX10_work 91 = .ok (.aload_n 0, 1) := by decide +kernel
theorem dX10_work_92 : decode cX10_work 92 = .ok (.aload_n 0, 1) := by decide +kernel
theorem dX10_work_93 : decode cX10_work 93 = .ok (.getfield 49, 3) := by decide +kernel
theorem dX10_work_96 : decode cX10_work 96 = .ok (.getfield 162, 3) := by decide +kernel
theorem dX10_work_99 : decode cX10_work 99 = .ok (.putfield 138, 3) := by decide +kernel
theorem dX10_work_102 : decode cX10_work 102 = .ok (.aload_n 0, 1) := by decide +kernel
theorem dX10_work_103 : decode cX10_work 103 = .ok (.getfield 49, 3) := by decide +kernel
theorem dX10_work_106 : decode cX10_work 106 = .ok (.getfield 165, 3) := by decide +kernel
theorem dX10_work_109 : decode cX10_work 109 = .ok (.ireturn, 1) := by decide +kernel
theorem dX10_book_0 : decode cX10_book 0 = .ok (.aload_n 0, 1) := by decide +kernel
theorem dX10_book_1 : decode cX10_book 1 = .ok (.iload_n 1, 1) := by decide +kernel
theorem dX10_book_2 : decode cX10_book 2 = .ok (.bipush 60, 2) := by decide +kernel
theorem dX10_book_4 : decode cX10_book 4 = .ok (.invokevirtual 109, 3) := by decide +kernel
theorem dX10_book_7 : decode cX10_book 7 = .ok (.aload_n 0, 1) := by decide +kernel
theorem dX10_book_8 : decode cX10_book 8 = .ok (.getfield 43, 3) := by decide +kernel
theorem dX10_book_11 : decode cX10_book 11 = .ok (.aload_n 0, 1) := by decide +kernel
theorem dX10_book_12 : decode cX10_book 12 = .ok (.getfield 10, 3) := by decide +kernel
theorem dX10_book_15 : decode cX10_book 15 = .ok (.aload_n 0, 1) := by decide +kernel
theorem dX10_book_16 : decode cX10_book 16 = .ok (.getfield 19, 3) := by decide +kernel
theorem dX10_book_19 : decode cX10_book 19 = .ok (.getfield 149, 3) := by decide +kernel
theorem dX10_book_22 : decode cX10_book 22 = .ok (.invokevirtual 168, 3) := by decide +kernel
theorem dX10_book_25 : decode cX10_book 25 = .ok (.aload_n 0, 1) := by decide +kernel
theorem dX10_book_26 : decode cX10_book 26 = .ok (.getfield 10, 3) := by decide +kernel
theorem dX10_book_29 : decode cX10_book 29 = .ok (.invokevirtual 117, 3) := by decide +kernel
theorem dX10_book_32 : decode cX10_book 32 = .ok (.ifCond .eq 14, 3) := by decide +kernel
theorem dX10_book_35 : decode cX10_book 35 = .ok (.aload_n 0, 1) := by decide +kernel
theorem dX10_book_36 : decode cX10_book 36 = .ok (.getfield 10, 3) := by decide +kernel
theorem dX10_book_39 : decode cX10_book 39 = .ok (.getfield 120, 3) := by decide +kernel
theorem dX10_book_42 : decode cX10_book 42 = .ok (.bipush 10, 2) := by decide +kernel
theorem dX10_book_44 : decode cX10_book 44 = .ok (.isub, 1) := by decide +kernel
theorem dX10_book_45 : decode cX10_book 45 = .ok (.ireturn, 1) := by decide +kernel
theorem dX10_book_46 : decode cX10_book 46 = .ok (.aload_n 0, 1) := by decide +kernel
theorem dX10_book_47 : decode cX10_book 47 = .ok (.getfield 39, 3) := by decide +kernel
theorem dX10_book_50 : decode cX10_book 50 = .ok (.astore_n 2, 1) := by decide +kernel
theorem dX10_book_51 : decode cX10_book 51 = .ok (.aload_n 0, 1) := by decide +kernel
theorem dX10_book_52 : decode cX10_book 52 = .ok (.aload_n 0, 1) := by decide +kernel
theorem dX10_book_53 : decode cX10_book 53 = .ok (.getfield 43, 3) := by decide +kernel
theorem dX10_book_56 : decode cX10_book 56 = .ok (.putfield 39, 3) := by decide +kernel
theorem dX10_book_59 : decode cX10_book 59 = .ok (.aload_n 0, 1) := by decide +kernel
theorem dX10_book_60 : decode cX10_book 60 = .ok (.aload_n 2, 1) := by decide +kernel
theorem dX10_book_61 : decode cX10_book 61 = .ok (.putfield 43, 3) := by decide +kernel
theorem dX10_book_64 : decode cX10_book 64 = .ok (.aload_n 0, 1) := by decide +kernel
theorem dX10_book_65 : decode cX10_book 65 = .ok (.getfield 39, 3) := by decide +kernel
theorem dX10_book_68 : decode cX10_book 68 = .ok (.getfield 171, 3) := by decide +kernel
theorem dX10_book_71 : decode cX10_book 71 = .ok (.ireturn, 1) := by decide +kernel
theorem dX10_fault_0 : decode cX10_fault 0 = .ok (.aload_n 0, 1) := by decide +kernel
theorem dX10_fault_1 : decode cX10_fault 1 = .ok (.getfield 10, 3) := by decide +kernel
theorem dX10_fault_4 : decode cX10_fault 4 = .ok (.getfield 174, 3) := by decide +kernel
theorem dX10_fault_7 : decode cX10_fault 7 = .ok (.ireturn, 1) := by decide +kernel
theorem dX10_undo_0 : decode cX10_undo 0 = .ok (.aload_n 0, 1) := by decide +kernel
theorem dX10_undo_1 : decode cX10_undo 1 = .ok (.getfield 68, 3) := by decide +kernel
theorem dX10_undo_4 : decode cX10_undo 4 = .ok (.getfield 132, 3) := by decide +kernel
theorem dX10_undo_7 : decode cX10_undo 7 = .ok (.ifCond .ne 5, 3) := by decide +kernel
theorem dX10_undo_10 : decode cX10_undo 10 = .ok (.iconst (-1), 1) := by decide +kernel
theorem dX10_undo_11 : decode cX10_undo 11 = .ok (.ireturn, 1) := by decide +kernel
theorem dX10_undo_12 : decode cX10_undo 12 = .ok (.aload_n 0, 1) := by decide +kernel
theorem dX10_undo_13 : decode cX10_undo 13 = .ok (.getfield 68, 3) := by decide +kernel
theorem dX10_undo_16 : decode cX10_undo 16 = .ok (.aload_n 0, 1) := by decide +kernel
theorem dX10_undo_17 : decode cX10_undo 17 = .ok (.getfield 58, 3) := by decide +kernel
theorem dX10_undo_20 : decode cX10_undo 20 = .ok (.invokevirtual 177, 3) := by decide +kernel
theorem dX10_undo_23 : decode cX10_undo 23 = .ok (.aload_n 0, 1) := by decide +kernel
theorem dX10_undo_24 : decode cX10_undo 24 = .ok (.iconst 0, 1) := by decide +kernel
theorem dX10_undo_25 : decode cX10_undo 25 = .ok (.putfield 138, 3) := by decide +kernel
theorem dX10_undo_28 : decode cX10_undo 28 = .ok (.aload_n 0, 1) := by decide +kernel
theorem dX10_undo_29 : decode cX10_undo 29 = .ok (.getfield 68, 3) := by decide +kernel
theorem dX10_undo_32 : decode cX10_undo 32 = .ok (.getfield 132, 3) := by decide +kernel
theorem dX10_undo_35 : decode cX10_undo 35 = .ok (.ireturn, 1) := by decide +kernel
theorem dX10_told_0 : decode cX10_told 0 = .ok (.aload_n 0, 1) := by decide +kernel
theorem dX10_told_1 : decode cX10_told 1 = .ok (.iload_n 1, 1) := by decide +kernel
theorem dX10_told_2 : decode cX10_told 2 = .ok (.iconst 0, 1) := by decide +kernel
theorem dX10_told_3 : decode cX10_told 3 = .ok (.bipush 11, 2) := by decide +kernel
theorem dX10_told_5 : decode cX10_told 5 = .ok (.invokevirtual 180, 3) := by decide +kernel
theorem dX10_told_8 : decode cX10_told 8 = .ok (.iload_n 1, 1) := by decide +kernel
theorem dX10_told_9 : decode cX10_told 9 = .ok (.tableswitch 144 0 10 #[59, 67, 75, 83, 91, 99, 107, 115, 123, 131, 139], 59) := by decide +kernel
theorem dX10_told_68 : decode cX10_told 68 = .ok (.aload_n 0, 1) := by decide +kernel
theorem dX10_told_69 : decode cX10_told 69 = .ok (.getfield 19, 3) := by decide +kernel
theorem dX10_told_72 : decode cX10_told 72 = .ok (.getfield 149, 3) := by decide +kernel
theorem dX10_told_75 : decode cX10_told 75 = .ok (.ireturn, 1) := by decide +kernel
theorem dX10_told_76 : decode cX10_told 76 = .ok (.aload_n 0, 1) := by decide +kernel
theorem dX10_told_77 : decode cX10_told 77 = .ok (.getfield 19, 3) := by decide +kernel
theorem dX10_told_80 : decode cX10_told 80 = .ok (.getfield 141, 3) := by decide +kernel
theorem dX10_told_83 : decode cX10_told 83 = .ok (.ireturn, 1) := by decide +kernel
theorem dX10_told_84 : decode cX10_told 84 = .ok (.aload_n 0, 1) := by decide +kernel
theorem dX10_told_85 : decode cX10_told 85 = .ok (.getfield 19, 3) := by decide +kernel
theorem dX10_told_88 : decode cX10_told 88 = .ok (.getfield 184, 3) := by decide +kernel
theorem dX10_told_91 : decode cX10_told 91 = .ok (.ireturn, 1) := by decide +kernel
theorem dX10_told_92 : decode cX10_told 92 = .ok (.aload_n 0, 1) := by decide +kernel
theorem dX10_told_93 : decode cX10_told 93 = .ok (.getfield 58, 3) := by decide +kernel
theorem dX10_told_96 : decode cX10_told 96 = .ok (.invokevirtual 187, 3) := by decide +kernel
theorem dX10_told_99 : decode cX10_told 99 = .ok (.ireturn, 1) := by decide +kernel
theorem dX10_told_100 : decode cX10_told 100 = .ok (.aload_n 0, 1) := by decide +kernel
theorem dX10_told_101 : decode cX10_told 101 = .ok (.getfield 58, 3) := by decide +kernel
theorem dX10_told_104 : decode cX10_told 104 = .ok (.invokevirtual 191, 3) := by decide +kernel
theorem dX10_told_107 : decode cX10_told 107 = .ok (.ireturn, 1) := by decide +kernel
theorem dX10_told_108 : decode cX10_told 108 = .ok (.aload_n 0, 1) := by decide +kernel
theorem dX10_told_109 : decode cX10_told 109 = .ok (.getfield 58, 3) := by decide +kernel
theorem dX10_told_112 : decode cX10_told 112 = .ok (.invokevirtual 194, 3) := by decide +kernel
theorem dX10_told_115 : decode cX10_told 115 = .ok (.ireturn, 1) := by decide +kernel
theorem dX10_told_116 : decode cX10_told 116 = .ok (.aload_n 0, 1) := by decide +kernel
theorem dX10_told_117 : decode cX10_told 117 = .ok (.getfield 58, 3) := by decide +kernel
theorem dX10_told_120 : decode cX10_told 120 = .ok (.invokevirtual 197, 3) := by decide +kernel
theorem dX10_told_123 : decode cX10_told 123 = .ok (.ireturn, 1) := by decide +kernel
theorem dX10_told_124 : decode cX10_told 124 = .ok (.aload_n 0, 1) := by decide +kernel
theorem dX10_told_125 : decode cX10_told 125 = .ok (.getfield 19, 3) := by decide +kernel
theorem dX10_told_128 : decode cX10_told 128 = .ok (.getfield 200, 3) := by decide +kernel
theorem dX10_told_131 : decode cX10_told 131 = .ok (.ireturn, 1) := by decide +kernel
theorem dX10_told_132 : decode cX10_told 132 = .ok (.aload_n 0, 1) := by decide +kernel
theorem dX10_told_133 : decode cX10_told 133 = .ok (.getfield 58, 3) := by decide +kernel
theorem dX10_told_136 : decode cX10_told 136 = .ok (.invokevirtual 203, 3) := by decide +kernel
theorem dX10_told_139 : decode cX10_told 139 = .ok (.ireturn, 1) := by decide +kernel
theorem dX10_told_140 : decode cX10_told 140 = .ok (.aload_n 0, 1) := by decide +kernel
theorem dX10_told_141 : decode cX10_told 141 = .ok (.getfield 39, 3) := by decide +kernel
theorem dX10_told_144 : decode cX10_told 144 = .ok (.getfield 171, 3) := by decide +kernel
theorem dX10_told_147 : decode cX10_told 147 = .ok (.ireturn, 1) := by decide +kernel
theorem dX10_told_148 : decode cX10_told 148 = .ok (.aload_n 0, 1) := by decide +kernel
theorem dX10_told_149 : decode cX10_told 149 = .ok (.getfield 138, 3) := by decide +kernel
theorem dX10_told_152 : decode cX10_told 152 = .ok (.ireturn, 1) := by decide +kernel
theorem dX10_told_153 : decode cX10_told 153 = .ok (.aload_n 0, 1) := by decide +kernel
theorem dX10_told_154 : decode cX10_told 154 = .ok (.getfield 58, 3) := by decide +kernel
theorem dX10_told_157 : decode cX10_told 157 = .ok (.invokevirtual 206, 3) := by decide +kernel
theorem dX10_told_160 : decode cX10_told 160 = .ok (.ireturn, 1) := by decide +kernel
theorem dX10_form_0 : decode cX10_form 0 = .ok (.aload_n 0, 1) := by decide +kernel
theorem dX10_form_1 : decode cX10_form 1 = .ok (.iload_n 1, 1) := by decide +kernel
theorem dX10_form_2 : decode cX10_form 2 = .ok (.invokevirtual 209, 3) := by decide +kernel
theorem dX10_form_5 : decode cX10_form 5 = .ok (.aload_n 0, 1) := by decide +kernel
theorem dX10_form_6 : decode cX10_form 6 = .ok (.iload_n 2, 1) := by decide +kernel
theorem dX10_form_7 : decode cX10_form 7 = .ok (.iconst 0, 1) := by decide +kernel
theorem dX10_form_8 : decode cX10_form 8 = .ok (.iconst 3, 1) := by decide +kernel
theorem dX10_form_9 : decode cX10_form 9 = .ok (.invokevirtual 180, 3) := by decide +kernel
theorem dX10_form_12 : decode cX10_form 12 = .ok (.iload_n 2, 1) := by decide +kernel
theorem dX10_form_13 : decode cX10_form 13 = .ok (.tableswitch 64 0 2 #[27, 37, 47], 27) := by decide +kernel
theorem dX10_form_40 : decode cX10_form 40 = .ok (.aload_n 0, 1) := by decide +kernel
theorem dX10_form_41 : decode cX10_form 41 = .ok (.getfield 19, 3) := by decide +kernel
theorem dX10_form_44 : decode cX10_form 44 = .ok (.getfield 212, 3) := by decide +kernel
theorem dX10_form_47 : decode cX10_form 47 = .ok (.iload_n 1, 1) := by decide +kernel
theorem dX10_form_48 : decode cX10_form 48 = .ok (.iaload, 1) := by decide +kernel
theorem dX10_form_49 : decode cX10_form 49 = .ok (.ireturn, 1) := by decide +kernel
theorem dX10_form_50 : decode cX10_form 50 = .ok (.aload_n 0, 1) := by decide +kernel
theorem dX10_form_51 : decode cX10_form 51 = .ok (.getfield 19, 3) := by decide +kernel
theorem dX10_form_54 : decode cX10_form 54 = .ok (.getfield 216, 3) := by decide +kernel
theorem dX10_form_57 : decode cX10_form 57 = .ok (.iload_n 1, 1) := by decide +kernel
theorem dX10_form_58 : decode cX10_form 58 = .ok (.iaload, 1) := by decide +kernel
theorem dX10_form_59 : decode cX10_form 59 = .ok (.ireturn, 1) := by decide +kernel
theorem dX10_form_60 : decode cX10_form 60 = .ok (.aload_n 0, 1) := by decide +kernel
theorem dX10_form_61 : decode cX10_form 61 = .ok (.getfield 19, 3) := by decide +kernel
theorem dX10_form_64 : decode cX10_form 64 = .ok (.iload_n 1, 1) := by decide +kernel
theorem dX10_form_65 : decode cX10_form 65 = .ok (.invokevirtual 219, 3) := by decide +kernel
theorem dX10_form_68 : decode cX10_form 68 = .ok (.ifCond .eq 7, 3) := by decide +kernel
theorem dX10_form_71 : decode cX10_form 71 = .ok (.iconst 1, 1) := by decide +kernel
theorem dX10_form_72 : decode cX10_form 72 = .ok (.goto 4, 3) := by decide +kernel
theorem dX10_form_75 : decode cX10_form 75 = .ok (.iconst 0, 1) := by decide +kernel
theorem dX10_form_76 : decode cX10_form 76 = .ok (.ireturn, 1) := by decide +kernel
theorem dX10_form_77 : decode cX10_form 77 = .ok (.aload_n 0, 1) := by decide +kernel
theorem dX10_form_78 : decode cX10_form 78 = .ok (.getfield 58, 3) := by decide +kernel
theorem dX10_form_81 : decode cX10_form 81 = .ok (.iload_n 1, 1) := by decide +kernel
theorem dX10_form_82 : decode cX10_form 82 = .ok (.invokevirtual 223, 3) := by decide +kernel
theorem dX10_form_85 : decode cX10_form 85 = .ok (.ireturn, 1) := by decide +kernel
theorem dX10_hare_0 : decode cX10_hare 0 = .ok (.aload_n 0, 1) := by decide +kernel
theorem dX10_hare_1 : decode cX10_hare 1 = .ok (.iload_n 1, 1) := by decide +kernel
theorem dX10_hare_2 : decode cX10_hare 2 = .ok (.invokevirtual 227, 3) := by decide +kernel
theorem dX10_hare_5 : decode cX10_hare 5 = .ok (.aload_n 0, 1) := by decide +kernel
theorem dX10_hare_6 : decode cX10_hare 6 = .ok (.iload_n 2, 1) := by decide +kernel
theorem dX10_hare_7 : decode cX10_hare 7 = .ok (.iconst 0, 1) := by decide +kernel
theorem dX10_hare_8 : decode cX10_hare 8 = .ok (.bipush 7, 2) := by decide +kernel
theorem dX10_hare_10 : decode cX10_hare 10 = .ok (.invokevirtual 180, 3) := by decide +kernel
theorem dX10_hare_13 : decode cX10_hare 13 = .ok (.iload_n 2, 1) := by decide +kernel
theorem dX10_hare_14 : decode cX10_hare 14 = .ok (.tableswitch 121 0 6 #[42, 66, 75, 85, 94, 103, 112], 42) := by decide +kernel
theorem dX10_hare_56 : decode cX10_hare 56 = .ok (.aload_n 0, 1) := by decide +kernel
theorem dX10_hare_57 : decode cX10_hare 57 = .ok (.getfield 58, 3) := by decide +kernel
theorem dX10_hare_60 : decode cX10_hare 60 = .ok (.iload_n 1, 1) := by decide +kernel
theorem dX10_hare_61 : decode cX10_hare 61 = .ok (.invokevirtual 230, 3) := by decide +kernel
theorem dX10_hare_64 : decode cX10_hare 64 = .ok (.ifCond .eq 7, 3) := by decide +kernel
theorem dX10_hare_67 : decode cX10_hare 67 = .ok (.iconst (-1), 1) := by decide +kernel
theorem dX10_hare_68 : decode cX10_hare 68 = .ok (.goto 11, 3) := by decide +kernel
theorem dX10_hare_71 : decode cX10_hare 71 = .ok (.aload_n 0, 1) := by decide +kernel
theorem dX10_hare_72 : decode cX10_hare 72 = .ok (.getfield 58, 3) := by decide +kernel
theorem dX10_hare_75 : decode cX10_hare 75 = .ok (.iload_n 1, 1) := by decide +kernel
theorem dX10_hare_76 : decode cX10_hare 76 = .ok (.invokevirtual 233, 3) := by decide +kernel
theorem dX10_hare_79 : decode cX10_hare 79 = .ok (.ireturn, 1) := by decide +kernel
theorem dX10_hare_80 : decode cX10_hare 80 = .ok (.aload_n 0, 1) := by decide +kernel
theorem dX10_hare_81 : decode cX10_hare 81 = .ok (.getfield 58, 3) := by decide +kernel
theorem dX10_hare_84 : decode cX10_hare 84 = .ok (.iload_n 1, 1) := by decide +kernel
theorem dX10_hare_85 : decode cX10_hare 85 = .ok (.invokevirtual 236, 3) := by decide +kernel
theorem dX10_hare_88 : decode cX10_hare 88 = .ok (.ireturn, 1) := by decide +kernel
theorem dX10_hare_89 : decode cX10_hare 89 = .ok (.aload_n 0, 1) := by decide +kernel
theorem dX10_hare_90 : decode cX10_hare 90 = .ok (.getfield 19, 3) := by decide +kernel
theorem dX10_hare_93 : decode cX10_hare 93 = .ok (.getfield 239, 3) := by decide +kernel
theorem dX10_hare_96 : decode cX10_hare 96 = .ok (.iload_n 1, 1) := by decide +kernel
theorem dX10_hare_97 : decode cX10_hare 97 = .ok (.iaload, 1) := by decide +kernel
theorem dX10_hare_98 : decode cX10_hare 98 = .ok (.ireturn, 1) := by decide +kernel
theorem dX10_hare_99 : decode cX10_hare 99 = .ok (.aload_n 0, 1) := by decide +kernel
theorem dX10_hare_100 : decode cX10_hare 100 = .ok (.getfield 58, 3) := by decide +kernel
theorem dX10_hare_103 : decode cX10_hare 103 = .ok (.iload_n 1, 1) := by decide +kernel
theorem dX10_hare_104 : decode cX10_hare 104 = .ok (.invokevirtual 242, 3) := by decide +kernel
theorem dX10_hare_107 : decode cX10_hare 107 = .ok (.ireturn, 1) := by decide +kernel
theorem dX10_hare_108 : decode cX10_hare 108 = .ok (.aload_n 0, 1) := by decide +kernel
theorem dX10_hare_109 : decode cX10_hare 109 = .ok (.getfield 58, 3) := by decide +kernel
theorem dX10_hare_112 : decode cX10_hare 112 = .ok (.iload_n 1, 1) := by decide +kernel
theorem dX10_hare_113 : decode cX10_hare 113 = .ok (.invokevirtual 245, 3) := by decide +kernel
theorem dX10_hare_116 : decode cX10_hare 116 = .ok (.ireturn, 1) := by decide +kernel
theorem dX10_hare_117 : decode cX10_hare 117 = .ok (.aload_n 0, 1) := by decide +kernel
theorem dX10_hare_118 : decode cX10_hare 118 = .ok (.getfield 58, 3) := by decide +kernel
theorem dX10_hare_121 : decode cX10_hare 121 = .ok (.iload_n 1, 1) := by decide +kernel
theorem dX10_hare_122 : decode cX10_hare 122 = .ok (.invokevirtual 248, 3) := by decide +kernel
theorem dX10_hare_125 : decode cX10_hare 125 = .ok (.ireturn, 1) := by decide +kernel
theorem dX10_hare_126 : decode cX10_hare 126 = .ok (.aload_n 0, 1) := by decide +kernel
theorem dX10_hare_127 : decode cX10_hare 127 = .ok (.getfield 58, 3) := by decide +kernel
theorem dX10_hare_130 : decode cX10_hare 130 = .ok (.iload_n 1, 1) := by decide +kernel
theorem dX10_hare_131 : decode cX10_hare 131 = .ok (.invokevirtual 251, 3) := by decide +kernel
theorem dX10_hare_134 : decode cX10_hare 134 = .ok (.ireturn, 1) := by decide +kernel
theorem dX10_hare_135 : decode cX10_hare 135 = .ok (.aload_n 0, 1) := by decide +kernel
theorem dX10_hare_136 : decode cX10_hare 136 = .ok (.getfield 58, 3) := by decide +kernel
theorem dX10_hare_139 : decode cX10_hare 139 = .ok (.iload_n 1, 1) := by decide +kernel
theorem dX10_hare_140 : decode cX10_hare 140 = .ok (.invokevirtual 230, 3) := by decide +kernel
theorem dX10_hare_143 : decode cX10_hare 143 = .ok (.ifCond .eq 7, 3) := by decide +kernel
theorem dX10_hare_146 : decode cX10_hare 146 = .ok (.iconst 0, 1) := by decide +kernel
theorem dX10_hare_147 : decode cX10_hare 147 = .ok (.goto 11, 3) := by decide +kernel
theorem dX10_hare_150 : decode cX10_hare 150 = .ok (.aload_n 0, 1) := by decide +kernel
theorem dX10_hare_151 : decode cX10_hare 151 = .ok (.getfield 58, 3) := by decide +kernel
theorem dX10_hare_154 : decode cX10_hare 154 = .ok (.iload_n 1, 1) := by decide +kernel
theorem dX10_hare_155 : decode cX10_hare 155 = .ok (.invokevirtual 254, 3) := by decide +kernel
theorem dX10_hare_158 : decode cX10_hare 158 = .ok (.ireturn, 1) := by decide +kernel
theorem dX10_fox_0 : decode cX10_fox 0 = .ok (.iload_n 1, 1) := by decide +kernel
theorem dX10_fox_1 : decode cX10_fox 1 = .ok (.iconst 0, 1) := by decide +kernel
theorem dX10_fox_2 : decode cX10_fox 2 = .ok (.aload_n 0, 1) := by decide +kernel
theorem dX10_fox_3 : decode cX10_fox 3 = .ok (.getfield 19, 3) := by decide +kernel
theorem dX10_fox_6 : decode cX10_fox 6 = .ok (.getfield 184, 3) := by decide +kernel
theorem dX10_fox_9 : decode cX10_fox 9 = .ok (.iconst 1, 1) := by decide +kernel
theorem dX10_fox_10 : decode cX10_fox 10 = .ok (.isub, 1) := by decide +kernel
theorem dX10_fox_11 : decode cX10_fox 11 = .ok (.invokestatic 257, 3) := by decide +kernel
theorem dX10_fox_14 : decode cX10_fox 14 = .ok (.ifCond .ne 24, 3) := by decide +kernel
theorem dX10_fox_17 : decode cX10_fox 17 = .ok (.aload_n 0, 1) := by decide +kernel
theorem dX10_fox_18 : decode cX10_fox 18 = .ok (.dup, 1) := by decide +kernel
theorem dX10_fox_19 : decode cX10_fox 19 = .ok (.getfield 261, 3) := by decide +kernel
theorem dX10_fox_22 : decode cX10_fox 22 = .ok (.iconst 1, 1) := by decide +kernel
theorem dX10_fox_23 : decode cX10_fox 23 = .ok (.iadd, 1) := by decide +kernel
theorem dX10_fox_24 : decode cX10_fox 24 = .ok (.putfield 261, 3) := by decide +kernel
theorem dX10_fox_27 : decode cX10_fox 27 = .ok (.new 264, 3) := by decide +kernel
theorem dX10_fox_30 : decode cX10_fox 30 = .ok (.dup, 1) := by decide +kernel
theorem dX10_fox_31 : decode cX10_fox 31 = .ok (.ldc_w 266, 3) := by decide +kernel
theorem dX10_fox_34 : decode cX10_fox 34 = .ok (.invokespecial 268, 3) := by decide +kernel
theorem dX10_fox_37 : decode cX10_fox 37 = .ok (.athrow, 1) := by decide +kernel
theorem dX10_fox_38 : decode cX10_fox 38 = .ok (.aload_n 0, 1) := by decide +kernel
theorem dX10_fox_39 : decode cX10_fox 39 = .ok (.iload_n 2, 1) := by decide +kernel
theorem dX10_fox_40 : decode cX10_fox 40 = .ok (.iconst 0, 1) := by decide +kernel
theorem dX10_fox_41 : decode cX10_fox 41 = .ok (.iconst 1, 1) := by decide +kernel
theorem dX10_fox_42 : decode cX10_fox 42 = .ok (.invokevirtual 180, 3) := by decide +kernel
theorem dX10_fox_45 : decode cX10_fox 45 = .ok (.iload_n 2, 1) := by decide +kernel
theorem dX10_fox_46 : decode cX10_fox 46 = .ok (.ifCond .ne 15, 3) := by decide +kernel
theorem dX10_fox_49 : decode cX10_fox 49 = .ok (.aload_n 0, 1) := by decide +kernel
theorem dX10_fox_50 : decode cX10_fox 50 = .ok (.getfield 19, 3) := by decide +kernel
theorem dX10_fox_53 : decode cX10_fox 53 = .ok (.getfield 271, 3) := by decide +kernel
theorem dX10_fox_56 : decode cX10_fox 56 = .ok (.iload_n 1, 1) := by decide +kernel
theorem dX10_fox_57 : decode cX10_fox 57 = .ok (.iaload, 1) := by decide +kernel
theorem dX10_fox_58 : decode cX10_fox 58 = .ok (.goto 12, 3) := by decide +kernel
theorem dX10_fox_61 : decode cX10_fox 61 = .ok (.aload_n 0, 1) := by decide +kernel
theorem dX10_fox_62 : decode cX10_fox 62 = .ok (.getfield 19, 3) := by decide +kernel
theorem dX10_fox_65 : decode cX10_fox 65 = .ok (.getfield 274, 3) := by decide +kernel
theorem dX10_fox_68 : decode cX10_fox 68 = .ok (.iload_n 1, 1) := by decide +kernel
theorem dX10_fox_69 : decode cX10_fox 69 = .ok (.iaload, 1) := by decide +kernel
theorem dX10_fox_70 : decode cX10_fox 70 = .ok (.ireturn, 1) := by decide +kernel
theorem dX10_debt_0 : decode cX10_debt 0 = .ok (.aload_n 0, 1) := by decide +kernel
theorem dX10_debt_1 : decode cX10_debt 1 = .ok (.iload_n 1, 1) := by decide +kernel
theorem dX10_debt_2 : decode cX10_debt 2 = .ok (.invokevirtual 227, 3) := by decide +kernel
theorem dX10_debt_5 : decode cX10_debt 5 = .ok (.aload_n 0, 1) := by decide +kernel
theorem dX10_debt_6 : decode cX10_debt 6 = .ok (.iload_n 2, 1) := by decide +kernel
theorem dX10_debt_7 : decode cX10_debt 7 = .ok (.invokevirtual 227, 3) := by decide +kernel
theorem dX10_debt_10 : decode cX10_debt 10 = .ok (.aload_n 0, 1) := by decide +kernel
theorem dX10_debt_11 : decode cX10_debt 11 = .ok (.getfield 58, 3) := by decide +kernel
theorem dX10_debt_14 : decode cX10_debt 14 = .ok (.iload_n 1, 1) := by decide +kernel
theorem dX10_debt_15 : decode cX10_debt 15 = .ok (.iload_n 2, 1) := by decide +kernel
theorem dX10_debt_16 : decode cX10_debt 16 = .ok (.invokevirtual 277, 3) := by decide +kernel
theorem dX10_debt_19 : decode cX10_debt 19 = .ok (.ireturn, 1) := by decide +kernel
theorem dX10_far_0 : decode cX10_far 0 = .ok (.aload_n 0, 1) := by decide +kernel
theorem dX10_far_1 : decode cX10_far 1 = .ok (.iload_n 1, 1) := by decide +kernel
theorem dX10_far_2 : decode cX10_far 2 = .ok (.invokevirtual 209, 3) := by decide +kernel
theorem dX10_far_5 : decode cX10_far 5 = .ok (.aload_n 0, 1) := by decide +kernel
theorem dX10_far_6 : decode cX10_far 6 = .ok (.iload_n 2, 1) := by decide +kernel
theorem dX10_far_7 : decode cX10_far 7 = .ok (.invokevirtual 209, 3) := by decide +kernel
theorem dX10_far_10 : decode cX10_far 10 = .ok (.aload_n 0, 1) := by decide +kernel
theorem dX10_far_11 : decode cX10_far 11 = .ok (.getfield 19, 3) := by decide +kernel
theorem dX10_far_14 : decode cX10_far 14 = .ok (.iload_n 1, 1) := by decide +kernel
theorem dX10_far_15 : decode cX10_far 15 = .ok (.iload_n 2, 1) := by decide +kernel
theorem dX10_far_16 : decode cX10_far 16 = .ok (.invokevirtual 281, 3) := by decide +kernel
theorem dX10_far_19 : decode cX10_far 19 = .ok (.ireturn, 1) := by decide +kernel
theorem dX10_would_0 : decode cX10_would 0 = .ok (.aload_n 0, 1) := by decide +kernel
theorem dX10_would_1 : decode cX10_would 1 = .ok (.iload_n 1, 1) := by decide +kernel
theorem dX10_would_2 : decode cX10_would 2 = .ok (.iconst 0, 1) := by decide +kernel
theorem dX10_would_3 : decode cX10_would 3 = .ok (.bipush 9, 2) := by decide +kernel
theorem dX10_would_5 : decode cX10_would 5 = .ok (.invokevirtual 180, 3) := by decide +kernel
theorem dX10_would_8 : decode cX10_would 8 = .ok (.aload_n 0, 1) := by decide +kernel
theorem dX10_would_9 : decode cX10_would 9 = .ok (.iload_n 2, 1) := by decide +kernel
theorem dX10_would_10 : decode cX10_would 10 = .ok (.iconst 0, 1) := by decide +kernel
theorem dX10_would_11 : decode cX10_would 11 = .ok (.sipush 999, 3) := by decide +kernel
theorem dX10_would_14 : decode cX10_would 14 = .ok (.invokevirtual 180, 3) := by decide +kernel
theorem dX10_would_17 : decode cX10_would 17 = .ok (.aload_n 0, 1) := by decide +kernel
theorem dX10_would_18 : decode cX10_would 18 = .ok (.iload_n 3, 1) := by decide +kernel
theorem dX10_would_19 : decode cX10_would 19 = .ok (.iconst 0, 1) := by decide +kernel
theorem dX10_would_20 : decode cX10_would 20 = .ok (.sipush 999, 3) := by decide +kernel
theorem dX10_would_23 : decode cX10_would 23 = .ok (.invokevirtual 180, 3) := by decide +kernel
theorem dX10_would_26 : decode cX10_would 26 = .ok (.aload_n 0, 1) := by decide +kernel
theorem dX10_would_27 : decode cX10_would 27 = .ok (.iload 4, 2) := by decide +kernel
theorem dX10_would_29 : decode cX10_would 29 = .ok (.iconst 0, 1) := by decide +kernel
theorem dX10_would_30 : decode cX10_would 30 = .ok (.sipush 999, 3) := by decide +kernel
theorem dX10_would_33 : decode cX10_would 33 = .ok (.invokevirtual 180, 3) := by decide +kernel
theorem dX10_would_36 : decode cX10_would 36 = .ok (.aload_n 0, 1) := by decide +kernel
theorem dX10_would_37 : decode cX10_would 37 = .ok (.iload 5, 2) := by decide +kernel
theorem dX10_would_39 : decode cX10_would 39 = .ok (.iconst 0, 1) := by decide +kernel
theorem dX10_would_40 : decode cX10_would 40 = .ok (.iconst 5, 1) := by decide +kernel
theorem dX10_would_41 : decode cX10_would 41 = .ok (.invokevirtual 180, 3) := by decide +kernel
theorem dX10_would_44 : decode cX10_would 44 = .ok (.aload_n 0, 1) := by decide +kernel
theorem dX10_would_45 : decode cX10_would 45 = .ok (.iload 6, 2) := by decide +kernel
theorem dX10_would_47 : decode cX10_would 47 = .ok (.iconst 1, 1) := by decide +kernel
theorem dX10_would_48 : decode cX10_would 48 = .ok (.bipush 31, 2) := by decide +kernel
theorem dX10_would_50 : decode cX10_would 50 = .ok (.invokevirtual 180, 3) := by decide +kernel
theorem dX10_would_53 : decode cX10_would 53 = .ok (.aload_n 0, 1) := by decide +kernel
theorem dX10_would_54 : decode cX10_would 54 = .ok (.iload 7, 2) := by decide +kernel
theorem dX10_would_56 : decode cX10_would 56 = .ok (.iconst 0, 1) := by decide +kernel
theorem dX10_would_57 : decode cX10_would 57 = .ok (.iconst 5, 1) := by decide +kernel
theorem dX10_would_58 : decode cX10_would 58 = .ok (.invokevirtual 180, 3) := by decide +kernel
theorem dX10_would_61 : decode cX10_would 61 = .ok (.aload_n 0, 1) := by decide +kernel
theorem dX10_would_62 : decode cX10_would 62 = .ok (.iload 8, 2) := by decide +kernel
theorem dX10_would_64 : decode cX10_would 64 = .ok (.iconst 0, 1) := by decide +kernel
theorem dX10_would_65 : decode cX10_would 65 = .ok (.sipush 999, 3) := by decide +kernel
theorem dX10_would_68 : decode cX10_would 68 = .ok (.invokevirtual 180, 3) := by decide +kernel
theorem dX10_would_71 : decode cX10_would 71 = .ok (.aload_n 0, 1) := by decide +kernel
theorem dX10_would_72 : decode cX10_would 72 = .ok (.getfield 29, 3) := by decide +kernel
theorem dX10_would_75 : decode cX10_would 75 = .ok (.iload_n 1, 1) := by decide +kernel
theorem dX10_would_76 : decode cX10_would 76 = .ok (.iload_n 2, 1) := by decide +kernel
theorem dX10_would_77 : decode cX10_would 77 = .ok (.iload_n 3, 1) := by decide +kernel
theorem dX10_would_78 : decode cX10_would 78 = .ok (.iload 4, 2) := by decide +kernel
theorem dX10_would_80 : decode cX10_would 80 = .ok (.iload 5, 2) := by decide +kernel
theorem dX10_would_82 : decode cX10_would 82 = .ok (.invokevirtual 284, 3) := by decide +kernel
theorem dX10_would_85 : decode cX10_would 85 = .ok (.aload_n 0, 1) := by decide +kernel
theorem dX10_would_86 : decode cX10_would 86 = .ok (.getfield 29, 3) := by decide +kernel
theorem dX10_would_89 : decode cX10_would 89 = .ok (.iload 6, 2) := by decide +kernel
theorem dX10_would_91 : decode cX10_would 91 = .ok (.iload 7, 2) := by decide +kernel
theorem dX10_would_93 : decode cX10_would 93 = .ok (.iload 8, 2) := by decide +kernel
theorem dX10_would_95 : decode cX10_would 95 = .ok (.invokevirtual 288, 3) := by decide +kernel
theorem dX10_would_98 : decode cX10_would 98 = .ok (.aload_n 0, 1) := by decide +kernel
theorem dX10_would_99 : decode cX10_would 99 = .ok (.getfield 29, 3) := by decide +kernel
theorem dX10_would_102 : decode cX10_would 102 = .ok (.invokevirtual 291, 3) := by decide +kernel
theorem dX10_would_105 : decode cX10_would 105 = .ok (.ireturn, 1) := by decide +kernel
theorem dX10_can_0 : decode cX10_can 0 = .ok (.aload_n 0, 1) := by decide +kernel
theorem dX10_can_1 : decode cX10_can 1 = .ok (.iload_n 1, 1) := by decide +kernel
theorem dX10_can_2 : decode cX10_can 2 = .ok (.invokevirtual 227, 3) := by decide +kernel
theorem dX10_can_5 : decode cX10_can 5 = .ok (.aload_n 0, 1) := by decide +kernel
theorem dX10_can_6 : decode cX10_can 6 = .ok (.iload_n 2, 1) := by decide +kernel
theorem dX10_can_7 : decode cX10_can 7 = .ok (.invokevirtual 209, 3) := by decide +kernel
theorem dX10_can_10 : decode cX10_can 10 = .ok (.aload_n 0, 1) := by decide +kernel
theorem dX10_can_11 : decode cX10_can 11 = .ok (.getfield 58, 3) := by decide +kernel
theorem dX10_can_14 : decode cX10_can 14 = .ok (.iload_n 1, 1) := by decide +kernel
theorem dX10_can_15 : decode cX10_can 15 = .ok (.iload_n 2, 1) := by decide +kernel
theorem dX10_can_16 : decode cX10_can 16 = .ok (.invokevirtual 293, 3) := by decide +kernel
theorem dX10_can_19 : decode cX10_can 19 = .ok (.ireturn, 1) := by decide +kernel
theorem dX10_ahead_0 : decode cX10_ahead 0 = .ok (.aload_n 0, 1) := by decide +kernel
theorem dX10_ahead_1 : decode cX10_ahead 1 = .ok (.iload_n 1, 1) := by decide +kernel
theorem dX10_ahead_2 : decode cX10_ahead 2 = .ok (.iconst 0, 1) := by decide +kernel
theorem dX10_ahead_3 : decode cX10_ahead 3 = .ok (.bipush 99, 2) := by decide +kernel
theorem dX10_ahead_5 : decode cX10_ahead 5 = .ok (.invokevirtual 180, 3) := by decide +kernel
theorem dX10_ahead_8 : decode cX10_ahead 8 = .ok (.aload_n 0, 1) := by decide +kernel
theorem dX10_ahead_9 : decode cX10_ahead 9 = .ok (.iload_n 2, 1) := by decide +kernel
theorem dX10_ahead_10 : decode cX10_ahead 10 = .ok (.iconst 0, 1) := by decide +kernel
theorem dX10_ahead_11 : decode cX10_ahead 11 = .ok (.iconst 2, 1) := by decide +kernel
theorem dX10_ahead_12 : decode cX10_ahead 12 = .ok (.invokevirtual 180, 3) := by decide +kernel
theorem dX10_ahead_15 : decode cX10_ahead 15 = .ok (.aload_n 0, 1) := by decide +kernel
theorem dX10_ahead_16 : decode cX10_ahead 16 = .ok (.getfield 62, 3) := by decide +kernel
theorem dX10_ahead_19 : decode cX10_ahead 19 = .ok (.aload_n 0, 1) := by decide +kernel
theorem dX10_ahead_20 : decode cX10_ahead 20 = .ok (.getfield 58, 3) := by decide +kernel
theorem dX10_ahead_23 : decode cX10_ahead 23 = .ok (.invokevirtual 297, 3) := by decide +kernel
theorem dX10_ahead_26 : decode cX10_ahead 26 = .ok (.iconst 0, 1) := by decide +kernel
theorem dX10_ahead_27 : decode cX10_ahead 27 = .ok (.istore_n 3, 1) := by decide +kernel
theorem dX10_ahead_28 : decode cX10_ahead 28 = .ok (.iload_n 3, 1) := by decide +kernel
theorem dX10_ahead_29 : decode cX10_ahead 29 = .ok (.iload_n 1, 1) := by decide +kernel
theorem dX10_ahead_30 : decode cX10_ahead 30 = .ok (.if_icmp .ge 16, 3) := by decide +kernel
theorem dX10_ahead_33 : decode cX10_ahead 33 = .ok (.aload_n 0, 1) := by decide +kernel
theorem dX10_ahead_34 : decode cX10_ahead 34 = .ok (.getfield 62, 3) := by decide +kernel
theorem dX10_ahead_37 : decode cX10_ahead 37 = .ok (.invokevirtual 300, 3) := by decide +kernel
theorem dX10_ahead_40 : decode cX10_ahead 40 = .ok (.iinc 3 1, 3) := by decide +kernel
theorem dX10_ahead_43 : decode cX10_ahead 43 = .ok (.goto (-15), 3) := by decide +kernel
theorem dX10_ahead_46 : decode cX10_ahead 46 = .ok (.iload_n 2, 1) := by decide +kernel
theorem dX10_ahead_47 : decode cX10_ahead 47 = .ok (.lookupswitch 41 #[(0, 25), (1, 33)], 25) := by decide +kernel
theorem dX10_ahead_72 : decode cX10_ahead 72 = .ok (.aload_n 0, 1) := by decide +kernel
theorem dX10_ahead_73 : decode cX10_ahead 73 = .ok (.getfield 62, 3) := by decide +kernel
theorem dX10_ahead_76 : decode cX10_ahead 76 = .ok (.invokevirtual 187, 3) := by decide +kernel
theorem dX10_ahead_79 : decode cX10_ahead 79 = .ok (.ireturn, 1) := by decide +kernel
theorem dX10_ahead_80 : decode cX10_ahead 80 = .ok (.aload_n 0, 1) := by decide +kernel
theorem dX10_ahead_81 : decode cX10_ahead 81 = .ok (.getfield 62, 3) := by decide +kernel
theorem dX10_ahead_84 : decode cX10_ahead 84 = .ok (.invokevirtual 194, 3) := by decide +kernel
theorem dX10_ahead_87 : decode cX10_ahead 87 = .ok (.ireturn, 1) := by decide +kernel
theorem dX10_ahead_88 : decode cX10_ahead 88 = .ok (.aload_n 0, 1) := by decide +kernel
theorem dX10_ahead_89 : decode cX10_ahead 89 = .ok (.getfield 62, 3) := by decide +kernel
theorem dX10_ahead_92 : decode cX10_ahead 92 = .ok (.invokevirtual 203, 3) := by decide +kernel
theorem dX10_ahead_95 : decode cX10_ahead 95 = .ok (.ireturn, 1) := by decide +kernel
theorem dX10_hops_0 : decode cX10_hops 0 = .ok (.aload_n 0, 1) := by decide +kernel
theorem dX10_hops_1 : decode cX10_hops 1 = .ok (.iload_n 1, 1) := by decide +kernel
theorem dX10_hops_2 : decode cX10_hops 2 = .ok (.invokevirtual 227, 3) := by decide +kernel
theorem dX10_hops_5 : decode cX10_hops 5 = .ok (.aload_n 0, 1) := by decide +kernel
theorem dX10_hops_6 : decode cX10_hops 6 = .ok (.iload_n 2, 1) := by decide +kernel
theorem dX10_hops_7 : decode cX10_hops 7 = .ok (.invokevirtual 209, 3) := by decide +kernel
theorem dX10_hops_10 : decode cX10_hops 10 = .ok (.aload_n 0, 1) := by decide +kernel
theorem dX10_hops_11 : decode cX10_hops 11 = .ok (.getfield 58, 3) := by decide +kernel
theorem dX10_hops_14 : decode cX10_hops 14 = .ok (.iload_n 1, 1) := by decide +kernel
theorem dX10_hops_15 : decode cX10_hops 15 = .ok (.invokevirtual 230, 3) := by decide +kernel
theorem dX10_hops_18 : decode cX10_hops 18 = .ok (.ifCond .eq 5, 3) := by decide +kernel
theorem dX10_hops_21 : decode cX10_hops 21 = .ok (.iconst (-1), 1) := by decide +kernel
theorem dX10_hops_22 : decode cX10_hops 22 = .ok (.ireturn, 1) := by decide +kernel
theorem dX10_hops_23 : decode cX10_hops 23 = .ok (.aload_n 0, 1) := by decide +kernel
theorem dX10_hops_24 : decode cX10_hops 24 = .ok (.getfield 19, 3) := by decide +kernel
theorem dX10_hops_27 : decode cX10_hops 27 = .ok (.aload_n 0, 1) := by decide +kernel
theorem dX10_hops_28 : decode cX10_hops 28 = .ok (.getfield 58, 3) := by decide +kernel
theorem dX10_hops_31 : decode cX10_hops 31 = .ok (.iload_n 1, 1) := by decide +kernel
theorem dX10_hops_32 : decode cX10_hops 32 = .ok (.invokevirtual 233, 3) := by decide +kernel
theorem dX10_hops_35 : decode cX10_hops 35 = .ok (.iload_n 2, 1) := by decide +kernel
theorem dX10_hops_36 : decode cX10_hops 36 = .ok (.aload_n 0, 1) := by decide +kernel
theorem dX10_hops_37 : decode cX10_hops 37 = .ok (.getfield 58, 3) := by decide +kernel
theorem dX10_hops_40 : decode cX10_hops 40 = .ok (.iload_n 1, 1) := by decide +kernel
theorem dX10_hops_41 : decode cX10_hops 41 = .ok (.invokevirtual 254, 3) := by decide +kernel
theorem dX10_hops_44 : decode cX10_hops 44 = .ok (.invokevirtual 303, 3) := by decide +kernel
theorem dX10_hops_47 : decode cX10_hops 47 = .ok (.ireturn, 1) := by decide +kernel
theorem dX10_seats_0 : decode cX10_seats 0 = .ok (.aload_n 0, 1) := by decide +kernel
theorem dX10_seats_1 : decode cX10_seats 1 = .ok (.getfield 86, 3) := by decide +kernel
theorem dX10_seats_4 : decode cX10_seats 4 = .ok (.aload_n 0, 1) := by decide +kernel
theorem dX10_seats_5 : decode cX10_seats 5 = .ok (.getfield 58, 3) := by decide +kernel
theorem dX10_seats_8 : decode cX10_seats 8 = .ok (.invokevirtual 307, 3) := by decide +kernel
theorem dX10_seats_11 : decode cX10_seats 11 = .ok (.aload_n 0, 1) := by decide +kernel
theorem dX10_seats_12 : decode cX10_seats 12 = .ok (.getfield 86, 3) := by decide +kernel
theorem dX10_seats_15 : decode cX10_seats 15 = .ok (.getfield 310, 3) := by decide +kernel
theorem dX10_seats_18 : decode cX10_seats 18 = .ok (.ireturn, 1) := by decide +kernel
theorem dX10_seat_0 : decode cX10_seat 0 = .ok (.aload_n 0, 1) := by decide +kernel
theorem dX10_seat_1 : decode cX10_seat 1 = .ok (.iload_n 1, 1) := by decide +kernel
theorem dX10_seat_2 : decode cX10_seat 2 = .ok (.invokevirtual 227, 3) := by decide +kernel
theorem dX10_seat_5 : decode cX10_seat 5 = .ok (.aload_n 0, 1) := by decide +kernel
theorem dX10_seat_6 : decode cX10_seat 6 = .ok (.getfield 86, 3) := by decide +kernel
theorem dX10_seat_9 : decode cX10_seat 9 = .ok (.aload_n 0, 1) := by decide +kernel
theorem dX10_seat_10 : decode cX10_seat 10 = .ok (.getfield 58, 3) := by decide +kernel
theorem dX10_seat_13 : decode cX10_seat 13 = .ok (.invokevirtual 307, 3) := by decide +kernel
theorem dX10_seat_16 : decode cX10_seat 16 = .ok (.aload_n 0, 1) := by decide +kernel
theorem dX10_seat_17 : decode cX10_seat 17 = .ok (.getfield 86, 3) := by decide +kernel
theorem dX10_seat_20 : decode cX10_seat 20 = .ok (.getfield 313, 3) := by decide +kernel
theorem dX10_seat_23 : decode cX10_seat 23 = .ok (.iload_n 1, 1) := by decide +kernel
theorem dX10_seat_24 : decode cX10_seat 24 = .ok (.iaload, 1) := by decide +kernel
theorem dX10_seat_25 : decode cX10_seat 25 = .ok (.ireturn, 1) := by decide +kernel
theorem dX10_ring_0 : decode cX10_ring 0 = .ok (.aload_n 0, 1) := by decide +kernel
theorem dX10_ring_1 : decode cX10_ring 1 = .ok (.getfield 79, 3) := by decide +kernel
theorem dX10_ring_4 : decode cX10_ring 4 = .ok (.aload_n 0, 1) := by decide +kernel
theorem dX10_ring_5 : decode cX10_ring 5 = .ok (.getfield 19, 3) := by decide +kernel
theorem dX10_ring_8 : decode cX10_ring 8 = .ok (.invokevirtual 316, 3) := by decide +kernel
theorem dX10_ring_11 : decode cX10_ring 11 = .ok (.aload_n 0, 1) := by decide +kernel
theorem dX10_ring_12 : decode cX10_ring 12 = .ok (.getfield 79, 3) := by decide +kernel
theorem dX10_ring_15 : decode cX10_ring 15 = .ok (.getfield 319, 3) := by decide +kernel
theorem dX10_ring_18 : decode cX10_ring 18 = .ok (.ireturn, 1) := by decide +kernel
theorem dX10_ringed_0 : decode cX10_ringed 0 = .ok (.aload_n 0, 1) := by decide +kernel
theorem dX10_ringed_1 : decode cX10_ringed 1 = .ok (.iload_n 1, 1) := by decide +kernel
theorem dX10_ringed_2 : decode cX10_ringed 2 = .ok (.ifCond .lt 7, 3) := by decide +kernel
theorem dX10_ringed_5 : decode cX10_ringed 5 = .ok (.iconst 1, 1) := by decide +kernel
theorem dX10_ringed_6 : decode cX10_ringed 6 = .ok (.goto 4, 3) := by decide +kernel
theorem dX10_ringed_9 : decode cX10_ringed 9 = .ok (.iconst 0, 1) := by decide +kernel
theorem dX10_ringed_10 : decode cX10_ringed 10 = .ok (.invokevirtual 322, 3) := by decide +kernel
theorem dX10_ringed_13 : decode cX10_ringed 13 = .ok (.iload_n 1, 1) := by decide +kernel
theorem dX10_ringed_14 : decode cX10_ringed 14 = .ok (.aload_n 0, 1) := by decide +kernel
theorem dX10_ringed_15 : decode cX10_ringed 15 = .ok (.getfield 19, 3) := by decide +kernel
theorem dX10_ringed_18 : decode cX10_ringed 18 = .ok (.getfield 149, 3) := by decide +kernel
theorem dX10_ringed_21 : decode cX10_ringed 21 = .ok (.if_icmp .lt 5, 3) := by decide +kernel
theorem dX10_ringed_24 : decode cX10_ringed 24 = .ok (.iconst (-1), 1) := by decide +kernel
theorem dX10_ringed_25 : decode cX10_ringed 25 = .ok (.ireturn, 1) := by decide +kernel
theorem dX10_ringed_26 : decode cX10_ringed 26 = .ok (.aload_n 0, 1) := by decide +kernel
theorem dX10_ringed_27 : decode cX10_ringed 27 = .ok (.getfield 79, 3) := by decide +kernel
theorem dX10_ringed_30 : decode cX10_ringed 30 = .ok (.aload_n 0, 1) := by decide +kernel
theorem dX10_ringed_31 : decode cX10_ringed 31 = .ok (.getfield 19, 3) := by decide +kernel
theorem dX10_ringed_34 : decode cX10_ringed 34 = .ok (.invokevirtual 316, 3) := by decide +kernel
theorem dX10_ringed_37 : decode cX10_ringed 37 = .ok (.aload_n 0, 1) := by decide +kernel
theorem dX10_ringed_38 : decode cX10_ringed 38 = .ok (.getfield 79, 3) := by decide +kernel
theorem dX10_ringed_41 : decode cX10_ringed 41 = .ok (.getfield 326, 3) := by decide +kernel
theorem dX10_ringed_44 : decode cX10_ringed 44 = .ok (.iload_n 1, 1) := by decide +kernel
theorem dX10_ringed_45 : decode cX10_ringed 45 = .ok (.iaload, 1) := by decide +kernel
theorem dX10_ringed_46 : decode cX10_ringed 46 = .ok (.ireturn, 1) := by decide +kernel
theorem dX10_bouts_0 : decode cX10_bouts 0 = .ok (.aload_n 0, 1) := by decide +kernel
theorem dX10_bouts_1 : decode cX10_bouts 1 = .ok (.iload_n 1, 1) := by decide +kernel
theorem dX10_bouts_2 : decode cX10_bouts 2 = .ok (.invokevirtual 227, 3) := by decide +kernel
theorem dX10_bouts_5 : decode cX10_bouts 5 = .ok (.aload_n 0, 1) := by decide +kernel
theorem dX10_bouts_6 : decode cX10_bouts 6 = .ok (.getfield 58, 3) := by decide +kernel
theorem dX10_bouts_9 : decode cX10_bouts 9 = .ok (.iload_n 1, 1) := by decide +kernel
theorem dX10_bouts_10 : decode cX10_bouts 10 = .ok (.invokevirtual 230, 3) := by decide +kernel
theorem dX10_bouts_13 : decode cX10_bouts 13 = .ok (.ifCond .eq 5, 3) := by decide +kernel
theorem dX10_bouts_16 : decode cX10_bouts 16 = .ok (.iconst 0, 1) := by decide +kernel
theorem dX10_bouts_17 : decode cX10_bouts 17 = .ok (.ireturn, 1) := by decide +kernel
theorem dX10_bouts_18 : decode cX10_bouts 18 = .ok (.aload_n 0, 1) := by decide +kernel
theorem dX10_bouts_19 : decode cX10_bouts 19 = .ok (.getfield 58, 3) := by decide +kernel
theorem dX10_bouts_22 : decode cX10_bouts 22 = .ok (.invokevirtual 329, 3) := by decide +kernel
theorem dX10_bouts_25 : decode cX10_bouts 25 = .ok (.istore_n 2, 1) := by decide +kernel
theorem dX10_bouts_26 : decode cX10_bouts 26 = .ok (.iconst 0, 1) := by decide +kernel
theorem dX10_bouts_27 : decode cX10_bouts 27 = .ok (.istore_n 3, 1) := by decide +kernel
theorem dX10_bouts_28 : decode cX10_bouts 28 = .ok (.iconst 0, 1) := by decide +kernel
theorem dX10_bouts_29 : decode cX10_bouts 29 = .ok (.istore 4, 2) := by decide +kernel
theorem dX10_bouts_31 : decode cX10_bouts 31 = .ok (.iload 4, 2) := by decide +kernel
theorem dX10_bouts_33 : decode cX10_bouts 33 = .ok (.aload_n 0, 1) := by decide +kernel
theorem dX10_bouts_34 : decode cX10_bouts 34 = .ok (.getfield 19, 3) := by decide +kernel
theorem dX10_bouts_37 : decode cX10_bouts 37 = .ok (.getfield 141, 3) := by decide +kernel
theorem dX10_bouts_40 : decode cX10_bouts 40 = .ok (.if_icmp .ge 46, 3) := by decide +kernel
theorem dX10_bouts_43 : decode cX10_bouts 43 = .ok (.iload_n 2, 1) := by decide +kernel
theorem dX10_bouts_44 : decode cX10_bouts 44 = .ok (.iload 4, 2) := by decide +kernel
theorem dX10_bouts_46 : decode cX10_bouts 46 = .ok (.invokestatic 332, 3) := by decide +kernel
theorem dX10_bouts_49 : decode cX10_bouts 49 = .ok (.ifCond .eq 31, 3) := by decide +kernel
theorem dX10_bouts_52 : decode cX10_bouts 52 = .ok (.iload_n 3, 1) := by decide +kernel
theorem dX10_bouts_53 : decode cX10_bouts 53 = .ok (.aload_n 0, 1) := by decide +kernel
theorem dX10_bouts_54 : decode cX10_bouts 54 = .ok (.getfield 58, 3) := by decide +kernel
theorem dX10_bouts_57 : decode cX10_bouts 57 = .ok (.iload_n 1, 1) := by decide +kernel
theorem dX10_bouts_58 : decode cX10_bouts 58 = .ok (.iload 4, 2) := by decide +kernel
theorem dX10_bouts_60 : decode cX10_bouts 60 = .ok (.aload_n 0, 1) := by decide +kernel
theorem dX10_bouts_61 : decode cX10_bouts 61 = .ok (.getfield 58, 3) := by decide +kernel
theorem dX10_bouts_64 : decode cX10_bouts 64 = .ok (.iload 4, 2) := by decide +kernel
theorem dX10_bouts_66 : decode cX10_bouts 66 = .ok (.invokevirtual 236, 3) := by decide +kernel
theorem dX10_bouts_69 : decode cX10_bouts 69 = .ok (.iload_n 2, 1) := by decide +kernel
theorem dX10_bouts_70 : decode cX10_bouts 70 = .ok (.iconst 1, 1) := by decide +kernel
theorem dX10_bouts_71 : decode cX10_bouts 71 = .ok (.iload 4, 2) := by decide +kernel
theorem dX10_bouts_73 : decode cX10_bouts 73 = .ok (.ishl, 1) := by decide +kernel
theorem dX10_bouts_74 : decode cX10_bouts 74 = .ok (.ixor, 1) := by decide +kernel
theorem dX10_bouts_75 : decode cX10_bouts 75 = .ok (.invokestatic 335, 3) := by decide +kernel
theorem dX10_bouts_78 : decode cX10_bouts 78 = .ok (.iadd, 1) := by decide +kernel
theorem dX10_bouts_79 : decode cX10_bouts 79 = .ok (.istore_n 3, 1) := by decide +kernel
theorem dX10_bouts_80 : decode cX10_bouts 80 = .ok (.iinc 4 1, 3) := by decide +kernel
theorem dX10_bouts_83 : decode cX10_bouts 83 = .ok (.goto (-52), 3) := by decide +kernel
theorem dX10_bouts_86 : decode cX10_bouts 86 = .ok (.iload_n 3, 1) := by decide +kernel
theorem dX10_bouts_87 : decode cX10_bouts 87 = .ok (.ireturn, 1) := by decide +kernel
theorem dX10_fits_0 : decode cX10_fits 0 = .ok (.aload_n 0, 1) := by decide +kernel
theorem dX10_fits_1 : decode cX10_fits 1 = .ok (.iload_n 1, 1) := by decide +kernel
theorem dX10_fits_2 : decode cX10_fits 2 = .ok (.iconst 0, 1) := by decide +kernel
theorem dX10_fits_3 : decode cX10_fits 3 = .ok (.iconst 1, 1) := by decide +kernel
theorem dX10_fits_4 : decode cX10_fits 4 = .ok (.invokevirtual 180, 3) := by decide +kernel
theorem dX10_fits_7 : decode cX10_fits 7 = .ok (.aload_n 0, 1) := by decide +kernel
theorem dX10_fits_8 : decode cX10_fits 8 = .ok (.getfield 93, 3) := by decide +kernel
theorem dX10_fits_11 : decode cX10_fits 11 = .ok (.aload_n 0, 1) := by decide +kernel
theorem dX10_fits_12 : decode cX10_fits 12 = .ok (.getfield 58, 3) := by decide +kernel
theorem dX10_fits_15 : decode cX10_fits 15 = .ok (.aload_n 0, 1) := by decide +kernel
theorem dX10_fits_16 : decode cX10_fits 16 = .ok (.getfield 39, 3) := by decide +kernel
theorem dX10_fits_19 : decode cX10_fits 19 = .ok (.invokevirtual 339, 3) := by decide +kernel
theorem dX10_fits_22 : decode cX10_fits 22 = .ok (.iload_n 1, 1) := by decide +kernel
theorem dX10_fits_23 : decode cX10_fits 23 = .ok (.ifCond .ne 13, 3) := by decide +kernel
theorem dX10_fits_26 : decode cX10_fits 26 = .ok (.aload_n 0, 1) := by decide +kernel
theorem dX10_fits_27 : decode cX10_fits 27 = .ok (.getfield 93, 3) := by decide +kernel
theorem dX10_fits_30 : decode cX10_fits 30 = .ok (.getfield 342, 3) := by decide +kernel
theorem dX10_fits_33 : decode cX10_fits 33 = .ok (.goto 10, 3) := by decide +kernel
theorem dX10_fits_36 : decode cX10_fits 36 = .ok (.aload_n 0, 1) := by decide +kernel
theorem dX10_fits_37 : decode cX10_fits 37 = .ok (.getfield 93, 3) := by decide +kernel
theorem dX10_fits_40 : decode cX10_fits 40 = .ok (.getfield 343, 3) := by decide +kernel
theorem dX10_fits_43 : decode cX10_fits 43 = .ok (.ireturn, 1) := by decide +kernel
theorem dX10_look_0 : decode cX10_look 0 = .ok (.aload_n 0, 1) := by decide +kernel
theorem dX10_look_1 : decode cX10_look 1 = .ok (.iload_n 1, 1) := by decide +kernel
theorem dX10_look_2 : decode cX10_look 2 = .ok (.iconst 0, 1) := by decide +kernel
theorem dX10_look_3 : decode cX10_look 3 = .ok (.iconst 1, 1) := by decide +kernel
theorem dX10_look_4 : decode cX10_look 4 = .ok (.invokevirtual 180, 3) := by decide +kernel
theorem dX10_look_7 : decode cX10_look 7 = .ok (.aload_n 0, 1) := by decide +kernel
theorem dX10_look_8 : decode cX10_look 8 = .ok (.getfield 93, 3) := by decide +kernel
theorem dX10_look_11 : decode cX10_look 11 = .ok (.aload_n 0, 1) := by decide +kernel
theorem dX10_look_12 : decode cX10_look 12 = .ok (.getfield 58, 3) := by decide +kernel
theorem dX10_look_15 : decode cX10_look 15 = .ok (.aload_n 0, 1) := by decide +kernel
theorem dX10_look_16 : decode cX10_look 16 = .ok (.getfield 39, 3) := by decide +kernel
theorem dX10_look_19 : decode cX10_look 19 = .ok (.invokevirtual 339, 3) := by decide +kernel
theorem dX10_look_22 : decode cX10_look 22 = .ok (.aload_n 0, 1) := by decide +kernel
theorem dX10_look_23 : decode cX10_look 23 = .ok (.getfield 93, 3) := by decide +kernel
theorem dX10_look_26 : decode cX10_look 26 = .ok (.invokevirtual 346, 3) := by decide +kernel
theorem dX10_look_29 : decode cX10_look 29 = .ok (.iload_n 1, 1) := by decide +kernel
theorem dX10_look_30 : decode cX10_look 30 = .ok (.ifCond .ne 13, 3) := by decide +kernel
theorem dX10_look_33 : decode cX10_look 33 = .ok (.aload_n 0, 1) := by decide +kernel
theorem dX10_look_34 : decode cX10_look 34 = .ok (.getfield 93, 3) := by decide +kernel
theorem dX10_look_37 : decode cX10_look 37 = .ok (.getfield 349, 3) := by decide +kernel
theorem dX10_look_40 : decode cX10_look 40 = .ok (.goto 10, 3) := by decide +kernel
