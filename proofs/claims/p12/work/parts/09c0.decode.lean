theorem dX0_init_0 : decode cX0_init 0 = .ok (.aload_n 0, 1) := by decide +kernel
theorem dX0_init_1 : decode cX0_init 1 = .ok (.invokespecial 3, 3) := by decide +kernel
theorem dX0_init_4 : decode cX0_init 4 = .ok (.aload_n 0, 1) := by decide +kernel
theorem dX0_init_5 : decode cX0_init 5 = .ok (.bipush 8, 2) := by decide +kernel
theorem dX0_init_7 : decode cX0_init 7 = .ok (.newarray .int, 2) := by decide +kernel
theorem dX0_init_9 : decode cX0_init 9 = .ok (.putfield 9, 3) := by decide +kernel
theorem dX0_init_12 : decode cX0_init 12 = .ok (.aload_n 0, 1) := by decide +kernel
theorem dX0_init_13 : decode cX0_init 13 = .ok (.invokevirtual 15, 3) := by decide +kernel
theorem dX0_init_16 : decode cX0_init 16 = .ok (.return_, 1) := by decide +kernel
theorem dX0_clear_0 : decode cX0_clear 0 = .ok (.aload_n 0, 1) := by decide +kernel
theorem dX0_clear_1 : decode cX0_clear 1 = .ok (.iconst 0, 1) := by decide +kernel
theorem dX0_clear_2 : decode cX0_clear 2 = .ok (.putfield 18, 3) := by decide +kernel
theorem dX0_clear_5 : decode cX0_clear 5 = .ok (.iconst 0, 1) := by decide +kernel
theorem dX0_clear_6 : decode cX0_clear 6 = .ok (.istore_n 1, 1) := by decide +kernel
theorem dX0_clear_7 : decode cX0_clear 7 = .ok (.iload_n 1, 1) := by decide +kernel
theorem dX0_clear_8 : decode cX0_clear 8 = .ok (.bipush 8, 2) := by decide +kernel
theorem dX0_clear_10 : decode cX0_clear 10 = .ok (.if_icmp .ge 16, 3) := by decide +kernel
theorem dX0_clear_13 : decode cX0_clear 13 = .ok (.aload_n 0, 1) := by decide +kernel
theorem dX0_clear_14 : decode cX0_clear 14 = .ok (.getfield 9, 3) := by decide +kernel
theorem dX0_clear_17 : decode cX0_clear 17 = .ok (.iload_n 1, 1) := by decide +kernel
theorem dX0_clear_18 : decode cX0_clear 18 = .ok (.iconst (-1), 1) := by decide +kernel
theorem dX0_clear_19 : decode cX0_clear 19 = .ok (.iastore, 1) := by decide +kernel
theorem dX0_clear_20 : decode cX0_clear 20 = .ok (.iinc 1 1, 3) := by decide +kernel
theorem dX0_clear_23 : decode cX0_clear 23 = .ok (.goto (-16), 3) := by decide +kernel
theorem dX0_clear_26 : decode cX0_clear 26 = .ok (.return_, 1) := by decide +kernel
theorem dX0_readFrom_0 : decode cX0_readFrom 0 = .ok (.aload_n 0, 1) := by decide +kernel
theorem dX0_readFrom_1 : decode cX0_readFrom 1 = .ok (.invokevirtual 15, 3) := by decide +kernel
theorem dX0_readFrom_4 : decode cX0_readFrom 4 = .ok (.iconst 0, 1) := by decide +kernel
theorem dX0_readFrom_5 : decode cX0_readFrom 5 = .ok (.istore_n 3, 1) := by decide +kernel
theorem dX0_readFrom_6 : decode cX0_readFrom 6 = .ok (.iload_n 3, 1) := by decide +kernel
theorem dX0_readFrom_7 : decode cX0_readFrom 7 = .ok (.bipush 8, 2) := by decide +kernel
theorem dX0_readFrom_9 : decode cX0_readFrom 9 = .ok (.if_icmp .gt 29, 3) := by decide +kernel
theorem dX0_readFrom_12 : decode cX0_readFrom 12 = .ok (.aload_n 1, 1) := by decide +kernel
theorem dX0_readFrom_13 : decode cX0_readFrom 13 = .ok (.invokevirtual 22, 3) := by decide +kernel
theorem dX0_readFrom_16 : decode cX0_readFrom 16 = .ok (.ifCond .ne 22, 3) := by decide +kernel
theorem dX0_readFrom_19 : decode cX0_readFrom 19 = .ok (.aload_n 1, 1) := by decide +kernel
theorem dX0_readFrom_20 : decode cX0_readFrom 20 = .ok (.invokevirtual 28, 3) := by decide +kernel
theorem dX0_readFrom_23 : decode cX0_readFrom 23 = .ok (.ifCond .ne 15, 3) := by decide +kernel
theorem dX0_readFrom_26 : decode cX0_readFrom 26 = .ok (.aload_n 0, 1) := by decide +kernel
theorem dX0_readFrom_27 : decode cX0_readFrom 27 = .ok (.aload_n 1, 1) := by decide +kernel
theorem dX0_readFrom_28 : decode cX0_readFrom 28 = .ok (.iload_n 2, 1) := by decide +kernel
theorem dX0_readFrom_29 : decode cX0_readFrom 29 = .ok (.invokevirtual 31, 3) := by decide +kernel
theorem dX0_readFrom_32 : decode cX0_readFrom 32 = .ok (.iinc 3 1, 3) := by decide +kernel
theorem dX0_readFrom_35 : decode cX0_readFrom 35 = .ok (.goto (-29), 3) := by decide +kernel
theorem dX0_readFrom_38 : decode cX0_readFrom 38 = .ok (.return_, 1) := by decide +kernel
theorem dX0_readLine_0 : decode cX0_readLine 0 = .ok (.aload_n 1, 1) := by decide +kernel
theorem dX0_readLine_1 : decode cX0_readLine 1 = .ok (.iconst 0, 1) := by decide +kernel
theorem dX0_readLine_2 : decode cX0_readLine 2 = .ok (.iload_n 2, 1) := by decide +kernel
theorem dX0_readLine_3 : decode cX0_readLine 3 = .ok (.iconst 1, 1) := by decide +kernel
theorem dX0_readLine_4 : decode cX0_readLine 4 = .ok (.isub, 1) := by decide +kernel
theorem dX0_readLine_5 : decode cX0_readLine 5 = .ok (.invokevirtual 35, 3) := by decide +kernel
theorem dX0_readLine_8 : decode cX0_readLine 8 = .ok (.istore_n 3, 1) := by decide +kernel
theorem dX0_readLine_9 : decode cX0_readLine 9 = .ok (.iload_n 3, 1) := by decide +kernel
theorem dX0_readLine_10 : decode cX0_readLine 10 = .ok (.iconst 0, 1) := by decide +kernel
theorem dX0_readLine_11 : decode cX0_readLine 11 = .ok (.iload_n 2, 1) := by decide +kernel
theorem dX0_readLine_12 : decode cX0_readLine 12 = .ok (.iconst 1, 1) := by decide +kernel
theorem dX0_readLine_13 : decode cX0_readLine 13 = .ok (.isub, 1) := by decide +kernel
theorem dX0_readLine_14 : decode cX0_readLine 14 = .ok (.invokestatic 39, 3) := by decide +kernel
theorem dX0_readLine_17 : decode cX0_readLine 17 = .ok (.ifCond .eq 16, 3) := by decide +kernel
theorem dX0_readLine_20 : decode cX0_readLine 20 = .ok (.aload_n 0, 1) := by decide +kernel
theorem dX0_readLine_21 : decode cX0_readLine 21 = .ok (.iload_n 3, 1) := by decide +kernel
theorem dX0_readLine_22 : decode cX0_readLine 22 = .ok (.invokevirtual 43, 3) := by decide +kernel
theorem dX0_readLine_25 : decode cX0_readLine 25 = .ok (.ifCond .eq 8, 3) := by decide +kernel
theorem dX0_readLine_28 : decode cX0_readLine 28 = .ok (.aload_n 1, 1) := by decide +kernel
theorem dX0_readLine_29 : decode cX0_readLine 29 = .ok (.iconst 2, 1) := by decide +kernel
theorem dX0_readLine_30 : decode cX0_readLine 30 = .ok (.invokevirtual 47, 3) := by decide +kernel
theorem dX0_readLine_33 : decode cX0_readLine 33 = .ok (.aload_n 1, 1) := by decide +kernel
theorem dX0_readLine_34 : decode cX0_readLine 34 = .ok (.iconst 0, 1) := by decide +kernel
theorem dX0_readLine_35 : decode cX0_readLine 35 = .ok (.bipush 6, 2) := by decide +kernel
theorem dX0_readLine_37 : decode cX0_readLine 37 = .ok (.invokevirtual 35, 3) := by decide +kernel
theorem dX0_readLine_40 : decode cX0_readLine 40 = .ok (.istore 4, 2) := by decide +kernel
theorem dX0_readLine_42 : decode cX0_readLine 42 = .ok (.aload_n 1, 1) := by decide +kernel
theorem dX0_readLine_43 : decode cX0_readLine 43 = .ok (.bipush 59, 2) := by decide +kernel
theorem dX0_readLine_45 : decode cX0_readLine 45 = .ok (.invokevirtual 51, 3) := by decide +kernel
theorem dX0_readLine_48 : decode cX0_readLine 48 = .ok (.aload_n 1, 1) := by decide +kernel
theorem dX0_readLine_49 : decode cX0_readLine 49 = .ok (.invokevirtual 22, 3) := by decide +kernel
theorem dX0_readLine_52 : decode cX0_readLine 52 = .ok (.ifCond .ne 21, 3) := by decide +kernel
theorem dX0_readLine_55 : decode cX0_readLine 55 = .ok (.aload_n 0, 1) := by decide +kernel
theorem dX0_readLine_56 : decode cX0_readLine 56 = .ok (.getfield 9, 3) := by decide +kernel
theorem dX0_readLine_59 : decode cX0_readLine 59 = .ok (.iload_n 3, 1) := by decide +kernel
theorem dX0_readLine_60 : decode cX0_readLine 60 = .ok (.iload 4, 2) := by decide +kernel
theorem dX0_readLine_62 : decode cX0_readLine 62 = .ok (.iastore, 1) := by decide +kernel
theorem dX0_readLine_63 : decode cX0_readLine 63 = .ok (.aload_n 0, 1) := by decide +kernel
theorem dX0_readLine_64 : decode cX0_readLine 64 = .ok (.dup, 1) := by decide +kernel
theorem dX0_readLine_65 : decode cX0_readLine 65 = .ok (.getfield 18, 3) := by decide +kernel
theorem dX0_readLine_68 : decode cX0_readLine 68 = .ok (.iconst 1, 1) := by decide +kernel
theorem dX0_readLine_69 : decode cX0_readLine 69 = .ok (.iadd, 1) := by decide +kernel
theorem dX0_readLine_70 : decode cX0_readLine 70 = .ok (.putfield 18, 3) := by decide +kernel
theorem dX0_readLine_73 : decode cX0_readLine 73 = .ok (.return_, 1) := by decide +kernel
theorem dX0_tells_0 : decode cX0_tells 0 = .ok (.aload_n 0, 1) := by decide +kernel
theorem dX0_tells_1 : decode cX0_tells 1 = .ok (.getfield 9, 3) := by decide +kernel
theorem dX0_tells_4 : decode cX0_tells 4 = .ok (.iload_n 1, 1) := by decide +kernel
theorem dX0_tells_5 : decode cX0_tells 5 = .ok (.iaload, 1) := by decide +kernel
theorem dX0_tells_6 : decode cX0_tells 6 = .ok (.iconst (-1), 1) := by decide +kernel
theorem dX0_tells_7 : decode cX0_tells 7 = .ok (.if_icmp .eq 7, 3) := by decide +kernel
theorem dX0_tells_10 : decode cX0_tells 10 = .ok (.iconst 1, 1) := by decide +kernel
theorem dX0_tells_11 : decode cX0_tells 11 = .ok (.goto 4, 3) := by decide +kernel
theorem dX0_tells_14 : decode cX0_tells 14 = .ok (.iconst 0, 1) := by decide +kernel
theorem dX0_tells_15 : decode cX0_tells 15 = .ok (.ireturn, 1) := by decide +kernel
theorem dX0_agrees_0 : decode cX0_agrees 0 = .ok (.aload_n 0, 1) := by decide +kernel
theorem dX0_agrees_1 : decode cX0_agrees 1 = .ok (.getfield 9, 3) := by decide +kernel
theorem dX0_agrees_4 : decode cX0_agrees 4 = .ok (.iload_n 1, 1) := by decide +kernel
theorem dX0_agrees_5 : decode cX0_agrees 5 = .ok (.iaload, 1) := by decide +kernel
theorem dX0_agrees_6 : decode cX0_agrees 6 = .ok (.iconst (-1), 1) := by decide +kernel
theorem dX0_agrees_7 : decode cX0_agrees 7 = .ok (.if_icmp .eq 13, 3) := by decide +kernel
theorem dX0_agrees_10 : decode cX0_agrees 10 = .ok (.aload_n 0, 1) := by decide +kernel
theorem dX0_agrees_11 : decode cX0_agrees 11 = .ok (.getfield 9, 3) := by decide +kernel
theorem dX0_agrees_14 : decode cX0_agrees 14 = .ok (.iload_n 1, 1) := by decide +kernel
theorem dX0_agrees_15 : decode cX0_agrees 15 = .ok (.iaload, 1) := by decide +kernel
theorem dX0_agrees_16 : decode cX0_agrees 16 = .ok (.iload_n 2, 1) := by decide +kernel
theorem dX0_agrees_17 : decode cX0_agrees 17 = .ok (.if_icmp .ne 7, 3) := by decide +kernel
theorem dX0_agrees_20 : decode cX0_agrees 20 = .ok (.iconst 1, 1) := by decide +kernel
theorem dX0_agrees_21 : decode cX0_agrees 21 = .ok (.goto 4, 3) := by decide +kernel
theorem dX0_agrees_24 : decode cX0_agrees 24 = .ok (.iconst 0, 1) := by decide +kernel
theorem dX0_agrees_25 : decode cX0_agrees 25 = .ok (.ireturn, 1) := by decide +kernel
theorem dX1_init_0 : decode cX1_init 0 = .ok (.aload_n 0, 1) := by decide +kernel
theorem dX1_init_1 : decode cX1_init 1 = .ok (.invokespecial 7, 3) := by decide +kernel
theorem dX1_init_4 : decode cX1_init 4 = .ok (.aload_n 0, 1) := by decide +kernel
theorem dX1_init_5 : decode cX1_init 5 = .ok (.bipush 64, 2) := by decide +kernel
theorem dX1_init_7 : decode cX1_init 7 = .ok (.newarray .int, 2) := by decide +kernel
theorem dX1_init_9 : decode cX1_init 9 = .ok (.putfield 13, 3) := by decide +kernel
theorem dX1_init_12 : decode cX1_init 12 = .ok (.aload_n 0, 1) := by decide +kernel
theorem dX1_init_13 : decode cX1_init 13 = .ok (.bipush 6, 2) := by decide +kernel
theorem dX1_init_15 : decode cX1_init 15 = .ok (.newarray .int, 2) := by decide +kernel
theorem dX1_init_17 : decode cX1_init 17 = .ok (.putfield 17, 3) := by decide +kernel
theorem dX1_init_20 : decode cX1_init 20 = .ok (.aload_n 0, 1) := by decide +kernel
theorem dX1_init_21 : decode cX1_init 21 = .ok (.aload_n 1, 1) := by decide +kernel
theorem dX1_init_22 : decode cX1_init 22 = .ok (.aload_n 2, 1) := by decide +kernel
theorem dX1_init_23 : decode cX1_init 23 = .ok (.invokevirtual 20, 3) := by decide +kernel
theorem dX1_init_26 : decode cX1_init 26 = .ok (.return_, 1) := by decide +kernel
theorem dX1_begin_0 : decode cX1_begin 0 = .ok (.aload_n 0, 1) := by decide +kernel
theorem dX1_begin_1 : decode cX1_begin 1 = .ok (.aload_n 1, 1) := by decide +kernel
theorem dX1_begin_2 : decode cX1_begin 2 = .ok (.putfield 24, 3) := by decide +kernel
theorem dX1_begin_5 : decode cX1_begin 5 = .ok (.aload_n 0, 1) := by decide +kernel
theorem dX1_begin_6 : decode cX1_begin 6 = .ok (.aload_n 2, 1) := by decide +kernel
theorem dX1_begin_7 : decode cX1_begin 7 = .ok (.putfield 28, 3) := by decide +kernel
theorem dX1_begin_10 : decode cX1_begin 10 = .ok (.iconst 0, 1) := by decide +kernel
theorem dX1_begin_11 : decode cX1_begin 11 = .ok (.istore_n 3, 1) := by decide +kernel
theorem dX1_begin_12 : decode cX1_begin 12 = .ok (.iload_n 3, 1) := by decide +kernel
theorem dX1_begin_13 : decode cX1_begin 13 = .ok (.bipush 64, 2) := by decide +kernel
theorem dX1_begin_15 : decode cX1_begin 15 = .ok (.if_icmp .ge 16, 3) := by decide +kernel
theorem dX1_begin_18 : decode cX1_begin 18 = .ok (.aload_n 0, 1) := by decide +kernel
theorem dX1_begin_19 : decode cX1_begin 19 = .ok (.getfield 13, 3) := by decide +kernel
theorem dX1_begin_22 : decode cX1_begin 22 = .ok (.iload_n 3, 1) := by decide +kernel
theorem dX1_begin_23 : decode cX1_begin 23 = .ok (.iconst 0, 1) := by decide +kernel
theorem dX1_begin_24 : decode cX1_begin 24 = .ok (.iastore, 1) := by decide +kernel
theorem dX1_begin_25 : decode cX1_begin 25 = .ok (.iinc 3 1, 3) := by decide +kernel
theorem dX1_begin_28 : decode cX1_begin 28 = .ok (.goto (-16), 3) := by decide +kernel
theorem dX1_begin_31 : decode cX1_begin 31 = .ok (.aload_n 0, 1) := by decide +kernel
theorem dX1_begin_32 : decode cX1_begin 32 = .ok (.getfield 13, 3) := by decide +kernel
theorem dX1_begin_35 : decode cX1_begin 35 = .ok (.iconst 0, 1) := by decide +kernel
theorem dX1_begin_36 : decode cX1_begin 36 = .ok (.iconst 1, 1) := by decide +kernel
theorem dX1_begin_37 : decode cX1_begin 37 = .ok (.iastore, 1) := by decide +kernel
theorem dX1_begin_38 : decode cX1_begin 38 = .ok (.iconst 0, 1) := by decide +kernel
theorem dX1_begin_39 : decode cX1_begin 39 = .ok (.istore_n 3, 1) := by decide +kernel
theorem dX1_begin_40 : decode cX1_begin 40 = .ok (.iload_n 3, 1) := by decide +kernel
theorem dX1_begin_41 : decode cX1_begin 41 = .ok (.aload_n 1, 1) := by decide +kernel
theorem dX1_begin_42 : decode cX1_begin 42 = .ok (.getfield 32, 3) := by decide +kernel
theorem dX1_begin_45 : decode cX1_begin 45 = .ok (.if_icmp .ge 38, 3) := by decide +kernel
theorem dX1_begin_48 : decode cX1_begin 48 = .ok (.aload_n 0, 1) := by decide +kernel
theorem dX1_begin_49 : decode cX1_begin 49 = .ok (.getfield 13, 3) := by decide +kernel
theorem dX1_begin_52 : decode cX1_begin 52 = .ok (.iconst 4, 1) := by decide +kernel
theorem dX1_begin_53 : decode cX1_begin 53 = .ok (.iload_n 3, 1) := by decide +kernel
theorem dX1_begin_54 : decode cX1_begin 54 = .ok (.iadd, 1) := by decide +kernel
theorem dX1_begin_55 : decode cX1_begin 55 = .ok (.aload_n 1, 1) := by decide +kernel
theorem dX1_begin_56 : decode cX1_begin 56 = .ok (.getfield 36, 3) := by decide +kernel
theorem dX1_begin_59 : decode cX1_begin 59 = .ok (.iload_n 3, 1) := by decide +kernel
theorem dX1_begin_60 : decode cX1_begin 60 = .ok (.iaload, 1) := by decide +kernel
theorem dX1_begin_61 : decode cX1_begin 61 = .ok (.iastore, 1) := by decide +kernel
theorem dX1_begin_62 : decode cX1_begin 62 = .ok (.aload_n 0, 1) := by decide +kernel
theorem dX1_begin_63 : decode cX1_begin 63 = .ok (.getfield 13, 3) := by decide +kernel
theorem dX1_begin_66 : decode cX1_begin 66 = .ok (.bipush 10, 2) := by decide +kernel
theorem dX1_begin_68 : decode cX1_begin 68 = .ok (.iload_n 3, 1) := by decide +kernel
theorem dX1_begin_69 : decode cX1_begin 69 = .ok (.iadd, 1) := by decide +kernel
theorem dX1_begin_70 : decode cX1_begin 70 = .ok (.aload_n 1, 1) := by decide +kernel
theorem dX1_begin_71 : decode cX1_begin 71 = .ok (.getfield 39, 3) := by decide +kernel
theorem dX1_begin_74 : decode cX1_begin 74 = .ok (.iload_n 3, 1) := by decide +kernel
theorem dX1_begin_75 : decode cX1_begin 75 = .ok (.iaload, 1) := by decide +kernel
theorem dX1_begin_76 : decode cX1_begin 76 = .ok (.iastore, 1) := by decide +kernel
theorem dX1_begin_77 : decode cX1_begin 77 = .ok (.iinc 3 1, 3) := by decide +kernel
theorem dX1_begin_80 : decode cX1_begin 80 = .ok (.goto (-40), 3) := by decide +kernel
theorem dX1_begin_83 : decode cX1_begin 83 = .ok (.aload_n 1, 1) := by decide +kernel
theorem dX1_begin_84 : decode cX1_begin 84 = .ok (.getfield 42, 3) := by decide +kernel
theorem dX1_begin_87 : decode cX1_begin 87 = .ok (.iconst 0, 1) := by decide +kernel
theorem dX1_begin_88 : decode cX1_begin 88 = .ok (.aload_n 0, 1) := by decide +kernel
theorem dX1_begin_89 : decode cX1_begin 89 = .ok (.getfield 13, 3) := by decide +kernel
theorem dX1_begin_92 : decode cX1_begin 92 = .ok (.bipush 28, 2) := by decide +kernel
theorem dX1_begin_94 : decode cX1_begin 94 = .ok (.bipush 36, 2) := by decide +kernel
theorem dX1_begin_96 : decode cX1_begin 96 = .ok (.invokestatic 45, 3) := by decide +kernel
theorem dX1_begin_99 : decode cX1_begin 99 = .ok (.return_, 1) := by decide +kernel
theorem dX1_obey_0 : decode cX1_obey 0 = .ok (.aload_n 0, 1) := by decide +kernel
theorem dX1_obey_1 : decode cX1_obey 1 = .ok (.aload_n 1, 1) := by decide +kernel
theorem dX1_obey_2 : decode cX1_obey 2 = .ok (.putfield 28, 3) := by decide +kernel
theorem dX1_obey_5 : decode cX1_obey 5 = .ok (.return_, 1) := by decide +kernel
theorem dX1_copyFrom_0 : decode cX1_copyFrom 0 = .ok (.aload_n 0, 1) := by decide +kernel
theorem dX1_copyFrom_1 : decode cX1_copyFrom 1 = .ok (.aload_n 1, 1) := by decide +kernel
theorem dX1_copyFrom_2 : decode cX1_copyFrom 2 = .ok (.getfield 24, 3) := by decide +kernel
theorem dX1_copyFrom_5 : decode cX1_copyFrom 5 = .ok (.putfield 24, 3) := by decide +kernel
theorem dX1_copyFrom_8 : decode cX1_copyFrom 8 = .ok (.aload_n 0, 1) := by decide +kernel
theorem dX1_copyFrom_9 : decode cX1_copyFrom 9 = .ok (.aload_n 1, 1) := by decide +kernel
theorem dX1_copyFrom_10 : decode cX1_copyFrom 10 = .ok (.getfield 28, 3) := by decide +kernel
theorem dX1_copyFrom_13 : decode cX1_copyFrom 13 = .ok (.putfield 28, 3) := by decide +kernel
theorem dX1_copyFrom_16 : decode cX1_copyFrom 16 = .ok (.aload_n 1, 1) := by decide +kernel
theorem dX1_copyFrom_17 : decode cX1_copyFrom 17 = .ok (.getfield 13, 3) := by decide +kernel
theorem dX1_copyFrom_20 : decode cX1_copyFrom 20 = .ok (.iconst 0, 1) := by decide +kernel
theorem dX1_copyFrom_21 : decode cX1_copyFrom 21 = .ok (.aload_n 0, 1) := by decide +kernel
theorem dX1_copyFrom_22 : decode cX1_copyFrom 22 = .ok (.getfield 13, 3) := by decide +kernel
theorem dX1_copyFrom_25 : decode cX1_copyFrom 25 = .ok (.iconst 0, 1) := by decide +kernel
theorem dX1_copyFrom_26 : decode cX1_copyFrom 26 = .ok (.bipush 64, 2) := by decide +kernel
theorem dX1_copyFrom_28 : decode cX1_copyFrom 28 = .ok (.invokestatic 45, 3) := by decide +kernel
theorem dX1_copyFrom_31 : decode cX1_copyFrom 31 = .ok (.return_, 1) := by decide +kernel
theorem dX1_day_0 : decode cX1_day 0 = .ok (.aload_n 0, 1) := by decide +kernel
theorem dX1_day_1 : decode cX1_day 1 = .ok (.getfield 13, 3) := by decide +kernel
theorem dX1_day_4 : decode cX1_day 4 = .ok (.iconst 0, 1) := by decide +kernel
theorem dX1_day_5 : decode cX1_day 5 = .ok (.iaload, 1) := by decide +kernel
theorem dX1_day_6 : decode cX1_day 6 = .ok (.ireturn, 1) := by decide +kernel
theorem dX1_year_0 : decode cX1_year 0 = .ok (.aload_n 0, 1) := by decide +kernel
theorem dX1_year_1 : decode cX1_year 1 = .ok (.getfield 13, 3) := by decide +kernel
theorem dX1_year_4 : decode cX1_year 4 = .ok (.iconst 1, 1) := by decide +kernel
theorem dX1_year_5 : decode cX1_year 5 = .ok (.iaload, 1) := by decide +kernel
theorem dX1_year_6 : decode cX1_year 6 = .ok (.ireturn, 1) := by decide +kernel
theorem dX1_caughtOnes_0 : decode cX1_caughtOnes 0 = .ok (.aload_n 0, 1) := by decide +kernel
theorem dX1_caughtOnes_1 : decode cX1_caughtOnes 1 = .ok (.getfield 13, 3) := by decide +kernel
theorem dX1_caughtOnes_4 : decode cX1_caughtOnes 4 = .ok (.iconst 2, 1) := by decide +kernel
theorem dX1_caughtOnes_5 : decode cX1_caughtOnes 5 = .ok (.iaload, 1) := by decide +kernel
theorem dX1_caughtOnes_6 : decode cX1_caughtOnes 6 = .ok (.ireturn, 1) := by decide +kernel
theorem dX1_leaptOnes_0 : decode cX1_leaptOnes 0 = .ok (.aload_n 0, 1) := by decide +kernel
theorem dX1_leaptOnes_1 : decode cX1_leaptOnes 1 = .ok (.getfield 13, 3) := by decide +kernel
theorem dX1_leaptOnes_4 : decode cX1_leaptOnes 4 = .ok (.iconst 3, 1) := by decide +kernel
theorem dX1_leaptOnes_5 : decode cX1_leaptOnes 5 = .ok (.iaload, 1) := by decide +kernel
theorem dX1_leaptOnes_6 : decode cX1_leaptOnes 6 = .ok (.ireturn, 1) := by decide +kernel
theorem dX1_freeOnes_0 : decode cX1_freeOnes 0 = .ok (.iconst 1, 1) := by decide +kernel
theorem dX1_freeOnes_1 : decode cX1_freeOnes 1 = .ok (.aload_n 0, 1) := by decide +kernel
theorem dX1_freeOnes_2 : decode cX1_freeOnes 2 = .ok (.getfield 24, 3) := by decide +kernel
theorem dX1_freeOnes_5 : decode cX1_freeOnes 5 = .ok (.getfield 32, 3) := by decide +kernel
theorem dX1_freeOnes_8 : decode cX1_freeOnes 8 = .ok (.ishl, 1) := by decide +kernel
theorem dX1_freeOnes_9 : decode cX1_freeOnes 9 = .ok (.iconst 1, 1) := by decide +kernel
theorem dX1_freeOnes_10 : decode cX1_freeOnes 10 = .ok (.isub, 1) := by decide +kernel
theorem dX1_freeOnes_11 : decode cX1_freeOnes 11 = .ok (.aload_n 0, 1) := by decide +kernel
theorem dX1_freeOnes_12 : decode cX1_freeOnes 12 = .ok (.getfield 13, 3) := by decide +kernel
theorem dX1_freeOnes_15 : decode cX1_freeOnes 15 = .ok (.iconst 2, 1) := by decide +kernel
theorem dX1_freeOnes_16 : decode cX1_freeOnes 16 = .ok (.iaload, 1) := by decide +kernel
theorem dX1_freeOnes_17 : decode cX1_freeOnes 17 = .ok (.iconst (-1), 1) := by decide +kernel
theorem dX1_freeOnes_18 : decode cX1_freeOnes 18 = .ok (.ixor, 1) := by decide +kernel
theorem dX1_freeOnes_19 : decode cX1_freeOnes 19 = .ok (.iand, 1) := by decide +kernel
theorem dX1_freeOnes_20 : decode cX1_freeOnes 20 = .ok (.ireturn, 1) := by decide +kernel
theorem dX1_isCaught_0 : decode cX1_isCaught 0 = .ok (.aload_n 0, 1) := by decide +kernel
theorem dX1_isCaught_1 : decode cX1_isCaught 1 = .ok (.getfield 13, 3) := by decide +kernel
theorem dX1_isCaught_4 : decode cX1_isCaught 4 = .ok (.iconst 2, 1) := by decide +kernel
theorem dX1_isCaught_5 : decode cX1_isCaught 5 = .ok (.iaload, 1) := by decide +kernel
theorem dX1_isCaught_6 : decode cX1_isCaught 6 = .ok (.iload_n 1, 1) := by decide +kernel
theorem dX1_isCaught_7 : decode cX1_isCaught 7 = .ok (.ishr, 1) := by decide +kernel
theorem dX1_isCaught_8 : decode cX1_isCaught 8 = .ok (.iconst 1, 1) := by decide +kernel
theorem dX1_isCaught_9 : decode cX1_isCaught 9 = .ok (.iand, 1) := by decide +kernel
theorem dX1_isCaught_10 : decode cX1_isCaught 10 = .ok (.iconst 1, 1) := by decide +kernel
theorem dX1_isCaught_11 : decode cX1_isCaught 11 = .ok (.if_icmp .ne 7, 3) := by decide +kernel
theorem dX1_isCaught_14 : decode cX1_isCaught 14 = .ok (.iconst 1, 1) := by decide +kernel
theorem dX1_isCaught_15 : decode cX1_isCaught 15 = .ok (.goto 4, 3) := by decide +kernel
theorem dX1_isCaught_18 : decode cX1_isCaught 18 = .ok (.iconst 0, 1) := by decide +kernel
theorem dX1_isCaught_19 : decode cX1_isCaught 19 = .ok (.ireturn, 1) := by decide +kernel
theorem dX1_sits_0 : decode cX1_sits 0 = .ok (.aload_n 0, 1) := by decide +kernel
theorem dX1_sits_1 : decode cX1_sits 1 = .ok (.getfield 13, 3) := by decide +kernel
theorem dX1_sits_4 : decode cX1_sits 4 = .ok (.iconst 4, 1) := by decide +kernel
theorem dX1_sits_5 : decode cX1_sits 5 = .ok (.iload_n 1, 1) := by decide +kernel
theorem dX1_sits_6 : decode cX1_sits 6 = .ok (.iadd, 1) := by decide +kernel
theorem dX1_sits_7 : decode cX1_sits 7 = .ok (.iaload, 1) := by decide +kernel
theorem dX1_sits_8 : decode cX1_sits 8 = .ok (.ireturn, 1) := by decide +kernel
theorem dX1_strong_0 : decode cX1_strong 0 = .ok (.aload_n 0, 1) := by decide +kernel
theorem dX1_strong_1 : decode cX1_strong 1 = .ok (.getfield 13, 3) := by decide +kernel
theorem dX1_strong_4 : decode cX1_strong 4 = .ok (.bipush 10, 2) := by decide +kernel
theorem dX1_strong_6 : decode cX1_strong 6 = .ok (.iload_n 1, 1) := by decide +kernel
theorem dX1_strong_7 : decode cX1_strong 7 = .ok (.iadd, 1) := by decide +kernel
theorem dX1_strong_8 : decode cX1_strong 8 = .ok (.iaload, 1) := by decide +kernel
theorem dX1_strong_9 : decode cX1_strong 9 = .ok (.ireturn, 1) := by decide +kernel
theorem dX1_still_0 : decode cX1_still 0 = .ok (.aload_n 0, 1) := by decide +kernel
theorem dX1_still_1 : decode cX1_still 1 = .ok (.getfield 13, 3) := by decide +kernel
theorem dX1_still_4 : decode cX1_still 4 = .ok (.bipush 16, 2) := by decide +kernel
theorem dX1_still_6 : decode cX1_still 6 = .ok (.iload_n 1, 1) := by decide +kernel
theorem dX1_still_7 : decode cX1_still 7 = .ok (.iadd, 1) := by decide +kernel
theorem dX1_still_8 : decode cX1_still 8 = .ok (.iaload, 1) := by decide +kernel
theorem dX1_still_9 : decode cX1_still 9 = .ok (.ireturn, 1) := by decide +kernel
theorem dX1_leaps_0 : decode cX1_leaps 0 = .ok (.aload_n 0, 1) := by decide +kernel
theorem dX1_leaps_1 : decode cX1_leaps 1 = .ok (.getfield 13, 3) := by decide +kernel
theorem dX1_leaps_4 : decode cX1_leaps 4 = .ok (.bipush 22, 2) := by decide +kernel
theorem dX1_leaps_6 : decode cX1_leaps 6 = .ok (.iload_n 1, 1) := by decide +kernel
theorem dX1_leaps_7 : decode cX1_leaps 7 = .ok (.iadd, 1) := by decide +kernel
theorem dX1_leaps_8 : decode cX1_leaps 8 = .ok (.iaload, 1) := by decide +kernel
theorem dX1_leaps_9 : decode cX1_leaps 9 = .ok (.ireturn, 1) := by decide +kernel
theorem dX1_owesTo_0 : decode cX1_owesTo 0 = .ok (.aload_n 0, 1) := by decide +kernel
theorem dX1_owesTo_1 : decode cX1_owesTo 1 = .ok (.getfield 13, 3) := by decide +kernel
theorem dX1_owesTo_4 : decode cX1_owesTo 4 = .ok (.bipush 28, 2) := by decide +kernel
theorem dX1_owesTo_6 : decode cX1_owesTo 6 = .ok (.iload_n 1, 1) := by decide +kernel
theorem dX1_owesTo_7 : decode cX1_owesTo 7 = .ok (.bipush 6, 2) := by decide +kernel
theorem dX1_owesTo_9 : decode cX1_owesTo 9 = .ok (.imul, 1) := by decide +kernel
theorem dX1_owesTo_10 : decode cX1_owesTo 10 = .ok (.iadd, 1) := by decide +kernel
theorem dX1_owesTo_11 : decode cX1_owesTo 11 = .ok (.iload_n 2, 1) := by decide +kernel
theorem dX1_owesTo_12 : decode cX1_owesTo 12 = .ok (.iadd, 1) := by decide +kernel
theorem dX1_owesTo_13 : decode cX1_owesTo 13 = .ok (.iaload, 1) := by decide +kernel
theorem dX1_owesTo_14 : decode cX1_owesTo 14 = .ok (.ireturn, 1) := by decide +kernel
theorem dX1_owes_0 : decode cX1_owes 0 = .ok (.iconst 0, 1) := by decide +kernel
theorem dX1_owes_1 : decode cX1_owes 1 = .ok (.istore_n 2, 1) := by decide +kernel
theorem dX1_owes_2 : decode cX1_owes 2 = .ok (.iconst 0, 1) := by decide +kernel
theorem dX1_owes_3 : decode cX1_owes 3 = .ok (.istore_n 3, 1) := by decide +kernel
theorem dX1_owes_4 : decode cX1_owes 4 = .ok (.iload_n 3, 1) := by decide +kernel
theorem dX1_owes_5 : decode cX1_owes 5 = .ok (.aload_n 0, 1) := by decide +kernel
theorem dX1_owes_6 : decode cX1_owes 6 = .ok (.getfield 24, 3) := by decide +kernel
theorem dX1_owes_9 : decode cX1_owes 9 = .ok (.getfield 32, 3) := by decide +kernel
theorem dX1_owes_12 : decode cX1_owes 12 = .ok (.if_icmp .ge 18, 3) := by decide +kernel
theorem dX1_owes_15 : decode cX1_owes 15 = .ok (.iload_n 2, 1) := by decide +kernel
theorem dX1_owes_16 : decode cX1_owes 16 = .ok (.aload_n 0, 1) := by decide +kernel
theorem dX1_owes_17 : decode cX1_owes 17 = .ok (.iload_n 1, 1) := by decide +kernel
theorem dX1_owes_18 : decode cX1_owes 18 = .ok (.iload_n 3, 1) := by decide +kernel
theorem dX1_owes_19 : decode cX1_owes 19 = .ok (.invokevirtual 51, 3) := by decide +kernel
theorem dX1_owes_22 : decode cX1_owes 22 = .ok (.iadd, 1) := by decide +kernel
theorem dX1_owes_23 : decode cX1_owes 23 = .ok (.istore_n 2, 1) := by decide +kernel
theorem dX1_owes_24 : decode cX1_owes 24 = .ok (.iinc 3 1, 3) := by decide +kernel
theorem dX1_owes_27 : decode cX1_owes 27 = .ok (.goto (-23), 3) := by decide +kernel
theorem dX1_owes_30 : decode cX1_owes 30 = .ok (.iload_n 2, 1) := by decide +kernel
theorem dX1_owes_31 : decode cX1_owes 31 = .ok (.ireturn, 1) := by decide +kernel
theorem dX1_owed_0 : decode cX1_owed 0 = .ok (.iconst 0, 1) := by decide +kernel
theorem dX1_owed_1 : decode cX1_owed 1 = .ok (.istore_n 2, 1) := by decide +kernel
theorem dX1_owed_2 : decode cX1_owed 2 = .ok (.iconst 0, 1) := by decide +kernel
theorem dX1_owed_3 : decode cX1_owed 3 = .ok (.istore_n 3, 1) := by decide +kernel
theorem dX1_owed_4 : decode cX1_owed 4 = .ok (.iload_n 3, 1) := by decide +kernel
theorem dX1_owed_5 : decode cX1_owed 5 = .ok (.aload_n 0, 1) := by decide +kernel
theorem dX1_owed_6 : decode cX1_owed 6 = .ok (.getfield 24, 3) := by decide +kernel
theorem dX1_owed_9 : decode cX1_owed 9 = .ok (.getfield 32, 3) := by decide +kernel
theorem dX1_owed_12 : decode cX1_owed 12 = .ok (.if_icmp .ge 18, 3) := by decide +kernel
theorem dX1_owed_15 : decode cX1_owed 15 = .ok (.iload_n 2, 1) := by decide +kernel
theorem dX1_owed_16 : decode cX1_owed 16 = .ok (.aload_n 0, 1) := by decide +kernel
theorem dX1_owed_17 : decode cX1_owed 17 = .ok (.iload_n 3, 1) := by decide +kernel
theorem dX1_owed_18 : decode cX1_owed 18 = .ok (.iload_n 1, 1) := by decide +kernel
theorem dX1_owed_19 : decode cX1_owed 19 = .ok (.invokevirtual 51, 3) := by decide +kernel
theorem dX1_owed_22 : decode cX1_owed 22 = .ok (.iadd, 1) := by decide +kernel
theorem dX1_owed_23 : decode cX1_owed 23 = .ok (.istore_n 2, 1) := by decide +kernel
theorem dX1_owed_24 : decode cX1_owed 24 = .ok (.iinc 3 1, 3) := by decide +kernel
theorem dX1_owed_27 : decode cX1_owed 27 = .ok (.goto (-23), 3) := by decide +kernel
theorem dX1_owed_30 : decode cX1_owed 30 = .ok (.iload_n 2, 1) := by decide +kernel
theorem dX1_owed_31 : decode cX1_owed 31 = .ok (.ireturn, 1) := by decide +kernel
theorem dX1_allDebts_0 : decode cX1_allDebts 0 = .ok (.iconst 0, 1) := by decide +kernel
theorem dX1_allDebts_1 : decode cX1_allDebts 1 = .ok (.istore_n 1, 1) := by decide +kernel
theorem dX1_allDebts_2 : decode cX1_allDebts 2 = .ok (.iconst 0, 1) := by decide +kernel
theorem dX1_allDebts_3 : decode cX1_allDebts 3 = .ok (.istore_n 2, 1) := by decide +kernel
theorem dX1_allDebts_4 : decode cX1_allDebts 4 = .ok (.iload_n 2, 1) := by decide +kernel
theorem dX1_allDebts_5 : decode cX1_allDebts 5 = .ok (.aload_n 0, 1) := by decide +kernel
theorem dX1_allDebts_6 : decode cX1_allDebts 6 = .ok (.getfield 24, 3) := by decide +kernel
theorem dX1_allDebts_9 : decode cX1_allDebts 9 = .ok (.getfield 32, 3) := by decide +kernel
theorem dX1_allDebts_12 : decode cX1_allDebts 12 = .ok (.if_icmp .ge 17, 3) := by decide +kernel
theorem dX1_allDebts_15 : decode cX1_allDebts 15 = .ok (.iload_n 1, 1) := by decide +kernel
theorem dX1_allDebts_16 : decode cX1_allDebts 16 = .ok (.aload_n 0, 1) := by decide +kernel
theorem dX1_allDebts_17 : decode cX1_allDebts 17 = .ok (.iload_n 2, 1) := by decide +kernel
theorem dX1_allDebts_18 : decode cX1_allDebts 18 = .ok (.invokevirtual 55, 3) := by decide +kernel
theorem dX1_allDebts_21 : decode cX1_allDebts 21 = .ok (.iadd, 1) := by decide +kernel
theorem dX1_allDebts_22 : decode cX1_allDebts 22 = .ok (.istore_n 1, 1) := by decide +kernel
theorem dX1_allDebts_23 : decode cX1_allDebts 23 = .ok (.iinc 2 1, 3) := by decide +kernel
theorem dX1_allDebts_26 : decode cX1_allDebts 26 = .ok (.goto (-22), 3) := by decide +kernel
theorem dX1_allDebts_29 : decode cX1_allDebts 29 = .ok (.iload_n 1, 1) := by decide +kernel
theorem dX1_allDebts_30 : decode cX1_allDebts 30 = .ok (.ireturn, 1) := by decide +kernel
theorem dX1_seatedIn_0 : decode cX1_seatedIn 0 = .ok (.iconst 0, 1) := by decide +kernel
theorem dX1_seatedIn_1 : decode cX1_seatedIn 1 = .ok (.istore_n 2, 1) := by decide +kernel
theorem dX1_seatedIn_2 : decode cX1_seatedIn 2 = .ok (.iconst 0, 1) := by decide +kernel
theorem dX1_seatedIn_3 : decode cX1_seatedIn 3 = .ok (.istore_n 3, 1) := by decide +kernel
theorem dX1_seatedIn_4 : decode cX1_seatedIn 4 = .ok (.iload_n 3, 1) := by decide +kernel
theorem dX1_seatedIn_5 : decode cX1_seatedIn 5 = .ok (.aload_n 0, 1) := by decide +kernel
theorem dX1_seatedIn_6 : decode cX1_seatedIn 6 = .ok (.getfield 24, 3) := by decide +kernel
theorem dX1_seatedIn_9 : decode cX1_seatedIn 9 = .ok (.getfield 32, 3) := by decide +kernel
theorem dX1_seatedIn_12 : decode cX1_seatedIn 12 = .ok (.if_icmp .ge 32, 3) := by decide +kernel
theorem dX1_seatedIn_15 : decode cX1_seatedIn 15 = .ok (.aload_n 0, 1) := by decide +kernel
theorem dX1_seatedIn_16 : decode cX1_seatedIn 16 = .ok (.iload_n 3, 1) := by decide +kernel
theorem dX1_seatedIn_17 : decode cX1_seatedIn 17 = .ok (.invokevirtual 59, 3) := by decide +kernel
theorem dX1_seatedIn_20 : decode cX1_seatedIn 20 = .ok (.ifCond .ne 18, 3) := by decide +kernel
theorem dX1_seatedIn_23 : decode cX1_seatedIn 23 = .ok (.aload_n 0, 1) := by decide +kernel
theorem dX1_seatedIn_24 : decode cX1_seatedIn 24 = .ok (.iload_n 3, 1) := by decide +kernel
theorem dX1_seatedIn_25 : decode cX1_seatedIn 25 = .ok (.invokevirtual 63, 3) := by decide +kernel
theorem dX1_seatedIn_28 : decode cX1_seatedIn 28 = .ok (.iload_n 1, 1) := by decide +kernel
theorem dX1_seatedIn_29 : decode cX1_seatedIn 29 = .ok (.if_icmp .ne 9, 3) := by decide +kernel
theorem dX1_seatedIn_32 : decode cX1_seatedIn 32 = .ok (.iload_n 2, 1) := by decide +kernel
theorem dX1_seatedIn_33 : decode cX1_seatedIn 33 = .ok (.iconst 1, 1) := by decide +kernel
theorem dX1_seatedIn_34 : decode cX1_seatedIn 34 = .ok (.iload_n 3, 1) := by decide +kernel
theorem dX1_seatedIn_35 : decode cX1_seatedIn 35 = .ok (.ishl, 1) := by decide +kernel
theorem dX1_seatedIn_36 : decode cX1_seatedIn 36 = .ok (.ior, 1) := by decide +kernel
theorem dX1_seatedIn_37 : decode cX1_seatedIn 37 = .ok (.istore_n 2, 1) := by decide +kernel
theorem dX1_seatedIn_38 : decode cX1_seatedIn 38 = .ok (.iinc 3 1, 3) := by decide +kernel
theorem dX1_seatedIn_41 : decode cX1_seatedIn 41 = .ok (.goto (-37), 3) := by decide +kernel
theorem dX1_seatedIn_44 : decode cX1_seatedIn 44 = .ok (.iload_n 2, 1) := by decide +kernel
theorem dX1_seatedIn_45 : decode cX1_seatedIn 45 = .ok (.ireturn, 1) := by decide +kernel
theorem dX1_strongTogether_0 : decode cX1_strongTogether 0 = .ok (.iconst 0, 1) := by decide +kernel
theorem dX1_strongTogether_1 : decode cX1_strongTogether 1 = .ok (.istore_n 1, 1) := by decide +kernel
theorem dX1_strongTogether_2 : decode cX1_strongTogether 2 = .ok (.iconst 0, 1) := by decide +kernel
theorem dX1_strongTogether_3 : decode cX1_strongTogether 3 = .ok (.istore_n 2, 1) := by decide +kernel
theorem dX1_strongTogether_4 : decode cX1_strongTogether 4 = .ok (.iload_n 2, 1) := by decide +kernel
theorem dX1_strongTogether_5 : decode cX1_strongTogether 5 = .ok (.aload_n 0, 1) := by decide +kernel
theorem dX1_strongTogether_6 : decode cX1_strongTogether 6 = .ok (.getfield 24, 3) := by decide +kernel
theorem dX1_strongTogether_9 : decode cX1_strongTogether 9 = .ok (.getfield 32, 3) := by decide +kernel
theorem dX1_strongTogether_12 : decode cX1_strongTogether 12 = .ok (.if_icmp .ge 29, 3) := by decide +kernel
theorem dX1_strongTogether_15 : decode cX1_strongTogether 15 = .ok (.iload_n 1, 1) := by decide +kernel
theorem dX1_strongTogether_16 : decode cX1_strongTogether 16 = .ok (.aload_n 0, 1) := by decide +kernel
theorem dX1_strongTogether_17 : decode cX1_strongTogether 17 = .ok (.iload_n 2, 1) := by decide +kernel
theorem dX1_strongTogether_18 : decode cX1_strongTogether 18 = .ok (.invokevirtual 59, 3) := by decide +kernel
theorem dX1_strongTogether_21 : decode cX1_strongTogether 21 = .ok (.ifCond .eq 7, 3) := by decide +kernel
theorem dX1_strongTogether_24 : decode cX1_strongTogether 24 = .ok (.iconst 0, 1) := by decide +kernel
theorem dX1_strongTogether_25 : decode cX1_strongTogether 25 = .ok (.goto 8, 3) := by decide +kernel
theorem dX1_strongTogether_28 : decode cX1_strongTogether 28 = .ok (.aload_n 0, 1) := by decide +kernel
theorem dX1_strongTogether_29 : decode cX1_strongTogether 29 = .ok (.iload_n 2, 1) := by decide +kernel
theorem dX1_strongTogether_30 : decode cX1_strongTogether 30 = .ok (.invokevirtual 66, 3) := by decide +kernel
theorem dX1_strongTogether_33 : decode cX1_strongTogether 33 = .ok (.iadd, 1) := by decide +kernel
theorem dX1_strongTogether_34 : decode cX1_strongTogether 34 = .ok (.istore_n 1, 1) := by decide +kernel
theorem dX1_strongTogether_35 : decode cX1_strongTogether 35 = .ok (.iinc 2 1, 3) := by decide +kernel
theorem dX1_strongTogether_38 : decode cX1_strongTogether 38 = .ok (.goto (-34), 3) := by decide +kernel
theorem dX1_strongTogether_41 : decode cX1_strongTogether 41 = .ok (.iload_n 1, 1) := by decide +kernel
theorem dX1_strongTogether_42 : decode cX1_strongTogether 42 = .ok (.ireturn, 1) := by decide +kernel
theorem dX1_reach_0 : decode cX1_reach 0 = .ok (.aload_n 0, 1) := by decide +kernel
theorem dX1_reach_1 : decode cX1_reach 1 = .ok (.aload_n 0, 1) := by decide +kernel
theorem dX1_reach_2 : decode cX1_reach 2 = .ok (.iload_n 1, 1) := by decide +kernel
theorem dX1_reach_3 : decode cX1_reach 3 = .ok (.invokevirtual 63, 3) := by decide +kernel
theorem dX1_reach_6 : decode cX1_reach 6 = .ok (.invokevirtual 69, 3) := by decide +kernel
theorem dX1_reach_9 : decode cX1_reach 9 = .ok (.iconst 1, 1) := by decide +kernel
theorem dX1_reach_10 : decode cX1_reach 10 = .ok (.iload_n 1, 1) := by decide +kernel
theorem dX1_reach_11 : decode cX1_reach 11 = .ok (.ishl, 1) := by decide +kernel
theorem dX1_reach_12 : decode cX1_reach 12 = .ok (.iconst (-1), 1) := by decide +kernel
theorem dX1_reach_13 : decode cX1_reach 13 = .ok (.ixor, 1) := by decide +kernel
theorem dX1_reach_14 : decode cX1_reach 14 = .ok (.iand, 1) := by decide +kernel
theorem dX1_reach_15 : decode cX1_reach 15 = .ok (.invokestatic 72, 3) := by decide +kernel
theorem dX1_reach_18 : decode cX1_reach 18 = .ok (.istore_n 2, 1) := by decide +kernel
theorem dX1_reach_19 : decode cX1_reach 19 = .ok (.aload_n 0, 1) := by decide +kernel
theorem dX1_reach_20 : decode cX1_reach 20 = .ok (.getfield 28, 3) := by decide +kernel
theorem dX1_reach_23 : decode cX1_reach 23 = .ok (.aload_n 0, 1) := by decide +kernel
theorem dX1_reach_24 : decode cX1_reach 24 = .ok (.iload_n 1, 1) := by decide +kernel
theorem dX1_reach_25 : decode cX1_reach 25 = .ok (.invokevirtual 66, 3) := by decide +kernel
theorem dX1_reach_28 : decode cX1_reach 28 = .ok (.aload_n 0, 1) := by decide +kernel
theorem dX1_reach_29 : decode cX1_reach 29 = .ok (.iload_n 1, 1) := by decide +kernel
theorem dX1_reach_30 : decode cX1_reach 30 = .ok (.invokevirtual 77, 3) := by decide +kernel
theorem dX1_reach_33 : decode cX1_reach 33 = .ok (.aload_n 0, 1) := by decide +kernel
theorem dX1_reach_34 : decode cX1_reach 34 = .ok (.iload_n 1, 1) := by decide +kernel
theorem dX1_reach_35 : decode cX1_reach 35 = .ok (.invokevirtual 55, 3) := by decide +kernel
theorem dX1_reach_38 : decode cX1_reach 38 = .ok (.aload_n 0, 1) := by decide +kernel
theorem dX1_reach_39 : decode cX1_reach 39 = .ok (.iload_n 1, 1) := by decide +kernel
theorem dX1_reach_40 : decode cX1_reach 40 = .ok (.invokevirtual 80, 3) := by decide +kernel
theorem dX1_reach_43 : decode cX1_reach 43 = .ok (.iload_n 2, 1) := by decide +kernel
theorem dX1_reach_44 : decode cX1_reach 44 = .ok (.invokevirtual 83, 3) := by decide +kernel
theorem dX1_reach_47 : decode cX1_reach 47 = .ok (.aload_n 0, 1) := by decide +kernel
theorem dX1_reach_48 : decode cX1_reach 48 = .ok (.getfield 28, 3) := by decide +kernel
theorem dX1_reach_51 : decode cX1_reach 51 = .ok (.aload_n 0, 1) := by decide +kernel
theorem dX1_reach_52 : decode cX1_reach 52 = .ok (.invokevirtual 89, 3) := by decide +kernel
theorem dX1_reach_55 : decode cX1_reach 55 = .ok (.iload_n 1, 1) := by decide +kernel
theorem dX1_reach_56 : decode cX1_reach 56 = .ok (.aload_n 0, 1) := by decide +kernel
theorem dX1_reach_57 : decode cX1_reach 57 = .ok (.iload_n 1, 1) := by decide +kernel
theorem dX1_reach_58 : decode cX1_reach 58 = .ok (.invokevirtual 93, 3) := by decide +kernel
theorem dX1_reach_61 : decode cX1_reach 61 = .ok (.invokevirtual 96, 3) := by decide +kernel
theorem dX1_reach_64 : decode cX1_reach 64 = .ok (.aload_n 0, 1) := by decide +kernel
theorem dX1_reach_65 : decode cX1_reach 65 = .ok (.getfield 28, 3) := by decide +kernel
theorem dX1_reach_68 : decode cX1_reach 68 = .ok (.invokevirtual 100, 3) := by decide +kernel
theorem dX1_reach_71 : decode cX1_reach 71 = .ok (.ireturn, 1) := by decide +kernel
theorem dX1_couldLeap_0 : decode cX1_couldLeap 0 = .ok (.aload_n 0, 1) := by decide +kernel
theorem dX1_couldLeap_1 : decode cX1_couldLeap 1 = .ok (.iload_n 1, 1) := by decide +kernel
theorem dX1_couldLeap_2 : decode cX1_couldLeap 2 = .ok (.invokevirtual 59, 3) := by decide +kernel
theorem dX1_couldLeap_5 : decode cX1_couldLeap 5 = .ok (.ifCond .ne 37, 3) := by decide +kernel
theorem dX1_couldLeap_8 : decode cX1_couldLeap 8 = .ok (.aload_n 0, 1) := by decide +kernel
theorem dX1_couldLeap_9 : decode cX1_couldLeap 9 = .ok (.iload_n 1, 1) := by decide +kernel
theorem dX1_couldLeap_10 : decode cX1_couldLeap 10 = .ok (.invokevirtual 63, 3) := by decide +kernel
theorem dX1_couldLeap_13 : decode cX1_couldLeap 13 = .ok (.iload_n 2, 1) := by decide +kernel
theorem dX1_couldLeap_14 : decode cX1_couldLeap 14 = .ok (.if_icmp .eq 28, 3) := by decide +kernel
theorem dX1_couldLeap_17 : decode cX1_couldLeap 17 = .ok (.aload_n 0, 1) := by decide +kernel
theorem dX1_couldLeap_18 : decode cX1_couldLeap 18 = .ok (.getfield 24, 3) := by decide +kernel
theorem dX1_couldLeap_21 : decode cX1_couldLeap 21 = .ok (.aload_n 0, 1) := by decide +kernel
theorem dX1_couldLeap_22 : decode cX1_couldLeap 22 = .ok (.iload_n 1, 1) := by decide +kernel
theorem dX1_couldLeap_23 : decode cX1_couldLeap 23 = .ok (.invokevirtual 63, 3) := by decide +kernel
theorem dX1_couldLeap_26 : decode cX1_couldLeap 26 = .ok (.iload_n 2, 1) := by decide +kernel
theorem dX1_couldLeap_27 : decode cX1_couldLeap 27 = .ok (.invokevirtual 103, 3) := by decide +kernel
theorem dX1_couldLeap_30 : decode cX1_couldLeap 30 = .ok (.aload_n 0, 1) := by decide +kernel
theorem dX1_couldLeap_31 : decode cX1_couldLeap 31 = .ok (.iload_n 1, 1) := by decide +kernel
theorem dX1_couldLeap_32 : decode cX1_couldLeap 32 = .ok (.invokevirtual 106, 3) := by decide +kernel
theorem dX1_couldLeap_35 : decode cX1_couldLeap 35 = .ok (.if_icmp .gt 7, 3) := by decide +kernel
theorem dX1_couldLeap_38 : decode cX1_couldLeap 38 = .ok (.iconst 1, 1) := by decide +kernel
theorem dX1_couldLeap_39 : decode cX1_couldLeap 39 = .ok (.goto 4, 3) := by decide +kernel
theorem dX1_couldLeap_42 : decode cX1_couldLeap 42 = .ok (.iconst 0, 1) := by decide +kernel
theorem dX1_couldLeap_43 : decode cX1_couldLeap 43 = .ok (.ireturn, 1) := by decide +kernel
theorem dX1_leapable_0 : decode cX1_leapable 0 = .ok (.aload_n 0, 1) := by decide +kernel
theorem dX1_leapable_1 : decode cX1_leapable 1 = .ok (.iload_n 1, 1) := by decide +kernel
theorem dX1_leapable_2 : decode cX1_leapable 2 = .ok (.invokevirtual 59, 3) := by decide +kernel
theorem dX1_leapable_5 : decode cX1_leapable 5 = .ok (.ifCond .eq 5, 3) := by decide +kernel
theorem dX1_leapable_8 : decode cX1_leapable 8 = .ok (.iconst 0, 1) := by decide +kernel
theorem dX1_leapable_9 : decode cX1_leapable 9 = .ok (.ireturn, 1) := by decide +kernel
theorem dX1_leapable_10 : decode cX1_leapable 10 = .ok (.aload_n 0, 1) := by decide +kernel
theorem dX1_leapable_11 : decode cX1_leapable 11 = .ok (.getfield 24, 3) := by decide +kernel
theorem dX1_leapable_14 : decode cX1_leapable 14 = .ok (.aload_n 0, 1) := by decide +kernel
theorem dX1_leapable_15 : decode cX1_leapable 15 = .ok (.iload_n 1, 1) := by decide +kernel
theorem dX1_leapable_16 : decode cX1_leapable 16 = .ok (.invokevirtual 63, 3) := by decide +kernel
theorem dX1_leapable_19 : decode cX1_leapable 19 = .ok (.aload_n 0, 1) := by decide +kernel
theorem dX1_leapable_20 : decode cX1_leapable 20 = .ok (.iload_n 1, 1) := by decide +kernel
theorem dX1_leapable_21 : decode cX1_leapable 21 = .ok (.invokevirtual 106, 3) := by decide +kernel
theorem dX1_leapable_24 : decode cX1_leapable 24 = .ok (.invokevirtual 108, 3) := by decide +kernel
theorem dX1_leapable_27 : decode cX1_leapable 27 = .ok (.iconst 1, 1) := by decide +kernel
theorem dX1_leapable_28 : decode cX1_leapable 28 = .ok (.aload_n 0, 1) := by decide +kernel
theorem dX1_leapable_29 : decode cX1_leapable 29 = .ok (.iload_n 1, 1) := by decide +kernel
theorem dX1_leapable_30 : decode cX1_leapable 30 = .ok (.invokevirtual 63, 3) := by decide +kernel
theorem dX1_leapable_33 : decode cX1_leapable 33 = .ok (.ishl, 1) := by decide +kernel
theorem dX1_leapable_34 : decode cX1_leapable 34 = .ok (.iconst (-1), 1) := by decide +kernel
theorem dX1_leapable_35 : decode cX1_leapable 35 = .ok (.ixor, 1) := by decide +kernel
theorem dX1_leapable_36 : decode cX1_leapable 36 = .ok (.iand, 1) := by decide +kernel
theorem dX1_leapable_37 : decode cX1_leapable 37 = .ok (.ireturn, 1) := by decide +kernel
theorem dX1_leapTo_0 : decode cX1_leapTo 0 = .ok (.aload_n 0, 1) := by decide +kernel
theorem dX1_leapTo_1 : decode cX1_leapTo 1 = .ok (.getfield 13, 3) := by decide +kernel
theorem dX1_leapTo_4 : decode cX1_leapTo 4 = .ok (.iconst 4, 1) := by decide +kernel
theorem dX1_leapTo_5 : decode cX1_leapTo 5 = .ok (.iload_n 1, 1) := by decide +kernel
theorem dX1_leapTo_6 : decode cX1_leapTo 6 = .ok (.iadd, 1) := by decide +kernel
theorem dX1_leapTo_7 : decode cX1_leapTo 7 = .ok (.iload_n 2, 1) := by decide +kernel
theorem dX1_leapTo_8 : decode cX1_leapTo 8 = .ok (.iastore, 1) := by decide +kernel
theorem dX1_leapTo_9 : decode cX1_leapTo 9 = .ok (.aload_n 0, 1) := by decide +kernel
theorem dX1_leapTo_10 : decode cX1_leapTo 10 = .ok (.getfield 13, 3) := by decide +kernel
theorem dX1_leapTo_13 : decode cX1_leapTo 13 = .ok (.bipush 22, 2) := by decide +kernel
theorem dX1_leapTo_15 : decode cX1_leapTo 15 = .ok (.iload_n 1, 1) := by decide +kernel
theorem dX1_leapTo_16 : decode cX1_leapTo 16 = .ok (.iadd, 1) := by decide +kernel
theorem dX1_leapTo_17 : decode cX1_leapTo 17 = .ok (.dup2, 1) := by decide +kernel
theorem dX1_leapTo_18 : decode cX1_leapTo 18 = .ok (.iaload, 1) := by decide +kernel
theorem dX1_leapTo_19 : decode cX1_leapTo 19 = .ok (.iconst 1, 1) := by decide +kernel
theorem dX1_leapTo_20 : decode cX1_leapTo 20 = .ok (.iadd, 1) := by decide +kernel
theorem dX1_leapTo_21 : decode cX1_leapTo 21 = .ok (.iastore, 1) := by decide +kernel
theorem dX1_leapTo_22 : decode cX1_leapTo 22 = .ok (.aload_n 0, 1) := by decide +kernel
theorem dX1_leapTo_23 : decode cX1_leapTo 23 = .ok (.iload_n 1, 1) := by decide +kernel
theorem dX1_leapTo_24 : decode cX1_leapTo 24 = .ok (.invokevirtual 111, 3) := by decide +kernel
theorem dX1_leapTo_27 : decode cX1_leapTo 27 = .ok (.return_, 1) := by decide +kernel
theorem dX1_stir_0 : decode cX1_stir 0 = .ok (.aload_n 0, 1) := by decide +kernel
theorem dX1_stir_1 : decode cX1_stir 1 = .ok (.getfield 13, 3) := by decide +kernel
theorem dX1_stir_4 : decode cX1_stir 4 = .ok (.bipush 16, 2) := by decide +kernel
theorem dX1_stir_6 : decode cX1_stir 6 = .ok (.iload_n 1, 1) := by decide +kernel
theorem dX1_stir_7 : decode cX1_stir 7 = .ok (.iadd, 1) := by decide +kernel
theorem dX1_stir_8 : decode cX1_stir 8 = .ok (.iconst 0, 1) := by decide +kernel
theorem dX1_stir_9 : decode cX1_stir 9 = .ok (.iastore, 1) := by decide +kernel
theorem dX1_stir_10 : decode cX1_stir 10 = .ok (.aload_n 0, 1) := by decide +kernel
theorem dX1_stir_11 : decode cX1_stir 11 = .ok (.getfield 13, 3) := by decide +kernel
theorem dX1_stir_14 : decode cX1_stir 14 = .ok (.iconst 3, 1) := by decide +kernel
theorem dX1_stir_15 : decode cX1_stir 15 = .ok (.dup2, 1) := by decide +kernel
theorem dX1_stir_16 : decode cX1_stir 16 = .ok (.iaload, 1) := by decide +kernel
theorem dX1_stir_17 : decode cX1_stir 17 = .ok (.iconst 1, 1) := by decide +kernel
theorem dX1_stir_18 : decode cX1_stir 18 = .ok (.iload_n 1, 1) := by decide +kernel
theorem dX1_stir_19 : decode cX1_stir 19 = .ok (.ishl, 1) := by decide +kernel
theorem dX1_stir_20 : decode cX1_stir 20 = .ok (.ior, 1) := by decide +kernel
theorem dX1_stir_21 : decode cX1_stir 21 = .ok (.iastore, 1) := by decide +kernel
theorem dX1_stir_22 : decode cX1_stir 22 = .ok (.return_, 1) := by decide +kernel
theorem dX1_couldFight_0 : decode cX1_couldFight 0 = .ok (.iload_n 1, 1) := by decide +kernel
theorem dX1_couldFight_1 : decode cX1_couldFight 1 = .ok (.iload_n 2, 1) := by decide +kernel
theorem dX1_couldFight_2 : decode cX1_couldFight 2 = .ok (.if_icmp .eq 36, 3) := by decide +kernel
theorem dX1_couldFight_5 : decode cX1_couldFight 5 = .ok (.aload_n 0, 1) := by decide +kernel
theorem dX1_couldFight_6 : decode cX1_couldFight 6 = .ok (.iload_n 1, 1) := by decide +kernel
theorem dX1_couldFight_7 : decode cX1_couldFight 7 = .ok (.invokevirtual 59, 3) := by decide +kernel
theorem dX1_couldFight_10 : decode cX1_couldFight 10 = .ok (.ifCond .ne 28, 3) := by decide +kernel
theorem dX1_couldFight_13 : decode cX1_couldFight 13 = .ok (.aload_n 0, 1) := by decide +kernel
theorem dX1_couldFight_14 : decode cX1_couldFight 14 = .ok (.iload_n 2, 1) := by decide +kernel
theorem dX1_couldFight_15 : decode cX1_couldFight 15 = .ok (.invokevirtual 59, 3) := by decide +kernel
theorem dX1_couldFight_18 : decode cX1_couldFight 18 = .ok (.ifCond .ne 20, 3) := by decide +kernel
theorem dX1_couldFight_21 : decode cX1_couldFight 21 = .ok (.aload_n 0, 1) := by decide +kernel
theorem dX1_couldFight_22 : decode cX1_couldFight 22 = .ok (.iload_n 1, 1) := by decide +kernel
theorem dX1_couldFight_23 : decode cX1_couldFight 23 = .ok (.invokevirtual 63, 3) := by decide +kernel
theorem dX1_couldFight_26 : decode cX1_couldFight 26 = .ok (.aload_n 0, 1) := by decide +kernel
theorem dX1_couldFight_27 : decode cX1_couldFight 27 = .ok (.iload_n 2, 1) := by decide +kernel
theorem dX1_couldFight_28 : decode cX1_couldFight 28 = .ok (.invokevirtual 63, 3) := by decide +kernel
theorem dX1_couldFight_31 : decode cX1_couldFight 31 = .ok (.if_icmp .ne 7, 3) := by decide +kernel
theorem dX1_couldFight_34 : decode cX1_couldFight 34 = .ok (.iconst 1, 1) := by decide +kernel
theorem dX1_couldFight_35 : decode cX1_couldFight 35 = .ok (.goto 4, 3) := by decide +kernel
theorem dX1_couldFight_38 : decode cX1_couldFight 38 = .ok (.iconst 0, 1) := by decide +kernel
theorem dX1_couldFight_39 : decode cX1_couldFight 39 = .ok (.ireturn, 1) := by decide +kernel
theorem dX1_fight_0 : decode cX1_fight 0 = .ok (.aload_n 0, 1) := by decide +kernel
theorem dX1_fight_1 : decode cX1_fight 1 = .ok (.iload_n 1, 1) := by decide +kernel
theorem dX1_fight_2 : decode cX1_fight 2 = .ok (.invokevirtual 66, 3) := by decide +kernel
theorem dX1_fight_5 : decode cX1_fight 5 = .ok (.aload_n 0, 1) := by decide +kernel
theorem dX1_fight_6 : decode cX1_fight 6 = .ok (.iload_n 2, 1) := by decide +kernel
theorem dX1_fight_7 : decode cX1_fight 7 = .ok (.invokevirtual 66, 3) := by decide +kernel
theorem dX1_fight_10 : decode cX1_fight 10 = .ok (.if_icmp .lt 7, 3) := by decide +kernel
theorem dX1_fight_13 : decode cX1_fight 13 = .ok (.iload_n 2, 1) := by decide +kernel
theorem dX1_fight_14 : decode cX1_fight 14 = .ok (.goto 4, 3) := by decide +kernel
theorem dX1_fight_17 : decode cX1_fight 17 = .ok (.iload_n 1, 1) := by decide +kernel
theorem dX1_fight_18 : decode cX1_fight 18 = .ok (.istore_n 3, 1) := by decide +kernel
theorem dX1_fight_19 : decode cX1_fight 19 = .ok (.aload_n 0, 1) := by decide +kernel
theorem dX1_fight_20 : decode cX1_fight 20 = .ok (.getfield 13, 3) := by decide +kernel
theorem dX1_fight_23 : decode cX1_fight 23 = .ok (.bipush 10, 2) := by decide +kernel
theorem dX1_fight_25 : decode cX1_fight 25 = .ok (.iload_n 3, 1) := by decide +kernel
theorem dX1_fight_26 : decode cX1_fight 26 = .ok (.iadd, 1) := by decide +kernel
theorem dX1_fight_27 : decode cX1_fight 27 = .ok (.iconst 0, 1) := by decide +kernel
theorem dX1_fight_28 : decode cX1_fight 28 = .ok (.aload_n 0, 1) := by decide +kernel
theorem dX1_fight_29 : decode cX1_fight 29 = .ok (.iload_n 3, 1) := by decide +kernel
theorem dX1_fight_30 : decode cX1_fight 30 = .ok (.invokevirtual 66, 3) := by decide +kernel
theorem dX1_fight_33 : decode cX1_fight 33 = .ok (.iconst 1, 1) := by decide +kernel
theorem dX1_fight_34 : decode cX1_fight 34 = .ok (.isub, 1) := by decide +kernel
theorem dX1_fight_35 : decode cX1_fight 35 = .ok (.invokestatic 115, 3) := by decide +kernel
theorem dX1_fight_38 : decode cX1_fight 38 = .ok (.iastore, 1) := by decide +kernel
theorem dX1_fight_39 : decode cX1_fight 39 = .ok (.aload_n 0, 1) := by decide +kernel
theorem dX1_fight_40 : decode cX1_fight 40 = .ok (.iload_n 1, 1) := by decide +kernel
theorem dX1_fight_41 : decode cX1_fight 41 = .ok (.invokevirtual 111, 3) := by decide +kernel
theorem dX1_fight_44 : decode cX1_fight 44 = .ok (.aload_n 0, 1) := by decide +kernel
theorem dX1_fight_45 : decode cX1_fight 45 = .ok (.iload_n 2, 1) := by decide +kernel
theorem dX1_fight_46 : decode cX1_fight 46 = .ok (.invokevirtual 111, 3) := by decide +kernel
theorem dX1_fight_49 : decode cX1_fight 49 = .ok (.return_, 1) := by decide +kernel
theorem dX1_couldPay_0 : decode cX1_couldPay 0 = .ok (.aload_n 0, 1) := by decide +kernel
theorem dX1_couldPay_1 : decode cX1_couldPay 1 = .ok (.iload_n 1, 1) := by decide +kernel
theorem dX1_couldPay_2 : decode cX1_couldPay 2 = .ok (.invokevirtual 59, 3) := by decide +kernel
theorem dX1_couldPay_5 : decode cX1_couldPay 5 = .ok (.ifCond .ne 25, 3) := by decide +kernel
theorem dX1_couldPay_8 : decode cX1_couldPay 8 = .ok (.aload_n 0, 1) := by decide +kernel
theorem dX1_couldPay_9 : decode cX1_couldPay 9 = .ok (.iload_n 2, 1) := by decide +kernel
theorem dX1_couldPay_10 : decode cX1_couldPay 10 = .ok (.invokevirtual 59, 3) := by decide +kernel
theorem dX1_couldPay_13 : decode cX1_couldPay 13 = .ok (.ifCond .ne 17, 3) := by decide +kernel
theorem dX1_couldPay_16 : decode cX1_couldPay 16 = .ok (.aload_n 0, 1) := by decide +kernel
theorem dX1_couldPay_17 : decode cX1_couldPay 17 = .ok (.iload_n 1, 1) := by decide +kernel
theorem dX1_couldPay_18 : decode cX1_couldPay 18 = .ok (.iload_n 2, 1) := by decide +kernel
theorem dX1_couldPay_19 : decode cX1_couldPay 19 = .ok (.invokevirtual 51, 3) := by decide +kernel
theorem dX1_couldPay_22 : decode cX1_couldPay 22 = .ok (.iload_n 3, 1) := by decide +kernel
theorem dX1_couldPay_23 : decode cX1_couldPay 23 = .ok (.if_icmp .lt 7, 3) := by decide +kernel
theorem dX1_couldPay_26 : decode cX1_couldPay 26 = .ok (.iconst 1, 1) := by decide +kernel
theorem dX1_couldPay_27 : decode cX1_couldPay 27 = .ok (.goto 4, 3) := by decide +kernel
theorem dX1_couldPay_30 : decode cX1_couldPay 30 = .ok (.iconst 0, 1) := by decide +kernel
theorem dX1_couldPay_31 : decode cX1_couldPay 31 = .ok (.ireturn, 1) := by decide +kernel
theorem dX1_payBack_0 : decode cX1_payBack 0 = .ok (.aload_n 0, 1) := by decide +kernel
theorem dX1_payBack_1 : decode cX1_payBack 1 = .ok (.getfield 13, 3) := by decide +kernel
theorem dX1_payBack_4 : decode cX1_payBack 4 = .ok (.bipush 28, 2) := by decide +kernel
theorem dX1_payBack_6 : decode cX1_payBack 6 = .ok (.iload_n 1, 1) := by decide +kernel
theorem dX1_payBack_7 : decode cX1_payBack 7 = .ok (.bipush 6, 2) := by decide +kernel
theorem dX1_payBack_9 : decode cX1_payBack 9 = .ok (.imul, 1) := by decide +kernel
theorem dX1_payBack_10 : decode cX1_payBack 10 = .ok (.iadd, 1) := by decide +kernel
theorem dX1_payBack_11 : decode cX1_payBack 11 = .ok (.iload_n 2, 1) := by decide +kernel
theorem dX1_payBack_12 : decode cX1_payBack 12 = .ok (.iadd, 1) := by decide +kernel
theorem dX1_payBack_13 : decode cX1_payBack 13 = .ok (.dup2, 1) := by decide +kernel
theorem dX1_payBack_14 : decode cX1_payBack 14 = .ok (.iaload, 1) := by decide +kernel
theorem dX1_payBack_15 : decode cX1_payBack 15 = .ok (.iload_n 3, 1) := by decide +kernel
theorem dX1_payBack_16 : decode cX1_payBack 16 = .ok (.isub, 1) := by decide +kernel
theorem dX1_payBack_17 : decode cX1_payBack 17 = .ok (.iastore, 1) := by decide +kernel
theorem dX1_payBack_18 : decode cX1_payBack 18 = .ok (.return_, 1) := by decide +kernel
theorem dX1_passDay_0 : decode cX1_passDay 0 = .ok (.iconst 0, 1) := by decide +kernel
theorem dX1_passDay_1 : decode cX1_passDay 1 = .ok (.istore_n 1, 1) := by decide +kernel
theorem dX1_passDay_2 : decode cX1_passDay 2 = .ok (.iload_n 1, 1) := by decide +kernel
theorem dX1_passDay_3 : decode cX1_passDay 3 = .ok (.aload_n 0, 1) := by decide +kernel
theorem dX1_passDay_4 : decode cX1_passDay 4 = .ok (.getfield 24, 3) := by decide +kernel
theorem dX1_passDay_7 : decode cX1_passDay 7 = .ok (.getfield 32, 3) := by decide +kernel
theorem dX1_passDay_10 : decode cX1_passDay 10 = .ok (.if_icmp .ge 42, 3) := by decide +kernel
theorem dX1_passDay_13 : decode cX1_passDay 13 = .ok (.aload_n 0, 1) := by decide +kernel
theorem dX1_passDay_14 : decode cX1_passDay 14 = .ok (.getfield 13, 3) := by decide +kernel
theorem dX1_passDay_17 : decode cX1_passDay 17 = .ok (.iconst 2, 1) := by decide +kernel
theorem dX1_passDay_18 : decode cX1_passDay 18 = .ok (.iaload, 1) := by decide +kernel
theorem dX1_passDay_19 : decode cX1_passDay 19 = .ok (.aload_n 0, 1) := by decide +kernel
theorem dX1_passDay_20 : decode cX1_passDay 20 = .ok (.getfield 13, 3) := by decide +kernel
theorem dX1_passDay_23 : decode cX1_passDay 23 = .ok (.iconst 3, 1) := by decide +kernel
theorem dX1_passDay_24 : decode cX1_passDay 24 = .ok (.iaload, 1) := by decide +kernel
theorem dX1_passDay_25 : decode cX1_passDay 25 = .ok (.ior, 1) := by decide +kernel
theorem dX1_passDay_26 : decode cX1_passDay 26 = .ok (.iload_n 1, 1) := by decide +kernel
theorem dX1_passDay_27 : decode cX1_passDay 27 = .ok (.invokestatic 120, 3) := by decide +kernel
theorem dX1_passDay_30 : decode cX1_passDay 30 = .ok (.ifCond .ne 16, 3) := by decide +kernel
theorem dX1_passDay_33 : decode cX1_passDay 33 = .ok (.aload_n 0, 1) := by decide +kernel
theorem dX1_passDay_34 : decode cX1_passDay 34 = .ok (.getfield 13, 3) := by decide +kernel
theorem dX1_passDay_37 : decode cX1_passDay 37 = .ok (.bipush 16, 2) := by decide +kernel
theorem dX1_passDay_39 : decode cX1_passDay 39 = .ok (.iload_n 1, 1) := by decide +kernel
theorem dX1_passDay_40 : decode cX1_passDay 40 = .ok (.iadd, 1) := by decide +kernel
theorem dX1_passDay_41 : decode cX1_passDay 41 = .ok (.dup2, 1) := by decide +kernel
theorem dX1_passDay_42 : decode cX1_passDay 42 = .ok (.iaload, 1) := by decide +kernel
theorem dX1_passDay_43 : decode cX1_passDay 43 = .ok (.iconst 1, 1) := by decide +kernel
theorem dX1_passDay_44 : decode cX1_passDay 44 = .ok (.iadd, 1) := by decide +kernel
theorem dX1_passDay_45 : decode cX1_passDay 45 = .ok (.iastore, 1) := by decide +kernel
theorem dX1_passDay_46 : decode cX1_passDay 46 = .ok (.iinc 1 1, 3) := by decide +kernel
theorem dX1_passDay_49 : decode cX1_passDay 49 = .ok (.goto (-47), 3) := by decide +kernel
theorem dX1_passDay_52 : decode cX1_passDay 52 = .ok (.aload_n 0, 1) := by decide +kernel
theorem dX1_passDay_53 : decode cX1_passDay 53 = .ok (.getfield 13, 3) := by decide +kernel
theorem dX1_passDay_56 : decode cX1_passDay 56 = .ok (.iconst 3, 1) := by decide +kernel
theorem dX1_passDay_57 : decode cX1_passDay 57 = .ok (.iconst 0, 1) := by decide +kernel
theorem dX1_passDay_58 : decode cX1_passDay 58 = .ok (.iastore, 1) := by decide +kernel
theorem dX1_passDay_59 : decode cX1_passDay 59 = .ok (.aload_n 0, 1) := by decide +kernel
theorem dX1_passDay_60 : decode cX1_passDay 60 = .ok (.getfield 13, 3) := by decide +kernel
theorem dX1_passDay_63 : decode cX1_passDay 63 = .ok (.iconst 0, 1) := by decide +kernel
theorem dX1_passDay_64 : decode cX1_passDay 64 = .ok (.dup2, 1) := by decide +kernel
theorem dX1_passDay_65 : decode cX1_passDay 65 = .ok (.iaload, 1) := by decide +kernel
theorem dX1_passDay_66 : decode cX1_passDay 66 = .ok (.iconst 1, 1) := by decide +kernel
theorem dX1_passDay_67 : decode cX1_passDay 67 = .ok (.iadd, 1) := by decide +kernel
theorem dX1_passDay_68 : decode cX1_passDay 68 = .ok (.iastore, 1) := by decide +kernel
theorem dX1_passDay_69 : decode cX1_passDay 69 = .ok (.aload_n 0, 1) := by decide +kernel
theorem dX1_passDay_70 : decode cX1_passDay 70 = .ok (.getfield 13, 3) := by decide +kernel
theorem dX1_passDay_73 : decode cX1_passDay 73 = .ok (.iconst 0, 1) := by decide +kernel
theorem dX1_passDay_74 : decode cX1_passDay 74 = .ok (.iaload, 1) := by decide +kernel
theorem dX1_passDay_75 : decode cX1_passDay 75 = .ok (.bipush 31, 2) := by decide +kernel
theorem dX1_passDay_77 : decode cX1_passDay 77 = .ok (.if_icmp .le 24, 3) := by decide +kernel
theorem dX1_passDay_80 : decode cX1_passDay 80 = .ok (.aload_n 0, 1) := by decide +kernel
theorem dX1_passDay_81 : decode cX1_passDay 81 = .ok (.invokevirtual 124, 3) := by decide +kernel
theorem dX1_passDay_84 : decode cX1_passDay 84 = .ok (.aload_n 0, 1) := by decide +kernel
theorem dX1_passDay_85 : decode cX1_passDay 85 = .ok (.getfield 13, 3) := by decide +kernel
theorem dX1_passDay_88 : decode cX1_passDay 88 = .ok (.iconst 0, 1) := by decide +kernel
theorem dX1_passDay_89 : decode cX1_passDay 89 = .ok (.iconst 1, 1) := by decide +kernel
theorem dX1_passDay_90 : decode cX1_passDay 90 = .ok (.iastore, 1) := by decide +kernel
theorem dX1_passDay_91 : decode cX1_passDay 91 = .ok (.aload_n 0, 1) := by decide +kernel
theorem dX1_passDay_92 : decode cX1_passDay 92 = .ok (.getfield 13, 3) := by decide +kernel
theorem dX1_passDay_95 : decode cX1_passDay 95 = .ok (.iconst 1, 1) := by decide +kernel
theorem dX1_passDay_96 : decode cX1_passDay 96 = .ok (.dup2, 1) := by decide +kernel
theorem dX1_passDay_97 : decode cX1_passDay 97 = .ok (.iaload, 1) := by decide +kernel
theorem dX1_passDay_98 : decode cX1_passDay 98 = .ok (.iconst 1, 1) := by decide +kernel
theorem dX1_passDay_99 : decode cX1_passDay 99 = .ok (.iadd, 1) := by decide +kernel
theorem dX1_passDay_100 : decode cX1_passDay 100 = .ok (.iastore, 1) := by decide +kernel
theorem dX1_passDay_101 : decode cX1_passDay 101 = .ok (.return_, 1) := by decide +kernel
theorem dX1_strike_0 : decode cX1_strike 0 = .ok (.aload_n 0, 1) := by decide +kernel
theorem dX1_strike_1 : decode cX1_strike 1 = .ok (.invokevirtual 127, 3) := by decide +kernel
theorem dX1_strike_4 : decode cX1_strike 4 = .ok (.istore_n 1, 1) := by decide +kernel
theorem dX1_strike_5 : decode cX1_strike 5 = .ok (.iconst 0, 1) := by decide +kernel
theorem dX1_strike_6 : decode cX1_strike 6 = .ok (.istore_n 2, 1) := by decide +kernel
theorem dX1_strike_7 : decode cX1_strike 7 = .ok (.iload_n 2, 1) := by decide +kernel
theorem dX1_strike_8 : decode cX1_strike 8 = .ok (.aload_n 0, 1) := by decide +kernel
theorem dX1_strike_9 : decode cX1_strike 9 = .ok (.getfield 24, 3) := by decide +kernel
theorem dX1_strike_12 : decode cX1_strike 12 = .ok (.getfield 32, 3) := by decide +kernel
theorem dX1_strike_15 : decode cX1_strike 15 = .ok (.if_icmp .ge 65, 3) := by decide +kernel
theorem dX1_strike_18 : decode cX1_strike 18 = .ok (.iload_n 1, 1) := by decide +kernel
theorem dX1_strike_19 : decode cX1_strike 19 = .ok (.iload_n 2, 1) := by decide +kernel
theorem dX1_strike_20 : decode cX1_strike 20 = .ok (.invokestatic 120, 3) := by decide +kernel
theorem dX1_strike_23 : decode cX1_strike 23 = .ok (.ifCond .eq 23, 3) := by decide +kernel
theorem dX1_strike_26 : decode cX1_strike 26 = .ok (.aload_n 0, 1) := by decide +kernel
theorem dX1_strike_27 : decode cX1_strike 27 = .ok (.getfield 13, 3) := by decide +kernel
theorem dX1_strike_30 : decode cX1_strike 30 = .ok (.iconst 2, 1) := by decide +kernel
theorem dX1_strike_31 : decode cX1_strike 31 = .ok (.dup2, 1) := by decide +kernel
theorem dX1_strike_32 : decode cX1_strike 32 = .ok (.iaload, 1) := by decide +kernel
theorem dX1_strike_33 : decode cX1_strike 33 = .ok (.iconst 1, 1) := by decide +kernel
theorem dX1_strike_34 : decode cX1_strike 34 = .ok (.iload_n 2, 1) := by decide +kernel
theorem dX1_strike_35 : decode cX1_strike 35 = .ok (.ishl, 1) := by decide +kernel
theorem dX1_strike_36 : decode cX1_strike 36 = .ok (.ior, 1) := by decide +kernel
theorem dX1_strike_37 : decode cX1_strike 37 = .ok (.iastore, 1) := by decide +kernel
theorem dX1_strike_38 : decode cX1_strike 38 = .ok (.aload_n 0, 1) := by decide +kernel
theorem dX1_strike_39 : decode cX1_strike 39 = .ok (.iload_n 2, 1) := by decide +kernel
theorem dX1_strike_40 : decode cX1_strike 40 = .ok (.invokevirtual 130, 3) := by decide +kernel
theorem dX1_strike_43 : decode cX1_strike 43 = .ok (.goto 31, 3) := by decide +kernel
theorem dX1_strike_46 : decode cX1_strike 46 = .ok (.aload_n 0, 1) := by decide +kernel
theorem dX1_strike_47 : decode cX1_strike 47 = .ok (.getfield 13, 3) := by decide +kernel
theorem dX1_strike_50 : decode cX1_strike 50 = .ok (.bipush 10, 2) := by decide +kernel
theorem dX1_strike_52 : decode cX1_strike 52 = .ok (.iload_n 2, 1) := by decide +kernel
theorem dX1_strike_53 : decode cX1_strike 53 = .ok (.iadd, 1) := by decide +kernel
theorem dX1_strike_54 : decode cX1_strike 54 = .ok (.aload_n 0, 1) := by decide +kernel
theorem dX1_strike_55 : decode cX1_strike 55 = .ok (.getfield 24, 3) := by decide +kernel
theorem dX1_strike_58 : decode cX1_strike 58 = .ok (.getfield 39, 3) := by decide +kernel
theorem dX1_strike_61 : decode cX1_strike 61 = .ok (.iload_n 2, 1) := by decide +kernel
theorem dX1_strike_62 : decode cX1_strike 62 = .ok (.iaload, 1) := by decide +kernel
theorem dX1_strike_63 : decode cX1_strike 63 = .ok (.iastore, 1) := by decide +kernel
theorem dX1_strike_64 : decode cX1_strike 64 = .ok (.aload_n 0, 1) := by decide +kernel
theorem dX1_strike_65 : decode cX1_strike 65 = .ok (.getfield 13, 3) := by decide +kernel
theorem dX1_strike_68 : decode cX1_strike 68 = .ok (.bipush 16, 2) := by decide +kernel
theorem dX1_strike_70 : decode cX1_strike 70 = .ok (.iload_n 2, 1) := by decide +kernel
theorem dX1_strike_71 : decode cX1_strike 71 = .ok (.iadd, 1) := by decide +kernel
theorem dX1_strike_72 : decode cX1_strike 72 = .ok (.iconst 0, 1) := by decide +kernel
theorem dX1_strike_73 : decode cX1_strike 73 = .ok (.iastore, 1) := by decide +kernel
theorem dX1_strike_74 : decode cX1_strike 74 = .ok (.iinc 2 1, 3) := by decide +kernel
theorem dX1_strike_77 : decode cX1_strike 77 = .ok (.goto (-70), 3) := by decide +kernel
theorem dX1_strike_80 : decode cX1_strike 80 = .ok (.return_, 1) := by decide +kernel
theorem dX1_endangered_0 : decode cX1_endangered 0 = .ok (.iconst 0, 1) := by decide +kernel
theorem dX1_endangered_1 : decode cX1_endangered 1 = .ok (.istore_n 1, 1) := by decide +kernel
theorem dX1_endangered_2 : decode cX1_endangered 2 = .ok (.iconst 0, 1) := by decide +kernel
theorem dX1_endangered_3 : decode cX1_endangered 3 = .ok (.istore_n 2, 1) := by decide +kernel
theorem dX1_endangered_4 : decode cX1_endangered 4 = .ok (.iload_n 2, 1) := by decide +kernel
theorem dX1_endangered_5 : decode cX1_endangered 5 = .ok (.aload_n 0, 1) := by decide +kernel
theorem dX1_endangered_6 : decode cX1_endangered 6 = .ok (.getfield 24, 3) := by decide +kernel
theorem dX1_endangered_9 : decode cX1_endangered 9 = .ok (.getfield 32, 3) := by decide +kernel
theorem dX1_endangered_12 : decode cX1_endangered 12 = .ok (.if_icmp .ge 47, 3) := by decide +kernel
theorem dX1_endangered_15 : decode cX1_endangered 15 = .ok (.aload_n 0, 1) := by decide +kernel
theorem dX1_endangered_16 : decode cX1_endangered 16 = .ok (.iload_n 2, 1) := by decide +kernel
theorem dX1_endangered_17 : decode cX1_endangered 17 = .ok (.invokevirtual 59, 3) := by decide +kernel
theorem dX1_endangered_20 : decode cX1_endangered 20 = .ok (.ifCond .ne 33, 3) := by decide +kernel
theorem dX1_endangered_23 : decode cX1_endangered 23 = .ok (.aload_n 0, 1) := by decide +kernel
theorem dX1_endangered_24 : decode cX1_endangered 24 = .ok (.getfield 24, 3) := by decide +kernel
theorem dX1_endangered_27 : decode cX1_endangered 27 = .ok (.aload_n 0, 1) := by decide +kernel
theorem dX1_endangered_28 : decode cX1_endangered 28 = .ok (.iload_n 2, 1) := by decide +kernel
theorem dX1_endangered_29 : decode cX1_endangered 29 = .ok (.invokevirtual 63, 3) := by decide +kernel
theorem dX1_endangered_32 : decode cX1_endangered 32 = .ok (.invokevirtual 133, 3) := by decide +kernel
theorem dX1_endangered_35 : decode cX1_endangered 35 = .ok (.ifCond .ne 18, 3) := by decide +kernel
theorem dX1_endangered_38 : decode cX1_endangered 38 = .ok (.aload_n 0, 1) := by decide +kernel
theorem dX1_endangered_39 : decode cX1_endangered 39 = .ok (.iload_n 2, 1) := by decide +kernel
theorem dX1_endangered_40 : decode cX1_endangered 40 = .ok (.invokevirtual 77, 3) := by decide +kernel
theorem dX1_endangered_43 : decode cX1_endangered 43 = .ok (.iconst 3, 1) := by decide +kernel
theorem dX1_endangered_44 : decode cX1_endangered 44 = .ok (.if_icmp .ge 9, 3) := by decide +kernel
theorem dX1_endangered_47 : decode cX1_endangered 47 = .ok (.iload_n 1, 1) := by decide +kernel
theorem dX1_endangered_48 : decode cX1_endangered 48 = .ok (.iconst 1, 1) := by decide +kernel
theorem dX1_endangered_49 : decode cX1_endangered 49 = .ok (.iload_n 2, 1) := by decide +kernel
theorem dX1_endangered_50 : decode cX1_endangered 50 = .ok (.ishl, 1) := by decide +kernel
theorem dX1_endangered_51 : decode cX1_endangered 51 = .ok (.ior, 1) := by decide +kernel
theorem dX1_endangered_52 : decode cX1_endangered 52 = .ok (.istore_n 1, 1) := by decide +kernel
theorem dX1_endangered_53 : decode cX1_endangered 53 = .ok (.iinc 2 1, 3) := by decide +kernel
theorem dX1_endangered_56 : decode cX1_endangered 56 = .ok (.goto (-52), 3) := by decide +kernel
theorem dX1_endangered_59 : decode cX1_endangered 59 = .ok (.iload_n 1, 1) := by decide +kernel
theorem dX1_endangered_60 : decode cX1_endangered 60 = .ok (.ireturn, 1) := by decide +kernel
theorem dX1_dropDebts_0 : decode cX1_dropDebts 0 = .ok (.iconst 0, 1) := by decide +kernel
theorem dX1_dropDebts_1 : decode cX1_dropDebts 1 = .ok (.istore_n 2, 1) := by decide +kernel
theorem dX1_dropDebts_2 : decode cX1_dropDebts 2 = .ok (.iload_n 2, 1) := by decide +kernel
theorem dX1_dropDebts_3 : decode cX1_dropDebts 3 = .ok (.aload_n 0, 1) := by decide +kernel
theorem dX1_dropDebts_4 : decode cX1_dropDebts 4 = .ok (.getfield 24, 3) := by decide +kernel
theorem dX1_dropDebts_7 : decode cX1_dropDebts 7 = .ok (.getfield 32, 3) := by decide +kernel
theorem dX1_dropDebts_10 : decode cX1_dropDebts 10 = .ok (.if_icmp .ge 39, 3) := by decide +kernel
theorem dX1_dropDebts_13 : decode cX1_dropDebts 13 = .ok (.aload_n 0, 1) := by decide +kernel
theorem dX1_dropDebts_14 : decode cX1_dropDebts 14 = .ok (.getfield 13, 3) := by decide +kernel
theorem dX1_dropDebts_17 : decode cX1_dropDebts 17 = .ok (.bipush 28, 2) := by decide +kernel
theorem dX1_dropDebts_19 : decode cX1_dropDebts 19 = .ok (.iload_n 1, 1) := by decide +kernel
theorem dX1_dropDebts_20 : decode cX1_dropDebts 20 = .ok (.bipush 6, 2) := by decide +kernel
theorem dX1_dropDebts_22 : decode cX1_dropDebts 22 = .ok (.imul, 1) := by decide +kernel
theorem dX1_dropDebts_23 : decode cX1_dropDebts 23 = .ok (.iadd, 1) := by decide +kernel
theorem dX1_dropDebts_24 : decode cX1_dropDebts 24 = .ok (.iload_n 2, 1) := by decide +kernel
theorem dX1_dropDebts_25 : decode cX1_dropDebts 25 = .ok (.iadd, 1) := by decide +kernel
theorem dX1_dropDebts_26 : decode cX1_dropDebts 26 = .ok (.iconst 0, 1) := by decide +kernel
theorem dX1_dropDebts_27 : decode cX1_dropDebts 27 = .ok (.iastore, 1) := by decide +kernel
theorem dX1_dropDebts_28 : decode cX1_dropDebts 28 = .ok (.aload_n 0, 1) := by decide +kernel
theorem dX1_dropDebts_29 : decode cX1_dropDebts 29 = .ok (.getfield 13, 3) := by decide +kernel
theorem dX1_dropDebts_32 : decode cX1_dropDebts 32 = .ok (.bipush 28, 2) := by decide +kernel
theorem dX1_dropDebts_34 : decode cX1_dropDebts 34 = .ok (.iload_n 2, 1) := by decide +kernel
theorem dX1_dropDebts_35 : decode cX1_dropDebts 35 = .ok (.bipush 6, 2) := by decide +kernel
theorem dX1_dropDebts_37 : decode cX1_dropDebts 37 = .ok (.imul, 1) := by decide +kernel
theorem dX1_dropDebts_38 : decode cX1_dropDebts 38 = .ok (.iadd, 1) := by decide +kernel
theorem dX1_dropDebts_39 : decode cX1_dropDebts 39 = .ok (.iload_n 1, 1) := by decide +kernel
theorem dX1_dropDebts_40 : decode cX1_dropDebts 40 = .ok (.iadd, 1) := by decide +kernel
theorem dX1_dropDebts_41 : decode cX1_dropDebts 41 = .ok (.iconst 0, 1) := by decide +kernel
theorem dX1_dropDebts_42 : decode cX1_dropDebts 42 = .ok (.iastore, 1) := by decide +kernel
theorem dX1_dropDebts_43 : decode cX1_dropDebts 43 = .ok (.iinc 2 1, 3) := by decide +kernel
theorem dX1_dropDebts_46 : decode cX1_dropDebts 46 = .ok (.goto (-44), 3) := by decide +kernel
theorem dX1_dropDebts_49 : decode cX1_dropDebts 49 = .ok (.return_, 1) := by decide +kernel
theorem dX1_drawDays_0 : decode cX1_drawDays 0 = .ok (.iload_n 1, 1) := by decide +kernel
theorem dX1_drawDays_1 : decode cX1_drawDays 1 = .ok (.istore_n 3, 1) := by decide +kernel
theorem dX1_drawDays_2 : decode cX1_drawDays 2 = .ok (.iconst 0, 1) := by decide +kernel
theorem dX1_drawDays_3 : decode cX1_drawDays 3 = .ok (.istore 4, 2) := by decide +kernel
theorem dX1_drawDays_5 : decode cX1_drawDays 5 = .ok (.iconst 0, 1) := by decide +kernel
theorem dX1_drawDays_6 : decode cX1_drawDays 6 = .ok (.istore 5, 2) := by decide +kernel
theorem dX1_drawDays_8 : decode cX1_drawDays 8 = .ok (.iload 5, 2) := by decide +kernel
theorem dX1_drawDays_10 : decode cX1_drawDays 10 = .ok (.iload_n 2, 1) := by decide +kernel
theorem dX1_drawDays_11 : decode cX1_drawDays 11 = .ok (.if_icmp .ge 103, 3) := by decide +kernel
theorem dX1_drawDays_14 : decode cX1_drawDays 14 = .ok (.aload_n 0, 1) := by decide +kernel
theorem dX1_drawDays_15 : decode cX1_drawDays 15 = .ok (.getfield 24, 3) := by decide +kernel
theorem dX1_drawDays_18 : decode cX1_drawDays 18 = .ok (.getfield 32, 3) := by decide +kernel
theorem dX1_drawDays_21 : decode cX1_drawDays 21 = .ok (.ifCond .le 83, 3) := by decide +kernel
theorem dX1_drawDays_24 : decode cX1_drawDays 24 = .ok (.aload_n 0, 1) := by decide +kernel
theorem dX1_drawDays_25 : decode cX1_drawDays 25 = .ok (.getfield 24, 3) := by decide +kernel
theorem dX1_drawDays_28 : decode cX1_drawDays 28 = .ok (.getfield 136, 3) := by decide +kernel
theorem dX1_drawDays_31 : decode cX1_drawDays 31 = .ok (.ifCond .le 73, 3) := by decide +kernel
theorem dX1_drawDays_34 : decode cX1_drawDays 34 = .ok (.iload_n 3, 1) := by decide +kernel
theorem dX1_drawDays_35 : decode cX1_drawDays 35 = .ok (.invokestatic 139, 3) := by decide +kernel
theorem dX1_drawDays_38 : decode cX1_drawDays 38 = .ok (.istore_n 3, 1) := by decide +kernel
theorem dX1_drawDays_39 : decode cX1_drawDays 39 = .ok (.iload_n 3, 1) := by decide +kernel
theorem dX1_drawDays_40 : decode cX1_drawDays 40 = .ok (.invokestatic 142, 3) := by decide +kernel
theorem dX1_drawDays_43 : decode cX1_drawDays 43 = .ok (.aload_n 0, 1) := by decide +kernel
theorem dX1_drawDays_44 : decode cX1_drawDays 44 = .ok (.getfield 24, 3) := by decide +kernel
theorem dX1_drawDays_47 : decode cX1_drawDays 47 = .ok (.getfield 32, 3) := by decide +kernel
theorem dX1_drawDays_50 : decode cX1_drawDays 50 = .ok (.irem, 1) := by decide +kernel
theorem dX1_drawDays_51 : decode cX1_drawDays 51 = .ok (.istore 6, 2) := by decide +kernel
theorem dX1_drawDays_53 : decode cX1_drawDays 53 = .ok (.iload_n 3, 1) := by decide +kernel
theorem dX1_drawDays_54 : decode cX1_drawDays 54 = .ok (.invokestatic 139, 3) := by decide +kernel
theorem dX1_drawDays_57 : decode cX1_drawDays 57 = .ok (.istore_n 3, 1) := by decide +kernel
theorem dX1_drawDays_58 : decode cX1_drawDays 58 = .ok (.iload 4, 2) := by decide +kernel
theorem dX1_drawDays_60 : decode cX1_drawDays 60 = .ok (.aload_n 0, 1) := by decide +kernel
theorem dX1_drawDays_61 : decode cX1_drawDays 61 = .ok (.iload 6, 2) := by decide +kernel
theorem dX1_drawDays_63 : decode cX1_drawDays 63 = .ok (.iload_n 3, 1) := by decide +kernel
theorem dX1_drawDays_64 : decode cX1_drawDays 64 = .ok (.invokestatic 142, 3) := by decide +kernel
theorem dX1_drawDays_67 : decode cX1_drawDays 67 = .ok (.aload_n 0, 1) := by decide +kernel
theorem dX1_drawDays_68 : decode cX1_drawDays 68 = .ok (.getfield 24, 3) := by decide +kernel
theorem dX1_drawDays_71 : decode cX1_drawDays 71 = .ok (.getfield 136, 3) := by decide +kernel
theorem dX1_drawDays_74 : decode cX1_drawDays 74 = .ok (.irem, 1) := by decide +kernel
theorem dX1_drawDays_75 : decode cX1_drawDays 75 = .ok (.invokevirtual 145, 3) := by decide +kernel
theorem dX1_drawDays_78 : decode cX1_drawDays 78 = .ok (.iadd, 1) := by decide +kernel
theorem dX1_drawDays_79 : decode cX1_drawDays 79 = .ok (.istore 4, 2) := by decide +kernel
theorem dX1_drawDays_81 : decode cX1_drawDays 81 = .ok (.iload_n 3, 1) := by decide +kernel
theorem dX1_drawDays_82 : decode cX1_drawDays 82 = .ok (.invokestatic 139, 3) := by decide +kernel
theorem dX1_drawDays_85 : decode cX1_drawDays 85 = .ok (.istore_n 3, 1) := by decide +kernel
theorem dX1_drawDays_86 : decode cX1_drawDays 86 = .ok (.aload_n 0, 1) := by decide +kernel
theorem dX1_drawDays_87 : decode cX1_drawDays 87 = .ok (.iload 6, 2) := by decide +kernel
theorem dX1_drawDays_89 : decode cX1_drawDays 89 = .ok (.iload_n 3, 1) := by decide +kernel
theorem dX1_drawDays_90 : decode cX1_drawDays 90 = .ok (.invokestatic 142, 3) := by decide +kernel
theorem dX1_drawDays_93 : decode cX1_drawDays 93 = .ok (.aload_n 0, 1) := by decide +kernel
theorem dX1_drawDays_94 : decode cX1_drawDays 94 = .ok (.getfield 24, 3) := by decide +kernel
theorem dX1_drawDays_97 : decode cX1_drawDays 97 = .ok (.getfield 32, 3) := by decide +kernel
theorem dX1_drawDays_100 : decode cX1_drawDays 100 = .ok (.irem, 1) := by decide +kernel
theorem dX1_drawDays_101 : decode cX1_drawDays 101 = .ok (.invokevirtual 148, 3) := by decide +kernel
theorem dX1_drawDays_104 : decode cX1_drawDays 104 = .ok (.aload_n 0, 1) := by decide +kernel
theorem dX1_drawDays_105 : decode cX1_drawDays 105 = .ok (.invokevirtual 152, 3) := by decide +kernel
theorem dX1_drawDays_108 : decode cX1_drawDays 108 = .ok (.iinc 5 1, 3) := by decide +kernel
theorem dX1_drawDays_111 : decode cX1_drawDays 111 = .ok (.goto (-103), 3) := by decide +kernel
theorem dX1_drawDays_114 : decode cX1_drawDays 114 = .ok (.iload 4, 2) := by decide +kernel
theorem dX1_drawDays_116 : decode cX1_drawDays 116 = .ok (.ireturn, 1) := by decide +kernel
theorem dX1_leapIfAllowed_0 : decode cX1_leapIfAllowed 0 = .ok (.aload_n 0, 1) := by decide +kernel
theorem dX1_leapIfAllowed_1 : decode cX1_leapIfAllowed 1 = .ok (.iload_n 1, 1) := by decide +kernel
theorem dX1_leapIfAllowed_2 : decode cX1_leapIfAllowed 2 = .ok (.iload_n 2, 1) := by decide +kernel
theorem dX1_leapIfAllowed_3 : decode cX1_leapIfAllowed 3 = .ok (.invokevirtual 155, 3) := by decide +kernel
theorem dX1_leapIfAllowed_6 : decode cX1_leapIfAllowed 6 = .ok (.ifCond .ne 5, 3) := by decide +kernel
theorem dX1_leapIfAllowed_9 : decode cX1_leapIfAllowed 9 = .ok (.iconst 0, 1) := by decide +kernel
theorem dX1_leapIfAllowed_10 : decode cX1_leapIfAllowed 10 = .ok (.ireturn, 1) := by decide +kernel
theorem dX1_leapIfAllowed_11 : decode cX1_leapIfAllowed 11 = .ok (.aload_n 0, 1) := by decide +kernel
theorem dX1_leapIfAllowed_12 : decode cX1_leapIfAllowed 12 = .ok (.iload_n 1, 1) := by decide +kernel
theorem dX1_leapIfAllowed_13 : decode cX1_leapIfAllowed 13 = .ok (.iload_n 2, 1) := by decide +kernel
theorem dX1_leapIfAllowed_14 : decode cX1_leapIfAllowed 14 = .ok (.invokevirtual 158, 3) := by decide +kernel
theorem dX1_leapIfAllowed_17 : decode cX1_leapIfAllowed 17 = .ok (.iconst 1, 1) := by decide +kernel
theorem dX1_leapIfAllowed_18 : decode cX1_leapIfAllowed 18 = .ok (.ireturn, 1) := by decide +kernel
theorem dX1_fightIfAllowed_0 : decode cX1_fightIfAllowed 0 = .ok (.aload_n 0, 1) := by decide +kernel
theorem dX1_fightIfAllowed_1 : decode cX1_fightIfAllowed 1 = .ok (.iload_n 1, 1) := by decide +kernel
theorem dX1_fightIfAllowed_2 : decode cX1_fightIfAllowed 2 = .ok (.iload_n 2, 1) := by decide +kernel
theorem dX1_fightIfAllowed_3 : decode cX1_fightIfAllowed 3 = .ok (.invokevirtual 161, 3) := by decide +kernel
theorem dX1_fightIfAllowed_6 : decode cX1_fightIfAllowed 6 = .ok (.ifCond .eq 9, 3) := by decide +kernel
theorem dX1_fightIfAllowed_9 : decode cX1_fightIfAllowed 9 = .ok (.aload_n 0, 1) := by decide +kernel
theorem dX1_fightIfAllowed_10 : decode cX1_fightIfAllowed 10 = .ok (.iload_n 1, 1) := by decide +kernel
theorem dX1_fightIfAllowed_11 : decode cX1_fightIfAllowed 11 = .ok (.iload_n 2, 1) := by decide +kernel
theorem dX1_fightIfAllowed_12 : decode cX1_fightIfAllowed 12 = .ok (.invokevirtual 164, 3) := by decide +kernel
theorem dX1_fightIfAllowed_15 : decode cX1_fightIfAllowed 15 = .ok (.return_, 1) := by decide +kernel
theorem dX1_nextSeed_0 : decode cX1_nextSeed 0 = .ok (.iload_n 0, 1) := by decide +kernel
theorem dX1_nextSeed_1 : decode cX1_nextSeed 1 = .ok (.ldc 167, 2) := by decide +kernel
theorem dX1_nextSeed_3 : decode cX1_nextSeed 3 = .ok (.imul, 1) := by decide +kernel
theorem dX1_nextSeed_4 : decode cX1_nextSeed 4 = .ok (.sipush 12345, 3) := by decide +kernel
theorem dX1_nextSeed_7 : decode cX1_nextSeed 7 = .ok (.iadd, 1) := by decide +kernel
theorem dX1_nextSeed_8 : decode cX1_nextSeed 8 = .ok (.ireturn, 1) := by decide +kernel
theorem dX1_drawnBits_0 : decode cX1_drawnBits 0 = .ok (.iload_n 0, 1) := by decide +kernel
theorem dX1_drawnBits_1 : decode cX1_drawnBits 1 = .ok (.bipush 16, 2) := by decide +kernel
theorem dX1_drawnBits_3 : decode cX1_drawnBits 3 = .ok (.iushr, 1) := by decide +kernel
theorem dX1_drawnBits_4 : decode cX1_drawnBits 4 = .ok (.sipush 32767, 3) := by decide +kernel
theorem dX1_drawnBits_7 : decode cX1_drawnBits 7 = .ok (.iand, 1) := by decide +kernel
theorem dX1_drawnBits_8 : decode cX1_drawnBits 8 = .ok (.ireturn, 1) := by decide +kernel
theorem dX1_cloverFor_0 : decode cX1_cloverFor 0 = .ok (.iconst 0, 1) := by decide +kernel
theorem dX1_cloverFor_1 : decode cX1_cloverFor 1 = .ok (.istore 4, 2) := by decide +kernel
theorem dX1_cloverFor_3 : decode cX1_cloverFor 3 = .ok (.iload 4, 2) := by decide +kernel
theorem dX1_cloverFor_5 : decode cX1_cloverFor 5 = .ok (.aload_n 0, 1) := by decide +kernel
theorem dX1_cloverFor_6 : decode cX1_cloverFor 6 = .ok (.getfield 24, 3) := by decide +kernel
theorem dX1_cloverFor_9 : decode cX1_cloverFor 9 = .ok (.getfield 32, 3) := by decide +kernel
theorem dX1_cloverFor_12 : decode cX1_cloverFor 12 = .ok (.if_icmp .ge 35, 3) := by decide +kernel
theorem dX1_cloverFor_15 : decode cX1_cloverFor 15 = .ok (.aload_n 0, 1) := by decide +kernel
theorem dX1_cloverFor_16 : decode cX1_cloverFor 16 = .ok (.getfield 17, 3) := by decide +kernel
theorem dX1_cloverFor_19 : decode cX1_cloverFor 19 = .ok (.iload 4, 2) := by decide +kernel
theorem dX1_cloverFor_21 : decode cX1_cloverFor 21 = .ok (.iload_n 2, 1) := by decide +kernel
theorem dX1_cloverFor_22 : decode cX1_cloverFor 22 = .ok (.iload 4, 2) := by decide +kernel
theorem dX1_cloverFor_24 : decode cX1_cloverFor 24 = .ok (.invokestatic 120, 3) := by decide +kernel
theorem dX1_cloverFor_27 : decode cX1_cloverFor 27 = .ok (.ifCond .eq 12, 3) := by decide +kernel
theorem dX1_cloverFor_30 : decode cX1_cloverFor 30 = .ok (.aload_n 0, 1) := by decide +kernel
theorem dX1_cloverFor_31 : decode cX1_cloverFor 31 = .ok (.iload 4, 2) := by decide +kernel
theorem dX1_cloverFor_33 : decode cX1_cloverFor 33 = .ok (.invokevirtual 80, 3) := by decide +kernel
theorem dX1_cloverFor_36 : decode cX1_cloverFor 36 = .ok (.goto 4, 3) := by decide +kernel
theorem dX1_cloverFor_39 : decode cX1_cloverFor 39 = .ok (.iconst 0, 1) := by decide +kernel
theorem dX1_cloverFor_40 : decode cX1_cloverFor 40 = .ok (.iastore, 1) := by decide +kernel
theorem dX1_cloverFor_41 : decode cX1_cloverFor 41 = .ok (.iinc 4 1, 3) := by decide +kernel
theorem dX1_cloverFor_44 : decode cX1_cloverFor 44 = .ok (.goto (-41), 3) := by decide +kernel
theorem dX1_cloverFor_47 : decode cX1_cloverFor 47 = .ok (.iconst 0, 1) := by decide +kernel
theorem dX1_cloverFor_48 : decode cX1_cloverFor 48 = .ok (.istore 4, 2) := by decide +kernel
theorem dX1_cloverFor_50 : decode cX1_cloverFor 50 = .ok (.iload 4, 2) := by decide +kernel
theorem dX1_cloverFor_52 : decode cX1_cloverFor 52 = .ok (.sipush 495, 3) := by decide +kernel
theorem dX1_cloverFor_55 : decode cX1_cloverFor 55 = .ok (.if_icmp .ge 21, 3) := by decide +kernel
theorem dX1_cloverFor_58 : decode cX1_cloverFor 58 = .ok (.aload_n 0, 1) := by decide +kernel
theorem dX1_cloverFor_59 : decode cX1_cloverFor 59 = .ok (.iload 4, 2) := by decide +kernel
theorem dX1_cloverFor_61 : decode cX1_cloverFor 61 = .ok (.iconst 1, 1) := by decide +kernel
theorem dX1_cloverFor_62 : decode cX1_cloverFor 62 = .ok (.iadd, 1) := by decide +kernel
theorem dX1_cloverFor_63 : decode cX1_cloverFor 63 = .ok (.invokevirtual 168, 3) := by decide +kernel
theorem dX1_cloverFor_66 : decode cX1_cloverFor 66 = .ok (.iload_n 3, 1) := by decide +kernel
theorem dX1_cloverFor_67 : decode cX1_cloverFor 67 = .ok (.if_icmp .gt 9, 3) := by decide +kernel
theorem dX1_cloverFor_70 : decode cX1_cloverFor 70 = .ok (.iinc 4 1, 3) := by decide +kernel
theorem dX1_cloverFor_73 : decode cX1_cloverFor 73 = .ok (.goto (-23), 3) := by decide +kernel
theorem dX1_cloverFor_76 : decode cX1_cloverFor 76 = .ok (.iload 4, 2) := by decide +kernel
theorem dX1_cloverFor_78 : decode cX1_cloverFor 78 = .ok (.aload_n 0, 1) := by decide +kernel
theorem dX1_cloverFor_79 : decode cX1_cloverFor 79 = .ok (.getfield 17, 3) := by decide +kernel
theorem dX1_cloverFor_82 : decode cX1_cloverFor 82 = .ok (.iload_n 1, 1) := by decide +kernel
theorem dX1_cloverFor_83 : decode cX1_cloverFor 83 = .ok (.iaload, 1) := by decide +kernel
theorem dX1_cloverFor_84 : decode cX1_cloverFor 84 = .ok (.invokestatic 171, 3) := by decide +kernel
theorem dX1_cloverFor_87 : decode cX1_cloverFor 87 = .ok (.ireturn, 1) := by decide +kernel
theorem dX1_givenBy_0 : decode cX1_givenBy 0 = .ok (.iconst 0, 1) := by decide +kernel
theorem dX1_givenBy_1 : decode cX1_givenBy 1 = .ok (.istore_n 2, 1) := by decide +kernel
theorem dX1_givenBy_2 : decode cX1_givenBy 2 = .ok (.iconst 0, 1) := by decide +kernel
theorem dX1_givenBy_3 : decode cX1_givenBy 3 = .ok (.istore_n 3, 1) := by decide +kernel
theorem dX1_givenBy_4 : decode cX1_givenBy 4 = .ok (.iload_n 3, 1) := by decide +kernel
theorem dX1_givenBy_5 : decode cX1_givenBy 5 = .ok (.aload_n 0, 1) := by decide +kernel
theorem dX1_givenBy_6 : decode cX1_givenBy 6 = .ok (.getfield 24, 3) := by decide +kernel
theorem dX1_givenBy_9 : decode cX1_givenBy 9 = .ok (.getfield 32, 3) := by decide +kernel
theorem dX1_givenBy_12 : decode cX1_givenBy 12 = .ok (.if_icmp .ge 22, 3) := by decide +kernel
theorem dX1_givenBy_15 : decode cX1_givenBy 15 = .ok (.iload_n 2, 1) := by decide +kernel
theorem dX1_givenBy_16 : decode cX1_givenBy 16 = .ok (.iload_n 1, 1) := by decide +kernel
theorem dX1_givenBy_17 : decode cX1_givenBy 17 = .ok (.aload_n 0, 1) := by decide +kernel
theorem dX1_givenBy_18 : decode cX1_givenBy 18 = .ok (.getfield 17, 3) := by decide +kernel
theorem dX1_givenBy_21 : decode cX1_givenBy 21 = .ok (.iload_n 3, 1) := by decide +kernel
theorem dX1_givenBy_22 : decode cX1_givenBy 22 = .ok (.iaload, 1) := by decide +kernel
theorem dX1_givenBy_23 : decode cX1_givenBy 23 = .ok (.invokestatic 171, 3) := by decide +kernel
theorem dX1_givenBy_26 : decode cX1_givenBy 26 = .ok (.iadd, 1) := by decide +kernel
theorem dX1_givenBy_27 : decode cX1_givenBy 27 = .ok (.istore_n 2, 1) := by decide +kernel
theorem dX1_givenBy_28 : decode cX1_givenBy 28 = .ok (.iinc 3 1, 3) := by decide +kernel
theorem dX1_givenBy_31 : decode cX1_givenBy 31 = .ok (.goto (-27), 3) := by decide +kernel
theorem dX1_givenBy_34 : decode cX1_givenBy 34 = .ok (.iload_n 2, 1) := by decide +kernel
theorem dX1_givenBy_35 : decode cX1_givenBy 35 = .ok (.ireturn, 1) := by decide +kernel
theorem dX2_init_0 : decode cX2_init 0 = .ok (.aload_n 0, 1) := by decide +kernel
theorem dX2_init_1 : decode cX2_init 1 = .ok (.invokespecial 3, 3) := by decide +kernel
theorem dX2_init_4 : decode cX2_init 4 = .ok (.aload_n 0, 1) := by decide +kernel
theorem dX2_init_5 : decode cX2_init 5 = .ok (.bipush 8, 2) := by decide +kernel
theorem dX2_init_7 : decode cX2_init 7 = .ok (.newarray .int, 2) := by decide +kernel
theorem dX2_init_9 : decode cX2_init 9 = .ok (.putfield 9, 3) := by decide +kernel
theorem dX2_init_12 : decode cX2_init 12 = .ok (.aload_n 0, 1) := by decide +kernel
theorem dX2_init_13 : decode cX2_init 13 = .ok (.bipush 8, 2) := by decide +kernel
theorem dX2_init_15 : decode cX2_init 15 = .ok (.newarray .int, 2) := by decide +kernel
theorem dX2_init_17 : decode cX2_init 17 = .ok (.putfield 15, 3) := by decide +kernel
theorem dX2_init_20 : decode cX2_init 20 = .ok (.aload_n 0, 1) := by decide +kernel
theorem dX2_init_21 : decode cX2_init 21 = .ok (.iconst 4, 1) := by decide +kernel
theorem dX2_init_22 : decode cX2_init 22 = .ok (.newarray .int, 2) := by decide +kernel
theorem dX2_init_24 : decode cX2_init 24 = .ok (.putfield 18, 3) := by decide +kernel
theorem dX2_init_27 : decode cX2_init 27 = .ok (.aload_n 0, 1) := by decide +kernel
theorem dX2_init_28 : decode cX2_init 28 = .ok (.iconst 4, 1) := by decide +kernel
theorem dX2_init_29 : decode cX2_init 29 = .ok (.newarray .int, 2) := by decide +kernel
theorem dX2_init_31 : decode cX2_init 31 = .ok (.putfield 21, 3) := by decide +kernel
theorem dX2_init_34 : decode cX2_init 34 = .ok (.aload_n 0, 1) := by decide +kernel
theorem dX2_init_35 : decode cX2_init 35 = .ok (.bipush 6, 2) := by decide +kernel
theorem dX2_init_37 : decode cX2_init 37 = .ok (.newarray .int, 2) := by decide +kernel
theorem dX2_init_39 : decode cX2_init 39 = .ok (.putfield 24, 3) := by decide +kernel
theorem dX2_init_42 : decode cX2_init 42 = .ok (.aload_n 0, 1) := by decide +kernel
theorem dX2_init_43 : decode cX2_init 43 = .ok (.bipush 6, 2) := by decide +kernel
theorem dX2_init_45 : decode cX2_init 45 = .ok (.newarray .int, 2) := by decide +kernel
theorem dX2_init_47 : decode cX2_init 47 = .ok (.putfield 27, 3) := by decide +kernel
theorem dX2_init_50 : decode cX2_init 50 = .ok (.aload_n 0, 1) := by decide +kernel
theorem dX2_init_51 : decode cX2_init 51 = .ok (.bipush 36, 2) := by decide +kernel
theorem dX2_init_53 : decode cX2_init 53 = .ok (.newarray .int, 2) := by decide +kernel
theorem dX2_init_55 : decode cX2_init 55 = .ok (.putfield 30, 3) := by decide +kernel
theorem dX2_init_58 : decode cX2_init 58 = .ok (.aload_n 0, 1) := by decide +kernel
theorem dX2_init_59 : decode cX2_init 59 = .ok (.bipush 8, 2) := by decide +kernel
theorem dX2_init_61 : decode cX2_init 61 = .ok (.newarray .int, 2) := by decide +kernel
theorem dX2_init_63 : decode cX2_init 63 = .ok (.putfield 33, 3) := by decide +kernel
theorem dX2_init_66 : decode cX2_init 66 = .ok (.return_, 1) := by decide +kernel
theorem dX2_readFrom_0 : decode cX2_readFrom 0 = .ok (.aload_n 0, 1) := by decide +kernel
theorem dX2_readFrom_1 : decode cX2_readFrom 1 = .ok (.iconst 0, 1) := by decide +kernel
theorem dX2_readFrom_2 : decode cX2_readFrom 2 = .ok (.putfield 36, 3) := by decide +kernel
theorem dX2_readFrom_5 : decode cX2_readFrom 5 = .ok (.aload_n 0, 1) := by decide +kernel
theorem dX2_readFrom_6 : decode cX2_readFrom 6 = .ok (.iconst 0, 1) := by decide +kernel
theorem dX2_readFrom_7 : decode cX2_readFrom 7 = .ok (.putfield 40, 3) := by decide +kernel
theorem dX2_readFrom_10 : decode cX2_readFrom 10 = .ok (.aload_n 0, 1) := by decide +kernel
theorem dX2_readFrom_11 : decode cX2_readFrom 11 = .ok (.iconst 0, 1) := by decide +kernel
theorem dX2_readFrom_12 : decode cX2_readFrom 12 = .ok (.putfield 43, 3) := by decide +kernel
theorem dX2_readFrom_15 : decode cX2_readFrom 15 = .ok (.iconst 0, 1) := by decide +kernel
theorem dX2_readFrom_16 : decode cX2_readFrom 16 = .ok (.istore_n 2, 1) := by decide +kernel
theorem dX2_readFrom_17 : decode cX2_readFrom 17 = .ok (.iload_n 2, 1) := by decide +kernel
theorem dX2_readFrom_18 : decode cX2_readFrom 18 = .ok (.aload_n 0, 1) := by decide +kernel
theorem dX2_readFrom_19 : decode cX2_readFrom 19 = .ok (.getfield 30, 3) := by decide +kernel
theorem dX2_readFrom_22 : decode cX2_readFrom 22 = .ok (.arraylength, 1) := by decide +kernel
theorem dX2_readFrom_23 : decode cX2_readFrom 23 = .ok (.if_icmp .ge 16, 3) := by decide +kernel
theorem dX2_readFrom_26 : decode cX2_readFrom 26 = .ok (.aload_n 0, 1) := by decide +kernel
theorem dX2_readFrom_27 : decode cX2_readFrom 27 = .ok (.getfield 30, 3) := by decide +kernel
theorem dX2_readFrom_30 : decode cX2_readFrom 30 = .ok (.iload_n 2, 1) := by decide +kernel
theorem dX2_readFrom_31 : decode cX2_readFrom 31 = .ok (.iconst 0, 1) := by decide +kernel
theorem dX2_readFrom_32 : decode cX2_readFrom 32 = .ok (.iastore, 1) := by decide +kernel
theorem dX2_readFrom_33 : decode cX2_readFrom 33 = .ok (.iinc 2 1, 3) := by decide +kernel
theorem dX2_readFrom_36 : decode cX2_readFrom 36 = .ok (.goto (-19), 3) := by decide +kernel
theorem dX2_readFrom_39 : decode cX2_readFrom 39 = .ok (.iconst 0, 1) := by decide +kernel
theorem dX2_readFrom_40 : decode cX2_readFrom 40 = .ok (.istore_n 2, 1) := by decide +kernel
theorem dX2_readFrom_41 : decode cX2_readFrom 41 = .ok (.iload_n 2, 1) := by decide +kernel
theorem dX2_readFrom_42 : decode cX2_readFrom 42 = .ok (.bipush 60, 2) := by decide +kernel
theorem dX2_readFrom_44 : decode cX2_readFrom 44 = .ok (.if_icmp .gt 39, 3) := by decide +kernel
theorem dX2_readFrom_47 : decode cX2_readFrom 47 = .ok (.aload_n 1, 1) := by decide +kernel
theorem dX2_readFrom_48 : decode cX2_readFrom 48 = .ok (.invokevirtual 46, 3) := by decide +kernel
theorem dX2_readFrom_51 : decode cX2_readFrom 51 = .ok (.ifCond .ne 32, 3) := by decide +kernel
theorem dX2_readFrom_54 : decode cX2_readFrom 54 = .ok (.aload_n 1, 1) := by decide +kernel
theorem dX2_readFrom_55 : decode cX2_readFrom 55 = .ok (.invokevirtual 52, 3) := by decide +kernel
theorem dX2_readFrom_58 : decode cX2_readFrom 58 = .ok (.ifCond .ne 25, 3) := by decide +kernel
theorem dX2_readFrom_61 : decode cX2_readFrom 61 = .ok (.aload_n 0, 1) := by decide +kernel
theorem dX2_readFrom_62 : decode cX2_readFrom 62 = .ok (.aload_n 1, 1) := by decide +kernel
theorem dX2_readFrom_63 : decode cX2_readFrom 63 = .ok (.iload_n 2, 1) := by decide +kernel
theorem dX2_readFrom_64 : decode cX2_readFrom 64 = .ok (.bipush 60, 2) := by decide +kernel
theorem dX2_readFrom_66 : decode cX2_readFrom 66 = .ok (.if_icmp .ne 7, 3) := by decide +kernel
theorem dX2_readFrom_69 : decode cX2_readFrom 69 = .ok (.iconst 1, 1) := by decide +kernel
theorem dX2_readFrom_70 : decode cX2_readFrom 70 = .ok (.goto 4, 3) := by decide +kernel
theorem dX2_readFrom_73 : decode cX2_readFrom 73 = .ok (.iconst 0, 1) := by decide +kernel
theorem dX2_readFrom_74 : decode cX2_readFrom 74 = .ok (.invokevirtual 55, 3) := by decide +kernel
theorem dX2_readFrom_77 : decode cX2_readFrom 77 = .ok (.iinc 2 1, 3) := by decide +kernel
theorem dX2_readFrom_80 : decode cX2_readFrom 80 = .ok (.goto (-39), 3) := by decide +kernel
theorem dX2_readFrom_83 : decode cX2_readFrom 83 = .ok (.aload_n 0, 1) := by decide +kernel
theorem dX2_readFrom_84 : decode cX2_readFrom 84 = .ok (.invokevirtual 59, 3) := by decide +kernel
theorem dX2_readFrom_87 : decode cX2_readFrom 87 = .ok (.return_, 1) := by decide +kernel
theorem dX2_readClause_0 : decode cX2_readClause 0 = .ok (.aload_n 1, 1) := by decide +kernel
theorem dX2_readClause_1 : decode cX2_readClause 1 = .ok (.ldc 62, 2) := by decide +kernel
theorem dX2_readClause_3 : decode cX2_readClause 3 = .ok (.invokevirtual 64, 3) := by decide +kernel
theorem dX2_readClause_6 : decode cX2_readClause 6 = .ok (.ifCond .eq 12, 3) := by decide +kernel
theorem dX2_readClause_9 : decode cX2_readClause 9 = .ok (.aload_n 0, 1) := by decide +kernel
theorem dX2_readClause_10 : decode cX2_readClause 10 = .ok (.aload_n 1, 1) := by decide +kernel
theorem dX2_readClause_11 : decode cX2_readClause 11 = .ok (.iload_n 2, 1) := by decide +kernel
theorem dX2_readClause_12 : decode cX2_readClause 12 = .ok (.invokevirtual 68, 3) := by decide +kernel
theorem dX2_readClause_15 : decode cX2_readClause 15 = .ok (.goto 61, 3) := by decide +kernel
theorem dX2_readClause_18 : decode cX2_readClause 18 = .ok (.aload_n 1, 1) := by decide +kernel
theorem dX2_readClause_19 : decode cX2_readClause 19 = .ok (.ldc 71, 2) := by decide +kernel
theorem dX2_readClause_21 : decode cX2_readClause 21 = .ok (.invokevirtual 64, 3) := by decide +kernel
theorem dX2_readClause_24 : decode cX2_readClause 24 = .ok (.ifCond .eq 12, 3) := by decide +kernel
theorem dX2_readClause_27 : decode cX2_readClause 27 = .ok (.aload_n 0, 1) := by decide +kernel
theorem dX2_readClause_28 : decode cX2_readClause 28 = .ok (.aload_n 1, 1) := by decide +kernel
theorem dX2_readClause_29 : decode cX2_readClause 29 = .ok (.iload_n 2, 1) := by decide +kernel
theorem dX2_readClause_30 : decode cX2_readClause 30 = .ok (.invokevirtual 73, 3) := by decide +kernel
theorem dX2_readClause_33 : decode cX2_readClause 33 = .ok (.goto 43, 3) := by decide +kernel
theorem dX2_readClause_36 : decode cX2_readClause 36 = .ok (.aload_n 1, 1) := by decide +kernel
theorem dX2_readClause_37 : decode cX2_readClause 37 = .ok (.ldc 76, 2) := by decide +kernel
theorem dX2_readClause_39 : decode cX2_readClause 39 = .ok (.invokevirtual 64, 3) := by decide +kernel
theorem dX2_readClause_42 : decode cX2_readClause 42 = .ok (.ifCond .eq 12, 3) := by decide +kernel
theorem dX2_readClause_45 : decode cX2_readClause 45 = .ok (.aload_n 0, 1) := by decide +kernel
theorem dX2_readClause_46 : decode cX2_readClause 46 = .ok (.aload_n 1, 1) := by decide +kernel
theorem dX2_readClause_47 : decode cX2_readClause 47 = .ok (.iload_n 2, 1) := by decide +kernel
theorem dX2_readClause_48 : decode cX2_readClause 48 = .ok (.invokevirtual 78, 3) := by decide +kernel
theorem dX2_readClause_51 : decode cX2_readClause 51 = .ok (.goto 25, 3) := by decide +kernel
theorem dX2_readClause_54 : decode cX2_readClause 54 = .ok (.aload_n 1, 1) := by decide +kernel
theorem dX2_readClause_55 : decode cX2_readClause 55 = .ok (.ldc 81, 2) := by decide +kernel
theorem dX2_readClause_57 : decode cX2_readClause 57 = .ok (.invokevirtual 64, 3) := by decide +kernel
theorem dX2_readClause_60 : decode cX2_readClause 60 = .ok (.ifCond .eq 12, 3) := by decide +kernel
theorem dX2_readClause_63 : decode cX2_readClause 63 = .ok (.aload_n 0, 1) := by decide +kernel
theorem dX2_readClause_64 : decode cX2_readClause 64 = .ok (.aload_n 1, 1) := by decide +kernel
theorem dX2_readClause_65 : decode cX2_readClause 65 = .ok (.iload_n 2, 1) := by decide +kernel
theorem dX2_readClause_66 : decode cX2_readClause 66 = .ok (.invokevirtual 83, 3) := by decide +kernel
theorem dX2_readClause_69 : decode cX2_readClause 69 = .ok (.goto 7, 3) := by decide +kernel
theorem dX2_readClause_72 : decode cX2_readClause 72 = .ok (.aload_n 1, 1) := by decide +kernel
theorem dX2_readClause_73 : decode cX2_readClause 73 = .ok (.invokevirtual 86, 3) := by decide +kernel
theorem dX2_readClause_76 : decode cX2_readClause 76 = .ok (.return_, 1) := by decide +kernel
theorem dX2_readForm_0 : decode cX2_readForm 0 = .ok (.iload_n 2, 1) := by decide +kernel
theorem dX2_readForm_1 : decode cX2_readForm 1 = .ok (.ifCond .ne 12, 3) := by decide +kernel
theorem dX2_readForm_4 : decode cX2_readForm 4 = .ok (.aload_n 0, 1) := by decide +kernel
theorem dX2_readForm_5 : decode cX2_readForm 5 = .ok (.getfield 36, 3) := by decide +kernel
theorem dX2_readForm_8 : decode cX2_readForm 8 = .ok (.bipush 8, 2) := by decide +kernel
theorem dX2_readForm_10 : decode cX2_readForm 10 = .ok (.if_icmp .lt 9, 3) := by decide +kernel
theorem dX2_readForm_13 : decode cX2_readForm 13 = .ok (.aload_n 1, 1) := by decide +kernel
theorem dX2_readForm_14 : decode cX2_readForm 14 = .ok (.iconst 3, 1) := by decide +kernel
theorem dX2_readForm_15 : decode cX2_readForm 15 = .ok (.invokevirtual 89, 3) := by decide +kernel
theorem dX2_readForm_18 : decode cX2_readForm 18 = .ok (.return_, 1) := by decide +kernel
theorem dX2_readForm_19 : decode cX2_readForm 19 = .ok (.aload_n 0, 1) := by decide +kernel
theorem dX2_readForm_20 : decode cX2_readForm 20 = .ok (.getfield 9, 3) := by decide +kernel
theorem dX2_readForm_23 : decode cX2_readForm 23 = .ok (.aload_n 0, 1) := by decide +kernel
theorem dX2_readForm_24 : decode cX2_readForm 24 = .ok (.getfield 36, 3) := by decide +kernel
theorem dX2_readForm_27 : decode cX2_readForm 27 = .ok (.aload_n 1, 1) := by decide +kernel
theorem dX2_readForm_28 : decode cX2_readForm 28 = .ok (.iconst 0, 1) := by decide +kernel
theorem dX2_readForm_29 : decode cX2_readForm 29 = .ok (.bipush 30, 2) := by decide +kernel
theorem dX2_readForm_31 : decode cX2_readForm 31 = .ok (.invokevirtual 93, 3) := by decide +kernel
theorem dX2_readForm_34 : decode cX2_readForm 34 = .ok (.iastore, 1) := by decide +kernel
theorem dX2_readForm_35 : decode cX2_readForm 35 = .ok (.aload_n 0, 1) := by decide +kernel
theorem dX2_readForm_36 : decode cX2_readForm 36 = .ok (.getfield 15, 3) := by decide +kernel
theorem dX2_readForm_39 : decode cX2_readForm 39 = .ok (.aload_n 0, 1) := by decide +kernel
theorem dX2_readForm_40 : decode cX2_readForm 40 = .ok (.getfield 36, 3) := by decide +kernel
theorem dX2_readForm_43 : decode cX2_readForm 43 = .ok (.aload_n 1, 1) := by decide +kernel
theorem dX2_readForm_44 : decode cX2_readForm 44 = .ok (.iconst 0, 1) := by decide +kernel
theorem dX2_readForm_45 : decode cX2_readForm 45 = .ok (.bipush 30, 2) := by decide +kernel
theorem dX2_readForm_47 : decode cX2_readForm 47 = .ok (.invokevirtual 93, 3) := by decide +kernel
theorem dX2_readForm_50 : decode cX2_readForm 50 = .ok (.iastore, 1) := by decide +kernel
theorem dX2_readForm_51 : decode cX2_readForm 51 = .ok (.aload_n 1, 1) := by decide +kernel
theorem dX2_readForm_52 : decode cX2_readForm 52 = .ok (.bipush 59, 2) := by decide +kernel
theorem dX2_readForm_54 : decode cX2_readForm 54 = .ok (.invokevirtual 97, 3) := by decide +kernel
theorem dX2_readForm_57 : decode cX2_readForm 57 = .ok (.aload_n 0, 1) := by decide +kernel
theorem dX2_readForm_58 : decode cX2_readForm 58 = .ok (.dup, 1) := by decide +kernel
theorem dX2_readForm_59 : decode cX2_readForm 59 = .ok (.getfield 36, 3) := by decide +kernel
theorem dX2_readForm_62 : decode cX2_readForm 62 = .ok (.iconst 1, 1) := by decide +kernel
theorem dX2_readForm_63 : decode cX2_readForm 63 = .ok (.iadd, 1) := by decide +kernel
theorem dX2_readForm_64 : decode cX2_readForm 64 = .ok (.putfield 36, 3) := by decide +kernel
theorem dX2_readForm_67 : decode cX2_readForm 67 = .ok (.return_, 1) := by decide +kernel
theorem dX2_readHare_0 : decode cX2_readHare 0 = .ok (.iload_n 2, 1) := by decide +kernel
theorem dX2_readHare_1 : decode cX2_readHare 1 = .ok (.ifCond .ne 12, 3) := by decide +kernel
theorem dX2_readHare_4 : decode cX2_readHare 4 = .ok (.aload_n 0, 1) := by decide +kernel
theorem dX2_readHare_5 : decode cX2_readHare 5 = .ok (.getfield 40, 3) := by decide +kernel
theorem dX2_readHare_8 : decode cX2_readHare 8 = .ok (.bipush 6, 2) := by decide +kernel
theorem dX2_readHare_10 : decode cX2_readHare 10 = .ok (.if_icmp .lt 9, 3) := by decide +kernel
theorem dX2_readHare_13 : decode cX2_readHare 13 = .ok (.aload_n 1, 1) := by decide +kernel
theorem dX2_readHare_14 : decode cX2_readHare 14 = .ok (.iconst 3, 1) := by decide +kernel
theorem dX2_readHare_15 : decode cX2_readHare 15 = .ok (.invokevirtual 89, 3) := by decide +kernel
theorem dX2_readHare_18 : decode cX2_readHare 18 = .ok (.return_, 1) := by decide +kernel
theorem dX2_readHare_19 : decode cX2_readHare 19 = .ok (.aload_n 0, 1) := by decide +kernel
theorem dX2_readHare_20 : decode cX2_readHare 20 = .ok (.getfield 24, 3) := by decide +kernel
theorem dX2_readHare_23 : decode cX2_readHare 23 = .ok (.aload_n 0, 1) := by decide +kernel
theorem dX2_readHare_24 : decode cX2_readHare 24 = .ok (.getfield 40, 3) := by decide +kernel
theorem dX2_readHare_27 : decode cX2_readHare 27 = .ok (.aload_n 1, 1) := by decide +kernel
theorem dX2_readHare_28 : decode cX2_readHare 28 = .ok (.iconst 0, 1) := by decide +kernel
theorem dX2_readHare_29 : decode cX2_readHare 29 = .ok (.aload_n 0, 1) := by decide +kernel
theorem dX2_readHare_30 : decode cX2_readHare 30 = .ok (.getfield 36, 3) := by decide +kernel
theorem dX2_readHare_33 : decode cX2_readHare 33 = .ok (.iconst 1, 1) := by decide +kernel
theorem dX2_readHare_34 : decode cX2_readHare 34 = .ok (.isub, 1) := by decide +kernel
theorem dX2_readHare_35 : decode cX2_readHare 35 = .ok (.invokevirtual 93, 3) := by decide +kernel
theorem dX2_readHare_38 : decode cX2_readHare 38 = .ok (.iastore, 1) := by decide +kernel
theorem dX2_readHare_39 : decode cX2_readHare 39 = .ok (.aload_n 0, 1) := by decide +kernel
theorem dX2_readHare_40 : decode cX2_readHare 40 = .ok (.getfield 27, 3) := by decide +kernel
theorem dX2_readHare_43 : decode cX2_readHare 43 = .ok (.aload_n 0, 1) := by decide +kernel
theorem dX2_readHare_44 : decode cX2_readHare 44 = .ok (.getfield 40, 3) := by decide +kernel
theorem dX2_readHare_47 : decode cX2_readHare 47 = .ok (.aload_n 1, 1) := by decide +kernel
theorem dX2_readHare_48 : decode cX2_readHare 48 = .ok (.iconst 1, 1) := by decide +kernel
theorem dX2_readHare_49 : decode cX2_readHare 49 = .ok (.bipush 9, 2) := by decide +kernel
theorem dX2_readHare_51 : decode cX2_readHare 51 = .ok (.invokevirtual 93, 3) := by decide +kernel
theorem dX2_readHare_54 : decode cX2_readHare 54 = .ok (.iastore, 1) := by decide +kernel
theorem dX2_readHare_55 : decode cX2_readHare 55 = .ok (.aload_n 1, 1) := by decide +kernel
theorem dX2_readHare_56 : decode cX2_readHare 56 = .ok (.bipush 59, 2) := by decide +kernel
theorem dX2_readHare_58 : decode cX2_readHare 58 = .ok (.invokevirtual 97, 3) := by decide +kernel
theorem dX2_readHare_61 : decode cX2_readHare 61 = .ok (.aload_n 0, 1) := by decide +kernel
theorem dX2_readHare_62 : decode cX2_readHare 62 = .ok (.dup, 1) := by decide +kernel
theorem dX2_readHare_63 : decode cX2_readHare 63 = .ok (.getfield 40, 3) := by decide +kernel
theorem dX2_readHare_66 : decode cX2_readHare 66 = .ok (.iconst 1, 1) := by decide +kernel
theorem dX2_readHare_67 : decode cX2_readHare 67 = .ok (.iadd, 1) := by decide +kernel
theorem dX2_readHare_68 : decode cX2_readHare 68 = .ok (.putfield 40, 3) := by decide +kernel
theorem dX2_readHare_71 : decode cX2_readHare 71 = .ok (.return_, 1) := by decide +kernel
theorem dX2_readFox_0 : decode cX2_readFox 0 = .ok (.iload_n 2, 1) := by decide +kernel
theorem dX2_readFox_1 : decode cX2_readFox 1 = .ok (.ifCond .ne 11, 3) := by decide +kernel
theorem dX2_readFox_4 : decode cX2_readFox 4 = .ok (.aload_n 0, 1) := by decide +kernel
theorem dX2_readFox_5 : decode cX2_readFox 5 = .ok (.getfield 43, 3) := by decide +kernel
theorem dX2_readFox_8 : decode cX2_readFox 8 = .ok (.iconst 4, 1) := by decide +kernel
theorem dX2_readFox_9 : decode cX2_readFox 9 = .ok (.if_icmp .lt 9, 3) := by decide +kernel
theorem dX2_readFox_12 : decode cX2_readFox 12 = .ok (.aload_n 1, 1) := by decide +kernel
theorem dX2_readFox_13 : decode cX2_readFox 13 = .ok (.iconst 3, 1) := by decide +kernel
theorem dX2_readFox_14 : decode cX2_readFox 14 = .ok (.invokevirtual 89, 3) := by decide +kernel
theorem dX2_readFox_17 : decode cX2_readFox 17 = .ok (.return_, 1) := by decide +kernel
theorem dX2_readFox_18 : decode cX2_readFox 18 = .ok (.aload_n 0, 1) := by decide +kernel
theorem dX2_readFox_19 : decode cX2_readFox 19 = .ok (.getfield 18, 3) := by decide +kernel
theorem dX2_readFox_22 : decode cX2_readFox 22 = .ok (.aload_n 0, 1) := by decide +kernel
theorem dX2_readFox_23 : decode cX2_readFox 23 = .ok (.getfield 43, 3) := by decide +kernel
theorem dX2_readFox_26 : decode cX2_readFox 26 = .ok (.aload_n 1, 1) := by decide +kernel
theorem dX2_readFox_27 : decode cX2_readFox 27 = .ok (.iconst 0, 1) := by decide +kernel
theorem dX2_readFox_28 : decode cX2_readFox 28 = .ok (.bipush 30, 2) := by decide +kernel
theorem dX2_readFox_30 : decode cX2_readFox 30 = .ok (.invokevirtual 93, 3) := by decide +kernel
theorem dX2_readFox_33 : decode cX2_readFox 33 = .ok (.iastore, 1) := by decide +kernel
theorem dX2_readFox_34 : decode cX2_readFox 34 = .ok (.aload_n 0, 1) := by decide +kernel
theorem dX2_readFox_35 : decode cX2_readFox 35 = .ok (.getfield 21, 3) := by decide +kernel
theorem dX2_readFox_38 : decode cX2_readFox 38 = .ok (.aload_n 0, 1) := by decide +kernel
theorem dX2_readFox_39 : decode cX2_readFox 39 = .ok (.getfield 43, 3) := by decide +kernel
theorem dX2_readFox_42 : decode cX2_readFox 42 = .ok (.aload_n 1, 1) := by decide +kernel
theorem dX2_readFox_43 : decode cX2_readFox 43 = .ok (.iconst 0, 1) := by decide +kernel
theorem dX2_readFox_44 : decode cX2_readFox 44 = .ok (.bipush 30, 2) := by decide +kernel
theorem dX2_readFox_46 : decode cX2_readFox 46 = .ok (.invokevirtual 93, 3) := by decide +kernel
theorem dX2_readFox_49 : decode cX2_readFox 49 = .ok (.iastore, 1) := by decide +kernel
theorem dX2_readFox_50 : decode cX2_readFox 50 = .ok (.aload_n 1, 1) := by decide +kernel
theorem dX2_readFox_51 : decode cX2_readFox 51 = .ok (.bipush 59, 2) := by decide +kernel
theorem dX2_readFox_53 : decode cX2_readFox 53 = .ok (.invokevirtual 97, 3) := by decide +kernel
theorem dX2_readFox_56 : decode cX2_readFox 56 = .ok (.aload_n 0, 1) := by decide +kernel
theorem dX2_readFox_57 : decode cX2_readFox 57 = .ok (.dup, 1) := by decide +kernel
theorem dX2_readFox_58 : decode cX2_readFox 58 = .ok (.getfield 43, 3) := by decide +kernel
theorem dX2_readFox_61 : decode cX2_readFox 61 = .ok (.iconst 1, 1) := by decide +kernel
theorem dX2_readFox_62 : decode cX2_readFox 62 = .ok (.iadd, 1) := by decide +kernel
theorem dX2_readFox_63 : decode cX2_readFox 63 = .ok (.putfield 43, 3) := by decide +kernel
theorem dX2_readFox_66 : decode cX2_readFox 66 = .ok (.return_, 1) := by decide +kernel
theorem dX2_readDebt_0 : decode cX2_readDebt 0 = .ok (.iload_n 2, 1) := by decide +kernel
theorem dX2_readDebt_1 : decode cX2_readDebt 1 = .ok (.ifCond .eq 9, 3) := by decide +kernel
theorem dX2_readDebt_4 : decode cX2_readDebt 4 = .ok (.aload_n 1, 1) := by decide +kernel
theorem dX2_readDebt_5 : decode cX2_readDebt 5 = .ok (.iconst 3, 1) := by decide +kernel
theorem dX2_readDebt_6 : decode cX2_readDebt 6 = .ok (.invokevirtual 89, 3) := by decide +kernel
theorem dX2_readDebt_9 : decode cX2_readDebt 9 = .ok (.return_, 1) := by decide +kernel
theorem dX2_readDebt_10 : decode cX2_readDebt 10 = .ok (.aload_n 1, 1) := by decide +kernel
theorem dX2_readDebt_11 : decode cX2_readDebt 11 = .ok (.iconst 0, 1) := by decide +kernel
theorem dX2_readDebt_12 : decode cX2_readDebt 12 = .ok (.aload_n 0, 1) := by decide +kernel
theorem dX2_readDebt_13 : decode cX2_readDebt 13 = .ok (.getfield 40, 3) := by decide +kernel
theorem dX2_readDebt_16 : decode cX2_readDebt 16 = .ok (.iconst 1, 1) := by decide +kernel
theorem dX2_readDebt_17 : decode cX2_readDebt 17 = .ok (.isub, 1) := by decide +kernel
theorem dX2_readDebt_18 : decode cX2_readDebt 18 = .ok (.invokevirtual 93, 3) := by decide +kernel
theorem dX2_readDebt_21 : decode cX2_readDebt 21 = .ok (.istore_n 3, 1) := by decide +kernel
theorem dX2_readDebt_22 : decode cX2_readDebt 22 = .ok (.aload_n 1, 1) := by decide +kernel
theorem dX2_readDebt_23 : decode cX2_readDebt 23 = .ok (.iconst 0, 1) := by decide +kernel
theorem dX2_readDebt_24 : decode cX2_readDebt 24 = .ok (.aload_n 0, 1) := by decide +kernel
theorem dX2_readDebt_25 : decode cX2_readDebt 25 = .ok (.getfield 40, 3) := by decide +kernel
theorem dX2_readDebt_28 : decode cX2_readDebt 28 = .ok (.iconst 1, 1) := by decide +kernel
theorem dX2_readDebt_29 : decode cX2_readDebt 29 = .ok (.isub, 1) := by decide +kernel
theorem dX2_readDebt_30 : decode cX2_readDebt 30 = .ok (.invokevirtual 93, 3) := by decide +kernel
theorem dX2_readDebt_33 : decode cX2_readDebt 33 = .ok (.istore 4, 2) := by decide +kernel
theorem dX2_readDebt_35 : decode cX2_readDebt 35 = .ok (.iload_n 3, 1) := by decide +kernel
theorem dX2_readDebt_36 : decode cX2_readDebt 36 = .ok (.iload 4, 2) := by decide +kernel
theorem dX2_readDebt_38 : decode cX2_readDebt 38 = .ok (.if_icmp .ne 8, 3) := by decide +kernel
theorem dX2_readDebt_41 : decode cX2_readDebt 41 = .ok (.aload_n 1, 1) := by decide +kernel
theorem dX2_readDebt_42 : decode cX2_readDebt 42 = .ok (.iconst 2, 1) := by decide +kernel
theorem dX2_readDebt_43 : decode cX2_readDebt 43 = .ok (.invokevirtual 89, 3) := by decide +kernel
theorem dX2_readDebt_46 : decode cX2_readDebt 46 = .ok (.aload_n 1, 1) := by decide +kernel
theorem dX2_readDebt_47 : decode cX2_readDebt 47 = .ok (.iconst 0, 1) := by decide +kernel
theorem dX2_readDebt_48 : decode cX2_readDebt 48 = .ok (.bipush 99, 2) := by decide +kernel
theorem dX2_readDebt_50 : decode cX2_readDebt 50 = .ok (.invokevirtual 93, 3) := by decide +kernel
theorem dX2_readDebt_53 : decode cX2_readDebt 53 = .ok (.istore 5, 2) := by decide +kernel
theorem dX2_readDebt_55 : decode cX2_readDebt 55 = .ok (.aload_n 1, 1) := by decide +kernel
theorem dX2_readDebt_56 : decode cX2_readDebt 56 = .ok (.bipush 59, 2) := by decide +kernel
theorem dX2_readDebt_58 : decode cX2_readDebt 58 = .ok (.invokevirtual 97, 3) := by decide +kernel
theorem dX2_readDebt_61 : decode cX2_readDebt 61 = .ok (.aload_n 1, 1) := by decide +kernel
theorem dX2_readDebt_62 : decode cX2_readDebt 62 = .ok (.invokevirtual 46, 3) := by decide +kernel
theorem dX2_readDebt_65 : decode cX2_readDebt 65 = .ok (.ifCond .ne 17, 3) := by decide +kernel
theorem dX2_readDebt_68 : decode cX2_readDebt 68 = .ok (.aload_n 0, 1) := by decide +kernel
theorem dX2_readDebt_69 : decode cX2_readDebt 69 = .ok (.getfield 30, 3) := by decide +kernel
theorem dX2_readDebt_72 : decode cX2_readDebt 72 = .ok (.iload_n 3, 1) := by decide +kernel
theorem dX2_readDebt_73 : decode cX2_readDebt 73 = .ok (.bipush 6, 2) := by decide +kernel
theorem dX2_readDebt_75 : decode cX2_readDebt 75 = .ok (.imul, 1) := by decide +kernel
theorem dX2_readDebt_76 : decode cX2_readDebt 76 = .ok (.iload 4, 2) := by decide +kernel
theorem dX2_readDebt_78 : decode cX2_readDebt 78 = .ok (.iadd, 1) := by decide +kernel
theorem dX2_readDebt_79 : decode cX2_readDebt 79 = .ok (.iload 5, 2) := by decide +kernel
theorem dX2_readDebt_81 : decode cX2_readDebt 81 = .ok (.iastore, 1) := by decide +kernel
theorem dX2_readDebt_82 : decode cX2_readDebt 82 = .ok (.return_, 1) := by decide +kernel
theorem dX2_findSafe_0 : decode cX2_findSafe 0 = .ok (.aload_n 0, 1) := by decide +kernel
theorem dX2_findSafe_1 : decode cX2_findSafe 1 = .ok (.iconst 0, 1) := by decide +kernel
theorem dX2_findSafe_2 : decode cX2_findSafe 2 = .ok (.putfield 101, 3) := by decide +kernel
theorem dX2_findSafe_5 : decode cX2_findSafe 5 = .ok (.iconst 0, 1) := by decide +kernel
theorem dX2_findSafe_6 : decode cX2_findSafe 6 = .ok (.istore_n 1, 1) := by decide +kernel
theorem dX2_findSafe_7 : decode cX2_findSafe 7 = .ok (.iload_n 1, 1) := by decide +kernel
theorem dX2_findSafe_8 : decode cX2_findSafe 8 = .ok (.aload_n 0, 1) := by decide +kernel
theorem dX2_findSafe_9 : decode cX2_findSafe 9 = .ok (.getfield 36, 3) := by decide +kernel
theorem dX2_findSafe_12 : decode cX2_findSafe 12 = .ok (.if_icmp .ge 29, 3) := by decide +kernel
theorem dX2_findSafe_15 : decode cX2_findSafe 15 = .ok (.aload_n 0, 1) := by decide +kernel
theorem dX2_findSafe_16 : decode cX2_findSafe 16 = .ok (.iload_n 1, 1) := by decide +kernel
theorem dX2_findSafe_17 : decode cX2_findSafe 17 = .ok (.invokevirtual 104, 3) := by decide +kernel
theorem dX2_findSafe_20 : decode cX2_findSafe 20 = .ok (.ifCond .ne 15, 3) := by decide +kernel
theorem dX2_findSafe_23 : decode cX2_findSafe 23 = .ok (.aload_n 0, 1) := by decide +kernel
theorem dX2_findSafe_24 : decode cX2_findSafe 24 = .ok (.dup, 1) := by decide +kernel
theorem dX2_findSafe_25 : decode cX2_findSafe 25 = .ok (.getfield 101, 3) := by decide +kernel
theorem dX2_findSafe_28 : decode cX2_findSafe 28 = .ok (.iconst 1, 1) := by decide +kernel
theorem dX2_findSafe_29 : decode cX2_findSafe 29 = .ok (.iload_n 1, 1) := by decide +kernel
theorem dX2_findSafe_30 : decode cX2_findSafe 30 = .ok (.ishl, 1) := by decide +kernel
theorem dX2_findSafe_31 : decode cX2_findSafe 31 = .ok (.ior, 1) := by decide +kernel
theorem dX2_findSafe_32 : decode cX2_findSafe 32 = .ok (.putfield 101, 3) := by decide +kernel
theorem dX2_findSafe_35 : decode cX2_findSafe 35 = .ok (.iinc 1 1, 3) := by decide +kernel
theorem dX2_findSafe_38 : decode cX2_findSafe 38 = .ok (.goto (-31), 3) := by decide +kernel
theorem dX2_findSafe_41 : decode cX2_findSafe 41 = .ok (.return_, 1) := by decide +kernel
theorem dX2_foxIsNear_0 : decode cX2_foxIsNear 0 = .ok (.iconst 0, 1) := by decide +kernel
theorem dX2_foxIsNear_1 : decode cX2_foxIsNear 1 = .ok (.istore_n 2, 1) := by decide +kernel
theorem dX2_foxIsNear_2 : decode cX2_foxIsNear 2 = .ok (.iload_n 2, 1) := by decide +kernel
theorem dX2_foxIsNear_3 : decode cX2_foxIsNear 3 = .ok (.aload_n 0, 1) := by decide +kernel
theorem dX2_foxIsNear_4 : decode cX2_foxIsNear 4 = .ok (.getfield 43, 3) := by decide +kernel
theorem dX2_foxIsNear_7 : decode cX2_foxIsNear 7 = .ok (.if_icmp .ge 48, 3) := by decide +kernel
theorem dX2_foxIsNear_10 : decode cX2_foxIsNear 10 = .ok (.aload_n 0, 1) := by decide +kernel
theorem dX2_foxIsNear_11 : decode cX2_foxIsNear 11 = .ok (.getfield 9, 3) := by decide +kernel
theorem dX2_foxIsNear_14 : decode cX2_foxIsNear 14 = .ok (.iload_n 1, 1) := by decide +kernel
theorem dX2_foxIsNear_15 : decode cX2_foxIsNear 15 = .ok (.iaload, 1) := by decide +kernel
theorem dX2_foxIsNear_16 : decode cX2_foxIsNear 16 = .ok (.aload_n 0, 1) := by decide +kernel
theorem dX2_foxIsNear_17 : decode cX2_foxIsNear 17 = .ok (.getfield 18, 3) := by decide +kernel
theorem dX2_foxIsNear_20 : decode cX2_foxIsNear 20 = .ok (.iload_n 2, 1) := by decide +kernel
theorem dX2_foxIsNear_21 : decode cX2_foxIsNear 21 = .ok (.iaload, 1) := by decide +kernel
theorem dX2_foxIsNear_22 : decode cX2_foxIsNear 22 = .ok (.isub, 1) := by decide +kernel
theorem dX2_foxIsNear_23 : decode cX2_foxIsNear 23 = .ok (.invokestatic 108, 3) := by decide +kernel
theorem dX2_foxIsNear_26 : decode cX2_foxIsNear 26 = .ok (.aload_n 0, 1) := by decide +kernel
theorem dX2_foxIsNear_27 : decode cX2_foxIsNear 27 = .ok (.getfield 15, 3) := by decide +kernel
theorem dX2_foxIsNear_30 : decode cX2_foxIsNear 30 = .ok (.iload_n 1, 1) := by decide +kernel
theorem dX2_foxIsNear_31 : decode cX2_foxIsNear 31 = .ok (.iaload, 1) := by decide +kernel
theorem dX2_foxIsNear_32 : decode cX2_foxIsNear 32 = .ok (.aload_n 0, 1) := by decide +kernel
theorem dX2_foxIsNear_33 : decode cX2_foxIsNear 33 = .ok (.getfield 21, 3) := by decide +kernel
theorem dX2_foxIsNear_36 : decode cX2_foxIsNear 36 = .ok (.iload_n 2, 1) := by decide +kernel
theorem dX2_foxIsNear_37 : decode cX2_foxIsNear 37 = .ok (.iaload, 1) := by decide +kernel
theorem dX2_foxIsNear_38 : decode cX2_foxIsNear 38 = .ok (.isub, 1) := by decide +kernel
theorem dX2_foxIsNear_39 : decode cX2_foxIsNear 39 = .ok (.invokestatic 108, 3) := by decide +kernel
theorem dX2_foxIsNear_42 : decode cX2_foxIsNear 42 = .ok (.iadd, 1) := by decide +kernel
theorem dX2_foxIsNear_43 : decode cX2_foxIsNear 43 = .ok (.iconst 3, 1) := by decide +kernel
theorem dX2_foxIsNear_44 : decode cX2_foxIsNear 44 = .ok (.if_icmp .gt 5, 3) := by decide +kernel
theorem dX2_foxIsNear_47 : decode cX2_foxIsNear 47 = .ok (.iconst 1, 1) := by decide +kernel
theorem dX2_foxIsNear_48 : decode cX2_foxIsNear 48 = .ok (.ireturn, 1) := by decide +kernel
theorem dX2_foxIsNear_49 : decode cX2_foxIsNear 49 = .ok (.iinc 2 1, 3) := by decide +kernel
theorem dX2_foxIsNear_52 : decode cX2_foxIsNear 52 = .ok (.goto (-50), 3) := by decide +kernel
theorem dX2_foxIsNear_55 : decode cX2_foxIsNear 55 = .ok (.iconst 0, 1) := by decide +kernel
theorem dX2_foxIsNear_56 : decode cX2_foxIsNear 56 = .ok (.ireturn, 1) := by decide +kernel
theorem dX2_isSafe_0 : decode cX2_isSafe 0 = .ok (.aload_n 0, 1) := by decide +kernel
theorem dX2_isSafe_1 : decode cX2_isSafe 1 = .ok (.getfield 101, 3) := by decide +kernel
theorem dX2_isSafe_4 : decode cX2_isSafe 4 = .ok (.iload_n 1, 1) := by decide +kernel
theorem dX2_isSafe_5 : decode cX2_isSafe 5 = .ok (.invokestatic 114, 3) := by decide +kernel
theorem dX2_isSafe_8 : decode cX2_isSafe 8 = .ok (.ireturn, 1) := by decide +kernel
theorem dX2_apart_0 : decode cX2_apart 0 = .ok (.aload_n 0, 1) := by decide +kernel
theorem dX2_apart_1 : decode cX2_apart 1 = .ok (.getfield 9, 3) := by decide +kernel
theorem dX2_apart_4 : decode cX2_apart 4 = .ok (.iload_n 1, 1) := by decide +kernel
theorem dX2_apart_5 : decode cX2_apart 5 = .ok (.iaload, 1) := by decide +kernel
theorem dX2_apart_6 : decode cX2_apart 6 = .ok (.aload_n 0, 1) := by decide +kernel
theorem dX2_apart_7 : decode cX2_apart 7 = .ok (.getfield 9, 3) := by decide +kernel
theorem dX2_apart_10 : decode cX2_apart 10 = .ok (.iload_n 2, 1) := by decide +kernel
theorem dX2_apart_11 : decode cX2_apart 11 = .ok (.iaload, 1) := by decide +kernel
theorem dX2_apart_12 : decode cX2_apart 12 = .ok (.isub, 1) := by decide +kernel
theorem dX2_apart_13 : decode cX2_apart 13 = .ok (.invokestatic 108, 3) := by decide +kernel
theorem dX2_apart_16 : decode cX2_apart 16 = .ok (.aload_n 0, 1) := by decide +kernel
theorem dX2_apart_17 : decode cX2_apart 17 = .ok (.getfield 15, 3) := by decide +kernel
theorem dX2_apart_20 : decode cX2_apart 20 = .ok (.iload_n 1, 1) := by decide +kernel
theorem dX2_apart_21 : decode cX2_apart 21 = .ok (.iaload, 1) := by decide +kernel
theorem dX2_apart_22 : decode cX2_apart 22 = .ok (.aload_n 0, 1) := by decide +kernel
theorem dX2_apart_23 : decode cX2_apart 23 = .ok (.getfield 15, 3) := by decide +kernel
theorem dX2_apart_26 : decode cX2_apart 26 = .ok (.iload_n 2, 1) := by decide +kernel
theorem dX2_apart_27 : decode cX2_apart 27 = .ok (.iaload, 1) := by decide +kernel
theorem dX2_apart_28 : decode cX2_apart 28 = .ok (.isub, 1) := by decide +kernel
theorem dX2_apart_29 : decode cX2_apart 29 = .ok (.invokestatic 108, 3) := by decide +kernel
theorem dX2_apart_32 : decode cX2_apart 32 = .ok (.iadd, 1) := by decide +kernel
theorem dX2_apart_33 : decode cX2_apart 33 = .ok (.ireturn, 1) := by decide +kernel
theorem dX2_formsWithin_0 : decode cX2_formsWithin 0 = .ok (.iconst 0, 1) := by decide +kernel
theorem dX2_formsWithin_1 : decode cX2_formsWithin 1 = .ok (.istore_n 3, 1) := by decide +kernel
theorem dX2_formsWithin_2 : decode cX2_formsWithin 2 = .ok (.iconst 0, 1) := by decide +kernel
theorem dX2_formsWithin_3 : decode cX2_formsWithin 3 = .ok (.istore 4, 2) := by decide +kernel
theorem dX2_formsWithin_5 : decode cX2_formsWithin 5 = .ok (.iload 4, 2) := by decide +kernel
theorem dX2_formsWithin_7 : decode cX2_formsWithin 7 = .ok (.aload_n 0, 1) := by decide +kernel
theorem dX2_formsWithin_8 : decode cX2_formsWithin 8 = .ok (.getfield 36, 3) := by decide +kernel
theorem dX2_formsWithin_11 : decode cX2_formsWithin 11 = .ok (.if_icmp .ge 27, 3) := by decide +kernel
theorem dX2_formsWithin_14 : decode cX2_formsWithin 14 = .ok (.aload_n 0, 1) := by decide +kernel
theorem dX2_formsWithin_15 : decode cX2_formsWithin 15 = .ok (.iload_n 1, 1) := by decide +kernel
theorem dX2_formsWithin_16 : decode cX2_formsWithin 16 = .ok (.iload 4, 2) := by decide +kernel
theorem dX2_formsWithin_18 : decode cX2_formsWithin 18 = .ok (.invokevirtual 118, 3) := by decide +kernel
theorem dX2_formsWithin_21 : decode cX2_formsWithin 21 = .ok (.iload_n 2, 1) := by decide +kernel
theorem dX2_formsWithin_22 : decode cX2_formsWithin 22 = .ok (.if_icmp .gt 10, 3) := by decide +kernel
theorem dX2_formsWithin_25 : decode cX2_formsWithin 25 = .ok (.iload_n 3, 1) := by decide +kernel
theorem dX2_formsWithin_26 : decode cX2_formsWithin 26 = .ok (.iconst 1, 1) := by decide +kernel
theorem dX2_formsWithin_27 : decode cX2_formsWithin 27 = .ok (.iload 4, 2) := by decide +kernel
theorem dX2_formsWithin_29 : decode cX2_formsWithin 29 = .ok (.ishl, 1) := by decide +kernel
theorem dX2_formsWithin_30 : decode cX2_formsWithin 30 = .ok (.ior, 1) := by decide +kernel
theorem dX2_formsWithin_31 : decode cX2_formsWithin 31 = .ok (.istore_n 3, 1) := by decide +kernel
theorem dX2_formsWithin_32 : decode cX2_formsWithin 32 = .ok (.iinc 4 1, 3) := by decide +kernel
theorem dX2_formsWithin_35 : decode cX2_formsWithin 35 = .ok (.goto (-30), 3) := by decide +kernel
theorem dX2_formsWithin_38 : decode cX2_formsWithin 38 = .ok (.iload_n 3, 1) := by decide +kernel
theorem dX2_formsWithin_39 : decode cX2_formsWithin 39 = .ok (.ireturn, 1) := by decide +kernel
theorem dX2_hopsBetween_0 : decode cX2_hopsBetween 0 = .ok (.iconst 1, 1) := by decide +kernel
theorem dX2_hopsBetween_1 : decode cX2_hopsBetween 1 = .ok (.iload_n 1, 1) := by decide +kernel
theorem dX2_hopsBetween_2 : decode cX2_hopsBetween 2 = .ok (.ishl, 1) := by decide +kernel
theorem dX2_hopsBetween_3 : decode cX2_hopsBetween 3 = .ok (.istore 4, 2) := by decide +kernel
theorem dX2_hopsBetween_5 : decode cX2_hopsBetween 5 = .ok (.iconst 0, 1) := by decide +kernel
theorem dX2_hopsBetween_6 : decode cX2_hopsBetween 6 = .ok (.istore 5, 2) := by decide +kernel
theorem dX2_hopsBetween_8 : decode cX2_hopsBetween 8 = .ok (.iload 5, 2) := by decide +kernel
theorem dX2_hopsBetween_10 : decode cX2_hopsBetween 10 = .ok (.bipush 8, 2) := by decide +kernel
theorem dX2_hopsBetween_12 : decode cX2_hopsBetween 12 = .ok (.if_icmp .ge 69, 3) := by decide +kernel
theorem dX2_hopsBetween_15 : decode cX2_hopsBetween 15 = .ok (.iload 4, 2) := by decide +kernel
theorem dX2_hopsBetween_17 : decode cX2_hopsBetween 17 = .ok (.iload_n 2, 1) := by decide +kernel
theorem dX2_hopsBetween_18 : decode cX2_hopsBetween 18 = .ok (.invokestatic 114, 3) := by decide +kernel
theorem dX2_hopsBetween_21 : decode cX2_hopsBetween 21 = .ok (.ifCond .eq 6, 3) := by decide +kernel
theorem dX2_hopsBetween_24 : decode cX2_hopsBetween 24 = .ok (.iload 5, 2) := by decide +kernel
theorem dX2_hopsBetween_26 : decode cX2_hopsBetween 26 = .ok (.ireturn, 1) := by decide +kernel
theorem dX2_hopsBetween_27 : decode cX2_hopsBetween 27 = .ok (.iload 4, 2) := by decide +kernel
theorem dX2_hopsBetween_29 : decode cX2_hopsBetween 29 = .ok (.istore 6, 2) := by decide +kernel
theorem dX2_hopsBetween_31 : decode cX2_hopsBetween 31 = .ok (.iconst 0, 1) := by decide +kernel
theorem dX2_hopsBetween_32 : decode cX2_hopsBetween 32 = .ok (.istore 7, 2) := by decide +kernel
theorem dX2_hopsBetween_34 : decode cX2_hopsBetween 34 = .ok (.iload 7, 2) := by decide +kernel
theorem dX2_hopsBetween_36 : decode cX2_hopsBetween 36 = .ok (.aload_n 0, 1) := by decide +kernel
theorem dX2_hopsBetween_37 : decode cX2_hopsBetween 37 = .ok (.getfield 36, 3) := by decide +kernel
theorem dX2_hopsBetween_40 : decode cX2_hopsBetween 40 = .ok (.if_icmp .ge 31, 3) := by decide +kernel
theorem dX2_hopsBetween_43 : decode cX2_hopsBetween 43 = .ok (.iload 4, 2) := by decide +kernel
theorem dX2_hopsBetween_45 : decode cX2_hopsBetween 45 = .ok (.iload 7, 2) := by decide +kernel
theorem dX2_hopsBetween_47 : decode cX2_hopsBetween 47 = .ok (.invokestatic 114, 3) := by decide +kernel
theorem dX2_hopsBetween_50 : decode cX2_hopsBetween 50 = .ok (.ifCond .eq 15, 3) := by decide +kernel
theorem dX2_hopsBetween_53 : decode cX2_hopsBetween 53 = .ok (.iload 6, 2) := by decide +kernel
theorem dX2_hopsBetween_55 : decode cX2_hopsBetween 55 = .ok (.aload_n 0, 1) := by decide +kernel
theorem dX2_hopsBetween_56 : decode cX2_hopsBetween 56 = .ok (.iload 7, 2) := by decide +kernel
theorem dX2_hopsBetween_58 : decode cX2_hopsBetween 58 = .ok (.iload_n 3, 1) := by decide +kernel
theorem dX2_hopsBetween_59 : decode cX2_hopsBetween 59 = .ok (.invokevirtual 121, 3) := by decide +kernel
theorem dX2_hopsBetween_62 : decode cX2_hopsBetween 62 = .ok (.ior, 1) := by decide +kernel
theorem dX2_hopsBetween_63 : decode cX2_hopsBetween 63 = .ok (.istore 6, 2) := by decide +kernel
theorem dX2_hopsBetween_65 : decode cX2_hopsBetween 65 = .ok (.iinc 7 1, 3) := by decide +kernel
theorem dX2_hopsBetween_68 : decode cX2_hopsBetween 68 = .ok (.goto (-34), 3) := by decide +kernel
theorem dX2_hopsBetween_71 : decode cX2_hopsBetween 71 = .ok (.iload 6, 2) := by decide +kernel
theorem dX2_hopsBetween_73 : decode cX2_hopsBetween 73 = .ok (.istore 4, 2) := by decide +kernel
theorem dX2_hopsBetween_75 : decode cX2_hopsBetween 75 = .ok (.iinc 5 1, 3) := by decide +kernel
theorem dX2_hopsBetween_78 : decode cX2_hopsBetween 78 = .ok (.goto (-70), 3) := by decide +kernel
theorem dX2_hopsBetween_81 : decode cX2_hopsBetween 81 = .ok (.iconst (-1), 1) := by decide +kernel
theorem dX2_hopsBetween_82 : decode cX2_hopsBetween 82 = .ok (.ireturn, 1) := by decide +kernel
theorem dX2_watchers_0 : decode cX2_watchers 0 = .ok (.iconst 0, 1) := by decide +kernel
theorem dX2_watchers_1 : decode cX2_watchers 1 = .ok (.istore_n 2, 1) := by decide +kernel
theorem dX2_watchers_2 : decode cX2_watchers 2 = .ok (.iload_n 2, 1) := by decide +kernel
theorem dX2_watchers_3 : decode cX2_watchers 3 = .ok (.aload_n 0, 1) := by decide +kernel
theorem dX2_watchers_4 : decode cX2_watchers 4 = .ok (.getfield 36, 3) := by decide +kernel
theorem dX2_watchers_7 : decode cX2_watchers 7 = .ok (.if_icmp .ge 21, 3) := by decide +kernel
theorem dX2_watchers_10 : decode cX2_watchers 10 = .ok (.aload_n 0, 1) := by decide +kernel
theorem dX2_watchers_11 : decode cX2_watchers 11 = .ok (.getfield 33, 3) := by decide +kernel
theorem dX2_watchers_14 : decode cX2_watchers 14 = .ok (.iload_n 2, 1) := by decide +kernel
theorem dX2_watchers_15 : decode cX2_watchers 15 = .ok (.aload_n 0, 1) := by decide +kernel
theorem dX2_watchers_16 : decode cX2_watchers 16 = .ok (.iload_n 2, 1) := by decide +kernel
theorem dX2_watchers_17 : decode cX2_watchers 17 = .ok (.iload_n 1, 1) := by decide +kernel
theorem dX2_watchers_18 : decode cX2_watchers 18 = .ok (.invokevirtual 121, 3) := by decide +kernel
theorem dX2_watchers_21 : decode cX2_watchers 21 = .ok (.iastore, 1) := by decide +kernel
theorem dX2_watchers_22 : decode cX2_watchers 22 = .ok (.iinc 2 1, 3) := by decide +kernel
theorem dX2_watchers_25 : decode cX2_watchers 25 = .ok (.goto (-23), 3) := by decide +kernel
theorem dX2_watchers_28 : decode cX2_watchers 28 = .ok (.iconst 1, 1) := by decide +kernel
theorem dX2_watchers_29 : decode cX2_watchers 29 = .ok (.aload_n 0, 1) := by decide +kernel
theorem dX2_watchers_30 : decode cX2_watchers 30 = .ok (.getfield 36, 3) := by decide +kernel
theorem dX2_watchers_33 : decode cX2_watchers 33 = .ok (.ishl, 1) := by decide +kernel
theorem dX2_watchers_34 : decode cX2_watchers 34 = .ok (.iconst 1, 1) := by decide +kernel
theorem dX2_watchers_35 : decode cX2_watchers 35 = .ok (.isub, 1) := by decide +kernel
theorem dX2_watchers_36 : decode cX2_watchers 36 = .ok (.istore_n 2, 1) := by decide +kernel
theorem dX2_watchers_37 : decode cX2_watchers 37 = .ok (.iload_n 2, 1) := by decide +kernel
theorem dX2_watchers_38 : decode cX2_watchers 38 = .ok (.istore_n 3, 1) := by decide +kernel
theorem dX2_watchers_39 : decode cX2_watchers 39 = .ok (.iconst 0, 1) := by decide +kernel
theorem dX2_watchers_40 : decode cX2_watchers 40 = .ok (.istore 4, 2) := by decide +kernel
theorem dX2_watchers_42 : decode cX2_watchers 42 = .ok (.iload 4, 2) := by decide +kernel
theorem dX2_watchers_44 : decode cX2_watchers 44 = .ok (.iload_n 2, 1) := by decide +kernel
theorem dX2_watchers_45 : decode cX2_watchers 45 = .ok (.if_icmp .ge 34, 3) := by decide +kernel
theorem dX2_watchers_48 : decode cX2_watchers 48 = .ok (.iload 4, 2) := by decide +kernel
theorem dX2_watchers_50 : decode cX2_watchers 50 = .ok (.invokestatic 124, 3) := by decide +kernel
theorem dX2_watchers_53 : decode cX2_watchers 53 = .ok (.iload_n 3, 1) := by decide +kernel
theorem dX2_watchers_54 : decode cX2_watchers 54 = .ok (.invokestatic 124, 3) := by decide +kernel
theorem dX2_watchers_57 : decode cX2_watchers 57 = .ok (.if_icmp .ge 16, 3) := by decide +kernel
theorem dX2_watchers_60 : decode cX2_watchers 60 = .ok (.aload_n 0, 1) := by decide +kernel
theorem dX2_watchers_61 : decode cX2_watchers 61 = .ok (.iload 4, 2) := by decide +kernel
theorem dX2_watchers_63 : decode cX2_watchers 63 = .ok (.invokevirtual 129, 3) := by decide +kernel
theorem dX2_watchers_66 : decode cX2_watchers 66 = .ok (.iload_n 2, 1) := by decide +kernel
theorem dX2_watchers_67 : decode cX2_watchers 67 = .ok (.if_icmp .ne 6, 3) := by decide +kernel
theorem dX2_watchers_70 : decode cX2_watchers 70 = .ok (.iload 4, 2) := by decide +kernel
theorem dX2_watchers_72 : decode cX2_watchers 72 = .ok (.istore_n 3, 1) := by decide +kernel
theorem dX2_watchers_73 : decode cX2_watchers 73 = .ok (.iinc 4 1, 3) := by decide +kernel
theorem dX2_watchers_76 : decode cX2_watchers 76 = .ok (.goto (-34), 3) := by decide +kernel
theorem dX2_watchers_79 : decode cX2_watchers 79 = .ok (.iload_n 3, 1) := by decide +kernel
theorem dX2_watchers_80 : decode cX2_watchers 80 = .ok (.ireturn, 1) := by decide +kernel
theorem dX2_seenFrom_0 : decode cX2_seenFrom 0 = .ok (.iconst 0, 1) := by decide +kernel
theorem dX2_seenFrom_1 : decode cX2_seenFrom 1 = .ok (.istore_n 2, 1) := by decide +kernel
theorem dX2_seenFrom_2 : decode cX2_seenFrom 2 = .ok (.iconst 0, 1) := by decide +kernel
theorem dX2_seenFrom_3 : decode cX2_seenFrom 3 = .ok (.istore_n 3, 1) := by decide +kernel
theorem dX2_seenFrom_4 : decode cX2_seenFrom 4 = .ok (.iload_n 3, 1) := by decide +kernel
theorem dX2_seenFrom_5 : decode cX2_seenFrom 5 = .ok (.aload_n 0, 1) := by decide +kernel
theorem dX2_seenFrom_6 : decode cX2_seenFrom 6 = .ok (.getfield 36, 3) := by decide +kernel
theorem dX2_seenFrom_9 : decode cX2_seenFrom 9 = .ok (.if_icmp .ge 26, 3) := by decide +kernel
theorem dX2_seenFrom_12 : decode cX2_seenFrom 12 = .ok (.iload_n 1, 1) := by decide +kernel
theorem dX2_seenFrom_13 : decode cX2_seenFrom 13 = .ok (.iload_n 3, 1) := by decide +kernel
theorem dX2_seenFrom_14 : decode cX2_seenFrom 14 = .ok (.invokestatic 114, 3) := by decide +kernel
theorem dX2_seenFrom_17 : decode cX2_seenFrom 17 = .ok (.ifCond .eq 12, 3) := by decide +kernel
theorem dX2_seenFrom_20 : decode cX2_seenFrom 20 = .ok (.iload_n 2, 1) := by decide +kernel
theorem dX2_seenFrom_21 : decode cX2_seenFrom 21 = .ok (.aload_n 0, 1) := by decide +kernel
theorem dX2_seenFrom_22 : decode cX2_seenFrom 22 = .ok (.getfield 33, 3) := by decide +kernel
theorem dX2_seenFrom_25 : decode cX2_seenFrom 25 = .ok (.iload_n 3, 1) := by decide +kernel
theorem dX2_seenFrom_26 : decode cX2_seenFrom 26 = .ok (.iaload, 1) := by decide +kernel
theorem dX2_seenFrom_27 : decode cX2_seenFrom 27 = .ok (.ior, 1) := by decide +kernel
theorem dX2_seenFrom_28 : decode cX2_seenFrom 28 = .ok (.istore_n 2, 1) := by decide +kernel
theorem dX2_seenFrom_29 : decode cX2_seenFrom 29 = .ok (.iinc 3 1, 3) := by decide +kernel
theorem dX2_seenFrom_32 : decode cX2_seenFrom 32 = .ok (.goto (-28), 3) := by decide +kernel
theorem dX2_seenFrom_35 : decode cX2_seenFrom 35 = .ok (.iload_n 2, 1) := by decide +kernel
theorem dX2_seenFrom_36 : decode cX2_seenFrom 36 = .ok (.ireturn, 1) := by decide +kernel
theorem dX3_init_0 : decode cX3_init 0 = .ok (.aload_n 0, 1) := by decide +kernel
theorem dX3_init_1 : decode cX3_init 1 = .ok (.invokespecial 3, 3) := by decide +kernel
theorem dX3_init_4 : decode cX3_init 4 = .ok (.aload_n 0, 1) := by decide +kernel
theorem dX3_init_5 : decode cX3_init 5 = .ok (.bipush 8, 2) := by decide +kernel
theorem dX3_init_7 : decode cX3_init 7 = .ok (.newarray .int, 2) := by decide +kernel
theorem dX3_init_9 : decode cX3_init 9 = .ok (.putfield 9, 3) := by decide +kernel
theorem dX3_init_12 : decode cX3_init 12 = .ok (.aload_n 0, 1) := by decide +kernel
theorem dX3_init_13 : decode cX3_init 13 = .ok (.bipush 6, 2) := by decide +kernel
theorem dX3_init_15 : decode cX3_init 15 = .ok (.newarray .int, 2) := by decide +kernel
theorem dX3_init_17 : decode cX3_init 17 = .ok (.putfield 15, 3) := by decide +kernel
theorem dX3_init_20 : decode cX3_init 20 = .ok (.aload_n 0, 1) := by decide +kernel
theorem dX3_init_21 : decode cX3_init 21 = .ok (.bipush 6, 2) := by decide +kernel
theorem dX3_init_23 : decode cX3_init 23 = .ok (.newarray .int, 2) := by decide +kernel
theorem dX3_init_25 : decode cX3_init 25 = .ok (.putfield 18, 3) := by decide +kernel
theorem dX3_init_28 : decode cX3_init 28 = .ok (.aload_n 0, 1) := by decide +kernel
theorem dX3_init_29 : decode cX3_init 29 = .ok (.bipush 7, 2) := by decide +kernel
theorem dX3_init_31 : decode cX3_init 31 = .ok (.newarray .int, 2) := by decide +kernel
theorem dX3_init_33 : decode cX3_init 33 = .ok (.putfield 21, 3) := by decide +kernel
theorem dX3_init_36 : decode cX3_init 36 = .ok (.return_, 1) := by decide +kernel
theorem dX3_settle_0 : decode cX3_settle 0 = .ok (.aload_n 0, 1) := by decide +kernel
theorem dX3_settle_1 : decode cX3_settle 1 = .ok (.aload_n 1, 1) := by decide +kernel
theorem dX3_settle_2 : decode cX3_settle 2 = .ok (.getfield 24, 3) := by decide +kernel
theorem dX3_settle_5 : decode cX3_settle 5 = .ok (.getfield 30, 3) := by decide +kernel
theorem dX3_settle_8 : decode cX3_settle 8 = .ok (.putfield 36, 3) := by decide +kernel
theorem dX3_settle_11 : decode cX3_settle 11 = .ok (.aload_n 0, 1) := by decide +kernel
theorem dX3_settle_12 : decode cX3_settle 12 = .ok (.aload_n 1, 1) := by decide +kernel
theorem dX3_settle_13 : decode cX3_settle 13 = .ok (.getfield 24, 3) := by decide +kernel
theorem dX3_settle_16 : decode cX3_settle 16 = .ok (.getfield 37, 3) := by decide +kernel
theorem dX3_settle_19 : decode cX3_settle 19 = .ok (.putfield 40, 3) := by decide +kernel
theorem dX3_settle_22 : decode cX3_settle 22 = .ok (.aload_n 0, 1) := by decide +kernel
theorem dX3_settle_23 : decode cX3_settle 23 = .ok (.aload_n 2, 1) := by decide +kernel
theorem dX3_settle_24 : decode cX3_settle 24 = .ok (.putfield 41, 3) := by decide +kernel
theorem dX3_settle_27 : decode cX3_settle 27 = .ok (.aload_n 0, 1) := by decide +kernel
theorem dX3_settle_28 : decode cX3_settle 28 = .ok (.iconst 0, 1) := by decide +kernel
theorem dX3_settle_29 : decode cX3_settle 29 = .ok (.putfield 45, 3) := by decide +kernel
theorem dX3_settle_32 : decode cX3_settle 32 = .ok (.aload_n 0, 1) := by decide +kernel
theorem dX3_settle_33 : decode cX3_settle 33 = .ok (.iconst (-1), 1) := by decide +kernel
theorem dX3_settle_34 : decode cX3_settle 34 = .ok (.putfield 48, 3) := by decide +kernel
theorem dX3_settle_37 : decode cX3_settle 37 = .ok (.iconst 0, 1) := by decide +kernel
theorem dX3_settle_38 : decode cX3_settle 38 = .ok (.istore_n 3, 1) := by decide +kernel
theorem dX3_settle_39 : decode cX3_settle 39 = .ok (.iload_n 3, 1) := by decide +kernel
theorem dX3_settle_40 : decode cX3_settle 40 = .ok (.aload_n 0, 1) := by decide +kernel
theorem dX3_settle_41 : decode cX3_settle 41 = .ok (.getfield 40, 3) := by decide +kernel
theorem dX3_settle_44 : decode cX3_settle 44 = .ok (.if_icmp .ge 23, 3) := by decide +kernel
theorem dX3_settle_47 : decode cX3_settle 47 = .ok (.aload_n 0, 1) := by decide +kernel
theorem dX3_settle_48 : decode cX3_settle 48 = .ok (.getfield 9, 3) := by decide +kernel
theorem dX3_settle_51 : decode cX3_settle 51 = .ok (.iload_n 3, 1) := by decide +kernel
theorem dX3_settle_52 : decode cX3_settle 52 = .ok (.aload_n 1, 1) := by decide +kernel
theorem dX3_settle_53 : decode cX3_settle 53 = .ok (.iload_n 3, 1) := by decide +kernel
theorem dX3_settle_54 : decode cX3_settle 54 = .ok (.invokevirtual 51, 3) := by decide +kernel
theorem dX3_settle_57 : decode cX3_settle 57 = .ok (.invokestatic 55, 3) := by decide +kernel
theorem dX3_settle_60 : decode cX3_settle 60 = .ok (.iastore, 1) := by decide +kernel
theorem dX3_settle_61 : decode cX3_settle 61 = .ok (.iinc 3 1, 3) := by decide +kernel
theorem dX3_settle_64 : decode cX3_settle 64 = .ok (.goto (-25), 3) := by decide +kernel
theorem dX3_settle_67 : decode cX3_settle 67 = .ok (.iconst 0, 1) := by decide +kernel
theorem dX3_settle_68 : decode cX3_settle 68 = .ok (.istore_n 3, 1) := by decide +kernel
theorem dX3_settle_69 : decode cX3_settle 69 = .ok (.iload_n 3, 1) := by decide +kernel
theorem dX3_settle_70 : decode cX3_settle 70 = .ok (.aload_n 0, 1) := by decide +kernel
theorem dX3_settle_71 : decode cX3_settle 71 = .ok (.getfield 36, 3) := by decide +kernel
theorem dX3_settle_74 : decode cX3_settle 74 = .ok (.if_icmp .ge 43, 3) := by decide +kernel
theorem dX3_settle_77 : decode cX3_settle 77 = .ok (.aload_n 0, 1) := by decide +kernel
theorem dX3_settle_78 : decode cX3_settle 78 = .ok (.getfield 15, 3) := by decide +kernel
theorem dX3_settle_81 : decode cX3_settle 81 = .ok (.iload_n 3, 1) := by decide +kernel
theorem dX3_settle_82 : decode cX3_settle 82 = .ok (.aload_n 1, 1) := by decide +kernel
theorem dX3_settle_83 : decode cX3_settle 83 = .ok (.iload_n 3, 1) := by decide +kernel
theorem dX3_settle_84 : decode cX3_settle 84 = .ok (.invokevirtual 60, 3) := by decide +kernel
theorem dX3_settle_87 : decode cX3_settle 87 = .ok (.iastore, 1) := by decide +kernel
theorem dX3_settle_88 : decode cX3_settle 88 = .ok (.aload_n 0, 1) := by decide +kernel
theorem dX3_settle_89 : decode cX3_settle 89 = .ok (.getfield 18, 3) := by decide +kernel
theorem dX3_settle_92 : decode cX3_settle 92 = .ok (.iload_n 3, 1) := by decide +kernel
theorem dX3_settle_93 : decode cX3_settle 93 = .ok (.aload_n 1, 1) := by decide +kernel
theorem dX3_settle_94 : decode cX3_settle 94 = .ok (.iload_n 3, 1) := by decide +kernel
theorem dX3_settle_95 : decode cX3_settle 95 = .ok (.invokevirtual 62, 3) := by decide +kernel
theorem dX3_settle_98 : decode cX3_settle 98 = .ok (.ifCond .eq 7, 3) := by decide +kernel
theorem dX3_settle_101 : decode cX3_settle 101 = .ok (.iconst 0, 1) := by decide +kernel
theorem dX3_settle_102 : decode cX3_settle 102 = .ok (.goto 8, 3) := by decide +kernel
theorem dX3_settle_105 : decode cX3_settle 105 = .ok (.aload_n 0, 1) := by decide +kernel
theorem dX3_settle_106 : decode cX3_settle 106 = .ok (.iload_n 3, 1) := by decide +kernel
theorem dX3_settle_107 : decode cX3_settle 107 = .ok (.invokevirtual 66, 3) := by decide +kernel
theorem dX3_settle_110 : decode cX3_settle 110 = .ok (.iastore, 1) := by decide +kernel
theorem dX3_settle_111 : decode cX3_settle 111 = .ok (.iinc 3 1, 3) := by decide +kernel
theorem dX3_settle_114 : decode cX3_settle 114 = .ok (.goto (-45), 3) := by decide +kernel
theorem dX3_settle_117 : decode cX3_settle 117 = .ok (.return_, 1) := by decide +kernel
theorem dX3_formsFor_0 : decode cX3_formsFor 0 = .ok (.iconst 0, 1) := by decide +kernel
theorem dX3_formsFor_1 : decode cX3_formsFor 1 = .ok (.istore_n 2, 1) := by decide +kernel
theorem dX3_formsFor_2 : decode cX3_formsFor 2 = .ok (.iconst 0, 1) := by decide +kernel
theorem dX3_formsFor_3 : decode cX3_formsFor 3 = .ok (.istore_n 3, 1) := by decide +kernel
theorem dX3_formsFor_4 : decode cX3_formsFor 4 = .ok (.iload_n 3, 1) := by decide +kernel
theorem dX3_formsFor_5 : decode cX3_formsFor 5 = .ok (.aload_n 0, 1) := by decide +kernel
theorem dX3_formsFor_6 : decode cX3_formsFor 6 = .ok (.getfield 40, 3) := by decide +kernel
theorem dX3_formsFor_9 : decode cX3_formsFor 9 = .ok (.if_icmp .ge 58, 3) := by decide +kernel
theorem dX3_formsFor_12 : decode cX3_formsFor 12 = .ok (.aload_n 0, 1) := by decide +kernel
theorem dX3_formsFor_13 : decode cX3_formsFor 13 = .ok (.iload_n 1, 1) := by decide +kernel
theorem dX3_formsFor_14 : decode cX3_formsFor 14 = .ok (.iload_n 3, 1) := by decide +kernel
theorem dX3_formsFor_15 : decode cX3_formsFor 15 = .ok (.invokevirtual 69, 3) := by decide +kernel
theorem dX3_formsFor_18 : decode cX3_formsFor 18 = .ok (.ifCond .eq 43, 3) := by decide +kernel
theorem dX3_formsFor_21 : decode cX3_formsFor 21 = .ok (.iload_n 2, 1) := by decide +kernel
theorem dX3_formsFor_22 : decode cX3_formsFor 22 = .ok (.iconst 1, 1) := by decide +kernel
theorem dX3_formsFor_23 : decode cX3_formsFor 23 = .ok (.iload_n 3, 1) := by decide +kernel
theorem dX3_formsFor_24 : decode cX3_formsFor 24 = .ok (.ishl, 1) := by decide +kernel
theorem dX3_formsFor_25 : decode cX3_formsFor 25 = .ok (.ior, 1) := by decide +kernel
theorem dX3_formsFor_26 : decode cX3_formsFor 26 = .ok (.istore_n 2, 1) := by decide +kernel
theorem dX3_formsFor_27 : decode cX3_formsFor 27 = .ok (.aload_n 0, 1) := by decide +kernel
theorem dX3_formsFor_28 : decode cX3_formsFor 28 = .ok (.aload_n 0, 1) := by decide +kernel
theorem dX3_formsFor_29 : decode cX3_formsFor 29 = .ok (.getfield 45, 3) := by decide +kernel
theorem dX3_formsFor_32 : decode cX3_formsFor 32 = .ok (.ifCond .ne 12, 3) := by decide +kernel
theorem dX3_formsFor_35 : decode cX3_formsFor 35 = .ok (.bipush 10, 2) := by decide +kernel
theorem dX3_formsFor_37 : decode cX3_formsFor 37 = .ok (.iload_n 1, 1) := by decide +kernel
theorem dX3_formsFor_38 : decode cX3_formsFor 38 = .ok (.imul, 1) := by decide +kernel
theorem dX3_formsFor_39 : decode cX3_formsFor 39 = .ok (.iload_n 3, 1) := by decide +kernel
theorem dX3_formsFor_40 : decode cX3_formsFor 40 = .ok (.iadd, 1) := by decide +kernel
theorem dX3_formsFor_41 : decode cX3_formsFor 41 = .ok (.goto 7, 3) := by decide +kernel
theorem dX3_formsFor_44 : decode cX3_formsFor 44 = .ok (.aload_n 0, 1) := by decide +kernel
theorem dX3_formsFor_45 : decode cX3_formsFor 45 = .ok (.getfield 48, 3) := by decide +kernel
theorem dX3_formsFor_48 : decode cX3_formsFor 48 = .ok (.putfield 48, 3) := by decide +kernel
theorem dX3_formsFor_51 : decode cX3_formsFor 51 = .ok (.aload_n 0, 1) := by decide +kernel
theorem dX3_formsFor_52 : decode cX3_formsFor 52 = .ok (.dup, 1) := by decide +kernel
theorem dX3_formsFor_53 : decode cX3_formsFor 53 = .ok (.getfield 45, 3) := by decide +kernel
theorem dX3_formsFor_56 : decode cX3_formsFor 56 = .ok (.iconst 1, 1) := by decide +kernel
theorem dX3_formsFor_57 : decode cX3_formsFor 57 = .ok (.iadd, 1) := by decide +kernel
theorem dX3_formsFor_58 : decode cX3_formsFor 58 = .ok (.putfield 45, 3) := by decide +kernel
theorem dX3_formsFor_61 : decode cX3_formsFor 61 = .ok (.iinc 3 1, 3) := by decide +kernel
theorem dX3_formsFor_64 : decode cX3_formsFor 64 = .ok (.goto (-60), 3) := by decide +kernel
theorem dX3_formsFor_67 : decode cX3_formsFor 67 = .ok (.iload_n 2, 1) := by decide +kernel
theorem dX3_formsFor_68 : decode cX3_formsFor 68 = .ok (.ireturn, 1) := by decide +kernel
theorem dX3_allRight_0 : decode cX3_allRight 0 = .ok (.iconst 0, 1) := by decide +kernel
theorem dX3_allRight_1 : decode cX3_allRight 1 = .ok (.istore_n 3, 1) := by decide +kernel
theorem dX3_allRight_2 : decode cX3_allRight 2 = .ok (.iload_n 3, 1) := by decide +kernel
theorem dX3_allRight_3 : decode cX3_allRight 3 = .ok (.aload_n 0, 1) := by decide +kernel
theorem dX3_allRight_4 : decode cX3_allRight 4 = .ok (.getfield 40, 3) := by decide +kernel
theorem dX3_allRight_7 : decode cX3_allRight 7 = .ok (.if_icmp .ge 36, 3) := by decide +kernel
theorem dX3_allRight_10 : decode cX3_allRight 10 = .ok (.aload_n 0, 1) := by decide +kernel
theorem dX3_allRight_11 : decode cX3_allRight 11 = .ok (.getfield 41, 3) := by decide +kernel
theorem dX3_allRight_14 : decode cX3_allRight 14 = .ok (.ifnull 21, 3) := by decide +kernel
theorem dX3_allRight_17 : decode cX3_allRight 17 = .ok (.aload_n 0, 1) := by decide +kernel
theorem dX3_allRight_18 : decode cX3_allRight 18 = .ok (.getfield 41, 3) := by decide +kernel
theorem dX3_allRight_21 : decode cX3_allRight 21 = .ok (.iload_n 3, 1) := by decide +kernel
theorem dX3_allRight_22 : decode cX3_allRight 22 = .ok (.aload_n 0, 1) := by decide +kernel
theorem dX3_allRight_23 : decode cX3_allRight 23 = .ok (.iload_n 3, 1) := by decide +kernel
theorem dX3_allRight_24 : decode cX3_allRight 24 = .ok (.iload_n 1, 1) := by decide +kernel
theorem dX3_allRight_25 : decode cX3_allRight 25 = .ok (.iload_n 2, 1) := by decide +kernel
theorem dX3_allRight_26 : decode cX3_allRight 26 = .ok (.invokevirtual 73, 3) := by decide +kernel
theorem dX3_allRight_29 : decode cX3_allRight 29 = .ok (.invokevirtual 77, 3) := by decide +kernel
theorem dX3_allRight_32 : decode cX3_allRight 32 = .ok (.ifCond .ne 5, 3) := by decide +kernel
theorem dX3_allRight_35 : decode cX3_allRight 35 = .ok (.iconst 0, 1) := by decide +kernel
theorem dX3_allRight_36 : decode cX3_allRight 36 = .ok (.ireturn, 1) := by decide +kernel
theorem dX3_allRight_37 : decode cX3_allRight 37 = .ok (.iinc 3 1, 3) := by decide +kernel
theorem dX3_allRight_40 : decode cX3_allRight 40 = .ok (.goto (-38), 3) := by decide +kernel
theorem dX3_allRight_43 : decode cX3_allRight 43 = .ok (.iconst 1, 1) := by decide +kernel
theorem dX3_allRight_44 : decode cX3_allRight 44 = .ok (.ireturn, 1) := by decide +kernel
theorem dX3_seatedThen_0 : decode cX3_seatedThen 0 = .ok (.aload_n 0, 1) := by decide +kernel
theorem dX3_seatedThen_1 : decode cX3_seatedThen 1 = .ok (.getfield 9, 3) := by decide +kernel
theorem dX3_seatedThen_4 : decode cX3_seatedThen 4 = .ok (.iload_n 1, 1) := by decide +kernel
theorem dX3_seatedThen_5 : decode cX3_seatedThen 5 = .ok (.iaload, 1) := by decide +kernel
theorem dX3_seatedThen_6 : decode cX3_seatedThen 6 = .ok (.aload_n 0, 1) := by decide +kernel
theorem dX3_seatedThen_7 : decode cX3_seatedThen 7 = .ok (.getfield 15, 3) := by decide +kernel
theorem dX3_seatedThen_10 : decode cX3_seatedThen 10 = .ok (.iload_n 2, 1) := by decide +kernel
theorem dX3_seatedThen_11 : decode cX3_seatedThen 11 = .ok (.iaload, 1) := by decide +kernel
theorem dX3_seatedThen_12 : decode cX3_seatedThen 12 = .ok (.iload_n 1, 1) := by decide +kernel
theorem dX3_seatedThen_13 : decode cX3_seatedThen 13 = .ok (.if_icmp .ne 7, 3) := by decide +kernel
theorem dX3_seatedThen_16 : decode cX3_seatedThen 16 = .ok (.iconst 1, 1) := by decide +kernel
theorem dX3_seatedThen_17 : decode cX3_seatedThen 17 = .ok (.goto 4, 3) := by decide +kernel
theorem dX3_seatedThen_20 : decode cX3_seatedThen 20 = .ok (.iconst 0, 1) := by decide +kernel
theorem dX3_seatedThen_21 : decode cX3_seatedThen 21 = .ok (.isub, 1) := by decide +kernel
theorem dX3_seatedThen_22 : decode cX3_seatedThen 22 = .ok (.iload_n 3, 1) := by decide +kernel
theorem dX3_seatedThen_23 : decode cX3_seatedThen 23 = .ok (.iload_n 1, 1) := by decide +kernel
theorem dX3_seatedThen_24 : decode cX3_seatedThen 24 = .ok (.if_icmp .ne 7, 3) := by decide +kernel
theorem dX3_seatedThen_27 : decode cX3_seatedThen 27 = .ok (.iconst 1, 1) := by decide +kernel
theorem dX3_seatedThen_28 : decode cX3_seatedThen 28 = .ok (.goto 4, 3) := by decide +kernel
theorem dX3_seatedThen_31 : decode cX3_seatedThen 31 = .ok (.iconst 0, 1) := by decide +kernel
theorem dX3_seatedThen_32 : decode cX3_seatedThen 32 = .ok (.iadd, 1) := by decide +kernel
theorem dX3_seatedThen_33 : decode cX3_seatedThen 33 = .ok (.ireturn, 1) := by decide +kernel
theorem dX3_lookAhead_0 : decode cX3_lookAhead 0 = .ok (.aload_n 0, 1) := by decide +kernel
theorem dX3_lookAhead_1 : decode cX3_lookAhead 1 = .ok (.iconst (-1), 1) := by decide +kernel
theorem dX3_lookAhead_2 : decode cX3_lookAhead 2 = .ok (.putfield 82, 3) := by decide +kernel
theorem dX3_lookAhead_5 : decode cX3_lookAhead 5 = .ok (.aload_n 0, 1) := by decide +kernel
theorem dX3_lookAhead_6 : decode cX3_lookAhead 6 = .ok (.iconst (-1), 1) := by decide +kernel
theorem dX3_lookAhead_7 : decode cX3_lookAhead 7 = .ok (.putfield 85, 3) := by decide +kernel
theorem dX3_lookAhead_10 : decode cX3_lookAhead 10 = .ok (.iconst 0, 1) := by decide +kernel
theorem dX3_lookAhead_11 : decode cX3_lookAhead 11 = .ok (.istore_n 1, 1) := by decide +kernel
theorem dX3_lookAhead_12 : decode cX3_lookAhead 12 = .ok (.iload_n 1, 1) := by decide +kernel
theorem dX3_lookAhead_13 : decode cX3_lookAhead 13 = .ok (.aload_n 0, 1) := by decide +kernel
theorem dX3_lookAhead_14 : decode cX3_lookAhead 14 = .ok (.getfield 40, 3) := by decide +kernel
theorem dX3_lookAhead_17 : decode cX3_lookAhead 17 = .ok (.if_icmp .ge 59, 3) := by decide +kernel
theorem dX3_lookAhead_20 : decode cX3_lookAhead 20 = .ok (.aload_n 0, 1) := by decide +kernel
theorem dX3_lookAhead_21 : decode cX3_lookAhead 21 = .ok (.getfield 41, 3) := by decide +kernel
theorem dX3_lookAhead_24 : decode cX3_lookAhead 24 = .ok (.ifnull 46, 3) := by decide +kernel
theorem dX3_lookAhead_27 : decode cX3_lookAhead 27 = .ok (.aload_n 0, 1) := by decide +kernel
theorem dX3_lookAhead_28 : decode cX3_lookAhead 28 = .ok (.getfield 41, 3) := by decide +kernel
theorem dX3_lookAhead_31 : decode cX3_lookAhead 31 = .ok (.iload_n 1, 1) := by decide +kernel
theorem dX3_lookAhead_32 : decode cX3_lookAhead 32 = .ok (.invokevirtual 88, 3) := by decide +kernel
theorem dX3_lookAhead_35 : decode cX3_lookAhead 35 = .ok (.ifCond .ne 35, 3) := by decide +kernel
theorem dX3_lookAhead_38 : decode cX3_lookAhead 38 = .ok (.aload_n 0, 1) := by decide +kernel
theorem dX3_lookAhead_39 : decode cX3_lookAhead 39 = .ok (.iload_n 1, 1) := by decide +kernel
theorem dX3_lookAhead_40 : decode cX3_lookAhead 40 = .ok (.invokevirtual 91, 3) := by decide +kernel
theorem dX3_lookAhead_43 : decode cX3_lookAhead 43 = .ok (.istore_n 2, 1) := by decide +kernel
theorem dX3_lookAhead_44 : decode cX3_lookAhead 44 = .ok (.aload_n 0, 1) := by decide +kernel
theorem dX3_lookAhead_45 : decode cX3_lookAhead 45 = .ok (.getfield 82, 3) := by decide +kernel
theorem dX3_lookAhead_48 : decode cX3_lookAhead 48 = .ok (.iconst (-1), 1) := by decide +kernel
theorem dX3_lookAhead_49 : decode cX3_lookAhead 49 = .ok (.if_icmp .eq 11, 3) := by decide +kernel
theorem dX3_lookAhead_52 : decode cX3_lookAhead 52 = .ok (.iload_n 2, 1) := by decide +kernel
theorem dX3_lookAhead_53 : decode cX3_lookAhead 53 = .ok (.aload_n 0, 1) := by decide +kernel
theorem dX3_lookAhead_54 : decode cX3_lookAhead 54 = .ok (.getfield 85, 3) := by decide +kernel
theorem dX3_lookAhead_57 : decode cX3_lookAhead 57 = .ok (.if_icmp .ge 13, 3) := by decide +kernel
theorem dX3_lookAhead_60 : decode cX3_lookAhead 60 = .ok (.aload_n 0, 1) := by decide +kernel
theorem dX3_lookAhead_61 : decode cX3_lookAhead 61 = .ok (.iload_n 1, 1) := by decide +kernel
theorem dX3_lookAhead_62 : decode cX3_lookAhead 62 = .ok (.putfield 82, 3) := by decide +kernel
theorem dX3_lookAhead_65 : decode cX3_lookAhead 65 = .ok (.aload_n 0, 1) := by decide +kernel
theorem dX3_lookAhead_66 : decode cX3_lookAhead 66 = .ok (.iload_n 2, 1) := by decide +kernel
theorem dX3_lookAhead_67 : decode cX3_lookAhead 67 = .ok (.putfield 85, 3) := by decide +kernel
theorem dX3_lookAhead_70 : decode cX3_lookAhead 70 = .ok (.iinc 1 1, 3) := by decide +kernel
theorem dX3_lookAhead_73 : decode cX3_lookAhead 73 = .ok (.goto (-61), 3) := by decide +kernel
theorem dX3_lookAhead_76 : decode cX3_lookAhead 76 = .ok (.return_, 1) := by decide +kernel
theorem dX3_worstAt_0 : decode cX3_worstAt 0 = .ok (.iconst 0, 1) := by decide +kernel
theorem dX3_worstAt_1 : decode cX3_worstAt 1 = .ok (.istore_n 2, 1) := by decide +kernel
theorem dX3_worstAt_2 : decode cX3_worstAt 2 = .ok (.iload_n 2, 1) := by decide +kernel
theorem dX3_worstAt_3 : decode cX3_worstAt 3 = .ok (.bipush 6, 2) := by decide +kernel
theorem dX3_worstAt_5 : decode cX3_worstAt 5 = .ok (.if_icmp .gt 16, 3) := by decide +kernel
theorem dX3_worstAt_8 : decode cX3_worstAt 8 = .ok (.aload_n 0, 1) := by decide +kernel
theorem dX3_worstAt_9 : decode cX3_worstAt 9 = .ok (.getfield 21, 3) := by decide +kernel
theorem dX3_worstAt_12 : decode cX3_worstAt 12 = .ok (.iload_n 2, 1) := by decide +kernel
theorem dX3_worstAt_13 : decode cX3_worstAt 13 = .ok (.iconst 0, 1) := by decide +kernel
theorem dX3_worstAt_14 : decode cX3_worstAt 14 = .ok (.iastore, 1) := by decide +kernel
theorem dX3_worstAt_15 : decode cX3_worstAt 15 = .ok (.iinc 2 1, 3) := by decide +kernel
theorem dX3_worstAt_18 : decode cX3_worstAt 18 = .ok (.goto (-16), 3) := by decide +kernel
theorem dX3_worstAt_21 : decode cX3_worstAt 21 = .ok (.iconst 0, 1) := by decide +kernel
theorem dX3_worstAt_22 : decode cX3_worstAt 22 = .ok (.istore_n 2, 1) := by decide +kernel
theorem dX3_worstAt_23 : decode cX3_worstAt 23 = .ok (.iconst 0, 1) := by decide +kernel
theorem dX3_worstAt_24 : decode cX3_worstAt 24 = .ok (.istore_n 3, 1) := by decide +kernel
theorem dX3_worstAt_25 : decode cX3_worstAt 25 = .ok (.iload_n 3, 1) := by decide +kernel
theorem dX3_worstAt_26 : decode cX3_worstAt 26 = .ok (.aload_n 0, 1) := by decide +kernel
theorem dX3_worstAt_27 : decode cX3_worstAt 27 = .ok (.getfield 36, 3) := by decide +kernel
theorem dX3_worstAt_30 : decode cX3_worstAt 30 = .ok (.if_icmp .ge 58, 3) := by decide +kernel
theorem dX3_worstAt_33 : decode cX3_worstAt 33 = .ok (.iconst 0, 1) := by decide +kernel
theorem dX3_worstAt_34 : decode cX3_worstAt 34 = .ok (.istore 4, 2) := by decide +kernel
theorem dX3_worstAt_36 : decode cX3_worstAt 36 = .ok (.iload 4, 2) := by decide +kernel
theorem dX3_worstAt_38 : decode cX3_worstAt 38 = .ok (.aload_n 0, 1) := by decide +kernel
theorem dX3_worstAt_39 : decode cX3_worstAt 39 = .ok (.getfield 40, 3) := by decide +kernel
theorem dX3_worstAt_42 : decode cX3_worstAt 42 = .ok (.if_icmp .ge 40, 3) := by decide +kernel
theorem dX3_worstAt_45 : decode cX3_worstAt 45 = .ok (.aload_n 0, 1) := by decide +kernel
theorem dX3_worstAt_46 : decode cX3_worstAt 46 = .ok (.getfield 18, 3) := by decide +kernel
theorem dX3_worstAt_49 : decode cX3_worstAt 49 = .ok (.iload_n 3, 1) := by decide +kernel
theorem dX3_worstAt_50 : decode cX3_worstAt 50 = .ok (.iaload, 1) := by decide +kernel
theorem dX3_worstAt_51 : decode cX3_worstAt 51 = .ok (.iload 4, 2) := by decide +kernel
theorem dX3_worstAt_53 : decode cX3_worstAt 53 = .ok (.invokestatic 94, 3) := by decide +kernel
theorem dX3_worstAt_56 : decode cX3_worstAt 56 = .ok (.ifCond .eq 20, 3) := by decide +kernel
theorem dX3_worstAt_59 : decode cX3_worstAt 59 = .ok (.iload_n 2, 1) := by decide +kernel
theorem dX3_worstAt_60 : decode cX3_worstAt 60 = .ok (.aload_n 0, 1) := by decide +kernel
theorem dX3_worstAt_61 : decode cX3_worstAt 61 = .ok (.aload_n 0, 1) := by decide +kernel
theorem dX3_worstAt_62 : decode cX3_worstAt 62 = .ok (.iload_n 1, 1) := by decide +kernel
theorem dX3_worstAt_63 : decode cX3_worstAt 63 = .ok (.iload_n 3, 1) := by decide +kernel
theorem dX3_worstAt_64 : decode cX3_worstAt 64 = .ok (.iload 4, 2) := by decide +kernel
theorem dX3_worstAt_66 : decode cX3_worstAt 66 = .ok (.invokevirtual 73, 3) := by decide +kernel
theorem dX3_worstAt_69 : decode cX3_worstAt 69 = .ok (.invokevirtual 97, 3) := by decide +kernel
theorem dX3_worstAt_72 : decode cX3_worstAt 72 = .ok (.invokestatic 100, 3) := by decide +kernel
theorem dX3_worstAt_75 : decode cX3_worstAt 75 = .ok (.istore_n 2, 1) := by decide +kernel
theorem dX3_worstAt_76 : decode cX3_worstAt 76 = .ok (.iinc 4 1, 3) := by decide +kernel
theorem dX3_worstAt_79 : decode cX3_worstAt 79 = .ok (.goto (-43), 3) := by decide +kernel
theorem dX3_worstAt_82 : decode cX3_worstAt 82 = .ok (.iinc 3 1, 3) := by decide +kernel
theorem dX3_worstAt_85 : decode cX3_worstAt 85 = .ok (.goto (-60), 3) := by decide +kernel
theorem dX3_worstAt_88 : decode cX3_worstAt 88 = .ok (.iload_n 2, 1) := by decide +kernel
theorem dX3_worstAt_89 : decode cX3_worstAt 89 = .ok (.ireturn, 1) := by decide +kernel
theorem dX3_tallied_0 : decode cX3_tallied 0 = .ok (.iload_n 1, 1) := by decide +kernel
theorem dX3_tallied_1 : decode cX3_tallied 1 = .ok (.iconst 0, 1) := by decide +kernel
theorem dX3_tallied_2 : decode cX3_tallied 2 = .ok (.bipush 6, 2) := by decide +kernel
theorem dX3_tallied_4 : decode cX3_tallied 4 = .ok (.invokestatic 106, 3) := by decide +kernel
theorem dX3_tallied_7 : decode cX3_tallied 7 = .ok (.ifCond .ne 5, 3) := by decide +kernel
theorem dX3_tallied_10 : decode cX3_tallied 10 = .ok (.iconst 0, 1) := by decide +kernel
theorem dX3_tallied_11 : decode cX3_tallied 11 = .ok (.ireturn, 1) := by decide +kernel
theorem dX3_tallied_12 : decode cX3_tallied 12 = .ok (.aload_n 0, 1) := by decide +kernel
theorem dX3_tallied_13 : decode cX3_tallied 13 = .ok (.getfield 21, 3) := by decide +kernel
theorem dX3_tallied_16 : decode cX3_tallied 16 = .ok (.iload_n 1, 1) := by decide +kernel
theorem dX3_tallied_17 : decode cX3_tallied 17 = .ok (.dup2, 1) := by decide +kernel
theorem dX3_tallied_18 : decode cX3_tallied 18 = .ok (.iaload, 1) := by decide +kernel
theorem dX3_tallied_19 : decode cX3_tallied 19 = .ok (.iconst 1, 1) := by decide +kernel
theorem dX3_tallied_20 : decode cX3_tallied 20 = .ok (.iadd, 1) := by decide +kernel
theorem dX3_tallied_21 : decode cX3_tallied 21 = .ok (.iastore, 1) := by decide +kernel
theorem dX3_tallied_22 : decode cX3_tallied 22 = .ok (.aload_n 0, 1) := by decide +kernel
theorem dX3_tallied_23 : decode cX3_tallied 23 = .ok (.getfield 21, 3) := by decide +kernel
theorem dX3_tallied_26 : decode cX3_tallied 26 = .ok (.iload_n 1, 1) := by decide +kernel
theorem dX3_tallied_27 : decode cX3_tallied 27 = .ok (.iaload, 1) := by decide +kernel
theorem dX3_tallied_28 : decode cX3_tallied 28 = .ok (.ireturn, 1) := by decide +kernel
theorem dX4_init_0 : decode cX4_init 0 = .ok (.aload_n 0, 1) := by decide +kernel
theorem dX4_init_1 : decode cX4_init 1 = .ok (.invokespecial 3, 3) := by decide +kernel
theorem dX4_init_4 : decode cX4_init 4 = .ok (.aload_n 0, 1) := by decide +kernel
theorem dX4_init_5 : decode cX4_init 5 = .ok (.sipush 150, 3) := by decide +kernel
theorem dX4_init_8 : decode cX4_init 8 = .ok (.newarray .int, 2) := by decide +kernel
theorem dX4_init_10 : decode cX4_init 10 = .ok (.putfield 9, 3) := by decide +kernel
theorem dX4_init_13 : decode cX4_init 13 = .ok (.aload_n 0, 1) := by decide +kernel
theorem dX4_init_14 : decode cX4_init 14 = .ok (.sipush 150, 3) := by decide +kernel
theorem dX4_init_17 : decode cX4_init 17 = .ok (.newarray .int, 2) := by decide +kernel
theorem dX4_init_19 : decode cX4_init 19 = .ok (.putfield 15, 3) := by decide +kernel
theorem dX4_init_22 : decode cX4_init 22 = .ok (.aload_n 0, 1) := by decide +kernel
theorem dX4_init_23 : decode cX4_init 23 = .ok (.sipush 150, 3) := by decide +kernel
theorem dX4_init_26 : decode cX4_init 26 = .ok (.newarray .int, 2) := by decide +kernel
theorem dX4_init_28 : decode cX4_init 28 = .ok (.putfield 18, 3) := by decide +kernel
theorem dX4_init_31 : decode cX4_init 31 = .ok (.aload_n 0, 1) := by decide +kernel
theorem dX4_init_32 : decode cX4_init 32 = .ok (.bipush 8, 2) := by decide +kernel
theorem dX4_init_34 : decode cX4_init 34 = .ok (.newarray .int, 2) := by decide +kernel
theorem dX4_init_36 : decode cX4_init 36 = .ok (.putfield 21, 3) := by decide +kernel
theorem dX4_init_39 : decode cX4_init 39 = .ok (.aload_n 0, 1) := by decide +kernel
theorem dX4_init_40 : decode cX4_init 40 = .ok (.invokevirtual 24, 3) := by decide +kernel
theorem dX4_init_43 : decode cX4_init 43 = .ok (.return_, 1) := by decide +kernel
theorem dX4_setPlain_0 : decode cX4_setPlain 0 = .ok (.aload_n 0, 1) := by decide +kernel
theorem dX4_setPlain_1 : decode cX4_setPlain 1 = .ok (.iconst 0, 1) := by decide +kernel
theorem dX4_setPlain_2 : decode cX4_setPlain 2 = .ok (.putfield 27, 3) := by decide +kernel
theorem dX4_setPlain_5 : decode cX4_setPlain 5 = .ok (.aload_n 0, 1) := by decide +kernel
theorem dX4_setPlain_6 : decode cX4_setPlain 6 = .ok (.iconst 0, 1) := by decide +kernel
theorem dX4_setPlain_7 : decode cX4_setPlain 7 = .ok (.iconst 4, 1) := by decide +kernel
theorem dX4_setPlain_8 : decode cX4_setPlain 8 = .ok (.invokevirtual 31, 3) := by decide +kernel
theorem dX4_setPlain_11 : decode cX4_setPlain 11 = .ok (.aload_n 0, 1) := by decide +kernel
theorem dX4_setPlain_12 : decode cX4_setPlain 12 = .ok (.iconst 1, 1) := by decide +kernel
theorem dX4_setPlain_13 : decode cX4_setPlain 13 = .ok (.iconst 0, 1) := by decide +kernel
theorem dX4_setPlain_14 : decode cX4_setPlain 14 = .ok (.invokevirtual 31, 3) := by decide +kernel
theorem dX4_setPlain_17 : decode cX4_setPlain 17 = .ok (.aload_n 0, 1) := by decide +kernel
theorem dX4_setPlain_18 : decode cX4_setPlain 18 = .ok (.iconst 2, 1) := by decide +kernel
theorem dX4_setPlain_19 : decode cX4_setPlain 19 = .ok (.iconst 0, 1) := by decide +kernel
theorem dX4_setPlain_20 : decode cX4_setPlain 20 = .ok (.invokevirtual 31, 3) := by decide +kernel
theorem dX4_setPlain_23 : decode cX4_setPlain 23 = .ok (.aload_n 0, 1) := by decide +kernel
theorem dX4_setPlain_24 : decode cX4_setPlain 24 = .ok (.iconst 1, 1) := by decide +kernel
theorem dX4_setPlain_25 : decode cX4_setPlain 25 = .ok (.iconst 1, 1) := by decide +kernel
theorem dX4_setPlain_26 : decode cX4_setPlain 26 = .ok (.invokevirtual 31, 3) := by decide +kernel
theorem dX4_setPlain_29 : decode cX4_setPlain 29 = .ok (.aload_n 0, 1) := by decide +kernel
theorem dX4_setPlain_30 : decode cX4_setPlain 30 = .ok (.iconst 3, 1) := by decide +kernel
theorem dX4_setPlain_31 : decode cX4_setPlain 31 = .ok (.iconst 0, 1) := by decide +kernel
theorem dX4_setPlain_32 : decode cX4_setPlain 32 = .ok (.invokevirtual 31, 3) := by decide +kernel
theorem dX4_setPlain_35 : decode cX4_setPlain 35 = .ok (.return_, 1) := by decide +kernel
theorem dX4_add_0 : decode cX4_add 0 = .ok (.aload_n 0, 1) := by decide +kernel
theorem dX4_add_1 : decode cX4_add 1 = .ok (.getfield 27, 3) := by decide +kernel
theorem dX4_add_4 : decode cX4_add 4 = .ok (.sipush 150, 3) := by decide +kernel
theorem dX4_add_7 : decode cX4_add 7 = .ok (.if_icmp .ge 33, 3) := by decide +kernel
theorem dX4_add_10 : decode cX4_add 10 = .ok (.aload_n 0, 1) := by decide +kernel
theorem dX4_add_11 : decode cX4_add 11 = .ok (.getfield 9, 3) := by decide +kernel
theorem dX4_add_14 : decode cX4_add 14 = .ok (.aload_n 0, 1) := by decide +kernel
theorem dX4_add_15 : decode cX4_add 15 = .ok (.getfield 27, 3) := by decide +kernel
theorem dX4_add_18 : decode cX4_add 18 = .ok (.iload_n 1, 1) := by decide +kernel
theorem dX4_add_19 : decode cX4_add 19 = .ok (.iastore, 1) := by decide +kernel
theorem dX4_add_20 : decode cX4_add 20 = .ok (.aload_n 0, 1) := by decide +kernel
theorem dX4_add_21 : decode cX4_add 21 = .ok (.getfield 15, 3) := by decide +kernel
theorem dX4_add_24 : decode cX4_add 24 = .ok (.aload_n 0, 1) := by decide +kernel
theorem dX4_add_25 : decode cX4_add 25 = .ok (.getfield 27, 3) := by decide +kernel
theorem dX4_add_28 : decode cX4_add 28 = .ok (.iload_n 2, 1) := by decide +kernel
theorem dX4_add_29 : decode cX4_add 29 = .ok (.iastore, 1) := by decide +kernel
theorem dX4_add_30 : decode cX4_add 30 = .ok (.aload_n 0, 1) := by decide +kernel
theorem dX4_add_31 : decode cX4_add 31 = .ok (.dup, 1) := by decide +kernel
theorem dX4_add_32 : decode cX4_add 32 = .ok (.getfield 27, 3) := by decide +kernel
theorem dX4_add_35 : decode cX4_add 35 = .ok (.iconst 1, 1) := by decide +kernel
theorem dX4_add_36 : decode cX4_add 36 = .ok (.iadd, 1) := by decide +kernel
theorem dX4_add_37 : decode cX4_add 37 = .ok (.putfield 27, 3) := by decide +kernel
theorem dX4_add_40 : decode cX4_add 40 = .ok (.return_, 1) := by decide +kernel
theorem dX4_readFrom_0 : decode cX4_readFrom 0 = .ok (.aload_n 0, 1) := by decide +kernel
theorem dX4_readFrom_1 : decode cX4_readFrom 1 = .ok (.iconst 0, 1) := by decide +kernel
theorem dX4_readFrom_2 : decode cX4_readFrom 2 = .ok (.putfield 27, 3) := by decide +kernel
theorem dX4_readFrom_5 : decode cX4_readFrom 5 = .ok (.aload_n 0, 1) := by decide +kernel
theorem dX4_readFrom_6 : decode cX4_readFrom 6 = .ok (.aload_n 1, 1) := by decide +kernel
theorem dX4_readFrom_7 : decode cX4_readFrom 7 = .ok (.iconst 0, 1) := by decide +kernel
theorem dX4_readFrom_8 : decode cX4_readFrom 8 = .ok (.invokevirtual 35, 3) := by decide +kernel
theorem dX4_readFrom_11 : decode cX4_readFrom 11 = .ok (.aload_n 1, 1) := by decide +kernel
theorem dX4_readFrom_12 : decode cX4_readFrom 12 = .ok (.invokevirtual 39, 3) := by decide +kernel
theorem dX4_readFrom_15 : decode cX4_readFrom 15 = .ok (.return_, 1) := by decide +kernel
theorem dX4_readSum_0 : decode cX4_readSum 0 = .ok (.aload_n 0, 1) := by decide +kernel
theorem dX4_readSum_1 : decode cX4_readSum 1 = .ok (.aload_n 1, 1) := by decide +kernel
theorem dX4_readSum_2 : decode cX4_readSum 2 = .ok (.iload_n 2, 1) := by decide +kernel
theorem dX4_readSum_3 : decode cX4_readSum 3 = .ok (.invokevirtual 44, 3) := by decide +kernel
theorem dX4_readSum_6 : decode cX4_readSum 6 = .ok (.iconst 0, 1) := by decide +kernel
theorem dX4_readSum_7 : decode cX4_readSum 7 = .ok (.istore_n 3, 1) := by decide +kernel
theorem dX4_readSum_8 : decode cX4_readSum 8 = .ok (.iload_n 3, 1) := by decide +kernel
theorem dX4_readSum_9 : decode cX4_readSum 9 = .ok (.sipush 150, 3) := by decide +kernel
theorem dX4_readSum_12 : decode cX4_readSum 12 = .ok (.if_icmp .ge 65, 3) := by decide +kernel
theorem dX4_readSum_15 : decode cX4_readSum 15 = .ok (.aload_n 1, 1) := by decide +kernel
theorem dX4_readSum_16 : decode cX4_readSum 16 = .ok (.invokevirtual 47, 3) := by decide +kernel
theorem dX4_readSum_19 : decode cX4_readSum 19 = .ok (.ifCond .ne 58, 3) := by decide +kernel
theorem dX4_readSum_22 : decode cX4_readSum 22 = .ok (.aload_n 1, 1) := by decide +kernel
theorem dX4_readSum_23 : decode cX4_readSum 23 = .ok (.bipush 43, 2) := by decide +kernel
theorem dX4_readSum_25 : decode cX4_readSum 25 = .ok (.invokevirtual 51, 3) := by decide +kernel
theorem dX4_readSum_28 : decode cX4_readSum 28 = .ok (.ifCond .eq 7, 3) := by decide +kernel
theorem dX4_readSum_31 : decode cX4_readSum 31 = .ok (.iconst 2, 1) := by decide +kernel
theorem dX4_readSum_32 : decode cX4_readSum 32 = .ok (.goto 17, 3) := by decide +kernel
theorem dX4_readSum_35 : decode cX4_readSum 35 = .ok (.aload_n 1, 1) := by decide +kernel
theorem dX4_readSum_36 : decode cX4_readSum 36 = .ok (.bipush 45, 2) := by decide +kernel
theorem dX4_readSum_38 : decode cX4_readSum 38 = .ok (.invokevirtual 51, 3) := by decide +kernel
theorem dX4_readSum_41 : decode cX4_readSum 41 = .ok (.ifCond .eq 7, 3) := by decide +kernel
theorem dX4_readSum_44 : decode cX4_readSum 44 = .ok (.iconst 3, 1) := by decide +kernel
theorem dX4_readSum_45 : decode cX4_readSum 45 = .ok (.goto 4, 3) := by decide +kernel
theorem dX4_readSum_48 : decode cX4_readSum 48 = .ok (.iconst (-1), 1) := by decide +kernel
theorem dX4_readSum_49 : decode cX4_readSum 49 = .ok (.istore 4, 2) := by decide +kernel
theorem dX4_readSum_51 : decode cX4_readSum 51 = .ok (.iload 4, 2) := by decide +kernel
theorem dX4_readSum_53 : decode cX4_readSum 53 = .ok (.iconst (-1), 1) := by decide +kernel
theorem dX4_readSum_54 : decode cX4_readSum 54 = .ok (.if_icmp .ne 4, 3) := by decide +kernel
theorem dX4_readSum_57 : decode cX4_readSum 57 = .ok (.return_, 1) := by decide +kernel
theorem dX4_readSum_58 : decode cX4_readSum 58 = .ok (.aload_n 0, 1) := by decide +kernel
theorem dX4_readSum_59 : decode cX4_readSum 59 = .ok (.aload_n 1, 1) := by decide +kernel
theorem dX4_readSum_60 : decode cX4_readSum 60 = .ok (.iload_n 2, 1) := by decide +kernel
theorem dX4_readSum_61 : decode cX4_readSum 61 = .ok (.invokevirtual 44, 3) := by decide +kernel
theorem dX4_readSum_64 : decode cX4_readSum 64 = .ok (.aload_n 0, 1) := by decide +kernel
theorem dX4_readSum_65 : decode cX4_readSum 65 = .ok (.iload 4, 2) := by decide +kernel
theorem dX4_readSum_67 : decode cX4_readSum 67 = .ok (.iconst 0, 1) := by decide +kernel
theorem dX4_readSum_68 : decode cX4_readSum 68 = .ok (.invokevirtual 31, 3) := by decide +kernel
theorem dX4_readSum_71 : decode cX4_readSum 71 = .ok (.iinc 3 1, 3) := by decide +kernel
theorem dX4_readSum_74 : decode cX4_readSum 74 = .ok (.goto (-66), 3) := by decide +kernel
theorem dX4_readSum_77 : decode cX4_readSum 77 = .ok (.return_, 1) := by decide +kernel
theorem dX4_readProduct_0 : decode cX4_readProduct 0 = .ok (.aload_n 0, 1) := by decide +kernel
theorem dX4_readProduct_1 : decode cX4_readProduct 1 = .ok (.aload_n 1, 1) := by decide +kernel
theorem dX4_readProduct_2 : decode cX4_readProduct 2 = .ok (.iload_n 2, 1) := by decide +kernel
theorem dX4_readProduct_3 : decode cX4_readProduct 3 = .ok (.invokevirtual 55, 3) := by decide +kernel
theorem dX4_readProduct_6 : decode cX4_readProduct 6 = .ok (.iconst 0, 1) := by decide +kernel
theorem dX4_readProduct_7 : decode cX4_readProduct 7 = .ok (.istore_n 3, 1) := by decide +kernel
theorem dX4_readProduct_8 : decode cX4_readProduct 8 = .ok (.iload_n 3, 1) := by decide +kernel
theorem dX4_readProduct_9 : decode cX4_readProduct 9 = .ok (.sipush 150, 3) := by decide +kernel
theorem dX4_readProduct_12 : decode cX4_readProduct 12 = .ok (.if_icmp .ge 79, 3) := by decide +kernel
theorem dX4_readProduct_15 : decode cX4_readProduct 15 = .ok (.aload_n 1, 1) := by decide +kernel
theorem dX4_readProduct_16 : decode cX4_readProduct 16 = .ok (.invokevirtual 47, 3) := by decide +kernel
theorem dX4_readProduct_19 : decode cX4_readProduct 19 = .ok (.ifCond .ne 72, 3) := by decide +kernel
theorem dX4_readProduct_22 : decode cX4_readProduct 22 = .ok (.aload_n 1, 1) := by decide +kernel
theorem dX4_readProduct_23 : decode cX4_readProduct 23 = .ok (.bipush 42, 2) := by decide +kernel
theorem dX4_readProduct_25 : decode cX4_readProduct 25 = .ok (.invokevirtual 51, 3) := by decide +kernel
theorem dX4_readProduct_28 : decode cX4_readProduct 28 = .ok (.ifCond .eq 7, 3) := by decide +kernel
theorem dX4_readProduct_31 : decode cX4_readProduct 31 = .ok (.iconst 4, 1) := by decide +kernel
theorem dX4_readProduct_32 : decode cX4_readProduct 32 = .ok (.goto 31, 3) := by decide +kernel
theorem dX4_readProduct_35 : decode cX4_readProduct 35 = .ok (.aload_n 1, 1) := by decide +kernel
theorem dX4_readProduct_36 : decode cX4_readProduct 36 = .ok (.bipush 47, 2) := by decide +kernel
theorem dX4_readProduct_38 : decode cX4_readProduct 38 = .ok (.invokevirtual 51, 3) := by decide +kernel
theorem dX4_readProduct_41 : decode cX4_readProduct 41 = .ok (.ifCond .eq 7, 3) := by decide +kernel
theorem dX4_readProduct_44 : decode cX4_readProduct 44 = .ok (.iconst 5, 1) := by decide +kernel
theorem dX4_readProduct_45 : decode cX4_readProduct 45 = .ok (.goto 18, 3) := by decide +kernel
theorem dX4_readProduct_48 : decode cX4_readProduct 48 = .ok (.aload_n 1, 1) := by decide +kernel
theorem dX4_readProduct_49 : decode cX4_readProduct 49 = .ok (.bipush 37, 2) := by decide +kernel
theorem dX4_readProduct_51 : decode cX4_readProduct 51 = .ok (.invokevirtual 51, 3) := by decide +kernel
theorem dX4_readProduct_54 : decode cX4_readProduct 54 = .ok (.ifCond .eq 8, 3) := by decide +kernel
theorem dX4_readProduct_57 : decode cX4_readProduct 57 = .ok (.bipush 6, 2) := by decide +kernel
theorem dX4_readProduct_59 : decode cX4_readProduct 59 = .ok (.goto 4, 3) := by decide +kernel
theorem dX4_readProduct_62 : decode cX4_readProduct 62 = .ok (.iconst (-1), 1) := by decide +kernel
theorem dX4_readProduct_63 : decode cX4_readProduct 63 = .ok (.istore 4, 2) := by decide +kernel
theorem dX4_readProduct_65 : decode cX4_readProduct 65 = .ok (.iload 4, 2) := by decide +kernel
theorem dX4_readProduct_67 : decode cX4_readProduct 67 = .ok (.iconst (-1), 1) := by decide +kernel
theorem dX4_readProduct_68 : decode cX4_readProduct 68 = .ok (.if_icmp .ne 4, 3) := by decide +kernel
theorem dX4_readProduct_71 : decode cX4_readProduct 71 = .ok (.return_, 1) := by decide +kernel
theorem dX4_readProduct_72 : decode cX4_readProduct 72 = .ok (.aload_n 0, 1) := by decide +kernel
theorem dX4_readProduct_73 : decode cX4_readProduct 73 = .ok (.aload_n 1, 1) := by decide +kernel
theorem dX4_readProduct_74 : decode cX4_readProduct 74 = .ok (.iload_n 2, 1) := by decide +kernel
theorem dX4_readProduct_75 : decode cX4_readProduct 75 = .ok (.invokevirtual 55, 3) := by decide +kernel
theorem dX4_readProduct_78 : decode cX4_readProduct 78 = .ok (.aload_n 0, 1) := by decide +kernel
theorem dX4_readProduct_79 : decode cX4_readProduct 79 = .ok (.iload 4, 2) := by decide +kernel
theorem dX4_readProduct_81 : decode cX4_readProduct 81 = .ok (.iconst 0, 1) := by decide +kernel
theorem dX4_readProduct_82 : decode cX4_readProduct 82 = .ok (.invokevirtual 31, 3) := by decide +kernel
theorem dX4_readProduct_85 : decode cX4_readProduct 85 = .ok (.iinc 3 1, 3) := by decide +kernel
theorem dX4_readProduct_88 : decode cX4_readProduct 88 = .ok (.goto (-80), 3) := by decide +kernel
theorem dX4_readProduct_91 : decode cX4_readProduct 91 = .ok (.return_, 1) := by decide +kernel
theorem dX4_readUnit_0 : decode cX4_readUnit 0 = .ok (.aload_n 1, 1) := by decide +kernel
theorem dX4_readUnit_1 : decode cX4_readUnit 1 = .ok (.invokevirtual 58, 3) := by decide +kernel
theorem dX4_readUnit_4 : decode cX4_readUnit 4 = .ok (.ifCond .eq 19, 3) := by decide +kernel
theorem dX4_readUnit_7 : decode cX4_readUnit 7 = .ok (.aload_n 0, 1) := by decide +kernel
theorem dX4_readUnit_8 : decode cX4_readUnit 8 = .ok (.iconst 0, 1) := by decide +kernel
theorem dX4_readUnit_9 : decode cX4_readUnit 9 = .ok (.aload_n 1, 1) := by decide +kernel
theorem dX4_readUnit_10 : decode cX4_readUnit 10 = .ok (.iconst 0, 1) := by decide +kernel
theorem dX4_readUnit_11 : decode cX4_readUnit 11 = .ok (.sipush 999, 3) := by decide +kernel
theorem dX4_readUnit_14 : decode cX4_readUnit 14 = .ok (.invokevirtual 61, 3) := by decide +kernel
theorem dX4_readUnit_17 : decode cX4_readUnit 17 = .ok (.invokevirtual 31, 3) := by decide +kernel
theorem dX4_readUnit_20 : decode cX4_readUnit 20 = .ok (.goto 66, 3) := by decide +kernel
theorem dX4_readUnit_23 : decode cX4_readUnit 23 = .ok (.aload_n 1, 1) := by decide +kernel
theorem dX4_readUnit_24 : decode cX4_readUnit 24 = .ok (.bipush 40, 2) := by decide +kernel
theorem dX4_readUnit_26 : decode cX4_readUnit 26 = .ok (.invokevirtual 51, 3) := by decide +kernel
theorem dX4_readUnit_29 : decode cX4_readUnit 29 = .ok (.ifCond .eq 12, 3) := by decide +kernel
theorem dX4_readUnit_32 : decode cX4_readUnit 32 = .ok (.aload_n 0, 1) := by decide +kernel
theorem dX4_readUnit_33 : decode cX4_readUnit 33 = .ok (.aload_n 1, 1) := by decide +kernel
theorem dX4_readUnit_34 : decode cX4_readUnit 34 = .ok (.iload_n 2, 1) := by decide +kernel
theorem dX4_readUnit_35 : decode cX4_readUnit 35 = .ok (.invokevirtual 65, 3) := by decide +kernel
theorem dX4_readUnit_38 : decode cX4_readUnit 38 = .ok (.goto 48, 3) := by decide +kernel
theorem dX4_readUnit_41 : decode cX4_readUnit 41 = .ok (.aload_n 1, 1) := by decide +kernel
theorem dX4_readUnit_42 : decode cX4_readUnit 42 = .ok (.ldc 68, 2) := by decide +kernel
theorem dX4_readUnit_44 : decode cX4_readUnit 44 = .ok (.invokevirtual 70, 3) := by decide +kernel
theorem dX4_readUnit_47 : decode cX4_readUnit 47 = .ok (.ifCond .eq 14, 3) := by decide +kernel
theorem dX4_readUnit_50 : decode cX4_readUnit 50 = .ok (.aload_n 0, 1) := by decide +kernel
theorem dX4_readUnit_51 : decode cX4_readUnit 51 = .ok (.aload_n 1, 1) := by decide +kernel
theorem dX4_readUnit_52 : decode cX4_readUnit 52 = .ok (.iload_n 2, 1) := by decide +kernel
theorem dX4_readUnit_53 : decode cX4_readUnit 53 = .ok (.bipush 7, 2) := by decide +kernel
theorem dX4_readUnit_55 : decode cX4_readUnit 55 = .ok (.invokevirtual 74, 3) := by decide +kernel
theorem dX4_readUnit_58 : decode cX4_readUnit 58 = .ok (.goto 28, 3) := by decide +kernel
theorem dX4_readUnit_61 : decode cX4_readUnit 61 = .ok (.aload_n 1, 1) := by decide +kernel
theorem dX4_readUnit_62 : decode cX4_readUnit 62 = .ok (.ldc 78, 2) := by decide +kernel
theorem dX4_readUnit_64 : decode cX4_readUnit 64 = .ok (.invokevirtual 70, 3) := by decide +kernel
theorem dX4_readUnit_67 : decode cX4_readUnit 67 = .ok (.ifCond .eq 14, 3) := by decide +kernel
theorem dX4_readUnit_70 : decode cX4_readUnit 70 = .ok (.aload_n 0, 1) := by decide +kernel
theorem dX4_readUnit_71 : decode cX4_readUnit 71 = .ok (.aload_n 1, 1) := by decide +kernel
theorem dX4_readUnit_72 : decode cX4_readUnit 72 = .ok (.iload_n 2, 1) := by decide +kernel
theorem dX4_readUnit_73 : decode cX4_readUnit 73 = .ok (.bipush 8, 2) := by decide +kernel
theorem dX4_readUnit_75 : decode cX4_readUnit 75 = .ok (.invokevirtual 74, 3) := by decide +kernel
theorem dX4_readUnit_78 : decode cX4_readUnit 78 = .ok (.goto 8, 3) := by decide +kernel
theorem dX4_readUnit_81 : decode cX4_readUnit 81 = .ok (.aload_n 0, 1) := by decide +kernel
theorem dX4_readUnit_82 : decode cX4_readUnit 82 = .ok (.aload_n 1, 1) := by decide +kernel
theorem dX4_readUnit_83 : decode cX4_readUnit 83 = .ok (.invokevirtual 80, 3) := by decide +kernel
theorem dX4_readUnit_86 : decode cX4_readUnit 86 = .ok (.return_, 1) := by decide +kernel
theorem dX4_readInner_0 : decode cX4_readInner 0 = .ok (.iload_n 2, 1) := by decide +kernel
theorem dX4_readInner_1 : decode cX4_readInner 1 = .ok (.bipush 6, 2) := by decide +kernel
theorem dX4_readInner_3 : decode cX4_readInner 3 = .ok (.if_icmp .lt 9, 3) := by decide +kernel
theorem dX4_readInner_6 : decode cX4_readInner 6 = .ok (.aload_n 1, 1) := by decide +kernel
theorem dX4_readInner_7 : decode cX4_readInner 7 = .ok (.iconst 3, 1) := by decide +kernel
theorem dX4_readInner_8 : decode cX4_readInner 8 = .ok (.invokevirtual 84, 3) := by decide +kernel
theorem dX4_readInner_11 : decode cX4_readInner 11 = .ok (.return_, 1) := by decide +kernel
theorem dX4_readInner_12 : decode cX4_readInner 12 = .ok (.aload_n 0, 1) := by decide +kernel
theorem dX4_readInner_13 : decode cX4_readInner 13 = .ok (.aload_n 1, 1) := by decide +kernel
theorem dX4_readInner_14 : decode cX4_readInner 14 = .ok (.iload_n 2, 1) := by decide +kernel
theorem dX4_readInner_15 : decode cX4_readInner 15 = .ok (.iconst 1, 1) := by decide +kernel
theorem dX4_readInner_16 : decode cX4_readInner 16 = .ok (.iadd, 1) := by decide +kernel
theorem dX4_readInner_17 : decode cX4_readInner 17 = .ok (.invokevirtual 35, 3) := by decide +kernel
theorem dX4_readInner_20 : decode cX4_readInner 20 = .ok (.aload_n 1, 1) := by decide +kernel
theorem dX4_readInner_21 : decode cX4_readInner 21 = .ok (.bipush 41, 2) := by decide +kernel
theorem dX4_readInner_23 : decode cX4_readInner 23 = .ok (.invokevirtual 88, 3) := by decide +kernel
theorem dX4_readInner_26 : decode cX4_readInner 26 = .ok (.return_, 1) := by decide +kernel
theorem dX4_readPair_0 : decode cX4_readPair 0 = .ok (.iload_n 2, 1) := by decide +kernel
theorem dX4_readPair_1 : decode cX4_readPair 1 = .ok (.bipush 6, 2) := by decide +kernel
theorem dX4_readPair_3 : decode cX4_readPair 3 = .ok (.if_icmp .lt 9, 3) := by decide +kernel
theorem dX4_readPair_6 : decode cX4_readPair 6 = .ok (.aload_n 1, 1) := by decide +kernel
theorem dX4_readPair_7 : decode cX4_readPair 7 = .ok (.iconst 3, 1) := by decide +kernel
theorem dX4_readPair_8 : decode cX4_readPair 8 = .ok (.invokevirtual 84, 3) := by decide +kernel
theorem dX4_readPair_11 : decode cX4_readPair 11 = .ok (.return_, 1) := by decide +kernel
theorem dX4_readPair_12 : decode cX4_readPair 12 = .ok (.aload_n 1, 1) := by decide +kernel
theorem dX4_readPair_13 : decode cX4_readPair 13 = .ok (.bipush 91, 2) := by decide +kernel
theorem dX4_readPair_15 : decode cX4_readPair 15 = .ok (.invokevirtual 88, 3) := by decide +kernel
theorem dX4_readPair_18 : decode cX4_readPair 18 = .ok (.aload_n 0, 1) := by decide +kernel
theorem dX4_readPair_19 : decode cX4_readPair 19 = .ok (.aload_n 1, 1) := by decide +kernel
theorem dX4_readPair_20 : decode cX4_readPair 20 = .ok (.iload_n 2, 1) := by decide +kernel
theorem dX4_readPair_21 : decode cX4_readPair 21 = .ok (.iconst 1, 1) := by decide +kernel
theorem dX4_readPair_22 : decode cX4_readPair 22 = .ok (.iadd, 1) := by decide +kernel
theorem dX4_readPair_23 : decode cX4_readPair 23 = .ok (.invokevirtual 35, 3) := by decide +kernel
theorem dX4_readPair_26 : decode cX4_readPair 26 = .ok (.aload_n 1, 1) := by decide +kernel
theorem dX4_readPair_27 : decode cX4_readPair 27 = .ok (.bipush 44, 2) := by decide +kernel
theorem dX4_readPair_29 : decode cX4_readPair 29 = .ok (.invokevirtual 88, 3) := by decide +kernel
theorem dX4_readPair_32 : decode cX4_readPair 32 = .ok (.aload_n 0, 1) := by decide +kernel
theorem dX4_readPair_33 : decode cX4_readPair 33 = .ok (.aload_n 1, 1) := by decide +kernel
theorem dX4_readPair_34 : decode cX4_readPair 34 = .ok (.iload_n 2, 1) := by decide +kernel
theorem dX4_readPair_35 : decode cX4_readPair 35 = .ok (.iconst 1, 1) := by decide +kernel
theorem dX4_readPair_36 : decode cX4_readPair 36 = .ok (.iadd, 1) := by decide +kernel
theorem dX4_readPair_37 : decode cX4_readPair 37 = .ok (.invokevirtual 35, 3) := by decide +kernel
theorem dX4_readPair_40 : decode cX4_readPair 40 = .ok (.aload_n 1, 1) := by decide +kernel
theorem dX4_readPair_41 : decode cX4_readPair 41 = .ok (.bipush 93, 2) := by decide +kernel
theorem dX4_readPair_43 : decode cX4_readPair 43 = .ok (.invokevirtual 88, 3) := by decide +kernel
theorem dX4_readPair_46 : decode cX4_readPair 46 = .ok (.aload_n 0, 1) := by decide +kernel
theorem dX4_readPair_47 : decode cX4_readPair 47 = .ok (.iload_n 3, 1) := by decide +kernel
theorem dX4_readPair_48 : decode cX4_readPair 48 = .ok (.iconst 0, 1) := by decide +kernel
theorem dX4_readPair_49 : decode cX4_readPair 49 = .ok (.invokevirtual 31, 3) := by decide +kernel
theorem dX4_readPair_52 : decode cX4_readPair 52 = .ok (.return_, 1) := by decide +kernel
theorem dX4_readFact_0 : decode cX4_readFact 0 = .ok (.aload_n 1, 1) := by decide +kernel
theorem dX4_readFact_1 : decode cX4_readFact 1 = .ok (.ldc 92, 2) := by decide +kernel
theorem dX4_readFact_3 : decode cX4_readFact 3 = .ok (.invokevirtual 70, 3) := by decide +kernel
theorem dX4_readFact_6 : decode cX4_readFact 6 = .ok (.ifCond .eq 12, 3) := by decide +kernel
theorem dX4_readFact_9 : decode cX4_readFact 9 = .ok (.aload_n 0, 1) := by decide +kernel
theorem dX4_readFact_10 : decode cX4_readFact 10 = .ok (.iconst 1, 1) := by decide +kernel
theorem dX4_readFact_11 : decode cX4_readFact 11 = .ok (.iconst 0, 1) := by decide +kernel
theorem dX4_readFact_12 : decode cX4_readFact 12 = .ok (.invokevirtual 31, 3) := by decide +kernel
theorem dX4_readFact_15 : decode cX4_readFact 15 = .ok (.goto 135, 3) := by decide +kernel
theorem dX4_readFact_18 : decode cX4_readFact 18 = .ok (.aload_n 1, 1) := by decide +kernel
theorem dX4_readFact_19 : decode cX4_readFact 19 = .ok (.ldc 94, 2) := by decide +kernel
theorem dX4_readFact_21 : decode cX4_readFact 21 = .ok (.invokevirtual 70, 3) := by decide +kernel
theorem dX4_readFact_24 : decode cX4_readFact 24 = .ok (.ifCond .eq 12, 3) := by decide +kernel
theorem dX4_readFact_27 : decode cX4_readFact 27 = .ok (.aload_n 0, 1) := by decide +kernel
theorem dX4_readFact_28 : decode cX4_readFact 28 = .ok (.iconst 1, 1) := by decide +kernel
theorem dX4_readFact_29 : decode cX4_readFact 29 = .ok (.iconst 1, 1) := by decide +kernel
theorem dX4_readFact_30 : decode cX4_readFact 30 = .ok (.invokevirtual 31, 3) := by decide +kernel
theorem dX4_readFact_33 : decode cX4_readFact 33 = .ok (.goto 117, 3) := by decide +kernel
theorem dX4_readFact_36 : decode cX4_readFact 36 = .ok (.aload_n 1, 1) := by decide +kernel
theorem dX4_readFact_37 : decode cX4_readFact 37 = .ok (.ldc 96, 2) := by decide +kernel
theorem dX4_readFact_39 : decode cX4_readFact 39 = .ok (.invokevirtual 70, 3) := by decide +kernel
theorem dX4_readFact_42 : decode cX4_readFact 42 = .ok (.ifCond .eq 12, 3) := by decide +kernel
theorem dX4_readFact_45 : decode cX4_readFact 45 = .ok (.aload_n 0, 1) := by decide +kernel
theorem dX4_readFact_46 : decode cX4_readFact 46 = .ok (.iconst 1, 1) := by decide +kernel
theorem dX4_readFact_47 : decode cX4_readFact 47 = .ok (.iconst 2, 1) := by decide +kernel
theorem dX4_readFact_48 : decode cX4_readFact 48 = .ok (.invokevirtual 31, 3) := by decide +kernel
theorem dX4_readFact_51 : decode cX4_readFact 51 = .ok (.goto 99, 3) := by decide +kernel
theorem dX4_readFact_54 : decode cX4_readFact 54 = .ok (.aload_n 1, 1) := by decide +kernel
theorem dX4_readFact_55 : decode cX4_readFact 55 = .ok (.ldc 98, 2) := by decide +kernel
theorem dX4_readFact_57 : decode cX4_readFact 57 = .ok (.invokevirtual 70, 3) := by decide +kernel
theorem dX4_readFact_60 : decode cX4_readFact 60 = .ok (.ifCond .eq 12, 3) := by decide +kernel
theorem dX4_readFact_63 : decode cX4_readFact 63 = .ok (.aload_n 0, 1) := by decide +kernel
theorem dX4_readFact_64 : decode cX4_readFact 64 = .ok (.iconst 1, 1) := by decide +kernel
theorem dX4_readFact_65 : decode cX4_readFact 65 = .ok (.iconst 3, 1) := by decide +kernel
theorem dX4_readFact_66 : decode cX4_readFact 66 = .ok (.invokevirtual 31, 3) := by decide +kernel
theorem dX4_readFact_69 : decode cX4_readFact 69 = .ok (.goto 81, 3) := by decide +kernel
theorem dX4_readFact_72 : decode cX4_readFact 72 = .ok (.aload_n 1, 1) := by decide +kernel
theorem dX4_readFact_73 : decode cX4_readFact 73 = .ok (.ldc 100, 2) := by decide +kernel
theorem dX4_readFact_75 : decode cX4_readFact 75 = .ok (.invokevirtual 70, 3) := by decide +kernel
theorem dX4_readFact_78 : decode cX4_readFact 78 = .ok (.ifCond .eq 12, 3) := by decide +kernel
theorem dX4_readFact_81 : decode cX4_readFact 81 = .ok (.aload_n 0, 1) := by decide +kernel
theorem dX4_readFact_82 : decode cX4_readFact 82 = .ok (.iconst 1, 1) := by decide +kernel
theorem dX4_readFact_83 : decode cX4_readFact 83 = .ok (.iconst 4, 1) := by decide +kernel
theorem dX4_readFact_84 : decode cX4_readFact 84 = .ok (.invokevirtual 31, 3) := by decide +kernel
theorem dX4_readFact_87 : decode cX4_readFact 87 = .ok (.goto 63, 3) := by decide +kernel
theorem dX4_readFact_90 : decode cX4_readFact 90 = .ok (.aload_n 1, 1) := by decide +kernel
theorem dX4_readFact_91 : decode cX4_readFact 91 = .ok (.ldc 102, 2) := by decide +kernel
theorem dX4_readFact_93 : decode cX4_readFact 93 = .ok (.invokevirtual 70, 3) := by decide +kernel
theorem dX4_readFact_96 : decode cX4_readFact 96 = .ok (.ifCond .eq 12, 3) := by decide +kernel
theorem dX4_readFact_99 : decode cX4_readFact 99 = .ok (.aload_n 0, 1) := by decide +kernel
theorem dX4_readFact_100 : decode cX4_readFact 100 = .ok (.iconst 1, 1) := by decide +kernel
theorem dX4_readFact_101 : decode cX4_readFact 101 = .ok (.iconst 5, 1) := by decide +kernel
theorem dX4_readFact_102 : decode cX4_readFact 102 = .ok (.invokevirtual 31, 3) := by decide +kernel
theorem dX4_readFact_105 : decode cX4_readFact 105 = .ok (.goto 45, 3) := by decide +kernel
theorem dX4_readFact_108 : decode cX4_readFact 108 = .ok (.aload_n 1, 1) := by decide +kernel
theorem dX4_readFact_109 : decode cX4_readFact 109 = .ok (.ldc 104, 2) := by decide +kernel
theorem dX4_readFact_111 : decode cX4_readFact 111 = .ok (.invokevirtual 70, 3) := by decide +kernel
theorem dX4_readFact_114 : decode cX4_readFact 114 = .ok (.ifCond .eq 13, 3) := by decide +kernel
theorem dX4_readFact_117 : decode cX4_readFact 117 = .ok (.aload_n 0, 1) := by decide +kernel
theorem dX4_readFact_118 : decode cX4_readFact 118 = .ok (.iconst 1, 1) := by decide +kernel
theorem dX4_readFact_119 : decode cX4_readFact 119 = .ok (.bipush 6, 2) := by decide +kernel
theorem dX4_readFact_121 : decode cX4_readFact 121 = .ok (.invokevirtual 31, 3) := by decide +kernel
theorem dX4_readFact_124 : decode cX4_readFact 124 = .ok (.goto 26, 3) := by decide +kernel
theorem dX4_readFact_127 : decode cX4_readFact 127 = .ok (.aload_n 1, 1) := by decide +kernel
theorem dX4_readFact_128 : decode cX4_readFact 128 = .ok (.ldc 106, 2) := by decide +kernel
theorem dX4_readFact_130 : decode cX4_readFact 130 = .ok (.invokevirtual 70, 3) := by decide +kernel
theorem dX4_readFact_133 : decode cX4_readFact 133 = .ok (.ifCond .eq 13, 3) := by decide +kernel
theorem dX4_readFact_136 : decode cX4_readFact 136 = .ok (.aload_n 0, 1) := by decide +kernel
theorem dX4_readFact_137 : decode cX4_readFact 137 = .ok (.iconst 1, 1) := by decide +kernel
theorem dX4_readFact_138 : decode cX4_readFact 138 = .ok (.bipush 7, 2) := by decide +kernel
theorem dX4_readFact_140 : decode cX4_readFact 140 = .ok (.invokevirtual 31, 3) := by decide +kernel
theorem dX4_readFact_143 : decode cX4_readFact 143 = .ok (.goto 7, 3) := by decide +kernel
theorem dX4_readFact_146 : decode cX4_readFact 146 = .ok (.aload_n 1, 1) := by decide +kernel
theorem dX4_readFact_147 : decode cX4_readFact 147 = .ok (.invokevirtual 108, 3) := by decide +kernel
theorem dX4_readFact_150 : decode cX4_readFact 150 = .ok (.return_, 1) := by decide +kernel
theorem dX4_setFacts_0 : decode cX4_setFacts 0 = .ok (.aload_n 0, 1) := by decide +kernel
theorem dX4_setFacts_1 : decode cX4_setFacts 1 = .ok (.getfield 21, 3) := by decide +kernel
theorem dX4_setFacts_4 : decode cX4_setFacts 4 = .ok (.iconst 0, 1) := by decide +kernel
theorem dX4_setFacts_5 : decode cX4_setFacts 5 = .ok (.iload_n 1, 1) := by decide +kernel
theorem dX4_setFacts_6 : decode cX4_setFacts 6 = .ok (.iastore, 1) := by decide +kernel
theorem dX4_setFacts_7 : decode cX4_setFacts 7 = .ok (.aload_n 0, 1) := by decide +kernel
theorem dX4_setFacts_8 : decode cX4_setFacts 8 = .ok (.getfield 21, 3) := by decide +kernel
theorem dX4_setFacts_11 : decode cX4_setFacts 11 = .ok (.iconst 1, 1) := by decide +kernel
theorem dX4_setFacts_12 : decode cX4_setFacts 12 = .ok (.iload_n 2, 1) := by decide +kernel
theorem dX4_setFacts_13 : decode cX4_setFacts 13 = .ok (.iastore, 1) := by decide +kernel
theorem dX4_setFacts_14 : decode cX4_setFacts 14 = .ok (.aload_n 0, 1) := by decide +kernel
theorem dX4_setFacts_15 : decode cX4_setFacts 15 = .ok (.getfield 21, 3) := by decide +kernel
theorem dX4_setFacts_18 : decode cX4_setFacts 18 = .ok (.iconst 2, 1) := by decide +kernel
theorem dX4_setFacts_19 : decode cX4_setFacts 19 = .ok (.iload_n 3, 1) := by decide +kernel
theorem dX4_setFacts_20 : decode cX4_setFacts 20 = .ok (.iastore, 1) := by decide +kernel
theorem dX4_setFacts_21 : decode cX4_setFacts 21 = .ok (.aload_n 0, 1) := by decide +kernel
theorem dX4_setFacts_22 : decode cX4_setFacts 22 = .ok (.getfield 21, 3) := by decide +kernel
theorem dX4_setFacts_25 : decode cX4_setFacts 25 = .ok (.iconst 3, 1) := by decide +kernel
theorem dX4_setFacts_26 : decode cX4_setFacts 26 = .ok (.iload 4, 2) := by decide +kernel
theorem dX4_setFacts_28 : decode cX4_setFacts 28 = .ok (.iastore, 1) := by decide +kernel
theorem dX4_setFacts_29 : decode cX4_setFacts 29 = .ok (.aload_n 0, 1) := by decide +kernel
theorem dX4_setFacts_30 : decode cX4_setFacts 30 = .ok (.getfield 21, 3) := by decide +kernel
theorem dX4_setFacts_33 : decode cX4_setFacts 33 = .ok (.iconst 4, 1) := by decide +kernel
theorem dX4_setFacts_34 : decode cX4_setFacts 34 = .ok (.iload 5, 2) := by decide +kernel
theorem dX4_setFacts_36 : decode cX4_setFacts 36 = .ok (.iastore, 1) := by decide +kernel
theorem dX4_setFacts_37 : decode cX4_setFacts 37 = .ok (.return_, 1) := by decide +kernel
theorem dX4_setTimes_0 : decode cX4_setTimes 0 = .ok (.aload_n 0, 1) := by decide +kernel
theorem dX4_setTimes_1 : decode cX4_setTimes 1 = .ok (.getfield 21, 3) := by decide +kernel
theorem dX4_setTimes_4 : decode cX4_setTimes 4 = .ok (.iconst 5, 1) := by decide +kernel
theorem dX4_setTimes_5 : decode cX4_setTimes 5 = .ok (.iload_n 1, 1) := by decide +kernel
theorem dX4_setTimes_6 : decode cX4_setTimes 6 = .ok (.iastore, 1) := by decide +kernel
theorem dX4_setTimes_7 : decode cX4_setTimes 7 = .ok (.aload_n 0, 1) := by decide +kernel
theorem dX4_setTimes_8 : decode cX4_setTimes 8 = .ok (.getfield 21, 3) := by decide +kernel
theorem dX4_setTimes_11 : decode cX4_setTimes 11 = .ok (.bipush 6, 2) := by decide +kernel
theorem dX4_setTimes_13 : decode cX4_setTimes 13 = .ok (.iload_n 2, 1) := by decide +kernel
theorem dX4_setTimes_14 : decode cX4_setTimes 14 = .ok (.iastore, 1) := by decide +kernel
theorem dX4_setTimes_15 : decode cX4_setTimes 15 = .ok (.aload_n 0, 1) := by decide +kernel
theorem dX4_setTimes_16 : decode cX4_setTimes 16 = .ok (.getfield 21, 3) := by decide +kernel
theorem dX4_setTimes_19 : decode cX4_setTimes 19 = .ok (.bipush 7, 2) := by decide +kernel
theorem dX4_setTimes_21 : decode cX4_setTimes 21 = .ok (.iload_n 3, 1) := by decide +kernel
theorem dX4_setTimes_22 : decode cX4_setTimes 22 = .ok (.iastore, 1) := by decide +kernel
theorem dX4_setTimes_23 : decode cX4_setTimes 23 = .ok (.return_, 1) := by decide +kernel
theorem dX4_reach_0 : decode cX4_reach 0 = .ok (.iconst 0, 1) := by decide +kernel
theorem dX4_reach_1 : decode cX4_reach 1 = .ok (.istore_n 1, 1) := by decide +kernel
theorem dX4_reach_2 : decode cX4_reach 2 = .ok (.iconst 0, 1) := by decide +kernel
theorem dX4_reach_3 : decode cX4_reach 3 = .ok (.istore_n 2, 1) := by decide +kernel
theorem dX4_reach_4 : decode cX4_reach 4 = .ok (.iload_n 2, 1) := by decide +kernel
theorem dX4_reach_5 : decode cX4_reach 5 = .ok (.aload_n 0, 1) := by decide +kernel
theorem dX4_reach_6 : decode cX4_reach 6 = .ok (.getfield 27, 3) := by decide +kernel
theorem dX4_reach_9 : decode cX4_reach 9 = .ok (.if_icmp .ge 95, 3) := by decide +kernel
theorem dX4_reach_12 : decode cX4_reach 12 = .ok (.aload_n 0, 1) := by decide +kernel
theorem dX4_reach_13 : decode cX4_reach 13 = .ok (.getfield 9, 3) := by decide +kernel
theorem dX4_reach_16 : decode cX4_reach 16 = .ok (.iload_n 2, 1) := by decide +kernel
theorem dX4_reach_17 : decode cX4_reach 17 = .ok (.iaload, 1) := by decide +kernel
theorem dX4_reach_18 : decode cX4_reach 18 = .ok (.istore_n 3, 1) := by decide +kernel
theorem dX4_reach_19 : decode cX4_reach 19 = .ok (.iload_n 3, 1) := by decide +kernel
theorem dX4_reach_20 : decode cX4_reach 20 = .ok (.ifCond .eq 8, 3) := by decide +kernel
theorem dX4_reach_23 : decode cX4_reach 23 = .ok (.iload_n 3, 1) := by decide +kernel
theorem dX4_reach_24 : decode cX4_reach 24 = .ok (.iconst 1, 1) := by decide +kernel
theorem dX4_reach_25 : decode cX4_reach 25 = .ok (.if_icmp .ne 39, 3) := by decide +kernel
theorem dX4_reach_28 : decode cX4_reach 28 = .ok (.aload_n 0, 1) := by decide +kernel
theorem dX4_reach_29 : decode cX4_reach 29 = .ok (.getfield 18, 3) := by decide +kernel
theorem dX4_reach_32 : decode cX4_reach 32 = .ok (.iload_n 1, 1) := by decide +kernel
theorem dX4_reach_33 : decode cX4_reach 33 = .ok (.iload_n 3, 1) := by decide +kernel
theorem dX4_reach_34 : decode cX4_reach 34 = .ok (.ifCond .ne 12, 3) := by decide +kernel
theorem dX4_reach_37 : decode cX4_reach 37 = .ok (.aload_n 0, 1) := by decide +kernel
theorem dX4_reach_38 : decode cX4_reach 38 = .ok (.getfield 15, 3) := by decide +kernel
theorem dX4_reach_41 : decode cX4_reach 41 = .ok (.iload_n 2, 1) := by decide +kernel
theorem dX4_reach_42 : decode cX4_reach 42 = .ok (.iaload, 1) := by decide +kernel
theorem dX4_reach_43 : decode cX4_reach 43 = .ok (.goto 14, 3) := by decide +kernel
theorem dX4_reach_46 : decode cX4_reach 46 = .ok (.aload_n 0, 1) := by decide +kernel
theorem dX4_reach_47 : decode cX4_reach 47 = .ok (.getfield 21, 3) := by decide +kernel
theorem dX4_reach_50 : decode cX4_reach 50 = .ok (.aload_n 0, 1) := by decide +kernel
theorem dX4_reach_51 : decode cX4_reach 51 = .ok (.getfield 15, 3) := by decide +kernel
theorem dX4_reach_54 : decode cX4_reach 54 = .ok (.iload_n 2, 1) := by decide +kernel
theorem dX4_reach_55 : decode cX4_reach 55 = .ok (.iaload, 1) := by decide +kernel
theorem dX4_reach_56 : decode cX4_reach 56 = .ok (.iaload, 1) := by decide +kernel
theorem dX4_reach_57 : decode cX4_reach 57 = .ok (.iastore, 1) := by decide +kernel
theorem dX4_reach_58 : decode cX4_reach 58 = .ok (.iinc 1 1, 3) := by decide +kernel
theorem dX4_reach_61 : decode cX4_reach 61 = .ok (.goto 37, 3) := by decide +kernel
theorem dX4_reach_64 : decode cX4_reach 64 = .ok (.iload_n 1, 1) := by decide +kernel
theorem dX4_reach_65 : decode cX4_reach 65 = .ok (.iconst 2, 1) := by decide +kernel
theorem dX4_reach_66 : decode cX4_reach 66 = .ok (.if_icmp .lt 32, 3) := by decide +kernel
theorem dX4_reach_69 : decode cX4_reach 69 = .ok (.iinc 1 (-1), 3) := by decide +kernel
theorem dX4_reach_72 : decode cX4_reach 72 = .ok (.aload_n 0, 1) := by decide +kernel
theorem dX4_reach_73 : decode cX4_reach 73 = .ok (.getfield 18, 3) := by decide +kernel
theorem dX4_reach_76 : decode cX4_reach 76 = .ok (.iload_n 1, 1) := by decide +kernel
theorem dX4_reach_77 : decode cX4_reach 77 = .ok (.iconst 1, 1) := by decide +kernel
theorem dX4_reach_78 : decode cX4_reach 78 = .ok (.isub, 1) := by decide +kernel
theorem dX4_reach_79 : decode cX4_reach 79 = .ok (.iload_n 3, 1) := by decide +kernel
theorem dX4_reach_80 : decode cX4_reach 80 = .ok (.aload_n 0, 1) := by decide +kernel
theorem dX4_reach_81 : decode cX4_reach 81 = .ok (.getfield 18, 3) := by decide +kernel
theorem dX4_reach_84 : decode cX4_reach 84 = .ok (.iload_n 1, 1) := by decide +kernel
theorem dX4_reach_85 : decode cX4_reach 85 = .ok (.iconst 1, 1) := by decide +kernel
theorem dX4_reach_86 : decode cX4_reach 86 = .ok (.isub, 1) := by decide +kernel
theorem dX4_reach_87 : decode cX4_reach 87 = .ok (.iaload, 1) := by decide +kernel
theorem dX4_reach_88 : decode cX4_reach 88 = .ok (.aload_n 0, 1) := by decide +kernel
theorem dX4_reach_89 : decode cX4_reach 89 = .ok (.getfield 18, 3) := by decide +kernel
theorem dX4_reach_92 : decode cX4_reach 92 = .ok (.iload_n 1, 1) := by decide +kernel
theorem dX4_reach_93 : decode cX4_reach 93 = .ok (.iaload, 1) := by decide +kernel
theorem dX4_reach_94 : decode cX4_reach 94 = .ok (.invokestatic 111, 3) := by decide +kernel
theorem dX4_reach_97 : decode cX4_reach 97 = .ok (.iastore, 1) := by decide +kernel
theorem dX4_reach_98 : decode cX4_reach 98 = .ok (.iinc 2 1, 3) := by decide +kernel
theorem dX4_reach_101 : decode cX4_reach 101 = .ok (.goto (-97), 3) := by decide +kernel
theorem dX4_reach_104 : decode cX4_reach 104 = .ok (.iload_n 1, 1) := by decide +kernel
theorem dX4_reach_105 : decode cX4_reach 105 = .ok (.ifCond .le 12, 3) := by decide +kernel
theorem dX4_reach_108 : decode cX4_reach 108 = .ok (.aload_n 0, 1) := by decide +kernel
theorem dX4_reach_109 : decode cX4_reach 109 = .ok (.getfield 18, 3) := by decide +kernel
theorem dX4_reach_112 : decode cX4_reach 112 = .ok (.iconst 0, 1) := by decide +kernel
theorem dX4_reach_113 : decode cX4_reach 113 = .ok (.iaload, 1) := by decide +kernel
theorem dX4_reach_114 : decode cX4_reach 114 = .ok (.goto 4, 3) := by decide +kernel
theorem dX4_reach_117 : decode cX4_reach 117 = .ok (.iconst 0, 1) := by decide +kernel
theorem dX4_reach_118 : decode cX4_reach 118 = .ok (.istore_n 2, 1) := by decide +kernel
theorem dX4_reach_119 : decode cX4_reach 119 = .ok (.iconst 0, 1) := by decide +kernel
theorem dX4_reach_120 : decode cX4_reach 120 = .ok (.bipush 60, 2) := by decide +kernel
theorem dX4_reach_122 : decode cX4_reach 122 = .ok (.iload_n 2, 1) := by decide +kernel
theorem dX4_reach_123 : decode cX4_reach 123 = .ok (.invokestatic 115, 3) := by decide +kernel
theorem dX4_reach_126 : decode cX4_reach 126 = .ok (.invokestatic 120, 3) := by decide +kernel
theorem dX4_reach_129 : decode cX4_reach 129 = .ok (.ireturn, 1) := by decide +kernel
theorem dX4_joined_0 : decode cX4_joined 0 = .ok (.iload_n 0, 1) := by decide +kernel
theorem dX4_joined_1 : decode cX4_joined 1 = .ok (.tableswitch 86 2 7 #[39, 43, 47, 51, 63, 75], 39) := by decide +kernel
theorem dX4_joined_40 : decode cX4_joined 40 = .ok (.iload_n 1, 1) := by decide +kernel
theorem dX4_joined_41 : decode cX4_joined 41 = .ok (.iload_n 2, 1) := by decide +kernel
theorem dX4_joined_42 : decode cX4_joined 42 = .ok (.iadd, 1) := by decide +kernel
theorem dX4_joined_43 : decode cX4_joined 43 = .ok (.ireturn, 1) := by decide +kernel
theorem dX4_joined_44 : decode cX4_joined 44 = .ok (.iload_n 1, 1) := by decide +kernel
theorem dX4_joined_45 : decode cX4_joined 45 = .ok (.iload_n 2, 1) := by decide +kernel
theorem dX4_joined_46 : decode cX4_joined 46 = .ok (.isub, 1) := by decide +kernel
theorem dX4_joined_47 : decode cX4_joined 47 = .ok (.ireturn, 1) := by decide +kernel
theorem dX4_joined_48 : decode cX4_joined 48 = .ok (.iload_n 1, 1) := by decide +kernel
theorem dX4_joined_49 : decode cX4_joined 49 = .ok (.iload_n 2, 1) := by decide +kernel
theorem dX4_joined_50 : decode cX4_joined 50 = .ok (.imul, 1) := by decide +kernel
theorem dX4_joined_51 : decode cX4_joined 51 = .ok (.ireturn, 1) := by decide +kernel
theorem dX4_joined_52 : decode cX4_joined 52 = .ok (.iload_n 2, 1) := by decide +kernel
theorem dX4_joined_53 : decode cX4_joined 53 = .ok (.ifCond .ne 7, 3) := by decide +kernel
theorem dX4_joined_56 : decode cX4_joined 56 = .ok (.iconst 0, 1) := by decide +kernel
theorem dX4_joined_57 : decode cX4_joined 57 = .ok (.goto 6, 3) := by decide +kernel
theorem dX4_joined_60 : decode cX4_joined 60 = .ok (.iload_n 1, 1) := by decide +kernel
theorem dX4_joined_61 : decode cX4_joined 61 = .ok (.iload_n 2, 1) := by decide +kernel
theorem dX4_joined_62 : decode cX4_joined 62 = .ok (.idiv, 1) := by decide +kernel
theorem dX4_joined_63 : decode cX4_joined 63 = .ok (.ireturn, 1) := by decide +kernel
theorem dX4_joined_64 : decode cX4_joined 64 = .ok (.iload_n 2, 1) := by decide +kernel
theorem dX4_joined_65 : decode cX4_joined 65 = .ok (.ifCond .ne 7, 3) := by decide +kernel
theorem dX4_joined_68 : decode cX4_joined 68 = .ok (.iconst 0, 1) := by decide +kernel
theorem dX4_joined_69 : decode cX4_joined 69 = .ok (.goto 6, 3) := by decide +kernel
