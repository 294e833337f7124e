theorem dX0_init_0 : decode cX0_init 0 = .ok (.aload_n 0, 1) := by decide +kernel
theorem dX0_init_1 : decode cX0_init 1 = .ok (.invokespecial 3, 3) := by decide +kernel
theorem dX0_init_4 : decode cX0_init 4 = .ok (.aload_n 0, 1) := by decide +kernel
theorem dX0_init_5 : decode cX0_init 5 = .ok (.bipush 8, 2) := by decide +kernel
theorem dX0_init_7 : decode cX0_init 7 = .ok (.newarray .int, 2) := by decide +kernel
theorem dX0_init_9 : decode cX0_init 9 = .ok (.putfield 9, 3) := by decide +kernel
theorem dX0_init_12 : decode cX0_init 12 = .ok (.aload_n 0, 1) := by decide +kernel
theorem dX0_init_13 : decode cX0_init 13 = .ok (.invokevirtual 15, 3) := by decide +kernel
theorem dX0_init_16 : decode cX0_init 16 = .ok (.return_, 1) := by decide +kernel
theorem dX0_clear_0 : decode cX0_clear 0 = .ok (.aload_n 0, 1) := by decide +kernel
theorem dX0_clear_1 : decode cX0_clear 1 = .ok (.iconst 0, 1) := by decide +kernel
theorem dX0_clear_2 : decode cX0_clear 2 = .ok (.putfield 18, 3) := by decide +kernel
theorem dX0_clear_5 : decode cX0_clear 5 = .ok (.iconst 0, 1) := by decide +kernel
theorem dX0_clear_6 : decode cX0_clear 6 = .ok (.istore_n 1, 1) := by decide +kernel
theorem dX0_clear_7 : decode cX0_clear 7 = .ok (.iload_n 1, 1) := by decide +kernel
theorem dX0_clear_8 : decode cX0_clear 8 = .ok (.bipush 8, 2) := by decide +kernel
theorem dX0_clear_10 : decode cX0_clear 10 = .ok (.if_icmp .ge 16, 3) := by decide +kernel
theorem dX0_clear_13 : decode cX0_clear 13 = .ok (.aload_n 0, 1) := by decide +kernel
theorem dX0_clear_14 : decode cX0_clear 14 = .ok (.getfield 9, 3) := by decide +kernel
theorem dX0_clear_17 : decode cX0_clear 17 = .ok (.iload_n 1, 1) := by decide +kernel
theorem dX0_clear_18 : decode cX0_clear 18 = .ok (.iconst (-1), 1) := by decide +kernel
theorem dX0_clear_19 : decode cX0_clear 19 = .ok (.iastore, 1) := by decide +kernel
theorem dX0_clear_20 : decode cX0_clear 20 = .ok (.iinc 1 1, 3) := by decide +kernel
theorem dX0_clear_23 : decode cX0_clear 23 = .ok (.goto (-16), 3) := by decide +kernel
theorem dX0_clear_26 : decode cX0_clear 26 = .ok (.return_, 1) := by decide +kernel
theorem dX0_readFrom_0 : decode cX0_readFrom 0 = .ok (.aload_n 0, 1) := by decide +kernel
theorem dX0_readFrom_1 : decode cX0_readFrom 1 = .ok (.invokevirtual 15, 3) := by decide +kernel
theorem dX0_readFrom_4 : decode cX0_readFrom 4 = .ok (.iconst 0, 1) := by decide +kernel
theorem dX0_readFrom_5 : decode cX0_readFrom 5 = .ok (.istore_n 3, 1) := by decide +kernel
theorem dX0_readFrom_6 : decode cX0_readFrom 6 = .ok (.iload_n 3, 1) := by decide +kernel
theorem dX0_readFrom_7 : decode cX0_readFrom 7 = .ok (.bipush 8, 2) := by decide +kernel
theorem dX0_readFrom_9 : decode cX0_readFrom 9 = .ok (.if_icmp .gt 29, 3) := by decide +kernel
theorem dX0_readFrom_12 : decode cX0_readFrom 12 = .ok (.aload_n 1, 1) := by decide +kernel
theorem dX0_readFrom_13 : decode cX0_readFrom 13 = .ok (.invokevirtual 22, 3) := by decide +kernel
theorem dX0_readFrom_16 : decode cX0_readFrom 16 = .ok (.ifCond .ne 22, 3) := by decide +kernel
theorem dX0_readFrom_19 : decode cX0_readFrom 19 = .ok (.aload_n 1, 1) := by decide +kernel
theorem dX0_readFrom_20 : decode cX0_readFrom 20 = .ok (.invokevirtual 28, 3) := by decide +kernel
theorem dX0_readFrom_23 : decode cX0_readFrom 23 = .ok (.ifCond .ne 15, 3) := by decide +kernel
theorem dX0_readFrom_38 : decode cX0_readFrom 38 = .ok (.return_, 1) := by decide +kernel
theorem dX1_init_0 : decode cX1_init 0 = .ok (.aload_n 0, 1) := by decide +kernel
theorem dX1_init_1 : decode cX1_init 1 = .ok (.invokespecial 7, 3) := by decide +kernel
theorem dX1_init_4 : decode cX1_init 4 = .ok (.aload_n 0, 1) := by decide +kernel
theorem dX1_init_5 : decode cX1_init 5 = .ok (.bipush 64, 2) := by decide +kernel
theorem dX1_init_7 : decode cX1_init 7 = .ok (.newarray .int, 2) := by decide +kernel
theorem dX1_init_9 : decode cX1_init 9 = .ok (.putfield 13, 3) := by decide +kernel
theorem dX1_init_12 : decode cX1_init 12 = .ok (.aload_n 0, 1) := by decide +kernel
theorem dX1_init_13 : decode cX1_init 13 = .ok (.bipush 6, 2) := by decide +kernel
theorem dX1_init_15 : decode cX1_init 15 = .ok (.newarray .int, 2) := by decide +kernel
theorem dX1_init_17 : decode cX1_init 17 = .ok (.putfield 17, 3) := by decide +kernel
theorem dX1_init_20 : decode cX1_init 20 = .ok (.aload_n 0, 1) := by decide +kernel
theorem dX1_init_21 : decode cX1_init 21 = .ok (.aload_n 1, 1) := by decide +kernel
theorem dX1_init_22 : decode cX1_init 22 = .ok (.aload_n 2, 1) := by decide +kernel
theorem dX1_init_23 : decode cX1_init 23 = .ok (.invokevirtual 20, 3) := by decide +kernel
theorem dX1_init_26 : decode cX1_init 26 = .ok (.return_, 1) := by decide +kernel
theorem dX1_begin_0 : decode cX1_begin 0 = .ok (.aload_n 0, 1) := by decide +kernel
theorem dX1_begin_1 : decode cX1_begin 1 = .ok (.aload_n 1, 1) := by decide +kernel
theorem dX1_begin_2 : decode cX1_begin 2 = .ok (.putfield 24, 3) := by decide +kernel
theorem dX1_begin_5 : decode cX1_begin 5 = .ok (.aload_n 0, 1) := by decide +kernel
theorem dX1_begin_6 : decode cX1_begin 6 = .ok (.aload_n 2, 1) := by decide +kernel
theorem dX1_begin_7 : decode cX1_begin 7 = .ok (.putfield 28, 3) := by decide +kernel
theorem dX1_begin_10 : decode cX1_begin 10 = .ok (.iconst 0, 1) := by decide +kernel
theorem dX1_begin_11 : decode cX1_begin 11 = .ok (.istore_n 3, 1) := by decide +kernel
theorem dX1_begin_12 : decode cX1_begin 12 = .ok (.iload_n 3, 1) := by decide +kernel
theorem dX1_begin_13 : decode cX1_begin 13 = .ok (.bipush 64, 2) := by decide +kernel
theorem dX1_begin_15 : decode cX1_begin 15 = .ok (.if_icmp .ge 16, 3) := by decide +kernel
theorem dX1_begin_18 : decode cX1_begin 18 = .ok (.aload_n 0, 1) := by decide +kernel
theorem dX1_begin_19 : decode cX1_begin 19 = .ok (.getfield 13, 3) := by decide +kernel
theorem dX1_begin_22 : decode cX1_begin 22 = .ok (.iload_n 3, 1) := by decide +kernel
theorem dX1_begin_23 : decode cX1_begin 23 = .ok (.iconst 0, 1) := by decide +kernel
theorem dX1_begin_24 : decode cX1_begin 24 = .ok (.iastore, 1) := by decide +kernel
theorem dX1_begin_25 : decode cX1_begin 25 = .ok (.iinc 3 1, 3) := by decide +kernel
theorem dX1_begin_28 : decode cX1_begin 28 = .ok (.goto (-16), 3) := by decide +kernel
theorem dX1_begin_31 : decode cX1_begin 31 = .ok (.aload_n 0, 1) := by decide +kernel
theorem dX1_begin_32 : decode cX1_begin 32 = .ok (.getfield 13, 3) := by decide +kernel
theorem dX1_begin_35 : decode cX1_begin 35 = .ok (.iconst 0, 1) := by decide +kernel
theorem dX1_begin_36 : decode cX1_begin 36 = .ok (.iconst 1, 1) := by decide +kernel
theorem dX1_begin_37 : decode cX1_begin 37 = .ok (.iastore, 1) := by decide +kernel
theorem dX1_begin_38 : decode cX1_begin 38 = .ok (.iconst 0, 1) := by decide +kernel
theorem dX1_begin_39 : decode cX1_begin 39 = .ok (.istore_n 3, 1) := by decide +kernel
theorem dX1_begin_40 : decode cX1_begin 40 = .ok (.iload_n 3, 1) := by decide +kernel
theorem dX1_begin_41 : decode cX1_begin 41 = .ok (.aload_n 1, 1) := by decide +kernel
theorem dX1_begin_42 : decode cX1_begin 42 = .ok (.getfield 32, 3) := by decide +kernel
theorem dX1_begin_45 : decode cX1_begin 45 = .ok (.if_icmp .ge 38, 3) := by decide +kernel
theorem dX1_begin_83 : decode cX1_begin 83 = .ok (.aload_n 1, 1) := by decide +kernel
theorem dX1_begin_84 : decode cX1_begin 84 = .ok (.getfield 42, 3) := by decide +kernel
theorem dX1_begin_87 : decode cX1_begin 87 = .ok (.iconst 0, 1) := by decide +kernel
theorem dX1_begin_88 : decode cX1_begin 88 = .ok (.aload_n 0, 1) := by decide +kernel
theorem dX1_begin_89 : decode cX1_begin 89 = .ok (.getfield 13, 3) := by decide +kernel
theorem dX1_begin_92 : decode cX1_begin 92 = .ok (.bipush 28, 2) := by decide +kernel
theorem dX1_begin_94 : decode cX1_begin 94 = .ok (.bipush 36, 2) := by decide +kernel
theorem dX1_begin_96 : decode cX1_begin 96 = .ok (.invokestatic 45, 3) := by decide +kernel
theorem dX1_begin_99 : decode cX1_begin 99 = .ok (.return_, 1) := by decide +kernel
theorem dX1_copyFrom_0 : decode cX1_copyFrom 0 = .ok (.aload_n 0, 1) := by decide +kernel
theorem dX1_copyFrom_1 : decode cX1_copyFrom 1 = .ok (.aload_n 1, 1) := by decide +kernel
theorem dX1_copyFrom_2 : decode cX1_copyFrom 2 = .ok (.getfield 24, 3) := by decide +kernel
theorem dX1_copyFrom_5 : decode cX1_copyFrom 5 = .ok (.putfield 24, 3) := by decide +kernel
theorem dX1_copyFrom_8 : decode cX1_copyFrom 8 = .ok (.aload_n 0, 1) := by decide +kernel
theorem dX1_copyFrom_9 : decode cX1_copyFrom 9 = .ok (.aload_n 1, 1) := by decide +kernel
theorem dX1_copyFrom_10 : decode cX1_copyFrom 10 = .ok (.getfield 28, 3) := by decide +kernel
theorem dX1_copyFrom_13 : decode cX1_copyFrom 13 = .ok (.putfield 28, 3) := by decide +kernel
theorem dX1_copyFrom_16 : decode cX1_copyFrom 16 = .ok (.aload_n 1, 1) := by decide +kernel
theorem dX1_copyFrom_17 : decode cX1_copyFrom 17 = .ok (.getfield 13, 3) := by decide +kernel
theorem dX1_copyFrom_20 : decode cX1_copyFrom 20 = .ok (.iconst 0, 1) := by decide +kernel
theorem dX1_copyFrom_21 : decode cX1_copyFrom 21 = .ok (.aload_n 0, 1) := by decide +kernel
theorem dX1_copyFrom_22 : decode cX1_copyFrom 22 = .ok (.getfield 13, 3) := by decide +kernel
theorem dX1_copyFrom_25 : decode cX1_copyFrom 25 = .ok (.iconst 0, 1) := by decide +kernel
theorem dX1_copyFrom_26 : decode cX1_copyFrom 26 = .ok (.bipush 64, 2) := by decide +kernel
theorem dX1_copyFrom_28 : decode cX1_copyFrom 28 = .ok (.invokestatic 45, 3) := by decide +kernel
theorem dX1_copyFrom_31 : decode cX1_copyFrom 31 = .ok (.return_, 1) := by decide +kernel
theorem dX1_day_0 : decode cX1_day 0 = .ok (.aload_n 0, 1) := by decide +kernel
theorem dX1_day_1 : decode cX1_day 1 = .ok (.getfield 13, 3) := by decide +kernel
theorem dX1_day_4 : decode cX1_day 4 = .ok (.iconst 0, 1) := by decide +kernel
theorem dX1_day_5 : decode cX1_day 5 = .ok (.iaload, 1) := by decide +kernel
theorem dX1_day_6 : decode cX1_day 6 = .ok (.ireturn, 1) := by decide +kernel
theorem dX1_year_0 : decode cX1_year 0 = .ok (.aload_n 0, 1) := by decide +kernel
theorem dX1_year_1 : decode cX1_year 1 = .ok (.getfield 13, 3) := by decide +kernel
theorem dX1_year_4 : decode cX1_year 4 = .ok (.iconst 1, 1) := by decide +kernel
theorem dX1_year_5 : decode cX1_year 5 = .ok (.iaload, 1) := by decide +kernel
theorem dX1_year_6 : decode cX1_year 6 = .ok (.ireturn, 1) := by decide +kernel
theorem dX1_caughtOnes_0 : decode cX1_caughtOnes 0 = .ok (.aload_n 0, 1) := by decide +kernel
theorem dX1_caughtOnes_1 : decode cX1_caughtOnes 1 = .ok (.getfield 13, 3) := by decide +kernel
theorem dX1_caughtOnes_4 : decode cX1_caughtOnes 4 = .ok (.iconst 2, 1) := by decide +kernel
theorem dX1_caughtOnes_5 : decode cX1_caughtOnes 5 = .ok (.iaload, 1) := by decide +kernel
theorem dX1_caughtOnes_6 : decode cX1_caughtOnes 6 = .ok (.ireturn, 1) := by decide +kernel
theorem dX1_leaptOnes_0 : decode cX1_leaptOnes 0 = .ok (.aload_n 0, 1) := by decide +kernel
theorem dX1_leaptOnes_1 : decode cX1_leaptOnes 1 = .ok (.getfield 13, 3) := by decide +kernel
theorem dX1_leaptOnes_4 : decode cX1_leaptOnes 4 = .ok (.iconst 3, 1) := by decide +kernel
theorem dX1_leaptOnes_5 : decode cX1_leaptOnes 5 = .ok (.iaload, 1) := by decide +kernel
theorem dX1_leaptOnes_6 : decode cX1_leaptOnes 6 = .ok (.ireturn, 1) := by decide +kernel
theorem dX1_allDebts_0 : decode cX1_allDebts 0 = .ok (.iconst 0, 1) := by decide +kernel
theorem dX1_allDebts_1 : decode cX1_allDebts 1 = .ok (.istore_n 1, 1) := by decide +kernel
theorem dX1_allDebts_2 : decode cX1_allDebts 2 = .ok (.iconst 0, 1) := by decide +kernel
theorem dX1_allDebts_3 : decode cX1_allDebts 3 = .ok (.istore_n 2, 1) := by decide +kernel
theorem dX1_allDebts_4 : decode cX1_allDebts 4 = .ok (.iload_n 2, 1) := by decide +kernel
theorem dX1_allDebts_5 : decode cX1_allDebts 5 = .ok (.aload_n 0, 1) := by decide +kernel
theorem dX1_allDebts_6 : decode cX1_allDebts 6 = .ok (.getfield 24, 3) := by decide +kernel
theorem dX1_allDebts_9 : decode cX1_allDebts 9 = .ok (.getfield 32, 3) := by decide +kernel
theorem dX1_allDebts_12 : decode cX1_allDebts 12 = .ok (.if_icmp .ge 17, 3) := by decide +kernel
theorem dX1_allDebts_29 : decode cX1_allDebts 29 = .ok (.iload_n 1, 1) := by decide +kernel
theorem dX1_allDebts_30 : decode cX1_allDebts 30 = .ok (.ireturn, 1) := by decide +kernel
theorem dX1_strongTogether_0 : decode cX1_strongTogether 0 = .ok (.iconst 0, 1) := by decide +kernel
theorem dX1_strongTogether_1 : decode cX1_strongTogether 1 = .ok (.istore_n 1, 1) := by decide +kernel
theorem dX1_strongTogether_2 : decode cX1_strongTogether 2 = .ok (.iconst 0, 1) := by decide +kernel
theorem dX1_strongTogether_3 : decode cX1_strongTogether 3 = .ok (.istore_n 2, 1) := by decide +kernel
theorem dX1_strongTogether_4 : decode cX1_strongTogether 4 = .ok (.iload_n 2, 1) := by decide +kernel
theorem dX1_strongTogether_5 : decode cX1_strongTogether 5 = .ok (.aload_n 0, 1) := by decide +kernel
theorem dX1_strongTogether_6 : decode cX1_strongTogether 6 = .ok (.getfield 24, 3) := by decide +kernel
theorem dX1_strongTogether_9 : decode cX1_strongTogether 9 = .ok (.getfield 32, 3) := by decide +kernel
theorem dX1_strongTogether_12 : decode cX1_strongTogether 12 = .ok (.if_icmp .ge 29, 3) := by decide +kernel
theorem dX1_strongTogether_41 : decode cX1_strongTogether 41 = .ok (.iload_n 1, 1) := by decide +kernel
theorem dX1_strongTogether_42 : decode cX1_strongTogether 42 = .ok (.ireturn, 1) := by decide +kernel
theorem dX1_passDay_0 : decode cX1_passDay 0 = .ok (.iconst 0, 1) := by decide +kernel
theorem dX1_passDay_1 : decode cX1_passDay 1 = .ok (.istore_n 1, 1) := by decide +kernel
theorem dX1_passDay_2 : decode cX1_passDay 2 = .ok (.iload_n 1, 1) := by decide +kernel
theorem dX1_passDay_3 : decode cX1_passDay 3 = .ok (.aload_n 0, 1) := by decide +kernel
theorem dX1_passDay_4 : decode cX1_passDay 4 = .ok (.getfield 24, 3) := by decide +kernel
theorem dX1_passDay_7 : decode cX1_passDay 7 = .ok (.getfield 32, 3) := by decide +kernel
theorem dX1_passDay_10 : decode cX1_passDay 10 = .ok (.if_icmp .ge 42, 3) := by decide +kernel
theorem dX1_passDay_52 : decode cX1_passDay 52 = .ok (.aload_n 0, 1) := by decide +kernel
theorem dX1_passDay_53 : decode cX1_passDay 53 = .ok (.getfield 13, 3) := by decide +kernel
theorem dX1_passDay_56 : decode cX1_passDay 56 = .ok (.iconst 3, 1) := by decide +kernel
theorem dX1_passDay_57 : decode cX1_passDay 57 = .ok (.iconst 0, 1) := by decide +kernel
theorem dX1_passDay_58 : decode cX1_passDay 58 = .ok (.iastore, 1) := by decide +kernel
theorem dX1_passDay_59 : decode cX1_passDay 59 = .ok (.aload_n 0, 1) := by decide +kernel
theorem dX1_passDay_60 : decode cX1_passDay 60 = .ok (.getfield 13, 3) := by decide +kernel
theorem dX1_passDay_63 : decode cX1_passDay 63 = .ok (.iconst 0, 1) := by decide +kernel
theorem dX1_passDay_64 : decode cX1_passDay 64 = .ok (.dup2, 1) := by decide +kernel
theorem dX1_passDay_65 : decode cX1_passDay 65 = .ok (.iaload, 1) := by decide +kernel
theorem dX1_passDay_66 : decode cX1_passDay 66 = .ok (.iconst 1, 1) := by decide +kernel
theorem dX1_passDay_67 : decode cX1_passDay 67 = .ok (.iadd, 1) := by decide +kernel
theorem dX1_passDay_68 : decode cX1_passDay 68 = .ok (.iastore, 1) := by decide +kernel
theorem dX1_passDay_69 : decode cX1_passDay 69 = .ok (.aload_n 0, 1) := by decide +kernel
theorem dX1_passDay_70 : decode cX1_passDay 70 = .ok (.getfield 13, 3) := by decide +kernel
theorem dX1_passDay_73 : decode cX1_passDay 73 = .ok (.iconst 0, 1) := by decide +kernel
theorem dX1_passDay_74 : decode cX1_passDay 74 = .ok (.iaload, 1) := by decide +kernel
theorem dX1_passDay_75 : decode cX1_passDay 75 = .ok (.bipush 31, 2) := by decide +kernel
theorem dX1_passDay_77 : decode cX1_passDay 77 = .ok (.if_icmp .le 24, 3) := by decide +kernel
theorem dX1_passDay_80 : decode cX1_passDay 80 = .ok (.aload_n 0, 1) := by decide +kernel
theorem dX1_passDay_81 : decode cX1_passDay 81 = .ok (.invokevirtual 124, 3) := by decide +kernel
theorem dX1_passDay_84 : decode cX1_passDay 84 = .ok (.aload_n 0, 1) := by decide +kernel
theorem dX1_passDay_85 : decode cX1_passDay 85 = .ok (.getfield 13, 3) := by decide +kernel
theorem dX1_passDay_88 : decode cX1_passDay 88 = .ok (.iconst 0, 1) := by decide +kernel
theorem dX1_passDay_89 : decode cX1_passDay 89 = .ok (.iconst 1, 1) := by decide +kernel
theorem dX1_passDay_90 : decode cX1_passDay 90 = .ok (.iastore, 1) := by decide +kernel
theorem dX1_passDay_91 : decode cX1_passDay 91 = .ok (.aload_n 0, 1) := by decide +kernel
theorem dX1_passDay_92 : decode cX1_passDay 92 = .ok (.getfield 13, 3) := by decide +kernel
theorem dX1_passDay_95 : decode cX1_passDay 95 = .ok (.iconst 1, 1) := by decide +kernel
theorem dX1_passDay_96 : decode cX1_passDay 96 = .ok (.dup2, 1) := by decide +kernel
theorem dX1_passDay_97 : decode cX1_passDay 97 = .ok (.iaload, 1) := by decide +kernel
theorem dX1_passDay_98 : decode cX1_passDay 98 = .ok (.iconst 1, 1) := by decide +kernel
theorem dX1_passDay_99 : decode cX1_passDay 99 = .ok (.iadd, 1) := by decide +kernel
theorem dX1_passDay_100 : decode cX1_passDay 100 = .ok (.iastore, 1) := by decide +kernel
theorem dX1_passDay_101 : decode cX1_passDay 101 = .ok (.return_, 1) := by decide +kernel
theorem dX1_strike_0 : decode cX1_strike 0 = .ok (.aload_n 0, 1) := by decide +kernel
theorem dX1_strike_1 : decode cX1_strike 1 = .ok (.invokevirtual 127, 3) := by decide +kernel
theorem dX1_strike_4 : decode cX1_strike 4 = .ok (.istore_n 1, 1) := by decide +kernel
theorem dX1_strike_5 : decode cX1_strike 5 = .ok (.iconst 0, 1) := by decide +kernel
theorem dX1_strike_6 : decode cX1_strike 6 = .ok (.istore_n 2, 1) := by decide +kernel
theorem dX1_strike_7 : decode cX1_strike 7 = .ok (.iload_n 2, 1) := by decide +kernel
theorem dX1_strike_8 : decode cX1_strike 8 = .ok (.aload_n 0, 1) := by decide +kernel
theorem dX1_strike_9 : decode cX1_strike 9 = .ok (.getfield 24, 3) := by decide +kernel
theorem dX1_strike_12 : decode cX1_strike 12 = .ok (.getfield 32, 3) := by decide +kernel
theorem dX1_strike_15 : decode cX1_strike 15 = .ok (.if_icmp .ge 65, 3) := by decide +kernel
theorem dX1_strike_80 : decode cX1_strike 80 = .ok (.return_, 1) := by decide +kernel
theorem dX1_endangered_0 : decode cX1_endangered 0 = .ok (.iconst 0, 1) := by decide +kernel
theorem dX1_endangered_1 : decode cX1_endangered 1 = .ok (.istore_n 1, 1) := by decide +kernel
theorem dX1_endangered_2 : decode cX1_endangered 2 = .ok (.iconst 0, 1) := by decide +kernel
theorem dX1_endangered_3 : decode cX1_endangered 3 = .ok (.istore_n 2, 1) := by decide +kernel
theorem dX1_endangered_4 : decode cX1_endangered 4 = .ok (.iload_n 2, 1) := by decide +kernel
theorem dX1_endangered_5 : decode cX1_endangered 5 = .ok (.aload_n 0, 1) := by decide +kernel
theorem dX1_endangered_6 : decode cX1_endangered 6 = .ok (.getfield 24, 3) := by decide +kernel
theorem dX1_endangered_9 : decode cX1_endangered 9 = .ok (.getfield 32, 3) := by decide +kernel
theorem dX1_endangered_12 : decode cX1_endangered 12 = .ok (.if_icmp .ge 47, 3) := by decide +kernel
theorem dX1_endangered_59 : decode cX1_endangered 59 = .ok (.iload_n 1, 1) := by decide +kernel
theorem dX1_endangered_60 : decode cX1_endangered 60 = .ok (.ireturn, 1) := by decide +kernel
theorem dX1_drawDays_0 : decode cX1_drawDays 0 = .ok (.iload_n 1, 1) := by decide +kernel
theorem dX1_drawDays_1 : decode cX1_drawDays 1 = .ok (.istore_n 3, 1) := by decide +kernel
theorem dX1_drawDays_2 : decode cX1_drawDays 2 = .ok (.iconst 0, 1) := by decide +kernel
theorem dX1_drawDays_3 : decode cX1_drawDays 3 = .ok (.istore 4, 2) := by decide +kernel
theorem dX1_drawDays_5 : decode cX1_drawDays 5 = .ok (.iconst 0, 1) := by decide +kernel
theorem dX1_drawDays_6 : decode cX1_drawDays 6 = .ok (.istore 5, 2) := by decide +kernel
theorem dX1_drawDays_8 : decode cX1_drawDays 8 = .ok (.iload 5, 2) := by decide +kernel
theorem dX1_drawDays_10 : decode cX1_drawDays 10 = .ok (.iload_n 2, 1) := by decide +kernel
theorem dX1_drawDays_11 : decode cX1_drawDays 11 = .ok (.if_icmp .ge 103, 3) := by decide +kernel
theorem dX1_drawDays_14 : decode cX1_drawDays 14 = .ok (.aload_n 0, 1) := by decide +kernel
theorem dX1_drawDays_15 : decode cX1_drawDays 15 = .ok (.getfield 24, 3) := by decide +kernel
theorem dX1_drawDays_18 : decode cX1_drawDays 18 = .ok (.getfield 32, 3) := by decide +kernel
theorem dX1_drawDays_21 : decode cX1_drawDays 21 = .ok (.ifCond .le 83, 3) := by decide +kernel
theorem dX1_drawDays_104 : decode cX1_drawDays 104 = .ok (.aload_n 0, 1) := by decide +kernel
theorem dX1_drawDays_105 : decode cX1_drawDays 105 = .ok (.invokevirtual 152, 3) := by decide +kernel
theorem dX1_drawDays_108 : decode cX1_drawDays 108 = .ok (.iinc 5 1, 3) := by decide +kernel
theorem dX1_drawDays_111 : decode cX1_drawDays 111 = .ok (.goto (-103), 3) := by decide +kernel
theorem dX1_drawDays_114 : decode cX1_drawDays 114 = .ok (.iload 4, 2) := by decide +kernel
theorem dX1_drawDays_116 : decode cX1_drawDays 116 = .ok (.ireturn, 1) := by decide +kernel
theorem dX2_init_0 : decode cX2_init 0 = .ok (.aload_n 0, 1) := by decide +kernel
theorem dX2_init_1 : decode cX2_init 1 = .ok (.invokespecial 3, 3) := by decide +kernel
theorem dX2_init_4 : decode cX2_init 4 = .ok (.aload_n 0, 1) := by decide +kernel
theorem dX2_init_5 : decode cX2_init 5 = .ok (.bipush 8, 2) := by decide +kernel
theorem dX2_init_7 : decode cX2_init 7 = .ok (.newarray .int, 2) := by decide +kernel
theorem dX2_init_9 : decode cX2_init 9 = .ok (.putfield 9, 3) := by decide +kernel
theorem dX2_init_12 : decode cX2_init 12 = .ok (.aload_n 0, 1) := by decide +kernel
theorem dX2_init_13 : decode cX2_init 13 = .ok (.bipush 8, 2) := by decide +kernel
theorem dX2_init_15 : decode cX2_init 15 = .ok (.newarray .int, 2) := by decide +kernel
theorem dX2_init_17 : decode cX2_init 17 = .ok (.putfield 15, 3) := by decide +kernel
theorem dX2_init_20 : decode cX2_init 20 = .ok (.aload_n 0, 1) := by decide +kernel
theorem dX2_init_21 : decode cX2_init 21 = .ok (.iconst 4, 1) := by decide +kernel
theorem dX2_init_22 : decode cX2_init 22 = .ok (.newarray .int, 2) := by decide +kernel
theorem dX2_init_24 : decode cX2_init 24 = .ok (.putfield 18, 3) := by decide +kernel
theorem dX2_init_27 : decode cX2_init 27 = .ok (.aload_n 0, 1) := by decide +kernel
theorem dX2_init_28 : decode cX2_init 28 = .ok (.iconst 4, 1) := by decide +kernel
theorem dX2_init_29 : decode cX2_init 29 = .ok (.newarray .int, 2) := by decide +kernel
theorem dX2_init_31 : decode cX2_init 31 = .ok (.putfield 21, 3) := by decide +kernel
theorem dX2_init_34 : decode cX2_init 34 = .ok (.aload_n 0, 1) := by decide +kernel
theorem dX2_init_35 : decode cX2_init 35 = .ok (.bipush 6, 2) := by decide +kernel
theorem dX2_init_37 : decode cX2_init 37 = .ok (.newarray .int, 2) := by decide +kernel
theorem dX2_init_39 : decode cX2_init 39 = .ok (.putfield 24, 3) := by decide +kernel
theorem dX2_init_42 : decode cX2_init 42 = .ok (.aload_n 0, 1) := by decide +kernel
theorem dX2_init_43 : decode cX2_init 43 = .ok (.bipush 6, 2) := by decide +kernel
theorem dX2_init_45 : decode cX2_init 45 = .ok (.newarray .int, 2) := by decide +kernel
theorem dX2_init_47 : decode cX2_init 47 = .ok (.putfield 27, 3) := by decide +kernel
theorem dX2_init_50 : decode cX2_init 50 = .ok (.aload_n 0, 1) := by decide +kernel
theorem dX2_init_51 : decode cX2_init 51 = .ok (.bipush 36, 2) := by decide +kernel
theorem dX2_init_53 : decode cX2_init 53 = .ok (.newarray .int, 2) := by decide +kernel
theorem dX2_init_55 : decode cX2_init 55 = .ok (.putfield 30, 3) := by decide +kernel
theorem dX2_init_58 : decode cX2_init 58 = .ok (.aload_n 0, 1) := by decide +kernel
theorem dX2_init_59 : decode cX2_init 59 = .ok (.bipush 8, 2) := by decide +kernel
theorem dX2_init_61 : decode cX2_init 61 = .ok (.newarray .int, 2) := by decide +kernel
theorem dX2_init_63 : decode cX2_init 63 = .ok (.putfield 33, 3) := by decide +kernel
theorem dX2_init_66 : decode cX2_init 66 = .ok (.return_, 1) := by decide +kernel
theorem dX2_readFrom_0 : decode cX2_readFrom 0 = .ok (.aload_n 0, 1) := by decide +kernel
theorem dX2_readFrom_1 : decode cX2_readFrom 1 = .ok (.iconst 0, 1) := by decide +kernel
theorem dX2_readFrom_2 : decode cX2_readFrom 2 = .ok (.putfield 36, 3) := by decide +kernel
theorem dX2_readFrom_5 : decode cX2_readFrom 5 = .ok (.aload_n 0, 1) := by decide +kernel
theorem dX2_readFrom_6 : decode cX2_readFrom 6 = .ok (.iconst 0, 1) := by decide +kernel
theorem dX2_readFrom_7 : decode cX2_readFrom 7 = .ok (.putfield 40, 3) := by decide +kernel
theorem dX2_readFrom_10 : decode cX2_readFrom 10 = .ok (.aload_n 0, 1) := by decide +kernel
theorem dX2_readFrom_11 : decode cX2_readFrom 11 = .ok (.iconst 0, 1) := by decide +kernel
theorem dX2_readFrom_12 : decode cX2_readFrom 12 = .ok (.putfield 43, 3) := by decide +kernel
theorem dX2_readFrom_15 : decode cX2_readFrom 15 = .ok (.iconst 0, 1) := by decide +kernel
theorem dX2_readFrom_16 : decode cX2_readFrom 16 = .ok (.istore_n 2, 1) := by decide +kernel
theorem dX2_readFrom_17 : decode cX2_readFrom 17 = .ok (.iload_n 2, 1) := by decide +kernel
theorem dX2_readFrom_18 : decode cX2_readFrom 18 = .ok (.aload_n 0, 1) := by decide +kernel
theorem dX2_readFrom_19 : decode cX2_readFrom 19 = .ok (.getfield 30, 3) := by decide +kernel
theorem dX2_readFrom_22 : decode cX2_readFrom 22 = .ok (.arraylength, 1) := by decide +kernel
theorem dX2_readFrom_23 : decode cX2_readFrom 23 = .ok (.if_icmp .ge 16, 3) := by decide +kernel
theorem dX2_readFrom_26 : decode cX2_readFrom 26 = .ok (.aload_n 0, 1) := by decide +kernel
theorem dX2_readFrom_27 : decode cX2_readFrom 27 = .ok (.getfield 30, 3) := by decide +kernel
theorem dX2_readFrom_30 : decode cX2_readFrom 30 = .ok (.iload_n 2, 1) := by decide +kernel
theorem dX2_readFrom_31 : decode cX2_readFrom 31 = .ok (.iconst 0, 1) := by decide +kernel
theorem dX2_readFrom_32 : decode cX2_readFrom 32 = .ok (.iastore, 1) := by decide +kernel
theorem dX2_readFrom_33 : decode cX2_readFrom 33 = .ok (.iinc 2 1, 3) := by decide +kernel
theorem dX2_readFrom_36 : decode cX2_readFrom 36 = .ok (.goto (-19), 3) := by decide +kernel
theorem dX2_readFrom_39 : decode cX2_readFrom 39 = .ok (.iconst 0, 1) := by decide +kernel
theorem dX2_readFrom_40 : decode cX2_readFrom 40 = .ok (.istore_n 2, 1) := by decide +kernel
theorem dX2_readFrom_41 : decode cX2_readFrom 41 = .ok (.iload_n 2, 1) := by decide +kernel
theorem dX2_readFrom_42 : decode cX2_readFrom 42 = .ok (.bipush 60, 2) := by decide +kernel
theorem dX2_readFrom_44 : decode cX2_readFrom 44 = .ok (.if_icmp .gt 39, 3) := by decide +kernel
theorem dX2_readFrom_47 : decode cX2_readFrom 47 = .ok (.aload_n 1, 1) := by decide +kernel
theorem dX2_readFrom_48 : decode cX2_readFrom 48 = .ok (.invokevirtual 46, 3) := by decide +kernel
theorem dX2_readFrom_51 : decode cX2_readFrom 51 = .ok (.ifCond .ne 32, 3) := by decide +kernel
theorem dX2_readFrom_54 : decode cX2_readFrom 54 = .ok (.aload_n 1, 1) := by decide +kernel
theorem dX2_readFrom_55 : decode cX2_readFrom 55 = .ok (.invokevirtual 52, 3) := by decide +kernel
theorem dX2_readFrom_58 : decode cX2_readFrom 58 = .ok (.ifCond .ne 25, 3) := by decide +kernel
theorem dX2_readFrom_83 : decode cX2_readFrom 83 = .ok (.aload_n 0, 1) := by decide +kernel
theorem dX2_readFrom_84 : decode cX2_readFrom 84 = .ok (.invokevirtual 59, 3) := by decide +kernel
theorem dX2_readFrom_87 : decode cX2_readFrom 87 = .ok (.return_, 1) := by decide +kernel
theorem dX2_findSafe_0 : decode cX2_findSafe 0 = .ok (.aload_n 0, 1) := by decide +kernel
theorem dX2_findSafe_1 : decode cX2_findSafe 1 = .ok (.iconst 0, 1) := by decide +kernel
theorem dX2_findSafe_2 : decode cX2_findSafe 2 = .ok (.putfield 101, 3) := by decide +kernel
theorem dX2_findSafe_5 : decode cX2_findSafe 5 = .ok (.iconst 0, 1) := by decide +kernel
theorem dX2_findSafe_6 : decode cX2_findSafe 6 = .ok (.istore_n 1, 1) := by decide +kernel
theorem dX2_findSafe_7 : decode cX2_findSafe 7 = .ok (.iload_n 1, 1) := by decide +kernel
theorem dX2_findSafe_8 : decode cX2_findSafe 8 = .ok (.aload_n 0, 1) := by decide +kernel
theorem dX2_findSafe_9 : decode cX2_findSafe 9 = .ok (.getfield 36, 3) := by decide +kernel
theorem dX2_findSafe_12 : decode cX2_findSafe 12 = .ok (.if_icmp .ge 29, 3) := by decide +kernel
theorem dX2_findSafe_41 : decode cX2_findSafe 41 = .ok (.return_, 1) := by decide +kernel
theorem dX2_watchers_0 : decode cX2_watchers 0 = .ok (.iconst 0, 1) := by decide +kernel
theorem dX2_watchers_1 : decode cX2_watchers 1 = .ok (.istore_n 2, 1) := by decide +kernel
theorem dX2_watchers_2 : decode cX2_watchers 2 = .ok (.iload_n 2, 1) := by decide +kernel
theorem dX2_watchers_3 : decode cX2_watchers 3 = .ok (.aload_n 0, 1) := by decide +kernel
theorem dX2_watchers_4 : decode cX2_watchers 4 = .ok (.getfield 36, 3) := by decide +kernel
theorem dX2_watchers_7 : decode cX2_watchers 7 = .ok (.if_icmp .ge 21, 3) := by decide +kernel
theorem dX2_watchers_28 : decode cX2_watchers 28 = .ok (.iconst 1, 1) := by decide +kernel
theorem dX2_watchers_29 : decode cX2_watchers 29 = .ok (.aload_n 0, 1) := by decide +kernel
theorem dX2_watchers_30 : decode cX2_watchers 30 = .ok (.getfield 36, 3) := by decide +kernel
theorem dX2_watchers_33 : decode cX2_watchers 33 = .ok (.ishl, 1) := by decide +kernel
theorem dX2_watchers_34 : decode cX2_watchers 34 = .ok (.iconst 1, 1) := by decide +kernel
theorem dX2_watchers_35 : decode cX2_watchers 35 = .ok (.isub, 1) := by decide +kernel
theorem dX2_watchers_36 : decode cX2_watchers 36 = .ok (.istore_n 2, 1) := by decide +kernel
theorem dX2_watchers_37 : decode cX2_watchers 37 = .ok (.iload_n 2, 1) := by decide +kernel
theorem dX2_watchers_38 : decode cX2_watchers 38 = .ok (.istore_n 3, 1) := by decide +kernel
theorem dX2_watchers_39 : decode cX2_watchers 39 = .ok (.iconst 0, 1) := by decide +kernel
theorem dX2_watchers_40 : decode cX2_watchers 40 = .ok (.istore 4, 2) := by decide +kernel
theorem dX2_watchers_42 : decode cX2_watchers 42 = .ok (.iload 4, 2) := by decide +kernel
theorem dX2_watchers_44 : decode cX2_watchers 44 = .ok (.iload_n 2, 1) := by decide +kernel
theorem dX2_watchers_45 : decode cX2_watchers 45 = .ok (.if_icmp .ge 34, 3) := by decide +kernel
theorem dX2_watchers_79 : decode cX2_watchers 79 = .ok (.iload_n 3, 1) := by decide +kernel
theorem dX2_watchers_80 : decode cX2_watchers 80 = .ok (.ireturn, 1) := by decide +kernel
theorem dX3_init_0 : decode cX3_init 0 = .ok (.aload_n 0, 1) := by decide +kernel
theorem dX3_init_1 : decode cX3_init 1 = .ok (.invokespecial 3, 3) := by decide +kernel
theorem dX3_init_4 : decode cX3_init 4 = .ok (.aload_n 0, 1) := by decide +kernel
theorem dX3_init_5 : decode cX3_init 5 = .ok (.bipush 8, 2) := by decide +kernel
theorem dX3_init_7 : decode cX3_init 7 = .ok (.newarray .int, 2) := by decide +kernel
theorem dX3_init_9 : decode cX3_init 9 = .ok (.putfield 9, 3) := by decide +kernel
theorem dX3_init_12 : decode cX3_init 12 = .ok (.aload_n 0, 1) := by decide +kernel
theorem dX3_init_13 : decode cX3_init 13 = .ok (.bipush 6, 2) := by decide +kernel
theorem dX3_init_15 : decode cX3_init 15 = .ok (.newarray .int, 2) := by decide +kernel
theorem dX3_init_17 : decode cX3_init 17 = .ok (.putfield 15, 3) := by decide +kernel
theorem dX3_init_20 : decode cX3_init 20 = .ok (.aload_n 0, 1) := by decide +kernel
theorem dX3_init_21 : decode cX3_init 21 = .ok (.bipush 6, 2) := by decide +kernel
theorem dX3_init_23 : decode cX3_init 23 = .ok (.newarray .int, 2) := by decide +kernel
theorem dX3_init_25 : decode cX3_init 25 = .ok (.putfield 18, 3) := by decide +kernel
theorem dX3_init_28 : decode cX3_init 28 = .ok (.aload_n 0, 1) := by decide +kernel
theorem dX3_init_29 : decode cX3_init 29 = .ok (.bipush 7, 2) := by decide +kernel
theorem dX3_init_31 : decode cX3_init 31 = .ok (.newarray .int, 2) := by decide +kernel
theorem dX3_init_33 : decode cX3_init 33 = .ok (.putfield 21, 3) := by decide +kernel
theorem dX3_init_36 : decode cX3_init 36 = .ok (.return_, 1) := by decide +kernel
theorem dX3_settle_0 : decode cX3_settle 0 = .ok (.aload_n 0, 1) := by decide +kernel
theorem dX3_settle_1 : decode cX3_settle 1 = .ok (.aload_n 1, 1) := by decide +kernel
theorem dX3_settle_2 : decode cX3_settle 2 = .ok (.getfield 24, 3) := by decide +kernel
theorem dX3_settle_5 : decode cX3_settle 5 = .ok (.getfield 30, 3) := by decide +kernel
theorem dX3_settle_8 : decode cX3_settle 8 = .ok (.putfield 36, 3) := by decide +kernel
theorem dX3_settle_11 : decode cX3_settle 11 = .ok (.aload_n 0, 1) := by decide +kernel
theorem dX3_settle_12 : decode cX3_settle 12 = .ok (.aload_n 1, 1) := by decide +kernel
theorem dX3_settle_13 : decode cX3_settle 13 = .ok (.getfield 24, 3) := by decide +kernel
theorem dX3_settle_16 : decode cX3_settle 16 = .ok (.getfield 37, 3) := by decide +kernel
theorem dX3_settle_19 : decode cX3_settle 19 = .ok (.putfield 40, 3) := by decide +kernel
theorem dX3_settle_22 : decode cX3_settle 22 = .ok (.aload_n 0, 1) := by decide +kernel
theorem dX3_settle_23 : decode cX3_settle 23 = .ok (.aload_n 2, 1) := by decide +kernel
theorem dX3_settle_24 : decode cX3_settle 24 = .ok (.putfield 41, 3) := by decide +kernel
theorem dX3_settle_27 : decode cX3_settle 27 = .ok (.aload_n 0, 1) := by decide +kernel
theorem dX3_settle_28 : decode cX3_settle 28 = .ok (.iconst 0, 1) := by decide +kernel
theorem dX3_settle_29 : decode cX3_settle 29 = .ok (.putfield 45, 3) := by decide +kernel
theorem dX3_settle_32 : decode cX3_settle 32 = .ok (.aload_n 0, 1) := by decide +kernel
theorem dX3_settle_33 : decode cX3_settle 33 = .ok (.iconst (-1), 1) := by decide +kernel
theorem dX3_settle_34 : decode cX3_settle 34 = .ok (.putfield 48, 3) := by decide +kernel
theorem dX3_settle_37 : decode cX3_settle 37 = .ok (.iconst 0, 1) := by decide +kernel
theorem dX3_settle_38 : decode cX3_settle 38 = .ok (.istore_n 3, 1) := by decide +kernel
theorem dX3_settle_39 : decode cX3_settle 39 = .ok (.iload_n 3, 1) := by decide +kernel
theorem dX3_settle_40 : decode cX3_settle 40 = .ok (.aload_n 0, 1) := by decide +kernel
theorem dX3_settle_41 : decode cX3_settle 41 = .ok (.getfield 40, 3) := by decide +kernel
theorem dX3_settle_44 : decode cX3_settle 44 = .ok (.if_icmp .ge 23, 3) := by decide +kernel
theorem dX3_settle_67 : decode cX3_settle 67 = .ok (.iconst 0, 1) := by decide +kernel
theorem dX3_settle_68 : decode cX3_settle 68 = .ok (.istore_n 3, 1) := by decide +kernel
theorem dX3_settle_69 : decode cX3_settle 69 = .ok (.iload_n 3, 1) := by decide +kernel
theorem dX3_settle_70 : decode cX3_settle 70 = .ok (.aload_n 0, 1) := by decide +kernel
theorem dX3_settle_71 : decode cX3_settle 71 = .ok (.getfield 36, 3) := by decide +kernel
theorem dX3_settle_74 : decode cX3_settle 74 = .ok (.if_icmp .ge 43, 3) := by decide +kernel
theorem dX3_settle_117 : decode cX3_settle 117 = .ok (.return_, 1) := by decide +kernel
theorem dX3_lookAhead_0 : decode cX3_lookAhead 0 = .ok (.aload_n 0, 1) := by decide +kernel
theorem dX3_lookAhead_1 : decode cX3_lookAhead 1 = .ok (.iconst (-1), 1) := by decide +kernel
theorem dX3_lookAhead_2 : decode cX3_lookAhead 2 = .ok (.putfield 82, 3) := by decide +kernel
theorem dX3_lookAhead_5 : decode cX3_lookAhead 5 = .ok (.aload_n 0, 1) := by decide +kernel
theorem dX3_lookAhead_6 : decode cX3_lookAhead 6 = .ok (.iconst (-1), 1) := by decide +kernel
theorem dX3_lookAhead_7 : decode cX3_lookAhead 7 = .ok (.putfield 85, 3) := by decide +kernel
theorem dX3_lookAhead_10 : decode cX3_lookAhead 10 = .ok (.iconst 0, 1) := by decide +kernel
theorem dX3_lookAhead_11 : decode cX3_lookAhead 11 = .ok (.istore_n 1, 1) := by decide +kernel
theorem dX3_lookAhead_12 : decode cX3_lookAhead 12 = .ok (.iload_n 1, 1) := by decide +kernel
theorem dX3_lookAhead_13 : decode cX3_lookAhead 13 = .ok (.aload_n 0, 1) := by decide +kernel
theorem dX3_lookAhead_14 : decode cX3_lookAhead 14 = .ok (.getfield 40, 3) := by decide +kernel
theorem dX3_lookAhead_17 : decode cX3_lookAhead 17 = .ok (.if_icmp .ge 59, 3) := by decide +kernel
theorem dX3_lookAhead_76 : decode cX3_lookAhead 76 = .ok (.return_, 1) := by decide +kernel
theorem dX4_init_0 : decode cX4_init 0 = .ok (.aload_n 0, 1) := by decide +kernel
theorem dX4_init_1 : decode cX4_init 1 = .ok (.invokespecial 3, 3) := by decide +kernel
theorem dX4_init_4 : decode cX4_init 4 = .ok (.aload_n 0, 1) := by decide +kernel
theorem dX4_init_5 : decode cX4_init 5 = .ok (.sipush 150, 3) := by decide +kernel
theorem dX4_init_8 : decode cX4_init 8 = .ok (.newarray .int, 2) := by decide +kernel
theorem dX4_init_10 : decode cX4_init 10 = .ok (.putfield 9, 3) := by decide +kernel
theorem dX4_init_13 : decode cX4_init 13 = .ok (.aload_n 0, 1) := by decide +kernel
theorem dX4_init_14 : decode cX4_init 14 = .ok (.sipush 150, 3) := by decide +kernel
theorem dX4_init_17 : decode cX4_init 17 = .ok (.newarray .int, 2) := by decide +kernel
theorem dX4_init_19 : decode cX4_init 19 = .ok (.putfield 15, 3) := by decide +kernel
theorem dX4_init_22 : decode cX4_init 22 = .ok (.aload_n 0, 1) := by decide +kernel
theorem dX4_init_23 : decode cX4_init 23 = .ok (.sipush 150, 3) := by decide +kernel
theorem dX4_init_26 : decode cX4_init 26 = .ok (.newarray .int, 2) := by decide +kernel
theorem dX4_init_28 : decode cX4_init 28 = .ok (.putfield 18, 3) := by decide +kernel
theorem dX4_init_31 : decode cX4_init 31 = .ok (.aload_n 0, 1) := by decide +kernel
theorem dX4_init_32 : decode cX4_init 32 = .ok (.bipush 8, 2) := by decide +kernel
theorem dX4_init_34 : decode cX4_init 34 = .ok (.newarray .int, 2) := by decide +kernel
theorem dX4_init_36 : decode cX4_init 36 = .ok (.putfield 21, 3) := by decide +kernel
theorem dX4_init_39 : decode cX4_init 39 = .ok (.aload_n 0, 1) := by decide +kernel
theorem dX4_init_40 : decode cX4_init 40 = .ok (.invokevirtual 24, 3) := by decide +kernel
theorem dX4_init_43 : decode cX4_init 43 = .ok (.return_, 1) := by decide +kernel
theorem dX4_setPlain_0 : decode cX4_setPlain 0 = .ok (.aload_n 0, 1) := by decide +kernel
theorem dX4_setPlain_1 : decode cX4_setPlain 1 = .ok (.iconst 0, 1) := by decide +kernel
theorem dX4_setPlain_2 : decode cX4_setPlain 2 = .ok (.putfield 27, 3) := by decide +kernel
theorem dX4_setPlain_5 : decode cX4_setPlain 5 = .ok (.aload_n 0, 1) := by decide +kernel
theorem dX4_setPlain_6 : decode cX4_setPlain 6 = .ok (.iconst 0, 1) := by decide +kernel
theorem dX4_setPlain_7 : decode cX4_setPlain 7 = .ok (.iconst 4, 1) := by decide +kernel
theorem dX4_setPlain_8 : decode cX4_setPlain 8 = .ok (.invokevirtual 31, 3) := by decide +kernel
theorem dX4_setPlain_11 : decode cX4_setPlain 11 = .ok (.aload_n 0, 1) := by decide +kernel
theorem dX4_setPlain_12 : decode cX4_setPlain 12 = .ok (.iconst 1, 1) := by decide +kernel
theorem dX4_setPlain_13 : decode cX4_setPlain 13 = .ok (.iconst 0, 1) := by decide +kernel
theorem dX4_setPlain_14 : decode cX4_setPlain 14 = .ok (.invokevirtual 31, 3) := by decide +kernel
theorem dX4_setPlain_17 : decode cX4_setPlain 17 = .ok (.aload_n 0, 1) := by decide +kernel
theorem dX4_setPlain_18 : decode cX4_setPlain 18 = .ok (.iconst 2, 1) := by decide +kernel
theorem dX4_setPlain_19 : decode cX4_setPlain 19 = .ok (.iconst 0, 1) := by decide +kernel
theorem dX4_setPlain_20 : decode cX4_setPlain 20 = .ok (.invokevirtual 31, 3) := by decide +kernel
theorem dX4_setPlain_23 : decode cX4_setPlain 23 = .ok (.aload_n 0, 1) := by decide +kernel
theorem dX4_setPlain_24 : decode cX4_setPlain 24 = .ok (.iconst 1, 1) := by decide +kernel
theorem dX4_setPlain_25 : decode cX4_setPlain 25 = .ok (.iconst 1, 1) := by decide +kernel
theorem dX4_setPlain_26 : decode cX4_setPlain 26 = .ok (.invokevirtual 31, 3) := by decide +kernel
theorem dX4_setPlain_29 : decode cX4_setPlain 29 = .ok (.aload_n 0, 1) := by decide +kernel
theorem dX4_setPlain_30 : decode cX4_setPlain 30 = .ok (.iconst 3, 1) := by decide +kernel
theorem dX4_setPlain_31 : decode cX4_setPlain 31 = .ok (.iconst 0, 1) := by decide +kernel
theorem dX4_setPlain_32 : decode cX4_setPlain 32 = .ok (.invokevirtual 31, 3) := by decide +kernel
theorem dX4_setPlain_35 : decode cX4_setPlain 35 = .ok (.return_, 1) := by decide +kernel
theorem dX4_add_0 : decode cX4_add 0 = .ok (.aload_n 0, 1) := by decide +kernel
theorem dX4_add_1 : decode cX4_add 1 = .ok (.getfield 27, 3) := by decide +kernel
theorem dX4_add_4 : decode cX4_add 4 = .ok (.sipush 150, 3) := by decide +kernel
theorem dX4_add_7 : decode cX4_add 7 = .ok (.if_icmp .ge 33, 3) := by decide +kernel
theorem dX4_add_10 : decode cX4_add 10 = .ok (.aload_n 0, 1) := by decide +kernel
theorem dX4_add_11 : decode cX4_add 11 = .ok (.getfield 9, 3) := by decide +kernel
theorem dX4_add_14 : decode cX4_add 14 = .ok (.aload_n 0, 1) := by decide +kernel
theorem dX4_add_15 : decode cX4_add 15 = .ok (.getfield 27, 3) := by decide +kernel
theorem dX4_add_18 : decode cX4_add 18 = .ok (.iload_n 1, 1) := by decide +kernel
theorem dX4_add_19 : decode cX4_add 19 = .ok (.iastore, 1) := by decide +kernel
theorem dX4_add_20 : decode cX4_add 20 = .ok (.aload_n 0, 1) := by decide +kernel
theorem dX4_add_21 : decode cX4_add 21 = .ok (.getfield 15, 3) := by decide +kernel
theorem dX4_add_24 : decode cX4_add 24 = .ok (.aload_n 0, 1) := by decide +kernel
theorem dX4_add_25 : decode cX4_add 25 = .ok (.getfield 27, 3) := by decide +kernel
theorem dX4_add_28 : decode cX4_add 28 = .ok (.iload_n 2, 1) := by decide +kernel
theorem dX4_add_29 : decode cX4_add 29 = .ok (.iastore, 1) := by decide +kernel
theorem dX4_add_30 : decode cX4_add 30 = .ok (.aload_n 0, 1) := by decide +kernel
theorem dX4_add_31 : decode cX4_add 31 = .ok (.dup, 1) := by decide +kernel
theorem dX4_add_32 : decode cX4_add 32 = .ok (.getfield 27, 3) := by decide +kernel
theorem dX4_add_35 : decode cX4_add 35 = .ok (.iconst 1, 1) := by decide +kernel
theorem dX4_add_36 : decode cX4_add 36 = .ok (.iadd, 1) := by decide +kernel
theorem dX4_add_37 : decode cX4_add 37 = .ok (.putfield 27, 3) := by decide +kernel
theorem dX4_add_40 : decode cX4_add 40 = .ok (.return_, 1) := by decide +kernel
theorem dX4_readFrom_0 : decode cX4_readFrom 0 = .ok (.aload_n 0, 1) := by decide +kernel
theorem dX4_readFrom_1 : decode cX4_readFrom 1 = .ok (.iconst 0, 1) := by decide +kernel
theorem dX4_readFrom_2 : decode cX4_readFrom 2 = .ok (.putfield 27, 3) := by decide +kernel
theorem dX4_readFrom_5 : decode cX4_readFrom 5 = .ok (.aload_n 0, 1) := by decide +kernel
theorem dX4_readFrom_6 : decode cX4_readFrom 6 = .ok (.aload_n 1, 1) := by decide +kernel
theorem dX4_readFrom_7 : decode cX4_readFrom 7 = .ok (.iconst 0, 1) := by decide +kernel
theorem dX4_readFrom_8 : decode cX4_readFrom 8 = .ok (.invokevirtual 35, 3) := by decide +kernel
theorem dX4_readFrom_11 : decode cX4_readFrom 11 = .ok (.aload_n 1, 1) := by decide +kernel
theorem dX4_readFrom_12 : decode cX4_readFrom 12 = .ok (.invokevirtual 39, 3) := by decide +kernel
theorem dX4_readFrom_15 : decode cX4_readFrom 15 = .ok (.return_, 1) := by decide +kernel
theorem dX4_readSum_0 : decode cX4_readSum 0 = .ok (.aload_n 0, 1) := by decide +kernel
theorem dX4_readSum_1 : decode cX4_readSum 1 = .ok (.aload_n 1, 1) := by decide +kernel
theorem dX4_readSum_2 : decode cX4_readSum 2 = .ok (.iload_n 2, 1) := by decide +kernel
theorem dX4_readSum_3 : decode cX4_readSum 3 = .ok (.invokevirtual 44, 3) := by decide +kernel
theorem dX4_readSum_6 : decode cX4_readSum 6 = .ok (.iconst 0, 1) := by decide +kernel
theorem dX4_readSum_7 : decode cX4_readSum 7 = .ok (.istore_n 3, 1) := by decide +kernel
theorem dX4_readSum_8 : decode cX4_readSum 8 = .ok (.iload_n 3, 1) := by decide +kernel
theorem dX4_readSum_9 : decode cX4_readSum 9 = .ok (.sipush 150, 3) := by decide +kernel
theorem dX4_readSum_12 : decode cX4_readSum 12 = .ok (.if_icmp .ge 65, 3) := by decide +kernel
theorem dX4_readSum_15 : decode cX4_readSum 15 = .ok (.aload_n 1, 1) := by decide +kernel
theorem dX4_readSum_16 : decode cX4_readSum 16 = .ok (.invokevirtual 47, 3) := by decide +kernel
theorem dX4_readSum_19 : decode cX4_readSum 19 = .ok (.ifCond .ne 58, 3) := by decide +kernel
theorem dX4_readSum_77 : decode cX4_readSum 77 = .ok (.return_, 1) := by decide +kernel
theorem dX4_readProduct_0 : decode cX4_readProduct 0 = .ok (.aload_n 0, 1) := by decide +kernel
theorem dX4_readProduct_1 : decode cX4_readProduct 1 = .ok (.aload_n 1, 1) := by decide +kernel
theorem dX4_readProduct_2 : decode cX4_readProduct 2 = .ok (.iload_n 2, 1) := by decide +kernel
theorem dX4_readProduct_3 : decode cX4_readProduct 3 = .ok (.invokevirtual 55, 3) := by decide +kernel
theorem dX4_readProduct_6 : decode cX4_readProduct 6 = .ok (.iconst 0, 1) := by decide +kernel
theorem dX4_readProduct_7 : decode cX4_readProduct 7 = .ok (.istore_n 3, 1) := by decide +kernel
theorem dX4_readProduct_8 : decode cX4_readProduct 8 = .ok (.iload_n 3, 1) := by decide +kernel
theorem dX4_readProduct_9 : decode cX4_readProduct 9 = .ok (.sipush 150, 3) := by decide +kernel
theorem dX4_readProduct_12 : decode cX4_readProduct 12 = .ok (.if_icmp .ge 79, 3) := by decide +kernel
theorem dX4_readProduct_15 : decode cX4_readProduct 15 = .ok (.aload_n 1, 1) := by decide +kernel
theorem dX4_readProduct_16 : decode cX4_readProduct 16 = .ok (.invokevirtual 47, 3) := by decide +kernel
theorem dX4_readProduct_19 : decode cX4_readProduct 19 = .ok (.ifCond .ne 72, 3) := by decide +kernel
theorem dX4_readProduct_91 : decode cX4_readProduct 91 = .ok (.return_, 1) := by decide +kernel
theorem dX4_readUnit_0 : decode cX4_readUnit 0 = .ok (.aload_n 1, 1) := by decide +kernel
theorem dX4_readUnit_1 : decode cX4_readUnit 1 = .ok (.invokevirtual 58, 3) := by decide +kernel
theorem dX4_readUnit_4 : decode cX4_readUnit 4 = .ok (.ifCond .eq 19, 3) := by decide +kernel
theorem dX4_readUnit_23 : decode cX4_readUnit 23 = .ok (.aload_n 1, 1) := by decide +kernel
theorem dX4_readUnit_24 : decode cX4_readUnit 24 = .ok (.bipush 40, 2) := by decide +kernel
theorem dX4_readUnit_26 : decode cX4_readUnit 26 = .ok (.invokevirtual 51, 3) := by decide +kernel
theorem dX4_readUnit_29 : decode cX4_readUnit 29 = .ok (.ifCond .eq 12, 3) := by decide +kernel
theorem dX4_readUnit_41 : decode cX4_readUnit 41 = .ok (.aload_n 1, 1) := by decide +kernel
theorem dX4_readUnit_42 : decode cX4_readUnit 42 = .ok (.ldc 68, 2) := by decide +kernel
theorem dX4_readUnit_44 : decode cX4_readUnit 44 = .ok (.invokevirtual 70, 3) := by decide +kernel
theorem dX4_readUnit_47 : decode cX4_readUnit 47 = .ok (.ifCond .eq 14, 3) := by decide +kernel
theorem dX4_readUnit_61 : decode cX4_readUnit 61 = .ok (.aload_n 1, 1) := by decide +kernel
theorem dX4_readUnit_62 : decode cX4_readUnit 62 = .ok (.ldc 78, 2) := by decide +kernel
theorem dX4_readUnit_64 : decode cX4_readUnit 64 = .ok (.invokevirtual 70, 3) := by decide +kernel
theorem dX4_readUnit_67 : decode cX4_readUnit 67 = .ok (.ifCond .eq 14, 3) := by decide +kernel
theorem dX4_readUnit_81 : decode cX4_readUnit 81 = .ok (.aload_n 0, 1) := by decide +kernel
theorem dX4_readUnit_82 : decode cX4_readUnit 82 = .ok (.aload_n 1, 1) := by decide +kernel
theorem dX4_readUnit_83 : decode cX4_readUnit 83 = .ok (.invokevirtual 80, 3) := by decide +kernel
theorem dX4_readUnit_86 : decode cX4_readUnit 86 = .ok (.return_, 1) := by decide +kernel
theorem dX4_readFact_0 : decode cX4_readFact 0 = .ok (.aload_n 1, 1) := by decide +kernel
theorem dX4_readFact_1 : decode cX4_readFact 1 = .ok (.ldc 92, 2) := by decide +kernel
theorem dX4_readFact_3 : decode cX4_readFact 3 = .ok (.invokevirtual 70, 3) := by decide +kernel
theorem dX4_readFact_6 : decode cX4_readFact 6 = .ok (.ifCond .eq 12, 3) := by decide +kernel
theorem dX4_readFact_18 : decode cX4_readFact 18 = .ok (.aload_n 1, 1) := by decide +kernel
theorem dX4_readFact_19 : decode cX4_readFact 19 = .ok (.ldc 94, 2) := by decide +kernel
theorem dX4_readFact_21 : decode cX4_readFact 21 = .ok (.invokevirtual 70, 3) := by decide +kernel
theorem dX4_readFact_24 : decode cX4_readFact 24 = .ok (.ifCond .eq 12, 3) := by decide +kernel
theorem dX4_readFact_36 : decode cX4_readFact 36 = .ok (.aload_n 1, 1) := by decide +kernel
theorem dX4_readFact_37 : decode cX4_readFact 37 = .ok (.ldc 96, 2) := by decide +kernel
theorem dX4_readFact_39 : decode cX4_readFact 39 = .ok (.invokevirtual 70, 3) := by decide +kernel
theorem dX4_readFact_42 : decode cX4_readFact 42 = .ok (.ifCond .eq 12, 3) := by decide +kernel
theorem dX4_readFact_54 : decode cX4_readFact 54 = .ok (.aload_n 1, 1) := by decide +kernel
theorem dX4_readFact_55 : decode cX4_readFact 55 = .ok (.ldc 98, 2) := by decide +kernel
theorem dX4_readFact_57 : decode cX4_readFact 57 = .ok (.invokevirtual 70, 3) := by decide +kernel
theorem dX4_readFact_60 : decode cX4_readFact 60 = .ok (.ifCond .eq 12, 3) := by decide +kernel
theorem dX4_readFact_72 : decode cX4_readFact 72 = .ok (.aload_n 1, 1) := by decide +kernel
theorem dX4_readFact_73 : decode cX4_readFact 73 = .ok (.ldc 100, 2) := by decide +kernel
theorem dX4_readFact_75 : decode cX4_readFact 75 = .ok (.invokevirtual 70, 3) := by decide +kernel
theorem dX4_readFact_78 : decode cX4_readFact 78 = .ok (.ifCond .eq 12, 3) := by decide +kernel
theorem dX4_readFact_90 : decode cX4_readFact 90 = .ok (.aload_n 1, 1) := by decide +kernel
theorem dX4_readFact_91 : decode cX4_readFact 91 = .ok (.ldc 102, 2) := by decide +kernel
theorem dX4_readFact_93 : decode cX4_readFact 93 = .ok (.invokevirtual 70, 3) := by decide +kernel
theorem dX4_readFact_96 : decode cX4_readFact 96 = .ok (.ifCond .eq 12, 3) := by decide +kernel
theorem dX4_readFact_108 : decode cX4_readFact 108 = .ok (.aload_n 1, 1) := by decide +kernel
theorem dX4_readFact_109 : decode cX4_readFact 109 = .ok (.ldc 104, 2) := by decide +kernel
theorem dX4_readFact_111 : decode cX4_readFact 111 = .ok (.invokevirtual 70, 3) := by decide +kernel
theorem dX4_readFact_114 : decode cX4_readFact 114 = .ok (.ifCond .eq 13, 3) := by decide +kernel
theorem dX4_readFact_127 : decode cX4_readFact 127 = .ok (.aload_n 1, 1) := by decide +kernel
theorem dX4_readFact_128 : decode cX4_readFact 128 = .ok (.ldc 106, 2) := by decide +kernel
theorem dX4_readFact_130 : decode cX4_readFact 130 = .ok (.invokevirtual 70, 3) := by decide +kernel
theorem dX4_readFact_133 : decode cX4_readFact 133 = .ok (.ifCond .eq 13, 3) := by decide +kernel
theorem dX4_readFact_146 : decode cX4_readFact 146 = .ok (.aload_n 1, 1) := by decide +kernel
theorem dX4_readFact_147 : decode cX4_readFact 147 = .ok (.invokevirtual 108, 3) := by decide +kernel
theorem dX4_readFact_150 : decode cX4_readFact 150 = .ok (.return_, 1) := by decide +kernel
theorem dX4_setFacts_0 : decode cX4_setFacts 0 = .ok (.aload_n 0, 1) := by decide +kernel
theorem dX4_setFacts_1 : decode cX4_setFacts 1 = .ok (.getfield 21, 3) := by decide +kernel
theorem dX4_setFacts_4 : decode cX4_setFacts 4 = .ok (.iconst 0, 1) := by decide +kernel
theorem dX4_setFacts_5 : decode cX4_setFacts 5 = .ok (.iload_n 1, 1) := by decide +kernel
theorem dX4_setFacts_6 : decode cX4_setFacts 6 = .ok (.iastore, 1) := by decide +kernel
theorem dX4_setFacts_7 : decode cX4_setFacts 7 = .ok (.aload_n 0, 1) := by decide +kernel
theorem dX4_setFacts_8 : decode cX4_setFacts 8 = .ok (.getfield 21, 3) := by decide +kernel
theorem dX4_setFacts_11 : decode cX4_setFacts 11 = .ok (.iconst 1, 1) := by decide +kernel
theorem dX4_setFacts_12 : decode cX4_setFacts 12 = .ok (.iload_n 2, 1) := by decide +kernel
theorem dX4_setFacts_13 : decode cX4_setFacts 13 = .ok (.iastore, 1) := by decide +kernel
theorem dX4_setFacts_14 : decode cX4_setFacts 14 = .ok (.aload_n 0, 1) := by decide +kernel
theorem dX4_setFacts_15 : decode cX4_setFacts 15 = .ok (.getfield 21, 3) := by decide +kernel
theorem dX4_setFacts_18 : decode cX4_setFacts 18 = .ok (.iconst 2, 1) := by decide +kernel
theorem dX4_setFacts_19 : decode cX4_setFacts 19 = .ok (.iload_n 3, 1) := by decide +kernel
theorem dX4_setFacts_20 : decode cX4_setFacts 20 = .ok (.iastore, 1) := by decide +kernel
theorem dX4_setFacts_21 : decode cX4_setFacts 21 = .ok (.aload_n 0, 1) := by decide +kernel
theorem dX4_setFacts_22 : decode cX4_setFacts 22 = .ok (.getfield 21, 3) := by decide +kernel
theorem dX4_setFacts_25 : decode cX4_setFacts 25 = .ok (.iconst 3, 1) := by decide +kernel
theorem dX4_setFacts_26 : decode cX4_setFacts 26 = .ok (.iload 4, 2) := by decide +kernel
theorem dX4_setFacts_28 : decode cX4_setFacts 28 = .ok (.iastore, 1) := by decide +kernel
theorem dX4_setFacts_29 : decode cX4_setFacts 29 = .ok (.aload_n 0, 1) := by decide +kernel
theorem dX4_setFacts_30 : decode cX4_setFacts 30 = .ok (.getfield 21, 3) := by decide +kernel
theorem dX4_setFacts_33 : decode cX4_setFacts 33 = .ok (.iconst 4, 1) := by decide +kernel
theorem dX4_setFacts_34 : decode cX4_setFacts 34 = .ok (.iload 5, 2) := by decide +kernel
theorem dX4_setFacts_36 : decode cX4_setFacts 36 = .ok (.iastore, 1) := by decide +kernel
theorem dX4_setFacts_37 : decode cX4_setFacts 37 = .ok (.return_, 1) := by decide +kernel
theorem dX4_setTimes_0 : decode cX4_setTimes 0 = .ok (.aload_n 0, 1) := by decide +kernel
theorem dX4_setTimes_1 : decode cX4_setTimes 1 = .ok (.getfield 21, 3) := by decide +kernel
theorem dX4_setTimes_4 : decode cX4_setTimes 4 = .ok (.iconst 5, 1) := by decide +kernel
theorem dX4_setTimes_5 : decode cX4_setTimes 5 = .ok (.iload_n 1, 1) := by decide +kernel
theorem dX4_setTimes_6 : decode cX4_setTimes 6 = .ok (.iastore, 1) := by decide +kernel
theorem dX4_setTimes_7 : decode cX4_setTimes 7 = .ok (.aload_n 0, 1) := by decide +kernel
theorem dX4_setTimes_8 : decode cX4_setTimes 8 = .ok (.getfield 21, 3) := by decide +kernel
theorem dX4_setTimes_11 : decode cX4_setTimes 11 = .ok (.bipush 6, 2) := by decide +kernel
theorem dX4_setTimes_13 : decode cX4_setTimes 13 = .ok (.iload_n 2, 1) := by decide +kernel
theorem dX4_setTimes_14 : decode cX4_setTimes 14 = .ok (.iastore, 1) := by decide +kernel
theorem dX4_setTimes_15 : decode cX4_setTimes 15 = .ok (.aload_n 0, 1) := by decide +kernel
theorem dX4_setTimes_16 : decode cX4_setTimes 16 = .ok (.getfield 21, 3) := by decide +kernel
theorem dX4_setTimes_19 : decode cX4_setTimes 19 = .ok (.bipush 7, 2) := by decide +kernel
theorem dX4_setTimes_21 : decode cX4_setTimes 21 = .ok (.iload_n 3, 1) := by decide +kernel
theorem dX4_setTimes_22 : decode cX4_setTimes 22 = .ok (.iastore, 1) := by decide +kernel
theorem dX4_setTimes_23 : decode cX4_setTimes 23 = .ok (.return_, 1) := by decide +kernel
theorem dX4_reach_0 : decode cX4_reach 0 = .ok (.iconst 0, 1) := by decide +kernel
theorem dX4_reach_1 : decode cX4_reach 1 = .ok (.istore_n 1, 1) := by decide +kernel
theorem dX4_reach_2 : decode cX4_reach 2 = .ok (.iconst 0, 1) := by decide +kernel
theorem dX4_reach_3 : decode cX4_reach 3 = .ok (.istore_n 2, 1) := by decide +kernel
theorem dX4_reach_4 : decode cX4_reach 4 = .ok (.iload_n 2, 1) := by decide +kernel
theorem dX4_reach_5 : decode cX4_reach 5 = .ok (.aload_n 0, 1) := by decide +kernel
theorem dX4_reach_6 : decode cX4_reach 6 = .ok (.getfield 27, 3) := by decide +kernel
theorem dX4_reach_9 : decode cX4_reach 9 = .ok (.if_icmp .ge 95, 3) := by decide +kernel
theorem dX4_reach_12 : decode cX4_reach 12 = .ok (.aload_n 0, 1) := by decide +kernel
theorem dX4_reach_13 : decode cX4_reach 13 = .ok (.getfield 9, 3) := by decide +kernel
theorem dX4_reach_16 : decode cX4_reach 16 = .ok (.iload_n 2, 1) := by decide +kernel
theorem dX4_reach_17 : decode cX4_reach 17 = .ok (.iaload, 1) := by decide +kernel
theorem dX4_reach_18 : decode cX4_reach 18 = .ok (.istore_n 3, 1) := by decide +kernel
theorem dX4_reach_19 : decode cX4_reach 19 = .ok (.iload_n 3, 1) := by decide +kernel
theorem dX4_reach_20 : decode cX4_reach 20 = .ok (.ifCond .eq 8, 3) := by decide +kernel
theorem dX4_reach_23 : decode cX4_reach 23 = .ok (.iload_n 3, 1) := by decide +kernel
theorem dX4_reach_24 : decode cX4_reach 24 = .ok (.iconst 1, 1) := by decide +kernel
theorem dX4_reach_25 : decode cX4_reach 25 = .ok (.if_icmp .ne 39, 3) := by decide +kernel
theorem dX4_reach_28 : decode cX4_reach 28 = .ok (.aload_n 0, 1) := by decide +kernel
theorem dX4_reach_29 : decode cX4_reach 29 = .ok (.getfield 18, 3) := by decide +kernel
theorem dX4_reach_32 : decode cX4_reach 32 = .ok (.iload_n 1, 1) := by decide +kernel
theorem dX4_reach_33 : decode cX4_reach 33 = .ok (.iload_n 3, 1) := by decide +kernel
theorem dX4_reach_34 : decode cX4_reach 34 = .ok (.ifCond .ne 12, 3) := by decide +kernel
theorem dX4_reach_37 : decode cX4_reach 37 = .ok (.aload_n 0, 1) := by decide +kernel
theorem dX4_reach_38 : decode cX4_reach 38 = .ok (.getfield 15, 3) := by decide +kernel
theorem dX4_reach_41 : decode cX4_reach 41 = .ok (.iload_n 2, 1) := by decide +kernel
theorem dX4_reach_42 : decode cX4_reach 42 = .ok (.iaload, 1) := by decide +kernel
theorem dX4_reach_43 : decode cX4_reach 43 = .ok (.goto 14, 3) := by decide +kernel
theorem dX4_reach_46 : decode cX4_reach 46 = .ok (.aload_n 0, 1) := by decide +kernel
theorem dX4_reach_47 : decode cX4_reach 47 = .ok (.getfield 21, 3) := by decide +kernel
theorem dX4_reach_50 : decode cX4_reach 50 = .ok (.aload_n 0, 1) := by decide +kernel
theorem dX4_reach_51 : decode cX4_reach 51 = .ok (.getfield 15, 3) := by decide +kernel
theorem dX4_reach_54 : decode cX4_reach 54 = .ok (.iload_n 2, 1) := by decide +kernel
theorem dX4_reach_55 : decode cX4_reach 55 = .ok (.iaload, 1) := by decide +kernel
theorem dX4_reach_56 : decode cX4_reach 56 = .ok (.iaload, 1) := by decide +kernel
theorem dX4_reach_57 : decode cX4_reach 57 = .ok (.iastore, 1) := by decide +kernel
theorem dX4_reach_58 : decode cX4_reach 58 = .ok (.iinc 1 1, 3) := by decide +kernel
theorem dX4_reach_61 : decode cX4_reach 61 = .ok (.goto 37, 3) := by decide +kernel
theorem dX4_reach_64 : decode cX4_reach 64 = .ok (.iload_n 1, 1) := by decide +kernel
theorem dX4_reach_65 : decode cX4_reach 65 = .ok (.iconst 2, 1) := by decide +kernel
theorem dX4_reach_66 : decode cX4_reach 66 = .ok (.if_icmp .lt 32, 3) := by decide +kernel
theorem dX4_reach_69 : decode cX4_reach 69 = .ok (.iinc 1 (-1), 3) := by decide +kernel
theorem dX4_reach_72 : decode cX4_reach 72 = .ok (.aload_n 0, 1) := by decide +kernel
theorem dX4_reach_73 : decode cX4_reach 73 = .ok (.getfield 18, 3) := by decide +kernel
theorem dX4_reach_76 : decode cX4_reach 76 = .ok (.iload_n 1, 1) := by decide +kernel
theorem dX4_reach_77 : decode cX4_reach 77 = .ok (.iconst 1, 1) := by decide +kernel
theorem dX4_reach_78 : decode cX4_reach 78 = .ok (.isub, 1) := by decide +kernel
theorem dX4_reach_79 : decode cX4_reach 79 = .ok (.iload_n 3, 1) := by decide +kernel
theorem dX4_reach_80 : decode cX4_reach 80 = .ok (.aload_n 0, 1) := by decide +kernel
theorem dX4_reach_81 : decode cX4_reach 81 = .ok (.getfield 18, 3) := by decide +kernel
theorem dX4_reach_84 : decode cX4_reach 84 = .ok (.iload_n 1, 1) := by decide +kernel
theorem dX4_reach_85 : decode cX4_reach 85 = .ok (.iconst 1, 1) := by decide +kernel
theorem dX4_reach_86 : decode cX4_reach 86 = .ok (.isub, 1) := by decide +kernel
theorem dX4_reach_87 : decode cX4_reach 87 = .ok (.iaload, 1) := by decide +kernel
theorem dX4_reach_88 : decode cX4_reach 88 = .ok (.aload_n 0, 1) := by decide +kernel
theorem dX4_reach_89 : decode cX4_reach 89 = .ok (.getfield 18, 3) := by decide +kernel
theorem dX4_reach_92 : decode cX4_reach 92 = .ok (.iload_n 1, 1) := by decide +kernel
theorem dX4_reach_93 : decode cX4_reach 93 = .ok (.iaload, 1) := by decide +kernel
theorem dX4_reach_94 : decode cX4_reach 94 = .ok (.invokestatic 111, 3) := by decide +kernel
theorem dX4_reach_97 : decode cX4_reach 97 = .ok (.iastore, 1) := by decide +kernel
theorem dX4_reach_98 : decode cX4_reach 98 = .ok (.iinc 2 1, 3) := by decide +kernel
theorem dX4_reach_101 : decode cX4_reach 101 = .ok (.goto (-97), 3) := by decide +kernel
theorem dX4_reach_104 : decode cX4_reach 104 = .ok (.iload_n 1, 1) := by decide +kernel
theorem dX4_reach_105 : decode cX4_reach 105 = .ok (.ifCond .le 12, 3) := by decide +kernel
theorem dX4_reach_108 : decode cX4_reach 108 = .ok (.aload_n 0, 1) := by decide +kernel
theorem dX4_reach_109 : decode cX4_reach 109 = .ok (.getfield 18, 3) := by decide +kernel
theorem dX4_reach_112 : decode cX4_reach 112 = .ok (.iconst 0, 1) := by decide +kernel
theorem dX4_reach_113 : decode cX4_reach 113 = .ok (.iaload, 1) := by decide +kernel
theorem dX4_reach_114 : decode cX4_reach 114 = .ok (.goto 4, 3) := by decide +kernel
theorem dX4_reach_118 : decode cX4_reach 118 = .ok (.istore_n 2, 1) := by decide +kernel
theorem dX4_reach_119 : decode cX4_reach 119 = .ok (.iconst 0, 1) := by decide +kernel
theorem dX4_reach_120 : decode cX4_reach 120 = .ok (.bipush 60, 2) := by decide +kernel
theorem dX4_reach_122 : decode cX4_reach 122 = .ok (.iload_n 2, 1) := by decide +kernel
theorem dX4_reach_123 : decode cX4_reach 123 = .ok (.invokestatic 115, 3) := by decide +kernel
theorem dX4_reach_126 : decode cX4_reach 126 = .ok (.invokestatic 120, 3) := by decide +kernel
theorem dX4_reach_129 : decode cX4_reach 129 = .ok (.ireturn, 1) := by decide +kernel
theorem dX4_joined_0 : decode cX4_joined 0 = .ok (.iload_n 0, 1) := by decide +kernel
theorem dX4_joined_1 : decode cX4_joined 1 = .ok (.tableswitch 86 2 7 #[39, 43, 47, 51, 63, 75], 39) := by decide +kernel
theorem dX4_joined_40 : decode cX4_joined 40 = .ok (.iload_n 1, 1) := by decide +kernel
theorem dX4_joined_41 : decode cX4_joined 41 = .ok (.iload_n 2, 1) := by decide +kernel
theorem dX4_joined_42 : decode cX4_joined 42 = .ok (.iadd, 1) := by decide +kernel
theorem dX4_joined_43 : decode cX4_joined 43 = .ok (.ireturn, 1) := by decide +kernel
theorem dX4_joined_44 : decode cX4_joined 44 = .ok (.iload_n 1, 1) := by decide +kernel
theorem dX4_joined_45 : decode cX4_joined 45 = .ok (.iload_n 2, 1) := by decide +kernel
theorem dX4_joined_46 : decode cX4_joined 46 = .ok (.isub, 1) := by decide +kernel
theorem dX4_joined_47 : decode cX4_joined 47 = .ok (.ireturn, 1) := by decide +kernel
theorem dX5_init_0 : decode cX5_init 0 = .ok (.aload_n 0, 1) := by decide +kernel
theorem dX5_init_1 : decode cX5_init 1 = .ok (.invokespecial 3, 3) := by decide +kernel
theorem dX5_init_4 : decode cX5_init 4 = .ok (.aload_n 0, 1) := by decide +kernel
theorem dX5_init_5 : decode cX5_init 5 = .ok (.sipush 1088, 3) := by decide +kernel
theorem dX5_init_8 : decode cX5_init 8 = .ok (.newarray .int, 2) := by decide +kernel
theorem dX5_init_10 : decode cX5_init 10 = .ok (.putfield 11, 3) := by decide +kernel
theorem dX5_init_13 : decode cX5_init 13 = .ok (.return_, 1) := by decide +kernel
theorem dX5_push_0 : decode cX5_push 0 = .ok (.aload_n 0, 1) := by decide +kernel
theorem dX5_push_1 : decode cX5_push 1 = .ok (.getfield 17, 3) := by decide +kernel
theorem dX5_push_4 : decode cX5_push 4 = .ok (.bipush 16, 2) := by decide +kernel
theorem dX5_push_6 : decode cX5_push 6 = .ok (.if_icmp .gt 34, 3) := by decide +kernel
theorem dX5_push_9 : decode cX5_push 9 = .ok (.aload_n 1, 1) := by decide +kernel
theorem dX5_push_10 : decode cX5_push 10 = .ok (.getfield 21, 3) := by decide +kernel
theorem dX5_push_13 : decode cX5_push 13 = .ok (.iconst 0, 1) := by decide +kernel
theorem dX5_push_14 : decode cX5_push 14 = .ok (.aload_n 0, 1) := by decide +kernel
theorem dX5_push_15 : decode cX5_push 15 = .ok (.getfield 11, 3) := by decide +kernel
theorem dX5_push_18 : decode cX5_push 18 = .ok (.aload_n 0, 1) := by decide +kernel
theorem dX5_push_19 : decode cX5_push 19 = .ok (.getfield 17, 3) := by decide +kernel
theorem dX5_push_22 : decode cX5_push 22 = .ok (.bipush 64, 2) := by decide +kernel
theorem dX5_push_24 : decode cX5_push 24 = .ok (.imul, 1) := by decide +kernel
theorem dX5_push_25 : decode cX5_push 25 = .ok (.bipush 64, 2) := by decide +kernel
theorem dX5_push_27 : decode cX5_push 27 = .ok (.invokestatic 24, 3) := by decide +kernel
theorem dX5_push_30 : decode cX5_push 30 = .ok (.aload_n 0, 1) := by decide +kernel
theorem dX5_push_31 : decode cX5_push 31 = .ok (.dup, 1) := by decide +kernel
theorem dX5_push_32 : decode cX5_push 32 = .ok (.getfield 17, 3) := by decide +kernel
theorem dX5_push_35 : decode cX5_push 35 = .ok (.iconst 1, 1) := by decide +kernel
theorem dX5_push_36 : decode cX5_push 36 = .ok (.iadd, 1) := by decide +kernel
theorem dX5_push_37 : decode cX5_push 37 = .ok (.putfield 17, 3) := by decide +kernel
theorem dX5_push_40 : decode cX5_push 40 = .ok (.return_, 1) := by decide +kernel
theorem dX5_copyFrom_0 : decode cX5_copyFrom 0 = .ok (.aload_n 1, 1) := by decide +kernel
theorem dX5_copyFrom_1 : decode cX5_copyFrom 1 = .ok (.getfield 11, 3) := by decide +kernel
theorem dX5_copyFrom_4 : decode cX5_copyFrom 4 = .ok (.iconst 0, 1) := by decide +kernel
theorem dX5_copyFrom_5 : decode cX5_copyFrom 5 = .ok (.aload_n 0, 1) := by decide +kernel
theorem dX5_copyFrom_6 : decode cX5_copyFrom 6 = .ok (.getfield 11, 3) := by decide +kernel
theorem dX5_copyFrom_9 : decode cX5_copyFrom 9 = .ok (.iconst 0, 1) := by decide +kernel
theorem dX5_copyFrom_10 : decode cX5_copyFrom 10 = .ok (.aload_n 1, 1) := by decide +kernel
theorem dX5_copyFrom_11 : decode cX5_copyFrom 11 = .ok (.getfield 17, 3) := by decide +kernel
theorem dX5_copyFrom_14 : decode cX5_copyFrom 14 = .ok (.bipush 64, 2) := by decide +kernel
theorem dX5_copyFrom_16 : decode cX5_copyFrom 16 = .ok (.imul, 1) := by decide +kernel
theorem dX5_copyFrom_17 : decode cX5_copyFrom 17 = .ok (.invokestatic 24, 3) := by decide +kernel
theorem dX5_copyFrom_20 : decode cX5_copyFrom 20 = .ok (.aload_n 0, 1) := by decide +kernel
theorem dX5_copyFrom_21 : decode cX5_copyFrom 21 = .ok (.aload_n 1, 1) := by decide +kernel
theorem dX5_copyFrom_22 : decode cX5_copyFrom 22 = .ok (.getfield 17, 3) := by decide +kernel
theorem dX5_copyFrom_25 : decode cX5_copyFrom 25 = .ok (.putfield 17, 3) := by decide +kernel
theorem dX5_copyFrom_28 : decode cX5_copyFrom 28 = .ok (.return_, 1) := by decide +kernel
theorem dX6_init_0 : decode cX6_init 0 = .ok (.aload_n 0, 1) := by decide +kernel
theorem dX6_init_1 : decode cX6_init 1 = .ok (.invokespecial 3, 3) := by decide +kernel
theorem dX6_init_4 : decode cX6_init 4 = .ok (.aload_n 0, 1) := by decide +kernel
theorem dX6_init_5 : decode cX6_init 5 = .ok (.sipush 1024, 3) := by decide +kernel
theorem dX6_init_8 : decode cX6_init 8 = .ok (.newarray .int, 2) := by decide +kernel
theorem dX6_init_10 : decode cX6_init 10 = .ok (.putfield 9, 3) := by decide +kernel
theorem dX6_init_13 : decode cX6_init 13 = .ok (.aload_n 0, 1) := by decide +kernel
theorem dX6_init_14 : decode cX6_init 14 = .ok (.bipush 8, 2) := by decide +kernel
theorem dX6_init_16 : decode cX6_init 16 = .ok (.newarray .int, 2) := by decide +kernel
theorem dX6_init_18 : decode cX6_init 18 = .ok (.putfield 15, 3) := by decide +kernel
theorem dX6_init_21 : decode cX6_init 21 = .ok (.return_, 1) := by decide +kernel
theorem dX6_settle_0 : decode cX6_settle 0 = .ok (.aload_n 0, 1) := by decide +kernel
theorem dX6_settle_1 : decode cX6_settle 1 = .ok (.iconst 0, 1) := by decide +kernel
theorem dX6_settle_2 : decode cX6_settle 2 = .ok (.putfield 18, 3) := by decide +kernel
theorem dX6_settle_5 : decode cX6_settle 5 = .ok (.aload_n 1, 1) := by decide +kernel
theorem dX6_settle_6 : decode cX6_settle 6 = .ok (.getfield 22, 3) := by decide +kernel
theorem dX6_settle_9 : decode cX6_settle 9 = .ok (.ifCond .ne 4, 3) := by decide +kernel
theorem dX6_settle_12 : decode cX6_settle 12 = .ok (.return_, 1) := by decide +kernel
theorem dX7_init_0 : decode cX7_init 0 = .ok (.aload_n 0, 1) := by decide +kernel
theorem dX7_init_1 : decode cX7_init 1 = .ok (.invokespecial 3, 3) := by decide +kernel
theorem dX7_init_4 : decode cX7_init 4 = .ok (.aload_n 0, 1) := by decide +kernel
theorem dX7_init_5 : decode cX7_init 5 = .ok (.sipush 1792, 3) := by decide +kernel
theorem dX7_init_8 : decode cX7_init 8 = .ok (.newarray .int, 2) := by decide +kernel
theorem dX7_init_10 : decode cX7_init 10 = .ok (.putfield 9, 3) := by decide +kernel
theorem dX7_init_13 : decode cX7_init 13 = .ok (.aload_n 0, 1) := by decide +kernel
theorem dX7_init_14 : decode cX7_init 14 = .ok (.bipush 6, 2) := by decide +kernel
theorem dX7_init_16 : decode cX7_init 16 = .ok (.newarray .int, 2) := by decide +kernel
theorem dX7_init_18 : decode cX7_init 18 = .ok (.putfield 15, 3) := by decide +kernel
theorem dX7_init_21 : decode cX7_init 21 = .ok (.aload_n 0, 1) := by decide +kernel
theorem dX7_init_22 : decode cX7_init 22 = .ok (.bipush 6, 2) := by decide +kernel
theorem dX7_init_24 : decode cX7_init 24 = .ok (.newarray .int, 2) := by decide +kernel
theorem dX7_init_26 : decode cX7_init 26 = .ok (.putfield 18, 3) := by decide +kernel
theorem dX7_init_29 : decode cX7_init 29 = .ok (.return_, 1) := by decide +kernel
theorem dX7_settle_0 : decode cX7_settle 0 = .ok (.aload_n 1, 1) := by decide +kernel
theorem dX7_settle_1 : decode cX7_settle 1 = .ok (.getfield 21, 3) := by decide +kernel
theorem dX7_settle_4 : decode cX7_settle 4 = .ok (.getfield 27, 3) := by decide +kernel
theorem dX7_settle_7 : decode cX7_settle 7 = .ok (.istore_n 2, 1) := by decide +kernel
theorem dX7_settle_8 : decode cX7_settle 8 = .ok (.iconst 1, 1) := by decide +kernel
theorem dX7_settle_9 : decode cX7_settle 9 = .ok (.aload_n 1, 1) := by decide +kernel
theorem dX7_settle_10 : decode cX7_settle 10 = .ok (.getfield 21, 3) := by decide +kernel
theorem dX7_settle_13 : decode cX7_settle 13 = .ok (.getfield 33, 3) := by decide +kernel
theorem dX7_settle_16 : decode cX7_settle 16 = .ok (.ishl, 1) := by decide +kernel
theorem dX7_settle_17 : decode cX7_settle 17 = .ok (.istore_n 3, 1) := by decide +kernel
theorem dX7_settle_18 : decode cX7_settle 18 = .ok (.iconst 0, 1) := by decide +kernel
theorem dX7_settle_19 : decode cX7_settle 19 = .ok (.istore 4, 2) := by decide +kernel
theorem dX7_settle_21 : decode cX7_settle 21 = .ok (.iload 4, 2) := by decide +kernel
theorem dX7_settle_23 : decode cX7_settle 23 = .ok (.iload_n 3, 1) := by decide +kernel
theorem dX7_settle_24 : decode cX7_settle 24 = .ok (.if_icmp .ge 22, 3) := by decide +kernel
theorem dX7_settle_27 : decode cX7_settle 27 = .ok (.aload_n 0, 1) := by decide +kernel
theorem dX7_settle_28 : decode cX7_settle 28 = .ok (.getfield 9, 3) := by decide +kernel
theorem dX7_settle_31 : decode cX7_settle 31 = .ok (.iload_n 2, 1) := by decide +kernel
theorem dX7_settle_32 : decode cX7_settle 32 = .ok (.bipush 8, 2) := by decide +kernel
theorem dX7_settle_34 : decode cX7_settle 34 = .ok (.ishl, 1) := by decide +kernel
theorem dX7_settle_35 : decode cX7_settle 35 = .ok (.iload 4, 2) := by decide +kernel
theorem dX7_settle_37 : decode cX7_settle 37 = .ok (.iadd, 1) := by decide +kernel
theorem dX7_settle_38 : decode cX7_settle 38 = .ok (.iconst 0, 1) := by decide +kernel
theorem dX7_settle_39 : decode cX7_settle 39 = .ok (.iastore, 1) := by decide +kernel
theorem dX7_settle_40 : decode cX7_settle 40 = .ok (.iinc 4 1, 3) := by decide +kernel
theorem dX7_settle_43 : decode cX7_settle 43 = .ok (.goto (-22), 3) := by decide +kernel
theorem dX7_settle_46 : decode cX7_settle 46 = .ok (.iload_n 2, 1) := by decide +kernel
theorem dX7_settle_47 : decode cX7_settle 47 = .ok (.iconst 1, 1) := by decide +kernel
theorem dX7_settle_48 : decode cX7_settle 48 = .ok (.isub, 1) := by decide +kernel
theorem dX7_settle_49 : decode cX7_settle 49 = .ok (.istore 4, 2) := by decide +kernel
theorem dX7_settle_51 : decode cX7_settle 51 = .ok (.iload 4, 2) := by decide +kernel
theorem dX7_settle_53 : decode cX7_settle 53 = .ok (.ifCond .lt 59, 3) := by decide +kernel
theorem dX7_settle_112 : decode cX7_settle 112 = .ok (.aload_n 0, 1) := by decide +kernel
theorem dX7_settle_113 : decode cX7_settle 113 = .ok (.aload_n 0, 1) := by decide +kernel
theorem dX7_settle_114 : decode cX7_settle 114 = .ok (.getfield 9, 3) := by decide +kernel
theorem dX7_settle_117 : decode cX7_settle 117 = .ok (.iconst 0, 1) := by decide +kernel
theorem dX7_settle_118 : decode cX7_settle 118 = .ok (.iaload, 1) := by decide +kernel
theorem dX7_settle_119 : decode cX7_settle 119 = .ok (.putfield 44, 3) := by decide +kernel
theorem dX7_settle_122 : decode cX7_settle 122 = .ok (.aload_n 0, 1) := by decide +kernel
theorem dX7_settle_123 : decode cX7_settle 123 = .ok (.iload_n 2, 1) := by decide +kernel
theorem dX7_settle_124 : decode cX7_settle 124 = .ok (.invokevirtual 47, 3) := by decide +kernel
theorem dX7_settle_127 : decode cX7_settle 127 = .ok (.return_, 1) := by decide +kernel
theorem dX7_give_0 : decode cX7_give 0 = .ok (.iconst 0, 1) := by decide +kernel
theorem dX7_give_1 : decode cX7_give 1 = .ok (.istore_n 2, 1) := by decide +kernel
theorem dX7_give_2 : decode cX7_give 2 = .ok (.iconst 0, 1) := by decide +kernel
theorem dX7_give_3 : decode cX7_give 3 = .ok (.istore_n 3, 1) := by decide +kernel
theorem dX7_give_4 : decode cX7_give 4 = .ok (.iload_n 3, 1) := by decide +kernel
theorem dX7_give_5 : decode cX7_give 5 = .ok (.iload_n 1, 1) := by decide +kernel
theorem dX7_give_6 : decode cX7_give 6 = .ok (.if_icmp .ge 42, 3) := by decide +kernel
theorem dX7_give_48 : decode cX7_give 48 = .ok (.return_, 1) := by decide +kernel
theorem dX8_init_0 : decode cX8_init 0 = .ok (.aload_n 0, 1) := by decide +kernel
theorem dX8_init_1 : decode cX8_init 1 = .ok (.invokespecial 3, 3) := by decide +kernel
theorem dX8_init_4 : decode cX8_init 4 = .ok (.aload_n 0, 1) := by decide +kernel
theorem dX8_init_5 : decode cX8_init 5 = .ok (.sipush 600, 3) := by decide +kernel
theorem dX8_init_8 : decode cX8_init 8 = .ok (.newarray .byte, 2) := by decide +kernel
theorem dX8_init_10 : decode cX8_init 10 = .ok (.putfield 11, 3) := by decide +kernel
theorem dX8_init_13 : decode cX8_init 13 = .ok (.aload_n 0, 1) := by decide +kernel
theorem dX8_init_14 : decode cX8_init 14 = .ok (.iconst (-1), 1) := by decide +kernel
theorem dX8_init_15 : decode cX8_init 15 = .ok (.putfield 15, 3) := by decide +kernel
theorem dX8_init_18 : decode cX8_init 18 = .ok (.return_, 1) := by decide +kernel
theorem dX8_hasRoom_0 : decode cX8_hasRoom 0 = .ok (.aload_n 0, 1) := by decide +kernel
theorem dX8_hasRoom_1 : decode cX8_hasRoom 1 = .ok (.getfield 19, 3) := by decide +kernel
theorem dX8_hasRoom_4 : decode cX8_hasRoom 4 = .ok (.bipush 20, 2) := by decide +kernel
theorem dX8_hasRoom_6 : decode cX8_hasRoom 6 = .ok (.iadd, 1) := by decide +kernel
theorem dX8_hasRoom_7 : decode cX8_hasRoom 7 = .ok (.sipush 600, 3) := by decide +kernel
theorem dX8_hasRoom_10 : decode cX8_hasRoom 10 = .ok (.if_icmp .gt 7, 3) := by decide +kernel
theorem dX8_hasRoom_13 : decode cX8_hasRoom 13 = .ok (.iconst 1, 1) := by decide +kernel
theorem dX8_hasRoom_14 : decode cX8_hasRoom 14 = .ok (.goto 4, 3) := by decide +kernel
theorem dX8_hasRoom_18 : decode cX8_hasRoom 18 = .ok (.ireturn, 1) := by decide +kernel
theorem dX8_put_0 : decode cX8_put 0 = .ok (.bipush 24, 2) := by decide +kernel
theorem dX8_put_2 : decode cX8_put 2 = .ok (.istore_n 2, 1) := by decide +kernel
theorem dX8_put_3 : decode cX8_put 3 = .ok (.iload_n 2, 1) := by decide +kernel
theorem dX8_put_4 : decode cX8_put 4 = .ok (.ifCond .lt 42, 3) := by decide +kernel
theorem dX8_put_7 : decode cX8_put 7 = .ok (.aload_n 0, 1) := by decide +kernel
theorem dX8_put_8 : decode cX8_put 8 = .ok (.getfield 19, 3) := by decide +kernel
theorem dX8_put_11 : decode cX8_put 11 = .ok (.sipush 600, 3) := by decide +kernel
theorem dX8_put_14 : decode cX8_put 14 = .ok (.if_icmp .ge 26, 3) := by decide +kernel
theorem dX8_put_17 : decode cX8_put 17 = .ok (.aload_n 0, 1) := by decide +kernel
theorem dX8_put_18 : decode cX8_put 18 = .ok (.getfield 11, 3) := by decide +kernel
theorem dX8_put_21 : decode cX8_put 21 = .ok (.aload_n 0, 1) := by decide +kernel
theorem dX8_put_22 : decode cX8_put 22 = .ok (.getfield 19, 3) := by decide +kernel
theorem dX8_put_25 : decode cX8_put 25 = .ok (.iload_n 1, 1) := by decide +kernel
theorem dX8_put_26 : decode cX8_put 26 = .ok (.iload_n 2, 1) := by decide +kernel
theorem dX8_put_27 : decode cX8_put 27 = .ok (.ishr, 1) := by decide +kernel
theorem dX8_put_28 : decode cX8_put 28 = .ok (.i2b, 1) := by decide +kernel
theorem dX8_put_29 : decode cX8_put 29 = .ok (.bastore, 1) := by decide +kernel
theorem dX8_put_30 : decode cX8_put 30 = .ok (.aload_n 0, 1) := by decide +kernel
theorem dX8_put_31 : decode cX8_put 31 = .ok (.dup, 1) := by decide +kernel
theorem dX8_put_32 : decode cX8_put 32 = .ok (.getfield 19, 3) := by decide +kernel
theorem dX8_put_35 : decode cX8_put 35 = .ok (.iconst 1, 1) := by decide +kernel
theorem dX8_put_36 : decode cX8_put 36 = .ok (.iadd, 1) := by decide +kernel
theorem dX8_put_37 : decode cX8_put 37 = .ok (.putfield 19, 3) := by decide +kernel
theorem dX8_put_40 : decode cX8_put 40 = .ok (.iinc 2 (-8), 3) := by decide +kernel
theorem dX8_put_43 : decode cX8_put 43 = .ok (.goto (-40), 3) := by decide +kernel
theorem dX8_put_46 : decode cX8_put 46 = .ok (.return_, 1) := by decide +kernel
theorem dX8_open_0 : decode cX8_open 0 = .ok (.aload_n 0, 1) := by decide +kernel
theorem dX8_open_1 : decode cX8_open 1 = .ok (.iload_n 1, 1) := by decide +kernel
theorem dX8_open_2 : decode cX8_open 2 = .ok (.sipush 600, 3) := by decide +kernel
theorem dX8_open_5 : decode cX8_open 5 = .ok (.invokestatic 22, 3) := by decide +kernel
theorem dX8_open_8 : decode cX8_open 8 = .ok (.putfield 28, 3) := by decide +kernel
theorem dX8_open_11 : decode cX8_open 11 = .ok (.aload_n 0, 1) := by decide +kernel
theorem dX8_open_12 : decode cX8_open 12 = .ok (.iconst 0, 1) := by decide +kernel
theorem dX8_open_13 : decode cX8_open 13 = .ok (.putfield 31, 3) := by decide +kernel
theorem dX8_open_16 : decode cX8_open 16 = .ok (.aload_n 0, 1) := by decide +kernel
theorem dX8_open_17 : decode cX8_open 17 = .ok (.iconst 0, 1) := by decide +kernel
theorem dX8_open_18 : decode cX8_open 18 = .ok (.putfield 34, 3) := by decide +kernel
theorem dX8_open_21 : decode cX8_open 21 = .ok (.aload_n 0, 1) := by decide +kernel
theorem dX8_open_22 : decode cX8_open 22 = .ok (.iconst 0, 1) := by decide +kernel
theorem dX8_open_23 : decode cX8_open 23 = .ok (.putfield 19, 3) := by decide +kernel
theorem dX8_open_26 : decode cX8_open 26 = .ok (.aload_n 0, 1) := by decide +kernel
theorem dX8_open_27 : decode cX8_open 27 = .ok (.iconst 0, 1) := by decide +kernel
theorem dX8_open_28 : decode cX8_open 28 = .ok (.putfield 37, 3) := by decide +kernel
theorem dX8_open_31 : decode cX8_open 31 = .ok (.aload_n 0, 1) := by decide +kernel
theorem dX8_open_32 : decode cX8_open 32 = .ok (.iconst (-1), 1) := by decide +kernel
theorem dX8_open_33 : decode cX8_open 33 = .ok (.putfield 15, 3) := by decide +kernel
theorem dX8_open_36 : decode cX8_open 36 = .ok (.return_, 1) := by decide +kernel
theorem dX8_isFaulty_0 : decode cX8_isFaulty 0 = .ok (.aload_n 0, 1) := by decide +kernel
theorem dX8_isFaulty_1 : decode cX8_isFaulty 1 = .ok (.getfield 37, 3) := by decide +kernel
theorem dX8_isFaulty_4 : decode cX8_isFaulty 4 = .ok (.ifCond .eq 7, 3) := by decide +kernel
theorem dX8_isFaulty_7 : decode cX8_isFaulty 7 = .ok (.iconst 1, 1) := by decide +kernel
theorem dX8_isFaulty_8 : decode cX8_isFaulty 8 = .ok (.goto 4, 3) := by decide +kernel
theorem dX8_isFaulty_11 : decode cX8_isFaulty 11 = .ok (.iconst 0, 1) := by decide +kernel
theorem dX8_isFaulty_12 : decode cX8_isFaulty 12 = .ok (.ireturn, 1) := by decide +kernel
theorem dX8_blame_0 : decode cX8_blame 0 = .ok (.aload_n 0, 1) := by decide +kernel
theorem dX8_blame_1 : decode cX8_blame 1 = .ok (.getfield 37, 3) := by decide +kernel
theorem dX8_blame_4 : decode cX8_blame 4 = .ok (.ifCond .ne 13, 3) := by decide +kernel
theorem dX8_blame_7 : decode cX8_blame 7 = .ok (.aload_n 0, 1) := by decide +kernel
theorem dX8_blame_8 : decode cX8_blame 8 = .ok (.iload_n 1, 1) := by decide +kernel
theorem dX8_blame_9 : decode cX8_blame 9 = .ok (.putfield 37, 3) := by decide +kernel
theorem dX8_blame_12 : decode cX8_blame 12 = .ok (.aload_n 0, 1) := by decide +kernel
theorem dX8_blame_13 : decode cX8_blame 13 = .ok (.iload_n 2, 1) := by decide +kernel
theorem dX8_blame_14 : decode cX8_blame 14 = .ok (.putfield 15, 3) := by decide +kernel
theorem dX8_blame_17 : decode cX8_blame 17 = .ok (.return_, 1) := by decide +kernel
theorem dX8_blameSign_0 : decode cX8_blameSign 0 = .ok (.aload_n 0, 1) := by decide +kernel
theorem dX8_blameSign_1 : decode cX8_blameSign 1 = .ok (.invokevirtual 40, 3) := by decide +kernel
theorem dX8_blameSign_4 : decode cX8_blameSign 4 = .ok (.aload_n 0, 1) := by decide +kernel
theorem dX8_blameSign_5 : decode cX8_blameSign 5 = .ok (.iconst 1, 1) := by decide +kernel
theorem dX8_blameSign_6 : decode cX8_blameSign 6 = .ok (.aload_n 0, 1) := by decide +kernel
theorem dX8_blameSign_7 : decode cX8_blameSign 7 = .ok (.getfield 31, 3) := by decide +kernel
theorem dX8_blameSign_10 : decode cX8_blameSign 10 = .ok (.invokevirtual 43, 3) := by decide +kernel
theorem dX8_blameSign_13 : decode cX8_blameSign 13 = .ok (.return_, 1) := by decide +kernel
theorem dX8_skipBlanks_0 : decode cX8_skipBlanks 0 = .ok (.aload_n 0, 1) := by decide +kernel
theorem dX8_skipBlanks_1 : decode cX8_skipBlanks 1 = .ok (.getfield 31, 3) := by decide +kernel
theorem dX8_skipBlanks_4 : decode cX8_skipBlanks 4 = .ok (.aload_n 0, 1) := by decide +kernel
theorem dX8_skipBlanks_5 : decode cX8_skipBlanks 5 = .ok (.getfield 28, 3) := by decide +kernel
theorem dX8_skipBlanks_8 : decode cX8_skipBlanks 8 = .ok (.if_icmp .ge 30, 3) := by decide +kernel
theorem dX8_skipBlanks_38 : decode cX8_skipBlanks 38 = .ok (.return_, 1) := by decide +kernel
theorem dX8_isEnded_0 : decode cX8_isEnded 0 = .ok (.aload_n 0, 1) := by decide +kernel
theorem dX8_isEnded_1 : decode cX8_isEnded 1 = .ok (.invokevirtual 40, 3) := by decide +kernel
theorem dX8_isEnded_4 : decode cX8_isEnded 4 = .ok (.aload_n 0, 1) := by decide +kernel
theorem dX8_isEnded_5 : decode cX8_isEnded 5 = .ok (.getfield 31, 3) := by decide +kernel
theorem dX8_isEnded_8 : decode cX8_isEnded 8 = .ok (.aload_n 0, 1) := by decide +kernel
theorem dX8_isEnded_9 : decode cX8_isEnded 9 = .ok (.getfield 28, 3) := by decide +kernel
theorem dX8_isEnded_12 : decode cX8_isEnded 12 = .ok (.if_icmp .lt 7, 3) := by decide +kernel
theorem dX8_isEnded_15 : decode cX8_isEnded 15 = .ok (.iconst 1, 1) := by decide +kernel
theorem dX8_isEnded_16 : decode cX8_isEnded 16 = .ok (.goto 4, 3) := by decide +kernel
theorem dX8_isEnded_20 : decode cX8_isEnded 20 = .ok (.ireturn, 1) := by decide +kernel
theorem dX8_seesDigit_0 : decode cX8_seesDigit 0 = .ok (.aload_n 0, 1) := by decide +kernel
theorem dX8_seesDigit_1 : decode cX8_seesDigit 1 = .ok (.invokevirtual 40, 3) := by decide +kernel
theorem dX8_seesDigit_4 : decode cX8_seesDigit 4 = .ok (.aload_n 0, 1) := by decide +kernel
theorem dX8_seesDigit_5 : decode cX8_seesDigit 5 = .ok (.aload_n 0, 1) := by decide +kernel
theorem dX8_seesDigit_6 : decode cX8_seesDigit 6 = .ok (.getfield 31, 3) := by decide +kernel
theorem dX8_seesDigit_9 : decode cX8_seesDigit 9 = .ok (.invokevirtual 47, 3) := by decide +kernel
theorem dX8_seesDigit_12 : decode cX8_seesDigit 12 = .ok (.ifCond .lt 7, 3) := by decide +kernel
theorem dX8_seesDigit_19 : decode cX8_seesDigit 19 = .ok (.iconst 0, 1) := by decide +kernel
theorem dX8_seesDigit_20 : decode cX8_seesDigit 20 = .ok (.ireturn, 1) := by decide +kernel
theorem dX8_digitAt_0 : decode cX8_digitAt 0 = .ok (.iload_n 1, 1) := by decide +kernel
theorem dX8_digitAt_1 : decode cX8_digitAt 1 = .ok (.aload_n 0, 1) := by decide +kernel
theorem dX8_digitAt_2 : decode cX8_digitAt 2 = .ok (.getfield 28, 3) := by decide +kernel
theorem dX8_digitAt_5 : decode cX8_digitAt 5 = .ok (.if_icmp .ge 25, 3) := by decide +kernel
theorem dX8_digitAt_30 : decode cX8_digitAt 30 = .ok (.iconst (-1), 1) := by decide +kernel
theorem dX8_digitAt_31 : decode cX8_digitAt 31 = .ok (.ireturn, 1) := by decide +kernel
theorem dX8_takes_0 : decode cX8_takes 0 = .ok (.aload_n 0, 1) := by decide +kernel
theorem dX8_takes_1 : decode cX8_takes 1 = .ok (.invokevirtual 40, 3) := by decide +kernel
theorem dX8_takes_4 : decode cX8_takes 4 = .ok (.aload_n 0, 1) := by decide +kernel
theorem dX8_takes_5 : decode cX8_takes 5 = .ok (.invokevirtual 51, 3) := by decide +kernel
theorem dX8_takes_8 : decode cX8_takes 8 = .ok (.ifCond .ne 27, 3) := by decide +kernel
theorem dX8_takes_11 : decode cX8_takes 11 = .ok (.aload_n 0, 1) := by decide +kernel
theorem dX8_takes_12 : decode cX8_takes 12 = .ok (.getfield 31, 3) := by decide +kernel
theorem dX8_takes_15 : decode cX8_takes 15 = .ok (.aload_n 0, 1) := by decide +kernel
theorem dX8_takes_16 : decode cX8_takes 16 = .ok (.getfield 28, 3) := by decide +kernel
theorem dX8_takes_19 : decode cX8_takes 19 = .ok (.if_icmp .ge 16, 3) := by decide +kernel
theorem dX8_takes_35 : decode cX8_takes 35 = .ok (.iconst 0, 1) := by decide +kernel
theorem dX8_takes_36 : decode cX8_takes 36 = .ok (.ireturn, 1) := by decide +kernel
theorem dX8_needsEnd_0 : decode cX8_needsEnd 0 = .ok (.aload_n 0, 1) := by decide +kernel
theorem dX8_needsEnd_1 : decode cX8_needsEnd 1 = .ok (.invokevirtual 62, 3) := by decide +kernel
theorem dX8_needsEnd_4 : decode cX8_needsEnd 4 = .ok (.ifCond .ne 7, 3) := by decide +kernel
theorem dX8_needsEnd_11 : decode cX8_needsEnd 11 = .ok (.return_, 1) := by decide +kernel
theorem dX8_takesWord_0 : decode cX8_takesWord 0 = .ok (.aload_n 0, 1) := by decide +kernel
theorem dX8_takesWord_1 : decode cX8_takesWord 1 = .ok (.invokevirtual 40, 3) := by decide +kernel
theorem dX8_takesWord_4 : decode cX8_takesWord 4 = .ok (.aload_n 0, 1) := by decide +kernel
theorem dX8_takesWord_5 : decode cX8_takesWord 5 = .ok (.getfield 31, 3) := by decide +kernel
theorem dX8_takesWord_8 : decode cX8_takesWord 8 = .ok (.aload_n 1, 1) := by decide +kernel
theorem dX8_takesWord_9 : decode cX8_takesWord 9 = .ok (.invokevirtual 65, 3) := by decide +kernel
theorem dX8_takesWord_12 : decode cX8_takesWord 12 = .ok (.iadd, 1) := by decide +kernel
theorem dX8_takesWord_13 : decode cX8_takesWord 13 = .ok (.istore_n 2, 1) := by decide +kernel
theorem dX8_takesWord_14 : decode cX8_takesWord 14 = .ok (.aload_n 0, 1) := by decide +kernel
theorem dX8_takesWord_15 : decode cX8_takesWord 15 = .ok (.invokevirtual 51, 3) := by decide +kernel
theorem dX8_takesWord_18 : decode cX8_takesWord 18 = .ok (.ifCond .ne 19, 3) := by decide +kernel
theorem dX8_takesWord_21 : decode cX8_takesWord 21 = .ok (.iload_n 2, 1) := by decide +kernel
theorem dX8_takesWord_22 : decode cX8_takesWord 22 = .ok (.aload_n 0, 1) := by decide +kernel
theorem dX8_takesWord_23 : decode cX8_takesWord 23 = .ok (.getfield 28, 3) := by decide +kernel
theorem dX8_takesWord_26 : decode cX8_takesWord 26 = .ok (.if_icmp .gt 11, 3) := by decide +kernel
theorem dX8_takesWord_37 : decode cX8_takesWord 37 = .ok (.iconst 0, 1) := by decide +kernel
theorem dX8_takesWord_38 : decode cX8_takesWord 38 = .ok (.ireturn, 1) := by decide +kernel
theorem dX9_init_0 : decode cX9_init 0 = .ok (.aload_n 0, 1) := by decide +kernel
theorem dX9_init_1 : decode cX9_init 1 = .ok (.invokespecial 3, 3) := by decide +kernel
theorem dX9_init_4 : decode cX9_init 4 = .ok (.aload_n 0, 1) := by decide +kernel
theorem dX9_init_5 : decode cX9_init 5 = .ok (.bipush 50, 2) := by decide +kernel
theorem dX9_init_7 : decode cX9_init 7 = .ok (.newarray .int, 2) := by decide +kernel
theorem dX9_init_9 : decode cX9_init 9 = .ok (.putfield 11, 3) := by decide +kernel
theorem dX9_init_12 : decode cX9_init 12 = .ok (.aload_n 0, 1) := by decide +kernel
theorem dX9_init_13 : decode cX9_init 13 = .ok (.bipush 50, 2) := by decide +kernel
theorem dX9_init_15 : decode cX9_init 15 = .ok (.newarray .int, 2) := by decide +kernel
theorem dX9_init_17 : decode cX9_init 17 = .ok (.putfield 15, 3) := by decide +kernel
theorem dX9_init_20 : decode cX9_init 20 = .ok (.aload_n 0, 1) := by decide +kernel
theorem dX9_init_21 : decode cX9_init 21 = .ok (.bipush 50, 2) := by decide +kernel
theorem dX9_init_23 : decode cX9_init 23 = .ok (.newarray .int, 2) := by decide +kernel
theorem dX9_init_25 : decode cX9_init 25 = .ok (.putfield 18, 3) := by decide +kernel
theorem dX9_init_28 : decode cX9_init 28 = .ok (.aload_n 0, 1) := by decide +kernel
theorem dX9_init_29 : decode cX9_init 29 = .ok (.bipush 50, 2) := by decide +kernel
theorem dX9_init_31 : decode cX9_init 31 = .ok (.newarray .int, 2) := by decide +kernel
theorem dX9_init_33 : decode cX9_init 33 = .ok (.putfield 21, 3) := by decide +kernel
theorem dX9_init_36 : decode cX9_init 36 = .ok (.aload_n 0, 1) := by decide +kernel
theorem dX9_init_37 : decode cX9_init 37 = .ok (.bipush 6, 2) := by decide +kernel
theorem dX9_init_39 : decode cX9_init 39 = .ok (.newarray .int, 2) := by decide +kernel
theorem dX9_init_41 : decode cX9_init 41 = .ok (.putfield 24, 3) := by decide +kernel
theorem dX9_init_44 : decode cX9_init 44 = .ok (.aload_n 0, 1) := by decide +kernel
theorem dX9_init_45 : decode cX9_init 45 = .ok (.bipush 6, 2) := by decide +kernel
theorem dX9_init_47 : decode cX9_init 47 = .ok (.newarray .int, 2) := by decide +kernel
theorem dX9_init_49 : decode cX9_init 49 = .ok (.putfield 27, 3) := by decide +kernel
theorem dX9_init_52 : decode cX9_init 52 = .ok (.return_, 1) := by decide +kernel
theorem dX9_readFrom_0 : decode cX9_readFrom 0 = .ok (.aload_n 0, 1) := by decide +kernel
theorem dX9_readFrom_1 : decode cX9_readFrom 1 = .ok (.iload_n 2, 1) := by decide +kernel
theorem dX9_readFrom_2 : decode cX9_readFrom 2 = .ok (.putfield 30, 3) := by decide +kernel
theorem dX9_readFrom_5 : decode cX9_readFrom 5 = .ok (.aload_n 0, 1) := by decide +kernel
theorem dX9_readFrom_6 : decode cX9_readFrom 6 = .ok (.iload_n 3, 1) := by decide +kernel
theorem dX9_readFrom_7 : decode cX9_readFrom 7 = .ok (.putfield 34, 3) := by decide +kernel
theorem dX9_readFrom_10 : decode cX9_readFrom 10 = .ok (.aload_n 0, 1) := by decide +kernel
theorem dX9_readFrom_11 : decode cX9_readFrom 11 = .ok (.iconst 0, 1) := by decide +kernel
theorem dX9_readFrom_12 : decode cX9_readFrom 12 = .ok (.putfield 37, 3) := by decide +kernel
theorem dX9_readFrom_15 : decode cX9_readFrom 15 = .ok (.aload_n 0, 1) := by decide +kernel
theorem dX9_readFrom_16 : decode cX9_readFrom 16 = .ok (.iconst 0, 1) := by decide +kernel
theorem dX9_readFrom_17 : decode cX9_readFrom 17 = .ok (.putfield 40, 3) := by decide +kernel
theorem dX9_readFrom_20 : decode cX9_readFrom 20 = .ok (.iconst 0, 1) := by decide +kernel
theorem dX9_readFrom_21 : decode cX9_readFrom 21 = .ok (.istore 4, 2) := by decide +kernel
theorem dX9_readFrom_23 : decode cX9_readFrom 23 = .ok (.iload 4, 2) := by decide +kernel
theorem dX9_readFrom_25 : decode cX9_readFrom 25 = .ok (.sipush 150, 3) := by decide +kernel
theorem dX9_readFrom_28 : decode cX9_readFrom 28 = .ok (.if_icmp .gt 65, 3) := by decide +kernel
theorem dX9_readFrom_31 : decode cX9_readFrom 31 = .ok (.aload_n 1, 1) := by decide +kernel
theorem dX9_readFrom_32 : decode cX9_readFrom 32 = .ok (.invokevirtual 43, 3) := by decide +kernel
theorem dX9_readFrom_35 : decode cX9_readFrom 35 = .ok (.ifCond .ne 58, 3) := by decide +kernel
theorem dX9_readFrom_38 : decode cX9_readFrom 38 = .ok (.aload_n 0, 1) := by decide +kernel
theorem dX9_readFrom_39 : decode cX9_readFrom 39 = .ok (.getfield 40, 3) := by decide +kernel
theorem dX9_readFrom_42 : decode cX9_readFrom 42 = .ok (.ifCond .ne 11, 3) := by decide +kernel
theorem dX9_readFrom_45 : decode cX9_readFrom 45 = .ok (.aload_n 1, 1) := by decide +kernel
theorem dX9_readFrom_46 : decode cX9_readFrom 46 = .ok (.invokevirtual 49, 3) := by decide +kernel
theorem dX9_readFrom_49 : decode cX9_readFrom 49 = .ok (.ifCond .eq 4, 3) := by decide +kernel
theorem dX9_readFrom_52 : decode cX9_readFrom 52 = .ok (.return_, 1) := by decide +kernel
theorem dX9_runOn_0 : decode cX9_runOn 0 = .ok (.aload_n 0, 1) := by decide +kernel
theorem dX9_runOn_1 : decode cX9_runOn 1 = .ok (.iconst 0, 1) := by decide +kernel
theorem dX9_runOn_2 : decode cX9_runOn 2 = .ok (.putfield 99, 3) := by decide +kernel
theorem dX9_runOn_5 : decode cX9_runOn 5 = .ok (.aload_n 0, 1) := by decide +kernel
theorem dX9_runOn_6 : decode cX9_runOn 6 = .ok (.iconst 0, 1) := by decide +kernel
theorem dX9_runOn_7 : decode cX9_runOn 7 = .ok (.putfield 102, 3) := by decide +kernel
theorem dX9_runOn_10 : decode cX9_runOn 10 = .ok (.aload_n 0, 1) := by decide +kernel
theorem dX9_runOn_11 : decode cX9_runOn 11 = .ok (.iconst 0, 1) := by decide +kernel
theorem dX9_runOn_12 : decode cX9_runOn 12 = .ok (.putfield 40, 3) := by decide +kernel
theorem dX9_runOn_15 : decode cX9_runOn 15 = .ok (.iconst 0, 1) := by decide +kernel
theorem dX9_runOn_16 : decode cX9_runOn 16 = .ok (.istore_n 2, 1) := by decide +kernel
theorem dX9_runOn_17 : decode cX9_runOn 17 = .ok (.iconst 0, 1) := by decide +kernel
theorem dX9_runOn_18 : decode cX9_runOn 18 = .ok (.istore_n 3, 1) := by decide +kernel
theorem dX9_runOn_19 : decode cX9_runOn 19 = .ok (.iconst 0, 1) := by decide +kernel
theorem dX9_runOn_20 : decode cX9_runOn 20 = .ok (.istore 4, 2) := by decide +kernel
theorem dX9_runOn_22 : decode cX9_runOn 22 = .ok (.iload 4, 2) := by decide +kernel
theorem dX9_runOn_24 : decode cX9_runOn 24 = .ok (.sipush 20000, 3) := by decide +kernel
theorem dX9_runOn_27 : decode cX9_runOn 27 = .ok (.if_icmp .ge 106, 3) := by decide +kernel
theorem dX9_runOn_30 : decode cX9_runOn 30 = .ok (.iload_n 2, 1) := by decide +kernel
theorem dX9_runOn_31 : decode cX9_runOn 31 = .ok (.sipush 200, 3) := by decide +kernel
theorem dX9_runOn_34 : decode cX9_runOn 34 = .ok (.if_icmp .ge 99, 3) := by decide +kernel
theorem dX9_runOn_37 : decode cX9_runOn 37 = .ok (.iload_n 3, 1) := by decide +kernel
theorem dX9_runOn_38 : decode cX9_runOn 38 = .ok (.aload_n 0, 1) := by decide +kernel
theorem dX9_runOn_39 : decode cX9_runOn 39 = .ok (.getfield 37, 3) := by decide +kernel
theorem dX9_runOn_42 : decode cX9_runOn 42 = .ok (.if_icmp .ge 91, 3) := by decide +kernel
theorem dX9_runOn_133 : decode cX9_runOn 133 = .ok (.return_, 1) := by decide +kernel
theorem dX10_init_0 : decode cX10_init 0 = .ok (.aload_n 0, 1) := by decide +kernel
theorem dX10_init_1 : decode cX10_init 1 = .ok (.invokespecial 1, 3) := by decide +kernel
theorem dX10_init_4 : decode cX10_init 4 = .ok (.aload_n 0, 1) := by decide +kernel
theorem dX10_init_5 : decode cX10_init 5 = .ok (.new 7, 3) := by decide +kernel
theorem dX10_init_8 : decode cX10_init 8 = .ok (.dup, 1) := by decide +kernel
theorem dX10_init_9 : decode cX10_init 9 = .ok (.invokespecial 9, 3) := by decide +kernel
theorem dX10_init_12 : decode cX10_init 12 = .ok (.putfield 10, 3) := by decide +kernel
theorem dX10_init_15 : decode cX10_init 15 = .ok (.aload_n 0, 1) := by decide +kernel
theorem dX10_init_16 : decode cX10_init 16 = .ok (.new 16, 3) := by decide +kernel
theorem dX10_init_19 : decode cX10_init 19 = .ok (.dup, 1) := by decide +kernel
theorem dX10_init_20 : decode cX10_init 20 = .ok (.invokespecial 18, 3) := by decide +kernel
theorem dX10_init_23 : decode cX10_init 23 = .ok (.putfield 19, 3) := by decide +kernel
theorem dX10_init_26 : decode cX10_init 26 = .ok (.aload_n 0, 1) := by decide +kernel
theorem dX10_init_27 : decode cX10_init 27 = .ok (.new 16, 3) := by decide +kernel
theorem dX10_init_30 : decode cX10_init 30 = .ok (.dup, 1) := by decide +kernel
theorem dX10_init_31 : decode cX10_init 31 = .ok (.invokespecial 18, 3) := by decide +kernel
theorem dX10_init_34 : decode cX10_init 34 = .ok (.putfield 23, 3) := by decide +kernel
theorem dX10_init_37 : decode cX10_init 37 = .ok (.aload_n 0, 1) := by decide +kernel
theorem dX10_init_38 : decode cX10_init 38 = .ok (.new 26, 3) := by decide +kernel
theorem dX10_init_41 : decode cX10_init 41 = .ok (.dup, 1) := by decide +kernel
theorem dX10_init_42 : decode cX10_init 42 = .ok (.invokespecial 28, 3) := by decide +kernel
theorem dX10_init_45 : decode cX10_init 45 = .ok (.putfield 29, 3) := by decide +kernel
theorem dX10_init_48 : decode cX10_init 48 = .ok (.aload_n 0, 1) := by decide +kernel
theorem dX10_init_49 : decode cX10_init 49 = .ok (.new 26, 3) := by decide +kernel
theorem dX10_init_52 : decode cX10_init 52 = .ok (.dup, 1) := by decide +kernel
theorem dX10_init_53 : decode cX10_init 53 = .ok (.invokespecial 28, 3) := by decide +kernel
theorem dX10_init_56 : decode cX10_init 56 = .ok (.putfield 33, 3) := by decide +kernel
theorem dX10_init_59 : decode cX10_init 59 = .ok (.aload_n 0, 1) := by decide +kernel
theorem dX10_init_60 : decode cX10_init 60 = .ok (.new 36, 3) := by decide +kernel
theorem dX10_init_63 : decode cX10_init 63 = .ok (.dup, 1) := by decide +kernel
theorem dX10_init_64 : decode cX10_init 64 = .ok (.invokespecial 38, 3) := by decide +kernel
theorem dX10_init_67 : decode cX10_init 67 = .ok (.putfield 39, 3) := by decide +kernel
theorem dX10_init_70 : decode cX10_init 70 = .ok (.aload_n 0, 1) := by decide +kernel
theorem dX10_init_71 : decode cX10_init 71 = .ok (.new 36, 3) := by decide +kernel
theorem dX10_init_74 : decode cX10_init 74 = .ok (.dup, 1) := by decide +kernel
theorem dX10_init_75 : decode cX10_init 75 = .ok (.invokespecial 38, 3) := by decide +kernel
theorem dX10_init_78 : decode cX10_init 78 = .ok (.putfield 43, 3) := by decide +kernel
theorem dX10_init_81 : decode cX10_init 81 = .ok (.aload_n 0, 1) := by decide +kernel
theorem dX10_init_82 : decode cX10_init 82 = .ok (.new 46, 3) := by decide +kernel
theorem dX10_init_85 : decode cX10_init 85 = .ok (.dup, 1) := by decide +kernel
theorem dX10_init_86 : decode cX10_init 86 = .ok (.invokespecial 48, 3) := by decide +kernel
theorem dX10_init_89 : decode cX10_init 89 = .ok (.putfield 49, 3) := by decide +kernel
theorem dX10_init_92 : decode cX10_init 92 = .ok (.aload_n 0, 1) := by decide +kernel
theorem dX10_init_93 : decode cX10_init 93 = .ok (.new 53, 3) := by decide +kernel
theorem dX10_init_96 : decode cX10_init 96 = .ok (.dup, 1) := by decide +kernel
theorem dX10_init_97 : decode cX10_init 97 = .ok (.aload_n 0, 1) := by decide +kernel
theorem dX10_init_98 : decode cX10_init 98 = .ok (.getfield 19, 3) := by decide +kernel
theorem dX10_init_101 : decode cX10_init 101 = .ok (.aload_n 0, 1) := by decide +kernel
theorem dX10_init_102 : decode cX10_init 102 = .ok (.getfield 29, 3) := by decide +kernel
theorem dX10_init_105 : decode cX10_init 105 = .ok (.invokespecial 55, 3) := by decide +kernel
theorem dX10_init_108 : decode cX10_init 108 = .ok (.putfield 58, 3) := by decide +kernel
theorem dX10_init_111 : decode cX10_init 111 = .ok (.aload_n 0, 1) := by decide +kernel
theorem dX10_init_112 : decode cX10_init 112 = .ok (.new 53, 3) := by decide +kernel
theorem dX10_init_115 : decode cX10_init 115 = .ok (.dup, 1) := by decide +kernel
theorem dX10_init_116 : decode cX10_init 116 = .ok (.aload_n 0, 1) := by decide +kernel
theorem dX10_init_117 : decode cX10_init 117 = .ok (.getfield 19, 3) := by decide +kernel
theorem dX10_init_120 : decode cX10_init 120 = .ok (.aload_n 0, 1) := by decide +kernel
theorem dX10_init_121 : decode cX10_init 121 = .ok (.getfield 29, 3) := by decide +kernel
theorem dX10_init_124 : decode cX10_init 124 = .ok (.invokespecial 55, 3) := by decide +kernel
theorem dX10_init_127 : decode cX10_init 127 = .ok (.putfield 62, 3) := by decide +kernel
theorem dX10_init_130 : decode cX10_init 130 = .ok (.aload_n 0, 1) := by decide +kernel
theorem dX10_init_131 : decode cX10_init 131 = .ok (.new 65, 3) := by decide +kernel
theorem dX10_init_134 : decode cX10_init 134 = .ok (.dup, 1) := by decide +kernel
theorem dX10_init_135 : decode cX10_init 135 = .ok (.invokespecial 67, 3) := by decide +kernel
theorem dX10_init_138 : decode cX10_init 138 = .ok (.putfield 68, 3) := by decide +kernel
theorem dX10_init_141 : decode cX10_init 141 = .ok (.aload_n 0, 1) := by decide +kernel
theorem dX10_init_142 : decode cX10_init 142 = .ok (.iconst 3, 1) := by decide +kernel
theorem dX10_init_143 : decode cX10_init 143 = .ok (.anewarray 65, 3) := by decide +kernel
theorem dX10_init_146 : decode cX10_init 146 = .ok (.putfield 72, 3) := by decide +kernel
theorem dX10_init_149 : decode cX10_init 149 = .ok (.iconst 0, 1) := by decide +kernel
theorem dX10_init_150 : decode cX10_init 150 = .ok (.istore_n 1, 1) := by decide +kernel
theorem dX10_init_151 : decode cX10_init 151 = .ok (.iload_n 1, 1) := by decide +kernel
theorem dX10_init_152 : decode cX10_init 152 = .ok (.iconst 3, 1) := by decide +kernel
theorem dX10_init_153 : decode cX10_init 153 = .ok (.if_icmp .ge 22, 3) := by decide +kernel
theorem dX10_init_156 : decode cX10_init 156 = .ok (.aload_n 0, 1) := by decide +kernel
theorem dX10_init_157 : decode cX10_init 157 = .ok (.getfield 72, 3) := by decide +kernel
theorem dX10_init_160 : decode cX10_init 160 = .ok (.iload_n 1, 1) := by decide +kernel
theorem dX10_init_161 : decode cX10_init 161 = .ok (.new 65, 3) := by decide +kernel
theorem dX10_init_164 : decode cX10_init 164 = .ok (.dup, 1) := by decide +kernel
theorem dX10_init_165 : decode cX10_init 165 = .ok (.invokespecial 67, 3) := by decide +kernel
theorem dX10_init_168 : decode cX10_init 168 = .ok (.aastore, 1) := by decide +kernel
theorem dX10_init_169 : decode cX10_init 169 = .ok (.iinc 1 1, 3) := by decide +kernel
theorem dX10_init_172 : decode cX10_init 172 = .ok (.goto (-21), 3) := by decide +kernel
theorem dX10_init_175 : decode cX10_init 175 = .ok (.aload_n 0, 1) := by decide +kernel
theorem dX10_init_176 : decode cX10_init 176 = .ok (.new 76, 3) := by decide +kernel
theorem dX10_init_179 : decode cX10_init 179 = .ok (.dup, 1) := by decide +kernel
theorem dX10_init_180 : decode cX10_init 180 = .ok (.invokespecial 78, 3) := by decide +kernel
theorem dX10_init_183 : decode cX10_init 183 = .ok (.putfield 79, 3) := by decide +kernel
theorem dX10_init_186 : decode cX10_init 186 = .ok (.aload_n 0, 1) := by decide +kernel
theorem dX10_init_187 : decode cX10_init 187 = .ok (.new 83, 3) := by decide +kernel
theorem dX10_init_190 : decode cX10_init 190 = .ok (.dup, 1) := by decide +kernel
theorem dX10_init_191 : decode cX10_init 191 = .ok (.invokespecial 85, 3) := by decide +kernel
theorem dX10_init_194 : decode cX10_init 194 = .ok (.putfield 86, 3) := by decide +kernel
theorem dX10_init_197 : decode cX10_init 197 = .ok (.aload_n 0, 1) := by decide +kernel
theorem dX10_init_198 : decode cX10_init 198 = .ok (.new 90, 3) := by decide +kernel
theorem dX10_init_201 : decode cX10_init 201 = .ok (.dup, 1) := by decide +kernel
theorem dX10_init_202 : decode cX10_init 202 = .ok (.invokespecial 92, 3) := by decide +kernel
theorem dX10_init_205 : decode cX10_init 205 = .ok (.putfield 93, 3) := by decide +kernel
theorem dX10_init_208 : decode cX10_init 208 = .ok (.return_, 1) := by decide +kernel
theorem dX10_feed_0 : decode cX10_feed 0 = .ok (.aload_n 0, 1) := by decide +kernel
theorem dX10_feed_1 : decode cX10_feed 1 = .ok (.getfield 10, 3) := by decide +kernel
theorem dX10_feed_4 : decode cX10_feed 4 = .ok (.invokevirtual 97, 3) := by decide +kernel
theorem dX10_feed_7 : decode cX10_feed 7 = .ok (.ifCond .ne 5, 3) := by decide +kernel
theorem dX10_feed_12 : decode cX10_feed 12 = .ok (.aload_n 0, 1) := by decide +kernel
theorem dX10_feed_13 : decode cX10_feed 13 = .ok (.getfield 10, 3) := by decide +kernel
theorem dX10_feed_16 : decode cX10_feed 16 = .ok (.iload_n 1, 1) := by decide +kernel
theorem dX10_feed_17 : decode cX10_feed 17 = .ok (.invokevirtual 101, 3) := by decide +kernel
theorem dX10_feed_20 : decode cX10_feed 20 = .ok (.aload_n 0, 1) := by decide +kernel
theorem dX10_feed_21 : decode cX10_feed 21 = .ok (.getfield 10, 3) := by decide +kernel
theorem dX10_feed_24 : decode cX10_feed 24 = .ok (.iload_n 2, 1) := by decide +kernel
theorem dX10_feed_25 : decode cX10_feed 25 = .ok (.invokevirtual 101, 3) := by decide +kernel
theorem dX10_feed_28 : decode cX10_feed 28 = .ok (.aload_n 0, 1) := by decide +kernel
theorem dX10_feed_29 : decode cX10_feed 29 = .ok (.getfield 10, 3) := by decide +kernel
theorem dX10_feed_32 : decode cX10_feed 32 = .ok (.iload_n 3, 1) := by decide +kernel
theorem dX10_feed_33 : decode cX10_feed 33 = .ok (.invokevirtual 101, 3) := by decide +kernel
theorem dX10_feed_36 : decode cX10_feed 36 = .ok (.aload_n 0, 1) := by decide +kernel
theorem dX10_feed_37 : decode cX10_feed 37 = .ok (.getfield 10, 3) := by decide +kernel
theorem dX10_feed_40 : decode cX10_feed 40 = .ok (.iload 4, 2) := by decide +kernel
theorem dX10_feed_42 : decode cX10_feed 42 = .ok (.invokevirtual 101, 3) := by decide +kernel
theorem dX10_feed_45 : decode cX10_feed 45 = .ok (.aload_n 0, 1) := by decide +kernel
theorem dX10_feed_46 : decode cX10_feed 46 = .ok (.getfield 10, 3) := by decide +kernel
theorem dX10_feed_49 : decode cX10_feed 49 = .ok (.iload 5, 2) := by decide +kernel
theorem dX10_feed_51 : decode cX10_feed 51 = .ok (.invokevirtual 101, 3) := by decide +kernel
theorem dX10_feed_54 : decode cX10_feed 54 = .ok (.aload_n 0, 1) := by decide +kernel
theorem dX10_feed_55 : decode cX10_feed 55 = .ok (.getfield 10, 3) := by decide +kernel
theorem dX10_feed_58 : decode cX10_feed 58 = .ok (.getfield 105, 3) := by decide +kernel
theorem dX10_feed_61 : decode cX10_feed 61 = .ok (.ireturn, 1) := by decide +kernel
theorem dX10_down_0 : decode cX10_down 0 = .ok (.aload_n 0, 1) := by decide +kernel
theorem dX10_down_1 : decode cX10_down 1 = .ok (.iload_n 1, 1) := by decide +kernel
theorem dX10_down_2 : decode cX10_down 2 = .ok (.sipush 600, 3) := by decide +kernel
theorem dX10_down_5 : decode cX10_down 5 = .ok (.invokevirtual 109, 3) := by decide +kernel
theorem dX10_down_8 : decode cX10_down 8 = .ok (.aload_n 0, 1) := by decide +kernel
theorem dX10_down_9 : decode cX10_down 9 = .ok (.getfield 23, 3) := by decide +kernel
theorem dX10_down_12 : decode cX10_down 12 = .ok (.aload_n 0, 1) := by decide +kernel
theorem dX10_down_13 : decode cX10_down 13 = .ok (.getfield 10, 3) := by decide +kernel
theorem dX10_down_16 : decode cX10_down 16 = .ok (.invokevirtual 113, 3) := by decide +kernel
theorem dX10_down_19 : decode cX10_down 19 = .ok (.aload_n 0, 1) := by decide +kernel
theorem dX10_down_20 : decode cX10_down 20 = .ok (.getfield 10, 3) := by decide +kernel
theorem dX10_down_23 : decode cX10_down 23 = .ok (.invokevirtual 117, 3) := by decide +kernel
theorem dX10_down_26 : decode cX10_down 26 = .ok (.ifCond .eq 14, 3) := by decide +kernel
theorem dX10_down_40 : decode cX10_down 40 = .ok (.aload_n 0, 1) := by decide +kernel
theorem dX10_down_41 : decode cX10_down 41 = .ok (.getfield 19, 3) := by decide +kernel
theorem dX10_down_44 : decode cX10_down 44 = .ok (.astore_n 2, 1) := by decide +kernel
theorem dX10_down_45 : decode cX10_down 45 = .ok (.aload_n 0, 1) := by decide +kernel
theorem dX10_down_46 : decode cX10_down 46 = .ok (.aload_n 0, 1) := by decide +kernel
theorem dX10_down_47 : decode cX10_down 47 = .ok (.getfield 23, 3) := by decide +kernel
theorem dX10_down_50 : decode cX10_down 50 = .ok (.putfield 19, 3) := by decide +kernel
theorem dX10_down_53 : decode cX10_down 53 = .ok (.aload_n 0, 1) := by decide +kernel
theorem dX10_down_54 : decode cX10_down 54 = .ok (.aload_n 2, 1) := by decide +kernel
theorem dX10_down_55 : decode cX10_down 55 = .ok (.putfield 23, 3) := by decide +kernel
theorem dX10_down_58 : decode cX10_down 58 = .ok (.aload_n 0, 1) := by decide +kernel
theorem dX10_down_59 : decode cX10_down 59 = .ok (.getfield 29, 3) := by decide +kernel
theorem dX10_down_62 : decode cX10_down 62 = .ok (.invokevirtual 123, 3) := by decide +kernel
theorem dX10_down_65 : decode cX10_down 65 = .ok (.aload_n 0, 1) := by decide +kernel
theorem dX10_down_66 : decode cX10_down 66 = .ok (.getfield 39, 3) := by decide +kernel
theorem dX10_down_69 : decode cX10_down 69 = .ok (.invokevirtual 126, 3) := by decide +kernel
theorem dX10_down_72 : decode cX10_down 72 = .ok (.aload_n 0, 1) := by decide +kernel
theorem dX10_down_73 : decode cX10_down 73 = .ok (.getfield 58, 3) := by decide +kernel
theorem dX10_down_76 : decode cX10_down 76 = .ok (.aload_n 0, 1) := by decide +kernel
theorem dX10_down_77 : decode cX10_down 77 = .ok (.getfield 19, 3) := by decide +kernel
theorem dX10_down_80 : decode cX10_down 80 = .ok (.aload_n 0, 1) := by decide +kernel
theorem dX10_down_81 : decode cX10_down 81 = .ok (.getfield 29, 3) := by decide +kernel
theorem dX10_down_84 : decode cX10_down 84 = .ok (.invokevirtual 129, 3) := by decide +kernel
theorem dX10_down_87 : decode cX10_down 87 = .ok (.aload_n 0, 1) := by decide +kernel
theorem dX10_down_88 : decode cX10_down 88 = .ok (.getfield 68, 3) := by decide +kernel
theorem dX10_down_91 : decode cX10_down 91 = .ok (.iconst 0, 1) := by decide +kernel
theorem dX10_down_92 : decode cX10_down 92 = .ok (.putfield 132, 3) := by decide +kernel
theorem dX10_down_95 : decode cX10_down 95 = .ok (.aload_n 0, 1) := by decide +kernel
theorem dX10_down_96 : decode cX10_down 96 = .ok (.iconst 0, 1) := by decide +kernel
theorem dX10_down_97 : decode cX10_down 97 = .ok (.putfield 135, 3) := by decide +kernel
theorem dX10_down_100 : decode cX10_down 100 = .ok (.aload_n 0, 1) := by decide +kernel
theorem dX10_down_101 : decode cX10_down 101 = .ok (.iconst 0, 1) := by decide +kernel
theorem dX10_down_102 : decode cX10_down 102 = .ok (.putfield 138, 3) := by decide +kernel
theorem dX10_down_105 : decode cX10_down 105 = .ok (.aload_n 0, 1) := by decide +kernel
theorem dX10_down_106 : decode cX10_down 106 = .ok (.getfield 19, 3) := by decide +kernel
theorem dX10_down_109 : decode cX10_down 109 = .ok (.getfield 141, 3) := by decide +kernel
theorem dX10_down_112 : decode cX10_down 112 = .ok (.ireturn, 1) := by decide +kernel
theorem dX10_law_0 : decode cX10_law 0 = .ok (.aload_n 0, 1) := by decide +kernel
theorem dX10_law_1 : decode cX10_law 1 = .ok (.iload_n 1, 1) := by decide +kernel
theorem dX10_law_2 : decode cX10_law 2 = .ok (.sipush 150, 3) := by decide +kernel
theorem dX10_law_5 : decode cX10_law 5 = .ok (.invokevirtual 109, 3) := by decide +kernel
theorem dX10_law_8 : decode cX10_law 8 = .ok (.aload_n 0, 1) := by decide +kernel
theorem dX10_law_9 : decode cX10_law 9 = .ok (.getfield 33, 3) := by decide +kernel
theorem dX10_law_12 : decode cX10_law 12 = .ok (.aload_n 0, 1) := by decide +kernel
theorem dX10_law_13 : decode cX10_law 13 = .ok (.getfield 10, 3) := by decide +kernel
theorem dX10_law_16 : decode cX10_law 16 = .ok (.invokevirtual 144, 3) := by decide +kernel
theorem dX10_law_19 : decode cX10_law 19 = .ok (.aload_n 0, 1) := by decide +kernel
theorem dX10_law_20 : decode cX10_law 20 = .ok (.getfield 10, 3) := by decide +kernel
theorem dX10_law_23 : decode cX10_law 23 = .ok (.invokevirtual 117, 3) := by decide +kernel
theorem dX10_law_26 : decode cX10_law 26 = .ok (.ifCond .eq 14, 3) := by decide +kernel
theorem dX10_law_29 : decode cX10_law 29 = .ok (.aload_n 0, 1) := by decide +kernel
theorem dX10_law_30 : decode cX10_law 30 = .ok (.getfield 10, 3) := by decide +kernel
theorem dX10_law_33 : decode cX10_law 33 = .ok (.getfield 120, 3) := by decide +kernel
theorem dX10_law_36 : decode cX10_law 36 = .ok (.bipush 10, 2) := by decide +kernel
theorem dX10_law_38 : decode cX10_law 38 = .ok (.isub, 1) := by decide +kernel
theorem dX10_law_39 : decode cX10_law 39 = .ok (.ireturn, 1) := by decide +kernel
theorem dX10_work_0 : decode cX10_work 0 = .ok (.aload_n 0, 1) := by decide +kernel
theorem dX10_work_1 : decode cX10_work 1 = .ok (.iload_n 1, 1) := by decide +kernel
theorem dX10_work_2 : decode cX10_work 2 = .ok (.sipush 150, 3) := by decide +kernel
theorem dX10_work_5 : decode cX10_work 5 = .ok (.invokevirtual 109, 3) := by decide +kernel
theorem dX10_work_8 : decode cX10_work 8 = .ok (.aload_n 0, 1) := by decide +kernel
theorem dX10_work_9 : decode cX10_work 9 = .ok (.getfield 68, 3) := by decide +kernel
theorem dX10_work_12 : decode cX10_work 12 = .ok (.getfield 132, 3) := by decide +kernel
theorem dX10_work_15 : decode cX10_work 15 = .ok (.bipush 16, 2) := by decide +kernel
theorem dX10_work_17 : decode cX10_work 17 = .ok (.if_icmp .lt 6, 3) := by decide +kernel
theorem dX10_work_23 : decode cX10_work 23 = .ok (.aload_n 0, 1) := by decide +kernel
theorem dX10_work_24 : decode cX10_work 24 = .ok (.getfield 49, 3) := by decide +kernel
theorem dX10_work_27 : decode cX10_work 27 = .ok (.aload_n 0, 1) := by decide +kernel
theorem dX10_work_28 : decode cX10_work 28 = .ok (.getfield 10, 3) := by decide +kernel
theorem dX10_work_31 : decode cX10_work 31 = .ok (.aload_n 0, 1) := by decide +kernel
theorem dX10_work_32 : decode cX10_work 32 = .ok (.getfield 19, 3) := by decide +kernel
theorem dX10_work_35 : decode cX10_work 35 = .ok (.getfield 141, 3) := by decide +kernel
theorem dX10_work_38 : decode cX10_work 38 = .ok (.aload_n 0, 1) := by decide +kernel
theorem dX10_work_39 : decode cX10_work 39 = .ok (.getfield 19, 3) := by decide +kernel
theorem dX10_work_42 : decode cX10_work 42 = .ok (.getfield 149, 3) := by decide +kernel
theorem dX10_work_45 : decode cX10_work 45 = .ok (.invokevirtual 152, 3) := by decide +kernel
theorem dX10_work_48 : decode cX10_work 48 = .ok (.aload_n 0, 1) := by decide +kernel
theorem dX10_work_49 : decode cX10_work 49 = .ok (.getfield 10, 3) := by decide +kernel
theorem dX10_work_52 : decode cX10_work 52 = .ok (.invokevirtual 117, 3) := by decide +kernel
theorem dX10_work_55 : decode cX10_work 55 = .ok (.ifCond .eq 14, 3) := by decide +kernel
theorem dX10_work_69 : decode cX10_work 69 = .ok (.aload_n 0, 1) := by decide +kernel
theorem dX10_work_70 : decode cX10_work 70 = .ok (.getfield 68, 3) := by decide +kernel
theorem dX10_work_73 : decode cX10_work 73 = .ok (.aload_n 0, 1) := by decide +kernel
theorem dX10_work_74 : decode cX10_work 74 = .ok (.getfield 58, 3) := by decide +kernel
theorem dX10_work_77 : decode cX10_work 77 = .ok (.invokevirtual 155, 3) := by decide +kernel
theorem dX10_work_80 : decode cX10_work 80 = .ok (.aload_n 0, 1) := by decide +kernel
theorem dX10_work_81 : decode cX10_work 81 = .ok (.getfield 49, 3) := by decide +kernel
theorem dX10_work_84 : decode cX10_work 84 = .ok (.aload_n 0, 1) := by decide +kernel
theorem dX10_work_85 : decode cX10_work 85 = .ok (.getfield 58, 3) := by decide +kernel
theorem dX10_work_88 : decode cX10_work 88 = .ok (.invokevirtual 159, 3) := by decide +kernel
theorem dX10_work_91 : decode cX10_work 91 = .ok (.aload_n 0, 1) := by decide +kernel
theorem dX10_work_92 : decode cX10_work 92 = .ok (.aload_n 0, 1) := by decide +kernel
theorem dX10_work_93 : decode cX10_work 93 = .ok (.getfield 49, 3) := by decide +kernel
theorem dX10_work_96 : decode cX10_work 96 = .ok (.getfield 162, 3) := by decide +kernel
theorem dX10_work_99 : decode cX10_work 99 = .ok (.putfield 138, 3) := by decide +kernel
theorem dX10_work_102 : decode cX10_work 102 = .ok (.aload_n 0, 1) := by decide +kernel
theorem dX10_work_103 : decode cX10_work 103 = .ok (.getfield 49, 3) := by decide +kernel
theorem dX10_work_106 : decode cX10_work 106 = .ok (.getfield 165, 3) := by decide +kernel
theorem dX10_work_109 : decode cX10_work 109 = .ok (.ireturn, 1) := by decide +kernel
theorem dX10_book_0 : decode cX10_book 0 = .ok (.aload_n 0, 1) := by decide +kernel
theorem dX10_book_1 : decode cX10_book 1 = .ok (.iload_n 1, 1) := by decide +kernel
theorem dX10_book_2 : decode cX10_book 2 = .ok (.bipush 60, 2) := by decide +kernel
theorem dX10_book_4 : decode cX10_book 4 = .ok (.invokevirtual 109, 3) := by decide +kernel
theorem dX10_book_7 : decode cX10_book 7 = .ok (.aload_n 0, 1) := by decide +kernel
theorem dX10_book_8 : decode cX10_book 8 = .ok (.getfield 43, 3) := by decide +kernel
theorem dX10_book_11 : decode cX10_book 11 = .ok (.aload_n 0, 1) := by decide +kernel
theorem dX10_book_12 : decode cX10_book 12 = .ok (.getfield 10, 3) := by decide +kernel
theorem dX10_book_15 : decode cX10_book 15 = .ok (.aload_n 0, 1) := by decide +kernel
theorem dX10_book_16 : decode cX10_book 16 = .ok (.getfield 19, 3) := by decide +kernel
theorem dX10_book_19 : decode cX10_book 19 = .ok (.getfield 149, 3) := by decide +kernel
theorem dX10_book_22 : decode cX10_book 22 = .ok (.invokevirtual 168, 3) := by decide +kernel
theorem dX10_book_25 : decode cX10_book 25 = .ok (.aload_n 0, 1) := by decide +kernel
theorem dX10_book_26 : decode cX10_book 26 = .ok (.getfield 10, 3) := by decide +kernel
theorem dX10_book_29 : decode cX10_book 29 = .ok (.invokevirtual 117, 3) := by decide +kernel
theorem dX10_book_32 : decode cX10_book 32 = .ok (.ifCond .eq 14, 3) := by decide +kernel
theorem dX10_book_46 : decode cX10_book 46 = .ok (.aload_n 0, 1) := by decide +kernel
theorem dX10_book_47 : decode cX10_book 47 = .ok (.getfield 39, 3) := by decide +kernel
theorem dX10_book_50 : decode cX10_book 50 = .ok (.astore_n 2, 1) := by decide +kernel
theorem dX10_book_51 : decode cX10_book 51 = .ok (.aload_n 0, 1) := by decide +kernel
theorem dX10_book_52 : decode cX10_book 52 = .ok (.aload_n 0, 1) := by decide +kernel
theorem dX10_book_53 : decode cX10_book 53 = .ok (.getfield 43, 3) := by decide +kernel
theorem dX10_book_56 : decode cX10_book 56 = .ok (.putfield 39, 3) := by decide +kernel
theorem dX10_book_59 : decode cX10_book 59 = .ok (.aload_n 0, 1) := by decide +kernel
theorem dX10_book_60 : decode cX10_book 60 = .ok (.aload_n 2, 1) := by decide +kernel
theorem dX10_book_61 : decode cX10_book 61 = .ok (.putfield 43, 3) := by decide +kernel
theorem dX10_book_64 : decode cX10_book 64 = .ok (.aload_n 0, 1) := by decide +kernel
theorem dX10_book_65 : decode cX10_book 65 = .ok (.getfield 39, 3) := by decide +kernel
theorem dX10_book_68 : decode cX10_book 68 = .ok (.getfield 171, 3) := by decide +kernel
theorem dX10_book_71 : decode cX10_book 71 = .ok (.ireturn, 1) := by decide +kernel
theorem dX10_fault_0 : decode cX10_fault 0 = .ok (.aload_n 0, 1) := by decide +kernel
theorem dX10_fault_1 : decode cX10_fault 1 = .ok (.getfield 10, 3) := by decide +kernel
theorem dX10_fault_4 : decode cX10_fault 4 = .ok (.getfield 174, 3) := by decide +kernel
theorem dX10_fault_7 : decode cX10_fault 7 = .ok (.ireturn, 1) := by decide +kernel
theorem dX10_undo_0 : decode cX10_undo 0 = .ok (.aload_n 0, 1) := by decide +kernel
theorem dX10_undo_1 : decode cX10_undo 1 = .ok (.getfield 68, 3) := by decide +kernel
theorem dX10_undo_4 : decode cX10_undo 4 = .ok (.getfield 132, 3) := by decide +kernel
theorem dX10_undo_7 : decode cX10_undo 7 = .ok (.ifCond .ne 5, 3) := by decide +kernel
theorem dX10_undo_10 : decode cX10_undo 10 = .ok (.iconst (-1), 1) := by decide +kernel
theorem dX10_undo_11 : decode cX10_undo 11 = .ok (.ireturn, 1) := by decide +kernel
theorem dX10_told_0 : decode cX10_told 0 = .ok (.aload_n 0, 1) := by decide +kernel
theorem dX10_told_1 : decode cX10_told 1 = .ok (.iload_n 1, 1) := by decide +kernel
theorem dX10_told_2 : decode cX10_told 2 = .ok (.iconst 0, 1) := by decide +kernel
theorem dX10_told_3 : decode cX10_told 3 = .ok (.bipush 11, 2) := by decide +kernel
theorem dX10_told_5 : decode cX10_told 5 = .ok (.invokevirtual 180, 3) := by decide +kernel
theorem dX10_told_8 : decode cX10_told 8 = .ok (.iload_n 1, 1) := by decide +kernel
theorem dX10_told_9 : decode cX10_told 9 = .ok (.tableswitch 144 0 10 #[59, 67, 75, 83, 91, 99, 107, 115, 123, 131, 139], 59) := by decide +kernel
theorem dX10_told_68 : decode cX10_told 68 = .ok (.aload_n 0, 1) := by decide +kernel
theorem dX10_told_69 : decode cX10_told 69 = .ok (.getfield 19, 3) := by decide +kernel
theorem dX10_told_72 : decode cX10_told 72 = .ok (.getfield 149, 3) := by decide +kernel
theorem dX10_told_75 : decode cX10_told 75 = .ok (.ireturn, 1) := by decide +kernel
theorem dX10_told_76 : decode cX10_told 76 = .ok (.aload_n 0, 1) := by decide +kernel
theorem dX10_told_77 : decode cX10_told 77 = .ok (.getfield 19, 3) := by decide +kernel
theorem dX10_told_80 : decode cX10_told 80 = .ok (.getfield 141, 3) := by decide +kernel
theorem dX10_told_83 : decode cX10_told 83 = .ok (.ireturn, 1) := by decide +kernel
theorem dX10_told_84 : decode cX10_told 84 = .ok (.aload_n 0, 1) := by decide +kernel
theorem dX10_told_85 : decode cX10_told 85 = .ok (.getfield 19, 3) := by decide +kernel
theorem dX10_told_88 : decode cX10_told 88 = .ok (.getfield 184, 3) := by decide +kernel
theorem dX10_told_91 : decode cX10_told 91 = .ok (.ireturn, 1) := by decide +kernel
theorem dX10_told_92 : decode cX10_told 92 = .ok (.aload_n 0, 1) := by decide +kernel
theorem dX10_told_93 : decode cX10_told 93 = .ok (.getfield 58, 3) := by decide +kernel
theorem dX10_told_96 : decode cX10_told 96 = .ok (.invokevirtual 187, 3) := by decide +kernel
theorem dX10_told_99 : decode cX10_told 99 = .ok (.ireturn, 1) := by decide +kernel
theorem dX10_told_100 : decode cX10_told 100 = .ok (.aload_n 0, 1) := by decide +kernel
theorem dX10_told_101 : decode cX10_told 101 = .ok (.getfield 58, 3) := by decide +kernel
theorem dX10_told_104 : decode cX10_told 104 = .ok (.invokevirtual 191, 3) := by decide +kernel
theorem dX10_told_107 : decode cX10_told 107 = .ok (.ireturn, 1) := by decide +kernel
theorem dX10_told_108 : decode cX10_told 108 = .ok (.aload_n 0, 1) := by decide +kernel
theorem dX10_told_109 : decode cX10_told 109 = .ok (.getfield 58, 3) := by decide +kernel
theorem dX10_told_112 : decode cX10_told 112 = .ok (.invokevirtual 194, 3) := by decide +kernel
theorem dX10_told_115 : decode cX10_told 115 = .ok (.ireturn, 1) := by decide +kernel
theorem dX10_told_116 : decode cX10_told 116 = .ok (.aload_n 0, 1) := by decide +kernel
theorem dX10_told_117 : decode cX10_told 117 = .ok (.getfield 58, 3) := by decide +kernel
theorem dX10_told_120 : decode cX10_told 120 = .ok (.invokevirtual 197, 3) := by decide +kernel
theorem dX10_told_123 : decode cX10_told 123 = .ok (.ireturn, 1) := by decide +kernel
theorem dX10_told_124 : decode cX10_told 124 = .ok (.aload_n 0, 1) := by decide +kernel
theorem dX10_told_125 : decode cX10_told 125 = .ok (.getfield 19, 3) := by decide +kernel
theorem dX10_told_128 : decode cX10_told 128 = .ok (.getfield 200, 3) := by decide +kernel
theorem dX10_told_131 : decode cX10_told 131 = .ok (.ireturn, 1) := by decide +kernel
theorem dX10_told_132 : decode cX10_told 132 = .ok (.aload_n 0, 1) := by decide +kernel
theorem dX10_told_133 : decode cX10_told 133 = .ok (.getfield 58, 3) := by decide +kernel
theorem dX10_told_136 : decode cX10_told 136 = .ok (.invokevirtual 203, 3) := by decide +kernel
theorem dX10_told_139 : decode cX10_told 139 = .ok (.ireturn, 1) := by decide +kernel
theorem dX10_told_140 : decode cX10_told 140 = .ok (.aload_n 0, 1) := by decide +kernel
theorem dX10_told_141 : decode cX10_told 141 = .ok (.getfield 39, 3) := by decide +kernel
theorem dX10_told_144 : decode cX10_told 144 = .ok (.getfield 171, 3) := by decide +kernel
theorem dX10_told_147 : decode cX10_told 147 = .ok (.ireturn, 1) := by decide +kernel
theorem dX10_told_148 : decode cX10_told 148 = .ok (.aload_n 0, 1) := by decide +kernel
theorem dX10_told_149 : decode cX10_told 149 = .ok (.getfield 138, 3) := by decide +kernel
theorem dX10_told_152 : decode cX10_told 152 = .ok (.ireturn, 1) := by decide +kernel
theorem dX10_told_153 : decode cX10_told 153 = .ok (.aload_n 0, 1) := by decide +kernel
theorem dX10_told_154 : decode cX10_told 154 = .ok (.getfield 58, 3) := by decide +kernel
theorem dX10_told_157 : decode cX10_told 157 = .ok (.invokevirtual 206, 3) := by decide +kernel
theorem dX10_told_160 : decode cX10_told 160 = .ok (.ireturn, 1) := by decide +kernel
theorem dX10_form_0 : decode cX10_form 0 = .ok (.aload_n 0, 1) := by decide +kernel
theorem dX10_form_1 : decode cX10_form 1 = .ok (.iload_n 1, 1) := by decide +kernel
theorem dX10_form_2 : decode cX10_form 2 = .ok (.invokevirtual 209, 3) := by decide +kernel
theorem dX10_hare_0 : decode cX10_hare 0 = .ok (.aload_n 0, 1) := by decide +kernel
theorem dX10_hare_1 : decode cX10_hare 1 = .ok (.iload_n 1, 1) := by decide +kernel
theorem dX10_hare_2 : decode cX10_hare 2 = .ok (.invokevirtual 227, 3) := by decide +kernel
theorem dX10_fox_0 : decode cX10_fox 0 = .ok (.iload_n 1, 1) := by decide +kernel
theorem dX10_fox_1 : decode cX10_fox 1 = .ok (.iconst 0, 1) := by decide +kernel
theorem dX10_fox_2 : decode cX10_fox 2 = .ok (.aload_n 0, 1) := by decide +kernel
theorem dX10_fox_3 : decode cX10_fox 3 = .ok (.getfield 19, 3) := by decide +kernel
theorem dX10_fox_6 : decode cX10_fox 6 = .ok (.getfield 184, 3) := by decide +kernel
theorem dX10_fox_9 : decode cX10_fox 9 = .ok (.iconst 1, 1) := by decide +kernel
theorem dX10_fox_10 : decode cX10_fox 10 = .ok (.isub, 1) := by decide +kernel
theorem dX10_fox_11 : decode cX10_fox 11 = .ok (.invokestatic 257, 3) := by decide +kernel
theorem dX10_fox_14 : decode cX10_fox 14 = .ok (.ifCond .ne 24, 3) := by decide +kernel
theorem dX10_fox_17 : decode cX10_fox 17 = .ok (.aload_n 0, 1) := by decide +kernel
theorem dX10_fox_18 : decode cX10_fox 18 = .ok (.dup, 1) := by decide +kernel
theorem dX10_fox_19 : decode cX10_fox 19 = .ok (.getfield 261, 3) := by decide +kernel
theorem dX10_fox_22 : decode cX10_fox 22 = .ok (.iconst 1, 1) := by decide +kernel
theorem dX10_fox_23 : decode cX10_fox 23 = .ok (.iadd, 1) := by decide +kernel
theorem dX10_fox_24 : decode cX10_fox 24 = .ok (.putfield 261, 3) := by decide +kernel
theorem dX10_fox_27 : decode cX10_fox 27 = .ok (.new 264, 3) := by decide +kernel
theorem dX10_fox_30 : decode cX10_fox 30 = .ok (.dup, 1) := by decide +kernel
theorem dX10_fox_31 : decode cX10_fox 31 = .ok (.ldc_w 266, 3) := by decide +kernel
theorem dX10_fox_34 : decode cX10_fox 34 = .ok (.invokespecial 268, 3) := by decide +kernel
theorem dX10_fox_37 : decode cX10_fox 37 = .ok (.athrow, 1) := by decide +kernel
theorem dX10_debt_0 : decode cX10_debt 0 = .ok (.aload_n 0, 1) := by decide +kernel
theorem dX10_debt_1 : decode cX10_debt 1 = .ok (.iload_n 1, 1) := by decide +kernel
theorem dX10_debt_2 : decode cX10_debt 2 = .ok (.invokevirtual 227, 3) := by decide +kernel
theorem dX10_far_0 : decode cX10_far 0 = .ok (.aload_n 0, 1) := by decide +kernel
theorem dX10_far_1 : decode cX10_far 1 = .ok (.iload_n 1, 1) := by decide +kernel
theorem dX10_far_2 : decode cX10_far 2 = .ok (.invokevirtual 209, 3) := by decide +kernel
theorem dX10_would_0 : decode cX10_would 0 = .ok (.aload_n 0, 1) := by decide +kernel
theorem dX10_would_1 : decode cX10_would 1 = .ok (.iload_n 1, 1) := by decide +kernel
theorem dX10_would_2 : decode cX10_would 2 = .ok (.iconst 0, 1) := by decide +kernel
theorem dX10_would_3 : decode cX10_would 3 = .ok (.bipush 9, 2) := by decide +kernel
theorem dX10_would_5 : decode cX10_would 5 = .ok (.invokevirtual 180, 3) := by decide +kernel
theorem dX10_would_8 : decode cX10_would 8 = .ok (.aload_n 0, 1) := by decide +kernel
theorem dX10_would_9 : decode cX10_would 9 = .ok (.iload_n 2, 1) := by decide +kernel
theorem dX10_would_10 : decode cX10_would 10 = .ok (.iconst 0, 1) := by decide +kernel
theorem dX10_would_11 : decode cX10_would 11 = .ok (.sipush 999, 3) := by decide +kernel
theorem dX10_would_14 : decode cX10_would 14 = .ok (.invokevirtual 180, 3) := by decide +kernel
theorem dX10_would_17 : decode cX10_would 17 = .ok (.aload_n 0, 1) := by decide +kernel
theorem dX10_would_18 : decode cX10_would 18 = .ok (.iload_n 3, 1) := by decide +kernel
theorem dX10_would_19 : decode cX10_would 19 = .ok (.iconst 0, 1) := by decide +kernel
theorem dX10_would_20 : decode cX10_would 20 = .ok (.sipush 999, 3) := by decide +kernel
theorem dX10_would_23 : decode cX10_would 23 = .ok (.invokevirtual 180, 3) := by decide +kernel
theorem dX10_would_26 : decode cX10_would 26 = .ok (.aload_n 0, 1) := by decide +kernel
theorem dX10_would_27 : decode cX10_would 27 = .ok (.iload 4, 2) := by decide +kernel
theorem dX10_would_29 : decode cX10_would 29 = .ok (.iconst 0, 1) := by decide +kernel
theorem dX10_would_30 : decode cX10_would 30 = .ok (.sipush 999, 3) := by decide +kernel
theorem dX10_would_33 : decode cX10_would 33 = .ok (.invokevirtual 180, 3) := by decide +kernel
theorem dX10_would_36 : decode cX10_would 36 = .ok (.aload_n 0, 1) := by decide +kernel
theorem dX10_would_37 : decode cX10_would 37 = .ok (.iload 5, 2) := by decide +kernel
theorem dX10_would_39 : decode cX10_would 39 = .ok (.iconst 0, 1) := by decide +kernel
theorem dX10_would_40 : decode cX10_would 40 = .ok (.iconst 5, 1) := by decide +kernel
theorem dX10_would_41 : decode cX10_would 41 = .ok (.invokevirtual 180, 3) := by decide +kernel
theorem dX10_would_44 : decode cX10_would 44 = .ok (.aload_n 0, 1) := by decide +kernel
theorem dX10_would_45 : decode cX10_would 45 = .ok (.iload 6, 2) := by decide +kernel
theorem dX10_would_47 : decode cX10_would 47 = .ok (.iconst 1, 1) := by decide +kernel
theorem dX10_would_48 : decode cX10_would 48 = .ok (.bipush 31, 2) := by decide +kernel
theorem dX10_would_50 : decode cX10_would 50 = .ok (.invokevirtual 180, 3) := by decide +kernel
theorem dX10_would_53 : decode cX10_would 53 = .ok (.aload_n 0, 1) := by decide +kernel
theorem dX10_would_54 : decode cX10_would 54 = .ok (.iload 7, 2) := by decide +kernel
theorem dX10_would_56 : decode cX10_would 56 = .ok (.iconst 0, 1) := by decide +kernel
theorem dX10_would_57 : decode cX10_would 57 = .ok (.iconst 5, 1) := by decide +kernel
theorem dX10_would_58 : decode cX10_would 58 = .ok (.invokevirtual 180, 3) := by decide +kernel
theorem dX10_would_61 : decode cX10_would 61 = .ok (.aload_n 0, 1) := by decide +kernel
theorem dX10_would_62 : decode cX10_would 62 = .ok (.iload 8, 2) := by decide +kernel
theorem dX10_would_64 : decode cX10_would 64 = .ok (.iconst 0, 1) := by decide +kernel
theorem dX10_would_65 : decode cX10_would 65 = .ok (.sipush 999, 3) := by decide +kernel
theorem dX10_would_68 : decode cX10_would 68 = .ok (.invokevirtual 180, 3) := by decide +kernel
theorem dX10_would_71 : decode cX10_would 71 = .ok (.aload_n 0, 1) := by decide +kernel
theorem dX10_would_72 : decode cX10_would 72 = .ok (.getfield 29, 3) := by decide +kernel
theorem dX10_would_75 : decode cX10_would 75 = .ok (.iload_n 1, 1) := by decide +kernel
theorem dX10_would_76 : decode cX10_would 76 = .ok (.iload_n 2, 1) := by decide +kernel
theorem dX10_would_77 : decode cX10_would 77 = .ok (.iload_n 3, 1) := by decide +kernel
theorem dX10_would_78 : decode cX10_would 78 = .ok (.iload 4, 2) := by decide +kernel
theorem dX10_would_80 : decode cX10_would 80 = .ok (.iload 5, 2) := by decide +kernel
theorem dX10_would_82 : decode cX10_would 82 = .ok (.invokevirtual 284, 3) := by decide +kernel
theorem dX10_would_85 : decode cX10_would 85 = .ok (.aload_n 0, 1) := by decide +kernel
theorem dX10_would_86 : decode cX10_would 86 = .ok (.getfield 29, 3) := by decide +kernel
theorem dX10_would_89 : decode cX10_would 89 = .ok (.iload 6, 2) := by decide +kernel
theorem dX10_would_91 : decode cX10_would 91 = .ok (.iload 7, 2) := by decide +kernel
theorem dX10_would_93 : decode cX10_would 93 = .ok (.iload 8, 2) := by decide +kernel
theorem dX10_would_95 : decode cX10_would 95 = .ok (.invokevirtual 288, 3) := by decide +kernel
theorem dX10_would_98 : decode cX10_would 98 = .ok (.aload_n 0, 1) := by decide +kernel
theorem dX10_would_99 : decode cX10_would 99 = .ok (.getfield 29, 3) := by decide +kernel
theorem dX10_would_102 : decode cX10_would 102 = .ok (.invokevirtual 291, 3) := by decide +kernel
theorem dX10_would_105 : decode cX10_would 105 = .ok (.ireturn, 1) := by decide +kernel
theorem dX10_can_0 : decode cX10_can 0 = .ok (.aload_n 0, 1) := by decide +kernel
theorem dX10_can_1 : decode cX10_can 1 = .ok (.iload_n 1, 1) := by decide +kernel
theorem dX10_can_2 : decode cX10_can 2 = .ok (.invokevirtual 227, 3) := by decide +kernel
theorem dX10_ahead_0 : decode cX10_ahead 0 = .ok (.aload_n 0, 1) := by decide +kernel
theorem dX10_ahead_1 : decode cX10_ahead 1 = .ok (.iload_n 1, 1) := by decide +kernel
theorem dX10_ahead_2 : decode cX10_ahead 2 = .ok (.iconst 0, 1) := by decide +kernel
theorem dX10_ahead_3 : decode cX10_ahead 3 = .ok (.bipush 99, 2) := by decide +kernel
theorem dX10_ahead_5 : decode cX10_ahead 5 = .ok (.invokevirtual 180, 3) := by decide +kernel
theorem dX10_ahead_8 : decode cX10_ahead 8 = .ok (.aload_n 0, 1) := by decide +kernel
theorem dX10_ahead_9 : decode cX10_ahead 9 = .ok (.iload_n 2, 1) := by decide +kernel
theorem dX10_ahead_10 : decode cX10_ahead 10 = .ok (.iconst 0, 1) := by decide +kernel
theorem dX10_ahead_11 : decode cX10_ahead 11 = .ok (.iconst 2, 1) := by decide +kernel
theorem dX10_ahead_12 : decode cX10_ahead 12 = .ok (.invokevirtual 180, 3) := by decide +kernel
theorem dX10_ahead_15 : decode cX10_ahead 15 = .ok (.aload_n 0, 1) := by decide +kernel
theorem dX10_ahead_16 : decode cX10_ahead 16 = .ok (.getfield 62, 3) := by decide +kernel
theorem dX10_ahead_19 : decode cX10_ahead 19 = .ok (.aload_n 0, 1) := by decide +kernel
theorem dX10_ahead_20 : decode cX10_ahead 20 = .ok (.getfield 58, 3) := by decide +kernel
theorem dX10_ahead_23 : decode cX10_ahead 23 = .ok (.invokevirtual 297, 3) := by decide +kernel
theorem dX10_ahead_26 : decode cX10_ahead 26 = .ok (.iconst 0, 1) := by decide +kernel
theorem dX10_ahead_27 : decode cX10_ahead 27 = .ok (.istore_n 3, 1) := by decide +kernel
theorem dX10_ahead_28 : decode cX10_ahead 28 = .ok (.iload_n 3, 1) := by decide +kernel
theorem dX10_ahead_29 : decode cX10_ahead 29 = .ok (.iload_n 1, 1) := by decide +kernel
theorem dX10_ahead_30 : decode cX10_ahead 30 = .ok (.if_icmp .ge 16, 3) := by decide +kernel
theorem dX10_ahead_33 : decode cX10_ahead 33 = .ok (.aload_n 0, 1) := by decide +kernel
theorem dX10_ahead_34 : decode cX10_ahead 34 = .ok (.getfield 62, 3) := by decide +kernel
theorem dX10_ahead_37 : decode cX10_ahead 37 = .ok (.invokevirtual 300, 3) := by decide +kernel
theorem dX10_ahead_40 : decode cX10_ahead 40 = .ok (.iinc 3 1, 3) := by decide +kernel
theorem dX10_ahead_43 : decode cX10_ahead 43 = .ok (.goto (-15), 3) := by decide +kernel
theorem dX10_ahead_46 : decode cX10_ahead 46 = .ok (.iload_n 2, 1) := by decide +kernel
theorem dX10_ahead_47 : decode cX10_ahead 47 = .ok (.lookupswitch 41 #[(0, 25), (1, 33)], 25) := by decide +kernel
theorem dX10_ahead_72 : decode cX10_ahead 72 = .ok (.aload_n 0, 1) := by decide +kernel
theorem dX10_ahead_73 : decode cX10_ahead 73 = .ok (.getfield 62, 3) := by decide +kernel
theorem dX10_ahead_76 : decode cX10_ahead 76 = .ok (.invokevirtual 187, 3) := by decide +kernel
theorem dX10_ahead_79 : decode cX10_ahead 79 = .ok (.ireturn, 1) := by decide +kernel
theorem dX10_ahead_80 : decode cX10_ahead 80 = .ok (.aload_n 0, 1) := by decide +kernel
theorem dX10_ahead_81 : decode cX10_ahead 81 = .ok (.getfield 62, 3) := by decide +kernel
theorem dX10_ahead_84 : decode cX10_ahead 84 = .ok (.invokevirtual 194, 3) := by decide +kernel
theorem dX10_ahead_87 : decode cX10_ahead 87 = .ok (.ireturn, 1) := by decide +kernel
theorem dX10_ahead_88 : decode cX10_ahead 88 = .ok (.aload_n 0, 1) := by decide +kernel
theorem dX10_ahead_89 : decode cX10_ahead 89 = .ok (.getfield 62, 3) := by decide +kernel
theorem dX10_ahead_92 : decode cX10_ahead 92 = .ok (.invokevirtual 203, 3) := by decide +kernel
theorem dX10_ahead_95 : decode cX10_ahead 95 = .ok (.ireturn, 1) := by decide +kernel
theorem dX10_hops_0 : decode cX10_hops 0 = .ok (.aload_n 0, 1) := by decide +kernel
theorem dX10_hops_1 : decode cX10_hops 1 = .ok (.iload_n 1, 1) := by decide +kernel
theorem dX10_hops_2 : decode cX10_hops 2 = .ok (.invokevirtual 227, 3) := by decide +kernel
theorem dX10_seats_0 : decode cX10_seats 0 = .ok (.aload_n 0, 1) := by decide +kernel
theorem dX10_seats_1 : decode cX10_seats 1 = .ok (.getfield 86, 3) := by decide +kernel
theorem dX10_seats_4 : decode cX10_seats 4 = .ok (.aload_n 0, 1) := by decide +kernel
theorem dX10_seats_5 : decode cX10_seats 5 = .ok (.getfield 58, 3) := by decide +kernel
theorem dX10_seats_8 : decode cX10_seats 8 = .ok (.invokevirtual 307, 3) := by decide +kernel
theorem dX10_seats_11 : decode cX10_seats 11 = .ok (.aload_n 0, 1) := by decide +kernel
theorem dX10_seats_12 : decode cX10_seats 12 = .ok (.getfield 86, 3) := by decide +kernel
theorem dX10_seats_15 : decode cX10_seats 15 = .ok (.getfield 310, 3) := by decide +kernel
theorem dX10_seats_18 : decode cX10_seats 18 = .ok (.ireturn, 1) := by decide +kernel
theorem dX10_seat_0 : decode cX10_seat 0 = .ok (.aload_n 0, 1) := by decide +kernel
theorem dX10_seat_1 : decode cX10_seat 1 = .ok (.iload_n 1, 1) := by decide +kernel
theorem dX10_seat_2 : decode cX10_seat 2 = .ok (.invokevirtual 227, 3) := by decide +kernel
theorem dX10_ring_0 : decode cX10_ring 0 = .ok (.aload_n 0, 1) := by decide +kernel
theorem dX10_ring_1 : decode cX10_ring 1 = .ok (.getfield 79, 3) := by decide +kernel
theorem dX10_ring_4 : decode cX10_ring 4 = .ok (.aload_n 0, 1) := by decide +kernel
theorem dX10_ring_5 : decode cX10_ring 5 = .ok (.getfield 19, 3) := by decide +kernel
theorem dX10_ring_8 : decode cX10_ring 8 = .ok (.invokevirtual 316, 3) := by decide +kernel
theorem dX10_ring_11 : decode cX10_ring 11 = .ok (.aload_n 0, 1) := by decide +kernel
theorem dX10_ring_12 : decode cX10_ring 12 = .ok (.getfield 79, 3) := by decide +kernel
theorem dX10_ring_15 : decode cX10_ring 15 = .ok (.getfield 319, 3) := by decide +kernel
theorem dX10_ring_18 : decode cX10_ring 18 = .ok (.ireturn, 1) := by decide +kernel
theorem dX10_ringed_0 : decode cX10_ringed 0 = .ok (.aload_n 0, 1) := by decide +kernel
theorem dX10_ringed_1 : decode cX10_ringed 1 = .ok (.iload_n 1, 1) := by decide +kernel
theorem dX10_ringed_2 : decode cX10_ringed 2 = .ok (.ifCond .lt 7, 3) := by decide +kernel
theorem dX10_ringed_5 : decode cX10_ringed 5 = .ok (.iconst 1, 1) := by decide +kernel
theorem dX10_ringed_6 : decode cX10_ringed 6 = .ok (.goto 4, 3) := by decide +kernel
theorem dX10_ringed_9 : decode cX10_ringed 9 = .ok (.iconst 0, 1) := by decide +kernel
theorem dX10_ringed_10 : decode cX10_ringed 10 = .ok (.invokevirtual 322, 3) := by decide +kernel
theorem dX10_ringed_13 : decode cX10_ringed 13 = .ok (.iload_n 1, 1) := by decide +kernel
theorem dX10_ringed_14 : decode cX10_ringed 14 = .ok (.aload_n 0, 1) := by decide +kernel
theorem dX10_ringed_15 : decode cX10_ringed 15 = .ok (.getfield 19, 3) := by decide +kernel
theorem dX10_ringed_18 : decode cX10_ringed 18 = .ok (.getfield 149, 3) := by decide +kernel
theorem dX10_ringed_21 : decode cX10_ringed 21 = .ok (.if_icmp .lt 5, 3) := by decide +kernel
theorem dX10_ringed_24 : decode cX10_ringed 24 = .ok (.iconst (-1), 1) := by decide +kernel
theorem dX10_ringed_25 : decode cX10_ringed 25 = .ok (.ireturn, 1) := by decide +kernel
theorem dX10_bouts_0 : decode cX10_bouts 0 = .ok (.aload_n 0, 1) := by decide +kernel
theorem dX10_bouts_1 : decode cX10_bouts 1 = .ok (.iload_n 1, 1) := by decide +kernel
theorem dX10_bouts_2 : decode cX10_bouts 2 = .ok (.invokevirtual 227, 3) := by decide +kernel
theorem dX10_fits_0 : decode cX10_fits 0 = .ok (.aload_n 0, 1) := by decide +kernel
theorem dX10_fits_1 : decode cX10_fits 1 = .ok (.iload_n 1, 1) := by decide +kernel
theorem dX10_fits_2 : decode cX10_fits 2 = .ok (.iconst 0, 1) := by decide +kernel
theorem dX10_fits_3 : decode cX10_fits 3 = .ok (.iconst 1, 1) := by decide +kernel
theorem dX10_fits_4 : decode cX10_fits 4 = .ok (.invokevirtual 180, 3) := by decide +kernel
theorem dX10_fits_7 : decode cX10_fits 7 = .ok (.aload_n 0, 1) := by decide +kernel
theorem dX10_fits_8 : decode cX10_fits 8 = .ok (.getfield 93, 3) := by decide +kernel
theorem dX10_fits_11 : decode cX10_fits 11 = .ok (.aload_n 0, 1) := by decide +kernel
theorem dX10_fits_12 : decode cX10_fits 12 = .ok (.getfield 58, 3) := by decide +kernel
theorem dX10_fits_15 : decode cX10_fits 15 = .ok (.aload_n 0, 1) := by decide +kernel
theorem dX10_fits_16 : decode cX10_fits 16 = .ok (.getfield 39, 3) := by decide +kernel
theorem dX10_fits_19 : decode cX10_fits 19 = .ok (.invokevirtual 339, 3) := by decide +kernel
theorem dX10_fits_22 : decode cX10_fits 22 = .ok (.iload_n 1, 1) := by decide +kernel
theorem dX10_fits_23 : decode cX10_fits 23 = .ok (.ifCond .ne 13, 3) := by decide +kernel
theorem dX10_fits_26 : decode cX10_fits 26 = .ok (.aload_n 0, 1) := by decide +kernel
theorem dX10_fits_27 : decode cX10_fits 27 = .ok (.getfield 93, 3) := by decide +kernel
theorem dX10_fits_30 : decode cX10_fits 30 = .ok (.getfield 342, 3) := by decide +kernel
theorem dX10_fits_33 : decode cX10_fits 33 = .ok (.goto 10, 3) := by decide +kernel
theorem dX10_fits_36 : decode cX10_fits 36 = .ok (.aload_n 0, 1) := by decide +kernel
theorem dX10_fits_37 : decode cX10_fits 37 = .ok (.getfield 93, 3) := by decide +kernel
theorem dX10_fits_40 : decode cX10_fits 40 = .ok (.getfield 343, 3) := by decide +kernel
theorem dX10_fits_43 : decode cX10_fits 43 = .ok (.ireturn, 1) := by decide +kernel
theorem dX10_look_0 : decode cX10_look 0 = .ok (.aload_n 0, 1) := by decide +kernel
theorem dX10_look_1 : decode cX10_look 1 = .ok (.iload_n 1, 1) := by decide +kernel
theorem dX10_look_2 : decode cX10_look 2 = .ok (.iconst 0, 1) := by decide +kernel
theorem dX10_look_3 : decode cX10_look 3 = .ok (.iconst 1, 1) := by decide +kernel
theorem dX10_look_4 : decode cX10_look 4 = .ok (.invokevirtual 180, 3) := by decide +kernel
theorem dX10_look_7 : decode cX10_look 7 = .ok (.aload_n 0, 1) := by decide +kernel
theorem dX10_look_8 : decode cX10_look 8 = .ok (.getfield 93, 3) := by decide +kernel
theorem dX10_look_11 : decode cX10_look 11 = .ok (.aload_n 0, 1) := by decide +kernel
theorem dX10_look_12 : decode cX10_look 12 = .ok (.getfield 58, 3) := by decide +kernel
theorem dX10_look_15 : decode cX10_look 15 = .ok (.aload_n 0, 1) := by decide +kernel
theorem dX10_look_16 : decode cX10_look 16 = .ok (.getfield 39, 3) := by decide +kernel
theorem dX10_look_19 : decode cX10_look 19 = .ok (.invokevirtual 339, 3) := by decide +kernel
theorem dX10_look_22 : decode cX10_look 22 = .ok (.aload_n 0, 1) := by decide +kernel
theorem dX10_look_23 : decode cX10_look 23 = .ok (.getfield 93, 3) := by decide +kernel
theorem dX10_look_26 : decode cX10_look 26 = .ok (.invokevirtual 346, 3) := by decide +kernel
theorem dX10_look_29 : decode cX10_look 29 = .ok (.iload_n 1, 1) := by decide +kernel
theorem dX10_look_30 : decode cX10_look 30 = .ok (.ifCond .ne 13, 3) := by decide +kernel
theorem dX10_look_33 : decode cX10_look 33 = .ok (.aload_n 0, 1) := by decide +kernel
theorem dX10_look_34 : decode cX10_look 34 = .ok (.getfield 93, 3) := by decide +kernel
theorem dX10_look_37 : decode cX10_look 37 = .ok (.getfield 349, 3) := by decide +kernel
theorem dX10_look_40 : decode cX10_look 40 = .ok (.goto 10, 3) := by decide +kernel
theorem dX10_look_43 : decode cX10_look 43 = .ok (.aload_n 0, 1) := by decide +kernel
theorem dX10_look_44 : decode cX10_look 44 = .ok (.getfield 93, 3) := by decide +kernel
theorem dX10_look_47 : decode cX10_look 47 = .ok (.getfield 352, 3) := by decide +kernel
theorem dX10_look_50 : decode cX10_look 50 = .ok (.ireturn, 1) := by decide +kernel
theorem dX10_watch_0 : decode cX10_watch 0 = .ok (.aload_n 0, 1) := by decide +kernel
theorem dX10_watch_1 : decode cX10_watch 1 = .ok (.iload_n 1, 1) := by decide +kernel
theorem dX10_watch_2 : decode cX10_watch 2 = .ok (.iconst 0, 1) := by decide +kernel
theorem dX10_watch_3 : decode cX10_watch 3 = .ok (.bipush 60, 2) := by decide +kernel
theorem dX10_watch_5 : decode cX10_watch 5 = .ok (.invokevirtual 180, 3) := by decide +kernel
theorem dX10_watch_8 : decode cX10_watch 8 = .ok (.aload_n 0, 1) := by decide +kernel
theorem dX10_watch_9 : decode cX10_watch 9 = .ok (.getfield 19, 3) := by decide +kernel
theorem dX10_watch_12 : decode cX10_watch 12 = .ok (.iload_n 1, 1) := by decide +kernel
theorem dX10_watch_13 : decode cX10_watch 13 = .ok (.invokevirtual 355, 3) := by decide +kernel
theorem dX10_watch_16 : decode cX10_watch 16 = .ok (.ireturn, 1) := by decide +kernel
theorem dX10_few_0 : decode cX10_few 0 = .ok (.aload_n 0, 1) := by decide +kernel
theorem dX10_few_1 : decode cX10_few 1 = .ok (.iload_n 1, 1) := by decide +kernel
theorem dX10_few_2 : decode cX10_few 2 = .ok (.iconst 0, 1) := by decide +kernel
theorem dX10_few_3 : decode cX10_few 3 = .ok (.bipush 12, 2) := by decide +kernel
theorem dX10_few_5 : decode cX10_few 5 = .ok (.invokevirtual 180, 3) := by decide +kernel
theorem dX10_few_8 : decode cX10_few 8 = .ok (.aload_n 0, 1) := by decide +kernel
theorem dX10_few_9 : decode cX10_few 9 = .ok (.iload_n 2, 1) := by decide +kernel
theorem dX10_few_10 : decode cX10_few 10 = .ok (.iconst 0, 1) := by decide +kernel
theorem dX10_few_11 : decode cX10_few 11 = .ok (.bipush 12, 2) := by decide +kernel
theorem dX10_few_13 : decode cX10_few 13 = .ok (.invokevirtual 180, 3) := by decide +kernel
theorem dX10_few_16 : decode cX10_few 16 = .ok (.aload_n 0, 1) := by decide +kernel
theorem dX10_few_17 : decode cX10_few 17 = .ok (.iload_n 3, 1) := by decide +kernel
theorem dX10_few_18 : decode cX10_few 18 = .ok (.iconst 0, 1) := by decide +kernel
theorem dX10_few_19 : decode cX10_few 19 = .ok (.bipush 16, 2) := by decide +kernel
theorem dX10_few_21 : decode cX10_few 21 = .ok (.invokevirtual 180, 3) := by decide +kernel
theorem dX10_few_24 : decode cX10_few 24 = .ok (.aload_n 0, 1) := by decide +kernel
theorem dX10_few_25 : decode cX10_few 25 = .ok (.iload 4, 2) := by decide +kernel
theorem dX10_few_27 : decode cX10_few 27 = .ok (.iconst 0, 1) := by decide +kernel
theorem dX10_few_28 : decode cX10_few 28 = .ok (.iconst 1, 1) := by decide +kernel
theorem dX10_few_29 : decode cX10_few 29 = .ok (.invokevirtual 180, 3) := by decide +kernel
theorem dX10_few_32 : decode cX10_few 32 = .ok (.lconst 0, 1) := by decide +kernel
theorem dX10_few_33 : decode cX10_few 33 = .ok (.lstore 5, 2) := by decide +kernel
theorem dX10_few_35 : decode cX10_few 35 = .ok (.iconst 0, 1) := by decide +kernel
theorem dX10_few_36 : decode cX10_few 36 = .ok (.istore 7, 2) := by decide +kernel
theorem dX10_few_38 : decode cX10_few 38 = .ok (.iload 7, 2) := by decide +kernel
theorem dX10_few_40 : decode cX10_few 40 = .ok (.iload_n 2, 1) := by decide +kernel
theorem dX10_few_41 : decode cX10_few 41 = .ok (.if_icmp .gt 45, 3) := by decide +kernel
theorem dX10_few_44 : decode cX10_few 44 = .ok (.iload 7, 2) := by decide +kernel
theorem dX10_few_46 : decode cX10_few 46 = .ok (.iload_n 1, 1) := by decide +kernel
theorem dX10_few_47 : decode cX10_few 47 = .ok (.if_icmp .gt 39, 3) := by decide +kernel
theorem dX10_few_50 : decode cX10_few 50 = .ok (.lload 5, 2) := by decide +kernel
theorem dX10_few_52 : decode cX10_few 52 = .ok (.iload_n 1, 1) := by decide +kernel
theorem dX10_few_53 : decode cX10_few 53 = .ok (.iload 7, 2) := by decide +kernel
theorem dX10_few_55 : decode cX10_few 55 = .ok (.invokestatic 358, 3) := by decide +kernel
theorem dX10_few_58 : decode cX10_few 58 = .ok (.iload_n 3, 1) := by decide +kernel
theorem dX10_few_59 : decode cX10_few 59 = .ok (.iload 7, 2) := by decide +kernel
theorem dX10_few_61 : decode cX10_few 61 = .ok (.invokestatic 362, 3) := by decide +kernel
theorem dX10_few_64 : decode cX10_few 64 = .ok (.lmul, 1) := by decide +kernel
theorem dX10_few_65 : decode cX10_few 65 = .ok (.bipush 16, 2) := by decide +kernel
theorem dX10_few_67 : decode cX10_few 67 = .ok (.iload_n 3, 1) := by decide +kernel
theorem dX10_few_68 : decode cX10_few 68 = .ok (.isub, 1) := by decide +kernel
theorem dX10_few_69 : decode cX10_few 69 = .ok (.iload_n 1, 1) := by decide +kernel
theorem dX10_few_70 : decode cX10_few 70 = .ok (.iload 7, 2) := by decide +kernel
theorem dX10_few_72 : decode cX10_few 72 = .ok (.isub, 1) := by decide +kernel
theorem dX10_few_73 : decode cX10_few 73 = .ok (.invokestatic 362, 3) := by decide +kernel
theorem dX10_few_76 : decode cX10_few 76 = .ok (.lmul, 1) := by decide +kernel
theorem dX10_few_77 : decode cX10_few 77 = .ok (.ladd, 1) := by decide +kernel
theorem dX10_few_78 : decode cX10_few 78 = .ok (.lstore 5, 2) := by decide +kernel
theorem dX10_few_80 : decode cX10_few 80 = .ok (.iinc 7 1, 3) := by decide +kernel
theorem dX10_few_83 : decode cX10_few 83 = .ok (.goto (-45), 3) := by decide +kernel
theorem dX10_few_86 : decode cX10_few 86 = .ok (.lconst 1, 1) := by decide +kernel
theorem dX10_few_87 : decode cX10_few 87 = .ok (.iconst 4, 1) := by decide +kernel
theorem dX10_few_88 : decode cX10_few 88 = .ok (.iload_n 1, 1) := by decide +kernel
theorem dX10_few_89 : decode cX10_few 89 = .ok (.imul, 1) := by decide +kernel
theorem dX10_few_90 : decode cX10_few 90 = .ok (.lshl, 1) := by decide +kernel
theorem dX10_few_91 : decode cX10_few 91 = .ok (.lstore 7, 2) := by decide +kernel
theorem dX10_few_93 : decode cX10_few 93 = .ok (.iconst 0, 1) := by decide +kernel
theorem dX10_few_94 : decode cX10_few 94 = .ok (.istore 9, 2) := by decide +kernel
theorem dX10_few_96 : decode cX10_few 96 = .ok (.iload 9, 2) := by decide +kernel
theorem dX10_few_98 : decode cX10_few 98 = .ok (.bipush 48, 2) := by decide +kernel
theorem dX10_few_100 : decode cX10_few 100 = .ok (.if_icmp .ge 39, 3) := by decide +kernel
theorem dX10_few_103 : decode cX10_few 103 = .ok (.lload 5, 2) := by decide +kernel
theorem dX10_few_105 : decode cX10_few 105 = .ok (.lconst 1, 1) := by decide +kernel
theorem dX10_few_106 : decode cX10_few 106 = .ok (.land, 1) := by decide +kernel
theorem dX10_few_107 : decode cX10_few 107 = .ok (.lconst 0, 1) := by decide +kernel
theorem dX10_few_108 : decode cX10_few 108 = .ok (.lcmp, 1) := by decide +kernel
theorem dX10_few_109 : decode cX10_few 109 = .ok (.ifCond .ne 30, 3) := by decide +kernel
theorem dX10_few_112 : decode cX10_few 112 = .ok (.lload 7, 2) := by decide +kernel
theorem dX10_few_114 : decode cX10_few 114 = .ok (.lconst 1, 1) := by decide +kernel
theorem dX10_few_115 : decode cX10_few 115 = .ok (.land, 1) := by decide +kernel
theorem dX10_few_116 : decode cX10_few 116 = .ok (.lconst 0, 1) := by decide +kernel
theorem dX10_few_117 : decode cX10_few 117 = .ok (.lcmp, 1) := by decide +kernel
theorem dX10_few_118 : decode cX10_few 118 = .ok (.ifCond .ne 21, 3) := by decide +kernel
theorem dX10_few_121 : decode cX10_few 121 = .ok (.lload 5, 2) := by decide +kernel
theorem dX10_few_123 : decode cX10_few 123 = .ok (.iconst 1, 1) := by decide +kernel
theorem dX10_few_124 : decode cX10_few 124 = .ok (.lshr, 1) := by decide +kernel
theorem dX10_few_125 : decode cX10_few 125 = .ok (.lstore 5, 2) := by decide +kernel
theorem dX10_few_127 : decode cX10_few 127 = .ok (.lload 7, 2) := by decide +kernel
theorem dX10_few_129 : decode cX10_few 129 = .ok (.iconst 1, 1) := by decide +kernel
theorem dX10_few_130 : decode cX10_few 130 = .ok (.lshr, 1) := by decide +kernel
theorem dX10_few_131 : decode cX10_few 131 = .ok (.lstore 7, 2) := by decide +kernel
theorem dX10_few_133 : decode cX10_few 133 = .ok (.iinc 9 1, 3) := by decide +kernel
theorem dX10_few_136 : decode cX10_few 136 = .ok (.goto (-40), 3) := by decide +kernel
theorem dX10_few_139 : decode cX10_few 139 = .ok (.iload 4, 2) := by decide +kernel
theorem dX10_few_141 : decode cX10_few 141 = .ok (.ifCond .ne 8, 3) := by decide +kernel
theorem dX10_few_144 : decode cX10_few 144 = .ok (.lload 5, 2) := by decide +kernel
theorem dX10_few_146 : decode cX10_few 146 = .ok (.goto 5, 3) := by decide +kernel
theorem dX10_few_149 : decode cX10_few 149 = .ok (.lload 7, 2) := by decide +kernel
theorem dX10_few_151 : decode cX10_few 151 = .ok (.lreturn, 1) := by decide +kernel
theorem dX10_road_0 : decode cX10_road 0 = .ok (.aload_n 0, 1) := by decide +kernel
theorem dX10_road_1 : decode cX10_road 1 = .ok (.iload_n 1, 1) := by decide +kernel
theorem dX10_road_2 : decode cX10_road 2 = .ok (.iconst 0, 1) := by decide +kernel
theorem dX10_road_3 : decode cX10_road 3 = .ok (.bipush 99, 2) := by decide +kernel
theorem dX10_road_5 : decode cX10_road 5 = .ok (.invokevirtual 180, 3) := by decide +kernel
theorem dX10_road_8 : decode cX10_road 8 = .ok (.aload_n 0, 1) := by decide +kernel
theorem dX10_road_9 : decode cX10_road 9 = .ok (.iload_n 2, 1) := by decide +kernel
theorem dX10_road_10 : decode cX10_road 10 = .ok (.iconst 0, 1) := by decide +kernel
theorem dX10_road_11 : decode cX10_road 11 = .ok (.bipush 99, 2) := by decide +kernel
theorem dX10_road_13 : decode cX10_road 13 = .ok (.invokevirtual 180, 3) := by decide +kernel
theorem dX10_road_16 : decode cX10_road 16 = .ok (.aload_n 0, 1) := by decide +kernel
theorem dX10_road_17 : decode cX10_road 17 = .ok (.iload_n 3, 1) := by decide +kernel
theorem dX10_road_18 : decode cX10_road 18 = .ok (.iconst 0, 1) := by decide +kernel
theorem dX10_road_19 : decode cX10_road 19 = .ok (.iconst 2, 1) := by decide +kernel
theorem dX10_road_20 : decode cX10_road 20 = .ok (.invokevirtual 180, 3) := by decide +kernel
theorem dX10_road_23 : decode cX10_road 23 = .ok (.iconst 0, 1) := by decide +kernel
theorem dX10_road_24 : decode cX10_road 24 = .ok (.istore 4, 2) := by decide +kernel
theorem dX10_road_26 : decode cX10_road 26 = .ok (.iconst (-1), 1) := by decide +kernel
theorem dX10_road_27 : decode cX10_road 27 = .ok (.istore 5, 2) := by decide +kernel
theorem dX10_road_29 : decode cX10_road 29 = .ok (.iconst 0, 1) := by decide +kernel
theorem dX10_road_30 : decode cX10_road 30 = .ok (.istore 6, 2) := by decide +kernel
theorem dX10_road_32 : decode cX10_road 32 = .ok (.iconst 0, 1) := by decide +kernel
theorem dX10_road_33 : decode cX10_road 33 = .ok (.istore 7, 2) := by decide +kernel
theorem dX10_road_35 : decode cX10_road 35 = .ok (.iload 7, 2) := by decide +kernel
theorem dX10_road_37 : decode cX10_road 37 = .ok (.iconst 4, 1) := by decide +kernel
theorem dX10_road_38 : decode cX10_road 38 = .ok (.if_icmp .ge 106, 3) := by decide +kernel
theorem dX10_road_41 : decode cX10_road 41 = .ok (.iload 7, 2) := by decide +kernel
theorem dX10_road_43 : decode cX10_road 43 = .ok (.iconst 2, 1) := by decide +kernel
theorem dX10_road_44 : decode cX10_road 44 = .ok (.idiv, 1) := by decide +kernel
theorem dX10_road_45 : decode cX10_road 45 = .ok (.istore 8, 2) := by decide +kernel
theorem dX10_road_47 : decode cX10_road 47 = .ok (.iload 7, 2) := by decide +kernel
theorem dX10_road_49 : decode cX10_road 49 = .ok (.iconst 2, 1) := by decide +kernel
theorem dX10_road_50 : decode cX10_road 50 = .ok (.irem, 1) := by decide +kernel
theorem dX10_road_51 : decode cX10_road 51 = .ok (.istore 9, 2) := by decide +kernel
theorem dX10_road_53 : decode cX10_road 53 = .ok (.iload_n 1, 1) := by decide +kernel
theorem dX10_road_54 : decode cX10_road 54 = .ok (.iload_n 2, 1) := by decide +kernel
theorem dX10_road_55 : decode cX10_road 55 = .ok (.iload 8, 2) := by decide +kernel
theorem dX10_road_57 : decode cX10_road 57 = .ok (.iload 9, 2) := by decide +kernel
theorem dX10_road_59 : decode cX10_road 59 = .ok (.invokestatic 365, 3) := by decide +kernel
theorem dX10_road_62 : decode cX10_road 62 = .ok (.iload_n 1, 1) := by decide +kernel
theorem dX10_road_63 : decode cX10_road 63 = .ok (.iload_n 2, 1) := by decide +kernel
theorem dX10_road_64 : decode cX10_road 64 = .ok (.iconst 1, 1) := by decide +kernel
theorem dX10_road_65 : decode cX10_road 65 = .ok (.iload 8, 2) := by decide +kernel
theorem dX10_road_67 : decode cX10_road 67 = .ok (.isub, 1) := by decide +kernel
theorem dX10_road_68 : decode cX10_road 68 = .ok (.iload 9, 2) := by decide +kernel
theorem dX10_road_70 : decode cX10_road 70 = .ok (.invokestatic 365, 3) := by decide +kernel
theorem dX10_road_73 : decode cX10_road 73 = .ok (.if_icmp .lt 65, 3) := by decide +kernel
theorem dX10_road_76 : decode cX10_road 76 = .ok (.iload_n 1, 1) := by decide +kernel
theorem dX10_road_77 : decode cX10_road 77 = .ok (.iload_n 2, 1) := by decide +kernel
theorem dX10_road_78 : decode cX10_road 78 = .ok (.iload 9, 2) := by decide +kernel
theorem dX10_road_80 : decode cX10_road 80 = .ok (.iload 8, 2) := by decide +kernel
theorem dX10_road_82 : decode cX10_road 82 = .ok (.invokestatic 365, 3) := by decide +kernel
theorem dX10_road_85 : decode cX10_road 85 = .ok (.iload_n 1, 1) := by decide +kernel
theorem dX10_road_86 : decode cX10_road 86 = .ok (.iload_n 2, 1) := by decide +kernel
theorem dX10_road_87 : decode cX10_road 87 = .ok (.iconst 1, 1) := by decide +kernel
theorem dX10_road_88 : decode cX10_road 88 = .ok (.iload 9, 2) := by decide +kernel
theorem dX10_road_90 : decode cX10_road 90 = .ok (.isub, 1) := by decide +kernel
theorem dX10_road_91 : decode cX10_road 91 = .ok (.iload 8, 2) := by decide +kernel
theorem dX10_road_93 : decode cX10_road 93 = .ok (.invokestatic 365, 3) := by decide +kernel
theorem dX10_road_96 : decode cX10_road 96 = .ok (.if_icmp .lt 42, 3) := by decide +kernel
theorem dX10_road_99 : decode cX10_road 99 = .ok (.iload 4, 2) := by decide +kernel
theorem dX10_road_101 : decode cX10_road 101 = .ok (.ifCond .ne 34, 3) := by decide +kernel
theorem dX10_road_104 : decode cX10_road 104 = .ok (.bipush 10, 2) := by decide +kernel
theorem dX10_road_106 : decode cX10_road 106 = .ok (.iload 8, 2) := by decide +kernel
theorem dX10_road_108 : decode cX10_road 108 = .ok (.imul, 1) := by decide +kernel
theorem dX10_road_109 : decode cX10_road 109 = .ok (.iload 9, 2) := by decide +kernel
theorem dX10_road_111 : decode cX10_road 111 = .ok (.iadd, 1) := by decide +kernel
theorem dX10_road_112 : decode cX10_road 112 = .ok (.istore 5, 2) := by decide +kernel
theorem dX10_road_114 : decode cX10_road 114 = .ok (.iload_n 1, 1) := by decide +kernel
theorem dX10_road_115 : decode cX10_road 115 = .ok (.iload_n 2, 1) := by decide +kernel
theorem dX10_road_116 : decode cX10_road 116 = .ok (.iload 8, 2) := by decide +kernel
theorem dX10_road_118 : decode cX10_road 118 = .ok (.iload 9, 2) := by decide +kernel
theorem dX10_road_120 : decode cX10_road 120 = .ok (.invokestatic 365, 3) := by decide +kernel
theorem dX10_road_123 : decode cX10_road 123 = .ok (.iload_n 1, 1) := by decide +kernel
theorem dX10_road_124 : decode cX10_road 124 = .ok (.iload_n 2, 1) := by decide +kernel
theorem dX10_road_125 : decode cX10_road 125 = .ok (.iload 9, 2) := by decide +kernel
theorem dX10_road_127 : decode cX10_road 127 = .ok (.iload 8, 2) := by decide +kernel
theorem dX10_road_129 : decode cX10_road 129 = .ok (.invokestatic 365, 3) := by decide +kernel
theorem dX10_road_132 : decode cX10_road 132 = .ok (.iadd, 1) := by decide +kernel
theorem dX10_road_133 : decode cX10_road 133 = .ok (.istore 6, 2) := by decide +kernel
theorem dX10_road_135 : decode cX10_road 135 = .ok (.iinc 4 1, 3) := by decide +kernel
theorem dX10_road_138 : decode cX10_road 138 = .ok (.iinc 7 1, 3) := by decide +kernel
theorem dX10_road_141 : decode cX10_road 141 = .ok (.goto (-106), 3) := by decide +kernel
theorem dX10_road_144 : decode cX10_road 144 = .ok (.iload_n 3, 1) := by decide +kernel
theorem dX10_road_145 : decode cX10_road 145 = .ok (.lookupswitch 33 #[(0, 27), (1, 30)], 27) := by decide +kernel
theorem dX10_road_172 : decode cX10_road 172 = .ok (.iload 4, 2) := by decide +kernel
theorem dX10_road_174 : decode cX10_road 174 = .ok (.ireturn, 1) := by decide +kernel
theorem dX10_road_175 : decode cX10_road 175 = .ok (.iload 5, 2) := by decide +kernel
theorem dX10_road_177 : decode cX10_road 177 = .ok (.ireturn, 1) := by decide +kernel
theorem dX10_road_178 : decode cX10_road 178 = .ok (.iload 6, 2) := by decide +kernel
theorem dX10_road_180 : decode cX10_road 180 = .ok (.ireturn, 1) := by decide +kernel
theorem dX10_clover_0 : decode cX10_clover 0 = .ok (.aload_n 0, 1) := by decide +kernel
theorem dX10_clover_1 : decode cX10_clover 1 = .ok (.iload_n 1, 1) := by decide +kernel
theorem dX10_clover_2 : decode cX10_clover 2 = .ok (.invokevirtual 227, 3) := by decide +kernel
theorem dX10_strongest_0 : decode cX10_strongest 0 = .ok (.aload_n 0, 1) := by decide +kernel
theorem dX10_strongest_1 : decode cX10_strongest 1 = .ok (.iload_n 1, 1) := by decide +kernel
theorem dX10_strongest_2 : decode cX10_strongest 2 = .ok (.iconst 0, 1) := by decide +kernel
theorem dX10_strongest_3 : decode cX10_strongest 3 = .ok (.iconst 1, 1) := by decide +kernel
theorem dX10_strongest_4 : decode cX10_strongest 4 = .ok (.invokevirtual 180, 3) := by decide +kernel
theorem dX10_strongest_7 : decode cX10_strongest 7 = .ok (.iconst (-1), 1) := by decide +kernel
theorem dX10_strongest_8 : decode cX10_strongest 8 = .ok (.istore_n 2, 1) := by decide +kernel
theorem dX10_strongest_9 : decode cX10_strongest 9 = .ok (.iconst 0, 1) := by decide +kernel
theorem dX10_strongest_10 : decode cX10_strongest 10 = .ok (.istore_n 3, 1) := by decide +kernel
theorem dX10_strongest_11 : decode cX10_strongest 11 = .ok (.iload_n 3, 1) := by decide +kernel
theorem dX10_strongest_12 : decode cX10_strongest 12 = .ok (.aload_n 0, 1) := by decide +kernel
theorem dX10_strongest_13 : decode cX10_strongest 13 = .ok (.getfield 19, 3) := by decide +kernel
theorem dX10_strongest_16 : decode cX10_strongest 16 = .ok (.getfield 141, 3) := by decide +kernel
theorem dX10_strongest_19 : decode cX10_strongest 19 = .ok (.if_icmp .ge 46, 3) := by decide +kernel
theorem dX10_strongest_65 : decode cX10_strongest 65 = .ok (.iload_n 1, 1) := by decide +kernel
theorem dX10_strongest_66 : decode cX10_strongest 66 = .ok (.ifCond .eq 8, 3) := by decide +kernel
theorem dX10_strongest_69 : decode cX10_strongest 69 = .ok (.iload_n 2, 1) := by decide +kernel
theorem dX10_strongest_70 : decode cX10_strongest 70 = .ok (.iconst (-1), 1) := by decide +kernel
theorem dX10_strongest_71 : decode cX10_strongest 71 = .ok (.if_icmp .ne 7, 3) := by decide +kernel
theorem dX10_strongest_74 : decode cX10_strongest 74 = .ok (.iload_n 2, 1) := by decide +kernel
theorem dX10_strongest_75 : decode cX10_strongest 75 = .ok (.goto 11, 3) := by decide +kernel
theorem dX10_strongest_86 : decode cX10_strongest 86 = .ok (.ireturn, 1) := by decide +kernel
theorem dX10_ties_0 : decode cX10_ties 0 = .ok (.aload_n 0, 1) := by decide +kernel
theorem dX10_ties_1 : decode cX10_ties 1 = .ok (.iload_n 1, 1) := by decide +kernel
theorem dX10_ties_2 : decode cX10_ties 2 = .ok (.invokevirtual 227, 3) := by decide +kernel
theorem dX10_refuge_0 : decode cX10_refuge 0 = .ok (.aload_n 0, 1) := by decide +kernel
theorem dX10_refuge_1 : decode cX10_refuge 1 = .ok (.iload_n 1, 1) := by decide +kernel
theorem dX10_refuge_2 : decode cX10_refuge 2 = .ok (.invokevirtual 209, 3) := by decide +kernel
theorem dX10_range_0 : decode cX10_range 0 = .ok (.aload_n 0, 1) := by decide +kernel
theorem dX10_range_1 : decode cX10_range 1 = .ok (.iload_n 1, 1) := by decide +kernel
theorem dX10_range_2 : decode cX10_range 2 = .ok (.invokevirtual 227, 3) := by decide +kernel
theorem dX10_march_0 : decode cX10_march 0 = .ok (.aload_n 0, 1) := by decide +kernel
theorem dX10_march_1 : decode cX10_march 1 = .ok (.iload_n 2, 1) := by decide +kernel
theorem dX10_march_2 : decode cX10_march 2 = .ok (.iconst 1, 1) := by decide +kernel
theorem dX10_march_3 : decode cX10_march 3 = .ok (.bipush 96, 2) := by decide +kernel
theorem dX10_march_5 : decode cX10_march 5 = .ok (.invokevirtual 180, 3) := by decide +kernel
theorem dX10_march_8 : decode cX10_march 8 = .ok (.aload_n 0, 1) := by decide +kernel
theorem dX10_march_9 : decode cX10_march 9 = .ok (.iload_n 3, 1) := by decide +kernel
theorem dX10_march_10 : decode cX10_march 10 = .ok (.iconst 0, 1) := by decide +kernel
theorem dX10_march_11 : decode cX10_march 11 = .ok (.iconst 3, 1) := by decide +kernel
theorem dX10_march_12 : decode cX10_march 12 = .ok (.invokevirtual 180, 3) := by decide +kernel
theorem dX10_march_15 : decode cX10_march 15 = .ok (.aload_n 0, 1) := by decide +kernel
theorem dX10_march_16 : decode cX10_march 16 = .ok (.getfield 62, 3) := by decide +kernel
theorem dX10_march_19 : decode cX10_march 19 = .ok (.aload_n 0, 1) := by decide +kernel
theorem dX10_march_20 : decode cX10_march 20 = .ok (.getfield 58, 3) := by decide +kernel
theorem dX10_march_23 : decode cX10_march 23 = .ok (.invokevirtual 297, 3) := by decide +kernel
theorem dX10_march_26 : decode cX10_march 26 = .ok (.aload_n 0, 1) := by decide +kernel
theorem dX10_march_27 : decode cX10_march 27 = .ok (.getfield 62, 3) := by decide +kernel
theorem dX10_march_30 : decode cX10_march 30 = .ok (.iload_n 1, 1) := by decide +kernel
theorem dX10_march_31 : decode cX10_march 31 = .ok (.iload_n 2, 1) := by decide +kernel
theorem dX10_march_32 : decode cX10_march 32 = .ok (.invokevirtual 375, 3) := by decide +kernel
theorem dX10_march_35 : decode cX10_march 35 = .ok (.istore 4, 2) := by decide +kernel
theorem dX10_march_37 : decode cX10_march 37 = .ok (.iload_n 3, 1) := by decide +kernel
theorem dX10_march_38 : decode cX10_march 38 = .ok (.tableswitch 45 0 2 #[26, 29, 37], 26) := by decide +kernel
theorem dX10_march_64 : decode cX10_march 64 = .ok (.iload 4, 2) := by decide +kernel
theorem dX10_march_66 : decode cX10_march 66 = .ok (.ireturn, 1) := by decide +kernel
theorem dX10_march_67 : decode cX10_march 67 = .ok (.aload_n 0, 1) := by decide +kernel
theorem dX10_march_68 : decode cX10_march 68 = .ok (.getfield 62, 3) := by decide +kernel
theorem dX10_march_71 : decode cX10_march 71 = .ok (.invokevirtual 194, 3) := by decide +kernel
theorem dX10_march_74 : decode cX10_march 74 = .ok (.ireturn, 1) := by decide +kernel
theorem dX10_march_75 : decode cX10_march 75 = .ok (.aload_n 0, 1) := by decide +kernel
theorem dX10_march_76 : decode cX10_march 76 = .ok (.getfield 62, 3) := by decide +kernel
theorem dX10_march_79 : decode cX10_march 79 = .ok (.invokevirtual 378, 3) := by decide +kernel
theorem dX10_march_82 : decode cX10_march 82 = .ok (.ireturn, 1) := by decide +kernel
theorem dX10_march_83 : decode cX10_march 83 = .ok (.aload_n 0, 1) := by decide +kernel
theorem dX10_march_84 : decode cX10_march 84 = .ok (.getfield 62, 3) := by decide +kernel
theorem dX10_march_87 : decode cX10_march 87 = .ok (.invokevirtual 187, 3) := by decide +kernel
theorem dX10_march_90 : decode cX10_march 90 = .ok (.ireturn, 1) := by decide +kernel
theorem dX10_span_0 : decode cX10_span 0 = .ok (.aload_n 0, 1) := by decide +kernel
theorem dX10_span_1 : decode cX10_span 1 = .ok (.iload_n 2, 1) := by decide +kernel
theorem dX10_span_2 : decode cX10_span 2 = .ok (.iconst 1, 1) := by decide +kernel
theorem dX10_span_3 : decode cX10_span 3 = .ok (.bipush 20, 2) := by decide +kernel
theorem dX10_span_5 : decode cX10_span 5 = .ok (.invokevirtual 180, 3) := by decide +kernel
theorem dX10_span_8 : decode cX10_span 8 = .ok (.aload_n 0, 1) := by decide +kernel
theorem dX10_span_9 : decode cX10_span 9 = .ok (.iload_n 3, 1) := by decide +kernel
theorem dX10_span_10 : decode cX10_span 10 = .ok (.iconst 1, 1) := by decide +kernel
theorem dX10_span_11 : decode cX10_span 11 = .ok (.bipush 96, 2) := by decide +kernel
theorem dX10_span_13 : decode cX10_span 13 = .ok (.invokevirtual 180, 3) := by decide +kernel
theorem dX10_span_16 : decode cX10_span 16 = .ok (.aload_n 0, 1) := by decide +kernel
theorem dX10_span_17 : decode cX10_span 17 = .ok (.iload 4, 2) := by decide +kernel
theorem dX10_span_19 : decode cX10_span 19 = .ok (.iconst 0, 1) := by decide +kernel
theorem dX10_span_20 : decode cX10_span 20 = .ok (.iconst 2, 1) := by decide +kernel
theorem dX10_span_21 : decode cX10_span 21 = .ok (.invokevirtual 180, 3) := by decide +kernel
theorem dX10_span_24 : decode cX10_span 24 = .ok (.aload_n 0, 1) := by decide +kernel
theorem dX10_span_25 : decode cX10_span 25 = .ok (.iload 5, 2) := by decide +kernel
theorem dX10_span_27 : decode cX10_span 27 = .ok (.iconst 0, 1) := by decide +kernel
theorem dX10_span_28 : decode cX10_span 28 = .ok (.aload_n 0, 1) := by decide +kernel
theorem dX10_span_29 : decode cX10_span 29 = .ok (.getfield 19, 3) := by decide +kernel
theorem dX10_span_32 : decode cX10_span 32 = .ok (.getfield 141, 3) := by decide +kernel
theorem dX10_span_35 : decode cX10_span 35 = .ok (.iconst 1, 1) := by decide +kernel
theorem dX10_span_36 : decode cX10_span 36 = .ok (.isub, 1) := by decide +kernel
theorem dX10_span_37 : decode cX10_span 37 = .ok (.invokevirtual 180, 3) := by decide +kernel
theorem dX10_image_0 : decode cX10_image 0 = .ok (.aload_n 0, 1) := by decide +kernel
theorem dX10_image_1 : decode cX10_image 1 = .ok (.getfield 135, 3) := by decide +kernel
theorem dX10_image_4 : decode cX10_image 4 = .ok (.iconst 3, 1) := by decide +kernel
theorem dX10_image_5 : decode cX10_image 5 = .ok (.if_icmp .lt 5, 3) := by decide +kernel
theorem dX10_image_10 : decode cX10_image 10 = .ok (.aload_n 0, 1) := by decide +kernel
theorem dX10_image_11 : decode cX10_image 11 = .ok (.getfield 72, 3) := by decide +kernel
theorem dX10_image_14 : decode cX10_image 14 = .ok (.aload_n 0, 1) := by decide +kernel
theorem dX10_image_15 : decode cX10_image 15 = .ok (.getfield 135, 3) := by decide +kernel
theorem dX10_image_18 : decode cX10_image 18 = .ok (.aaload, 1) := by decide +kernel
theorem dX10_image_19 : decode cX10_image 19 = .ok (.aload_n 0, 1) := by decide +kernel
theorem dX10_image_20 : decode cX10_image 20 = .ok (.getfield 68, 3) := by decide +kernel
theorem dX10_image_23 : decode cX10_image 23 = .ok (.invokevirtual 392, 3) := by decide +kernel
theorem dX10_image_26 : decode cX10_image 26 = .ok (.aload_n 0, 1) := by decide +kernel
theorem dX10_image_27 : decode cX10_image 27 = .ok (.getfield 72, 3) := by decide +kernel
theorem dX10_image_30 : decode cX10_image 30 = .ok (.aload_n 0, 1) := by decide +kernel
theorem dX10_image_31 : decode cX10_image 31 = .ok (.getfield 135, 3) := by decide +kernel
theorem dX10_image_34 : decode cX10_image 34 = .ok (.aaload, 1) := by decide +kernel
theorem dX10_image_35 : decode cX10_image 35 = .ok (.aload_n 0, 1) := by decide +kernel
theorem dX10_image_36 : decode cX10_image 36 = .ok (.getfield 58, 3) := by decide +kernel
theorem dX10_image_39 : decode cX10_image 39 = .ok (.invokevirtual 155, 3) := by decide +kernel
theorem dX10_image_42 : decode cX10_image 42 = .ok (.aload_n 0, 1) := by decide +kernel
theorem dX10_image_43 : decode cX10_image 43 = .ok (.dup, 1) := by decide +kernel
theorem dX10_image_44 : decode cX10_image 44 = .ok (.getfield 135, 3) := by decide +kernel
theorem dX10_image_47 : decode cX10_image 47 = .ok (.iconst 1, 1) := by decide +kernel
theorem dX10_image_48 : decode cX10_image 48 = .ok (.iadd, 1) := by decide +kernel
theorem dX10_image_49 : decode cX10_image 49 = .ok (.putfield 135, 3) := by decide +kernel
theorem dX10_image_52 : decode cX10_image 52 = .ok (.aload_n 0, 1) := by decide +kernel
theorem dX10_image_53 : decode cX10_image 53 = .ok (.getfield 135, 3) := by decide +kernel
theorem dX10_image_56 : decode cX10_image 56 = .ok (.ireturn, 1) := by decide +kernel
theorem dX10_restore_0 : decode cX10_restore 0 = .ok (.aload_n 0, 1) := by decide +kernel
theorem dX10_restore_1 : decode cX10_restore 1 = .ok (.getfield 135, 3) := by decide +kernel
theorem dX10_restore_4 : decode cX10_restore 4 = .ok (.ifCond .ne 5, 3) := by decide +kernel
theorem dX10_restore_7 : decode cX10_restore 7 = .ok (.iconst (-1), 1) := by decide +kernel
theorem dX10_restore_8 : decode cX10_restore 8 = .ok (.ireturn, 1) := by decide +kernel
theorem dX10_status_0 : decode cX10_status 0 = .ok (.iload_n 1, 1) := by decide +kernel
theorem dX10_status_1 : decode cX10_status 1 = .ok (.lookupswitch 37 #[(0, 27), (1, 32)], 27) := by decide +kernel
theorem dX10_status_28 : decode cX10_status 28 = .ok (.aload_n 0, 1) := by decide +kernel
theorem dX10_status_29 : decode cX10_status 29 = .ok (.getfield 261, 3) := by decide +kernel
theorem dX10_status_32 : decode cX10_status 32 = .ok (.ireturn, 1) := by decide +kernel
theorem dX10_status_33 : decode cX10_status 33 = .ok (.aload_n 0, 1) := by decide +kernel
theorem dX10_status_34 : decode cX10_status 34 = .ok (.getfield 395, 3) := by decide +kernel
theorem dX10_status_37 : decode cX10_status 37 = .ok (.ireturn, 1) := by decide +kernel
theorem dX10_status_38 : decode cX10_status 38 = .ok (.iconst (-1), 1) := by decide +kernel
theorem dX10_status_39 : decode cX10_status 39 = .ok (.ireturn, 1) := by decide +kernel
theorem dX10_count_0 : decode cX10_count 0 = .ok (.iload_n 1, 1) := by decide +kernel
theorem dX10_count_1 : decode cX10_count 1 = .ok (.tableswitch 48 0 2 #[27, 32, 40], 27) := by decide +kernel
theorem dX10_count_28 : decode cX10_count 28 = .ok (.aload_n 0, 1) := by decide +kernel
theorem dX10_count_29 : decode cX10_count 29 = .ok (.getfield 135, 3) := by decide +kernel
theorem dX10_count_32 : decode cX10_count 32 = .ok (.ireturn, 1) := by decide +kernel
theorem dX10_count_33 : decode cX10_count 33 = .ok (.aload_n 0, 1) := by decide +kernel
theorem dX10_count_34 : decode cX10_count 34 = .ok (.getfield 10, 3) := by decide +kernel
theorem dX10_count_37 : decode cX10_count 37 = .ok (.getfield 105, 3) := by decide +kernel
theorem dX10_count_40 : decode cX10_count 40 = .ok (.ireturn, 1) := by decide +kernel
theorem dX10_count_41 : decode cX10_count 41 = .ok (.aload_n 0, 1) := by decide +kernel
theorem dX10_count_42 : decode cX10_count 42 = .ok (.getfield 68, 3) := by decide +kernel
theorem dX10_count_45 : decode cX10_count 45 = .ok (.getfield 132, 3) := by decide +kernel
theorem dX10_count_48 : decode cX10_count 48 = .ok (.ireturn, 1) := by decide +kernel
theorem dX10_count_49 : decode cX10_count 49 = .ok (.iconst (-1), 1) := by decide +kernel
theorem dX10_count_50 : decode cX10_count 50 = .ok (.ireturn, 1) := by decide +kernel
theorem dX10_openText_0 : decode cX10_openText 0 = .ok (.aload_n 0, 1) := by decide +kernel
theorem dX10_openText_1 : decode cX10_openText 1 = .ok (.iload_n 1, 1) := by decide +kernel
theorem dX10_openText_2 : decode cX10_openText 2 = .ok (.iconst 0, 1) := by decide +kernel
theorem dX10_openText_3 : decode cX10_openText 3 = .ok (.iload_n 2, 1) := by decide +kernel
theorem dX10_openText_4 : decode cX10_openText 4 = .ok (.aload_n 0, 1) := by decide +kernel
theorem dX10_openText_5 : decode cX10_openText 5 = .ok (.getfield 10, 3) := by decide +kernel
theorem dX10_openText_8 : decode cX10_openText 8 = .ok (.getfield 105, 3) := by decide +kernel
theorem dX10_openText_11 : decode cX10_openText 11 = .ok (.invokestatic 384, 3) := by decide +kernel
theorem dX10_openText_14 : decode cX10_openText 14 = .ok (.invokevirtual 180, 3) := by decide +kernel
theorem dX10_openText_17 : decode cX10_openText 17 = .ok (.aload_n 0, 1) := by decide +kernel
theorem dX10_openText_18 : decode cX10_openText 18 = .ok (.getfield 10, 3) := by decide +kernel
theorem dX10_openText_21 : decode cX10_openText 21 = .ok (.iload_n 1, 1) := by decide +kernel
theorem dX10_openText_22 : decode cX10_openText 22 = .ok (.invokevirtual 398, 3) := by decide +kernel
theorem dX10_openText_25 : decode cX10_openText 25 = .ok (.return_, 1) := by decide +kernel
theorem dX10_needForm_0 : decode cX10_needForm 0 = .ok (.iload_n 1, 1) := by decide +kernel
theorem dX10_needForm_1 : decode cX10_needForm 1 = .ok (.iconst 0, 1) := by decide +kernel
theorem dX10_needForm_2 : decode cX10_needForm 2 = .ok (.aload_n 0, 1) := by decide +kernel
theorem dX10_needForm_3 : decode cX10_needForm 3 = .ok (.getfield 19, 3) := by decide +kernel
theorem dX10_needForm_6 : decode cX10_needForm 6 = .ok (.getfield 149, 3) := by decide +kernel
theorem dX10_needForm_9 : decode cX10_needForm 9 = .ok (.iconst 1, 1) := by decide +kernel
theorem dX10_needForm_10 : decode cX10_needForm 10 = .ok (.isub, 1) := by decide +kernel
theorem dX10_needForm_11 : decode cX10_needForm 11 = .ok (.invokestatic 257, 3) := by decide +kernel
theorem dX10_needForm_14 : decode cX10_needForm 14 = .ok (.ifCond .ne 24, 3) := by decide +kernel
theorem dX10_needForm_17 : decode cX10_needForm 17 = .ok (.aload_n 0, 1) := by decide +kernel
theorem dX10_needForm_18 : decode cX10_needForm 18 = .ok (.dup, 1) := by decide +kernel
theorem dX10_needForm_19 : decode cX10_needForm 19 = .ok (.getfield 261, 3) := by decide +kernel
theorem dX10_needForm_22 : decode cX10_needForm 22 = .ok (.iconst 1, 1) := by decide +kernel
theorem dX10_needForm_23 : decode cX10_needForm 23 = .ok (.iadd, 1) := by decide +kernel
theorem dX10_needForm_24 : decode cX10_needForm 24 = .ok (.putfield 261, 3) := by decide +kernel
theorem dX10_needForm_27 : decode cX10_needForm 27 = .ok (.new 264, 3) := by decide +kernel
theorem dX10_needForm_30 : decode cX10_needForm 30 = .ok (.dup, 1) := by decide +kernel
theorem dX10_needForm_31 : decode cX10_needForm 31 = .ok (.ldc_w 401, 3) := by decide +kernel
theorem dX10_needForm_34 : decode cX10_needForm 34 = .ok (.invokespecial 268, 3) := by decide +kernel
theorem dX10_needForm_37 : decode cX10_needForm 37 = .ok (.athrow, 1) := by decide +kernel
theorem dX10_needHare_0 : decode cX10_needHare 0 = .ok (.iload_n 1, 1) := by decide +kernel
theorem dX10_needHare_1 : decode cX10_needHare 1 = .ok (.iconst 0, 1) := by decide +kernel
theorem dX10_needHare_2 : decode cX10_needHare 2 = .ok (.aload_n 0, 1) := by decide +kernel
theorem dX10_needHare_3 : decode cX10_needHare 3 = .ok (.getfield 19, 3) := by decide +kernel
theorem dX10_needHare_6 : decode cX10_needHare 6 = .ok (.getfield 141, 3) := by decide +kernel
theorem dX10_needHare_9 : decode cX10_needHare 9 = .ok (.iconst 1, 1) := by decide +kernel
theorem dX10_needHare_10 : decode cX10_needHare 10 = .ok (.isub, 1) := by decide +kernel
theorem dX10_needHare_11 : decode cX10_needHare 11 = .ok (.invokestatic 257, 3) := by decide +kernel
theorem dX10_needHare_14 : decode cX10_needHare 14 = .ok (.ifCond .ne 24, 3) := by decide +kernel
theorem dX10_needHare_17 : decode cX10_needHare 17 = .ok (.aload_n 0, 1) := by decide +kernel
theorem dX10_needHare_18 : decode cX10_needHare 18 = .ok (.dup, 1) := by decide +kernel
theorem dX10_needHare_19 : decode cX10_needHare 19 = .ok (.getfield 261, 3) := by decide +kernel
theorem dX10_needHare_22 : decode cX10_needHare 22 = .ok (.iconst 1, 1) := by decide +kernel
theorem dX10_needHare_23 : decode cX10_needHare 23 = .ok (.iadd, 1) := by decide +kernel
theorem dX10_needHare_24 : decode cX10_needHare 24 = .ok (.putfield 261, 3) := by decide +kernel
theorem dX10_needHare_27 : decode cX10_needHare 27 = .ok (.new 264, 3) := by decide +kernel
theorem dX10_needHare_30 : decode cX10_needHare 30 = .ok (.dup, 1) := by decide +kernel
theorem dX10_needHare_31 : decode cX10_needHare 31 = .ok (.ldc_w 403, 3) := by decide +kernel
theorem dX10_needHare_34 : decode cX10_needHare 34 = .ok (.invokespecial 268, 3) := by decide +kernel
theorem dX10_needHare_37 : decode cX10_needHare 37 = .ok (.athrow, 1) := by decide +kernel
theorem dX10_needWithin_0 : decode cX10_needWithin 0 = .ok (.aload_n 0, 1) := by decide +kernel
theorem dX10_needWithin_1 : decode cX10_needWithin 1 = .ok (.iload_n 1, 1) := by decide +kernel
theorem dX10_needWithin_2 : decode cX10_needWithin 2 = .ok (.iload_n 2, 1) := by decide +kernel
theorem dX10_needWithin_3 : decode cX10_needWithin 3 = .ok (.iload_n 3, 1) := by decide +kernel
theorem dX10_needWithin_4 : decode cX10_needWithin 4 = .ok (.invokestatic 257, 3) := by decide +kernel
theorem dX10_needWithin_7 : decode cX10_needWithin 7 = .ok (.invokevirtual 322, 3) := by decide +kernel
theorem dX10_needWithin_10 : decode cX10_needWithin 10 = .ok (.return_, 1) := by decide +kernel
theorem dX10_needLegal_0 : decode cX10_needLegal 0 = .ok (.iload_n 1, 1) := by decide +kernel
theorem dX10_needLegal_1 : decode cX10_needLegal 1 = .ok (.ifCond .ne 24, 3) := by decide +kernel
theorem dX10_needLegal_4 : decode cX10_needLegal 4 = .ok (.aload_n 0, 1) := by decide +kernel
theorem dX10_needLegal_5 : decode cX10_needLegal 5 = .ok (.dup, 1) := by decide +kernel
theorem dX10_needLegal_6 : decode cX10_needLegal 6 = .ok (.getfield 395, 3) := by decide +kernel
theorem dX10_needLegal_9 : decode cX10_needLegal 9 = .ok (.iconst 1, 1) := by decide +kernel
theorem dX10_needLegal_10 : decode cX10_needLegal 10 = .ok (.iadd, 1) := by decide +kernel
theorem dX10_needLegal_11 : decode cX10_needLegal 11 = .ok (.putfield 395, 3) := by decide +kernel
theorem dX10_needLegal_14 : decode cX10_needLegal 14 = .ok (.new 405, 3) := by decide +kernel
theorem dX10_needLegal_17 : decode cX10_needLegal 17 = .ok (.dup, 1) := by decide +kernel
theorem dX10_needLegal_18 : decode cX10_needLegal 18 = .ok (.ldc_w 407, 3) := by decide +kernel
theorem dX10_needLegal_21 : decode cX10_needLegal 21 = .ok (.invokespecial 409, 3) := by decide +kernel
theorem dX10_needLegal_24 : decode cX10_needLegal 24 = .ok (.athrow, 1) := by decide +kernel
theorem dX10_needLegal_25 : decode cX10_needLegal 25 = .ok (.return_, 1) := by decide +kernel
theorem dX10_gain_0 : decode cX10_gain 0 = .ok (.iload_n 2, 1) := by decide +kernel
theorem dX10_gain_1 : decode cX10_gain 1 = .ok (.iconst 1, 1) := by decide +kernel
theorem dX10_gain_2 : decode cX10_gain 2 = .ok (.if_icmp .ne 14, 3) := by decide +kernel
theorem dX10_gain_5 : decode cX10_gain 5 = .ok (.iload_n 3, 1) := by decide +kernel
theorem dX10_gain_6 : decode cX10_gain 6 = .ok (.iconst 1, 1) := by decide +kernel
theorem dX10_gain_7 : decode cX10_gain 7 = .ok (.if_icmp .ne 7, 3) := by decide +kernel
theorem dX10_gain_10 : decode cX10_gain 10 = .ok (.iload_n 0, 1) := by decide +kernel
theorem dX10_gain_11 : decode cX10_gain 11 = .ok (.goto 4, 3) := by decide +kernel
theorem dX10_gain_14 : decode cX10_gain 14 = .ok (.iconst 0, 1) := by decide +kernel
theorem dX10_gain_15 : decode cX10_gain 15 = .ok (.ireturn, 1) := by decide +kernel
theorem dX10_gain_16 : decode cX10_gain 16 = .ok (.iload_n 3, 1) := by decide +kernel
theorem dX10_gain_17 : decode cX10_gain 17 = .ok (.iconst 1, 1) := by decide +kernel
theorem dX10_gain_18 : decode cX10_gain 18 = .ok (.if_icmp .ne 9, 3) := by decide +kernel
theorem dX10_gain_21 : decode cX10_gain 21 = .ok (.iload_n 0, 1) := by decide +kernel
theorem dX10_gain_22 : decode cX10_gain 22 = .ok (.iload_n 1, 1) := by decide +kernel
theorem dX10_gain_23 : decode cX10_gain 23 = .ok (.iadd, 1) := by decide +kernel
theorem dX10_gain_24 : decode cX10_gain 24 = .ok (.goto 5, 3) := by decide +kernel
theorem dX10_gain_27 : decode cX10_gain 27 = .ok (.iload_n 1, 1) := by decide +kernel
theorem dX10_gain_28 : decode cX10_gain 28 = .ok (.ineg, 1) := by decide +kernel
theorem dX10_gain_29 : decode cX10_gain 29 = .ok (.ireturn, 1) := by decide +kernel
theorem dX10_choices_0 : decode cX10_choices 0 = .ok (.lconst 1, 1) := by decide +kernel
theorem dX10_choices_1 : decode cX10_choices 1 = .ok (.lstore_n 2, 1) := by decide +kernel
theorem dX10_choices_2 : decode cX10_choices 2 = .ok (.iconst 1, 1) := by decide +kernel
theorem dX10_choices_3 : decode cX10_choices 3 = .ok (.istore 4, 2) := by decide +kernel
theorem dX10_choices_5 : decode cX10_choices 5 = .ok (.iload 4, 2) := by decide +kernel
theorem dX10_choices_7 : decode cX10_choices 7 = .ok (.iload_n 1, 1) := by decide +kernel
theorem dX10_choices_8 : decode cX10_choices 8 = .ok (.if_icmp .gt 23, 3) := by decide +kernel
theorem dX10_choices_11 : decode cX10_choices 11 = .ok (.lload_n 2, 1) := by decide +kernel
theorem dX10_choices_12 : decode cX10_choices 12 = .ok (.iload_n 0, 1) := by decide +kernel
theorem dX10_choices_13 : decode cX10_choices 13 = .ok (.iload 4, 2) := by decide +kernel
theorem dX10_choices_15 : decode cX10_choices 15 = .ok (.isub, 1) := by decide +kernel
theorem dX10_choices_16 : decode cX10_choices 16 = .ok (.iconst 1, 1) := by decide +kernel
theorem dX10_choices_17 : decode cX10_choices 17 = .ok (.iadd, 1) := by decide +kernel
theorem dX10_choices_18 : decode cX10_choices 18 = .ok (.i2l, 1) := by decide +kernel
theorem dX10_choices_19 : decode cX10_choices 19 = .ok (.lmul, 1) := by decide +kernel
theorem dX10_choices_20 : decode cX10_choices 20 = .ok (.iload 4, 2) := by decide +kernel
theorem dX10_choices_22 : decode cX10_choices 22 = .ok (.i2l, 1) := by decide +kernel
theorem dX10_choices_23 : decode cX10_choices 23 = .ok (.ldiv, 1) := by decide +kernel
theorem dX10_choices_24 : decode cX10_choices 24 = .ok (.lstore_n 2, 1) := by decide +kernel
theorem dX10_choices_25 : decode cX10_choices 25 = .ok (.iinc 4 1, 3) := by decide +kernel
theorem dX10_choices_28 : decode cX10_choices 28 = .ok (.goto (-23), 3) := by decide +kernel
theorem dX10_choices_31 : decode cX10_choices 31 = .ok (.lload_n 2, 1) := by decide +kernel
theorem dX10_choices_32 : decode cX10_choices 32 = .ok (.lreturn, 1) := by decide +kernel
theorem dX10_power_0 : decode cX10_power 0 = .ok (.lconst 1, 1) := by decide +kernel
theorem dX10_power_1 : decode cX10_power 1 = .ok (.lstore_n 2, 1) := by decide +kernel
theorem dX10_power_2 : decode cX10_power 2 = .ok (.iconst 0, 1) := by decide +kernel
theorem dX10_power_3 : decode cX10_power 3 = .ok (.istore 4, 2) := by decide +kernel
theorem dX10_power_5 : decode cX10_power 5 = .ok (.iload 4, 2) := by decide +kernel
theorem dX10_power_7 : decode cX10_power 7 = .ok (.iload_n 1, 1) := by decide +kernel
theorem dX10_power_8 : decode cX10_power 8 = .ok (.if_icmp .ge 14, 3) := by decide +kernel
theorem dX10_power_11 : decode cX10_power 11 = .ok (.lload_n 2, 1) := by decide +kernel
theorem dX10_power_12 : decode cX10_power 12 = .ok (.iload_n 0, 1) := by decide +kernel
theorem dX10_power_13 : decode cX10_power 13 = .ok (.i2l, 1) := by decide +kernel
theorem dX10_power_14 : decode cX10_power 14 = .ok (.lmul, 1) := by decide +kernel
theorem dX10_power_15 : decode cX10_power 15 = .ok (.lstore_n 2, 1) := by decide +kernel
theorem dX10_power_16 : decode cX10_power 16 = .ok (.iinc 4 1, 3) := by decide +kernel
theorem dX10_power_19 : decode cX10_power 19 = .ok (.goto (-14), 3) := by decide +kernel
theorem dX10_power_22 : decode cX10_power 22 = .ok (.lload_n 2, 1) := by decide +kernel
theorem dX10_power_23 : decode cX10_power 23 = .ok (.lreturn, 1) := by decide +kernel
theorem dX10_within_0 : decode cX10_within 0 = .ok (.iload_n 0, 1) := by decide +kernel
theorem dX10_within_1 : decode cX10_within 1 = .ok (.iload_n 1, 1) := by decide +kernel
theorem dX10_within_2 : decode cX10_within 2 = .ok (.if_icmp .lt 12, 3) := by decide +kernel
theorem dX10_within_5 : decode cX10_within 5 = .ok (.iload_n 0, 1) := by decide +kernel
theorem dX10_within_6 : decode cX10_within 6 = .ok (.iload_n 2, 1) := by decide +kernel
theorem dX10_within_7 : decode cX10_within 7 = .ok (.if_icmp .gt 7, 3) := by decide +kernel
theorem dX10_within_10 : decode cX10_within 10 = .ok (.iconst 1, 1) := by decide +kernel
theorem dX10_within_11 : decode cX10_within 11 = .ok (.goto 4, 3) := by decide +kernel
theorem dX10_within_14 : decode cX10_within 14 = .ok (.iconst 0, 1) := by decide +kernel
theorem dX10_within_15 : decode cX10_within 15 = .ok (.ireturn, 1) := by decide +kernel
theorem dX11_thrown_0 : decode cX11_thrown 0 = .ok (.aload_n 0, 1) := by decide +kernel
theorem dX11_thrown_1 : decode cX11_thrown 1 = .ok (.getfield 3, 3) := by decide +kernel
theorem dX11_thrown_4 : decode cX11_thrown 4 = .ok (.ireturn, 1) := by decide +kernel
theorem dX11_may_0 : decode cX11_may 0 = .ok (.iload_n 1, 1) := by decide +kernel
theorem dX11_may_1 : decode cX11_may 1 = .ok (.ifCond .ne 25, 3) := by decide +kernel
theorem dX11_may_4 : decode cX11_may 4 = .ok (.aload_n 0, 1) := by decide +kernel
theorem dX11_may_5 : decode cX11_may 5 = .ok (.getfield 3, 3) := by decide +kernel
theorem dX11_may_8 : decode cX11_may 8 = .ok (.ifCond .ne 18, 3) := by decide +kernel
theorem dX11_may_11 : decode cX11_may 11 = .ok (.aload_n 0, 1) := by decide +kernel
theorem dX11_may_12 : decode cX11_may 12 = .ok (.iload_n 2, 1) := by decide +kernel
theorem dX11_may_13 : decode cX11_may 13 = .ok (.putfield 3, 3) := by decide +kernel
theorem dX11_may_16 : decode cX11_may 16 = .ok (.aload_n 0, 1) := by decide +kernel
theorem dX11_may_17 : decode cX11_may 17 = .ok (.getfield 7, 3) := by decide +kernel
theorem dX11_may_20 : decode cX11_may 20 = .ok (.iload_n 3, 1) := by decide +kernel
theorem dX11_may_21 : decode cX11_may 21 = .ok (.dup2, 1) := by decide +kernel
theorem dX11_may_22 : decode cX11_may 22 = .ok (.iaload, 1) := by decide +kernel
theorem dX11_may_23 : decode cX11_may 23 = .ok (.iconst 1, 1) := by decide +kernel
theorem dX11_may_24 : decode cX11_may 24 = .ok (.iadd, 1) := by decide +kernel
theorem dX11_may_25 : decode cX11_may 25 = .ok (.iastore, 1) := by decide +kernel
theorem dX11_may_26 : decode cX11_may 26 = .ok (.aload_n 0, 1) := by decide +kernel
theorem dX11_may_27 : decode cX11_may 27 = .ok (.getfield 3, 3) := by decide +kernel
theorem dX11_may_30 : decode cX11_may 30 = .ok (.ifCond .ne 7, 3) := by decide +kernel
theorem dX11_may_33 : decode cX11_may 33 = .ok (.iconst 1, 1) := by decide +kernel
theorem dX11_may_34 : decode cX11_may 34 = .ok (.goto 4, 3) := by decide +kernel
theorem dX11_may_37 : decode cX11_may 37 = .ok (.iconst 0, 1) := by decide +kernel
theorem dX11_may_38 : decode cX11_may 38 = .ok (.ireturn, 1) := by decide +kernel
theorem dX11_within_0 : decode cX11_within 0 = .ok (.iload_n 0, 1) := by decide +kernel
theorem dX11_within_1 : decode cX11_within 1 = .ok (.iload_n 1, 1) := by decide +kernel
theorem dX11_within_2 : decode cX11_within 2 = .ok (.if_icmp .lt 12, 3) := by decide +kernel
theorem dX11_within_5 : decode cX11_within 5 = .ok (.iload_n 0, 1) := by decide +kernel
theorem dX11_within_6 : decode cX11_within 6 = .ok (.iload_n 2, 1) := by decide +kernel
theorem dX11_within_7 : decode cX11_within 7 = .ok (.if_icmp .gt 7, 3) := by decide +kernel
theorem dX11_within_10 : decode cX11_within 10 = .ok (.iconst 1, 1) := by decide +kernel
theorem dX11_within_11 : decode cX11_within 11 = .ok (.goto 4, 3) := by decide +kernel
theorem dX11_within_14 : decode cX11_within 14 = .ok (.iconst 0, 1) := by decide +kernel
theorem dX11_within_15 : decode cX11_within 15 = .ok (.ireturn, 1) := by decide +kernel
theorem dX11_init_0 : decode cX11_init 0 = .ok (.aload_n 0, 1) := by decide +kernel
theorem dX11_init_1 : decode cX11_init 1 = .ok (.invokespecial 11, 3) := by decide +kernel
theorem dX11_init_4 : decode cX11_init 4 = .ok (.aload_n 0, 1) := by decide +kernel
theorem dX11_init_5 : decode cX11_init 5 = .ok (.iconst 2, 1) := by decide +kernel
theorem dX11_init_6 : decode cX11_init 6 = .ok (.newarray .int, 2) := by decide +kernel
theorem dX11_init_8 : decode cX11_init 8 = .ok (.putfield 7, 3) := by decide +kernel
theorem dX11_init_11 : decode cX11_init 11 = .ok (.aload_n 0, 1) := by decide +kernel
theorem dX11_init_12 : decode cX11_init 12 = .ok (.iconst (-1), 1) := by decide +kernel
theorem dX11_init_13 : decode cX11_init 13 = .ok (.putfield 17, 3) := by decide +kernel
theorem dX11_init_16 : decode cX11_init 16 = .ok (.aload_n 0, 1) := by decide +kernel
theorem dX11_init_17 : decode cX11_init 17 = .ok (.sipush 600, 3) := by decide +kernel
theorem dX11_init_20 : decode cX11_init 20 = .ok (.newarray .int, 2) := by decide +kernel
theorem dX11_init_22 : decode cX11_init 22 = .ok (.putfield 20, 3) := by decide +kernel
theorem dX11_init_25 : decode cX11_init 25 = .ok (.aload_n 0, 1) := by decide +kernel
theorem dX11_init_26 : decode cX11_init 26 = .ok (.bipush 16, 2) := by decide +kernel
theorem dX11_init_28 : decode cX11_init 28 = .ok (.newarray .int, 2) := by decide +kernel
theorem dX11_init_30 : decode cX11_init 30 = .ok (.putfield 23, 3) := by decide +kernel
theorem dX11_init_33 : decode cX11_init 33 = .ok (.aload_n 0, 1) := by decide +kernel
theorem dX11_init_34 : decode cX11_init 34 = .ok (.bipush 12, 2) := by decide +kernel
theorem dX11_init_36 : decode cX11_init 36 = .ok (.newarray .int, 2) := by decide +kernel
theorem dX11_init_38 : decode cX11_init 38 = .ok (.putfield 26, 3) := by decide +kernel
theorem dX11_init_41 : decode cX11_init 41 = .ok (.aload_n 0, 1) := by decide +kernel
theorem dX11_init_42 : decode cX11_init 42 = .ok (.bipush 8, 2) := by decide +kernel
theorem dX11_init_44 : decode cX11_init 44 = .ok (.newarray .int, 2) := by decide +kernel
theorem dX11_init_46 : decode cX11_init 46 = .ok (.putfield 29, 3) := by decide +kernel
theorem dX11_init_49 : decode cX11_init 49 = .ok (.aload_n 0, 1) := by decide +kernel
theorem dX11_init_50 : decode cX11_init 50 = .ok (.bipush 36, 2) := by decide +kernel
theorem dX11_init_52 : decode cX11_init 52 = .ok (.newarray .int, 2) := by decide +kernel
theorem dX11_init_54 : decode cX11_init 54 = .ok (.putfield 32, 3) := by decide +kernel
theorem dX11_init_57 : decode cX11_init 57 = .ok (.aload_n 0, 1) := by decide +kernel
theorem dX11_init_58 : decode cX11_init 58 = .ok (.bipush 16, 2) := by decide +kernel
theorem dX11_init_60 : decode cX11_init 60 = .ok (.newarray .int, 2) := by decide +kernel
theorem dX11_init_62 : decode cX11_init 62 = .ok (.putfield 35, 3) := by decide +kernel
theorem dX11_init_65 : decode cX11_init 65 = .ok (.aload_n 0, 1) := by decide +kernel
theorem dX11_init_66 : decode cX11_init 66 = .ok (.bipush 12, 2) := by decide +kernel
theorem dX11_init_68 : decode cX11_init 68 = .ok (.newarray .int, 2) := by decide +kernel
theorem dX11_init_70 : decode cX11_init 70 = .ok (.putfield 38, 3) := by decide +kernel
theorem dX11_init_73 : decode cX11_init 73 = .ok (.aload_n 0, 1) := by decide +kernel
theorem dX11_init_74 : decode cX11_init 74 = .ok (.bipush 8, 2) := by decide +kernel
theorem dX11_init_76 : decode cX11_init 76 = .ok (.newarray .int, 2) := by decide +kernel
theorem dX11_init_78 : decode cX11_init 78 = .ok (.putfield 41, 3) := by decide +kernel
theorem dX11_init_81 : decode cX11_init 81 = .ok (.aload_n 0, 1) := by decide +kernel
theorem dX11_init_82 : decode cX11_init 82 = .ok (.sipush 150, 3) := by decide +kernel
theorem dX11_init_85 : decode cX11_init 85 = .ok (.newarray .int, 2) := by decide +kernel
theorem dX11_init_87 : decode cX11_init 87 = .ok (.putfield 44, 3) := by decide +kernel
theorem dX11_init_90 : decode cX11_init 90 = .ok (.aload_n 0, 1) := by decide +kernel
theorem dX11_init_91 : decode cX11_init 91 = .ok (.sipush 150, 3) := by decide +kernel
theorem dX11_init_94 : decode cX11_init 94 = .ok (.newarray .int, 2) := by decide +kernel
theorem dX11_init_96 : decode cX11_init 96 = .ok (.putfield 47, 3) := by decide +kernel
theorem dX11_init_99 : decode cX11_init 99 = .ok (.aload_n 0, 1) := by decide +kernel
theorem dX11_init_100 : decode cX11_init 100 = .ok (.sipush 150, 3) := by decide +kernel
theorem dX11_init_103 : decode cX11_init 103 = .ok (.newarray .int, 2) := by decide +kernel
theorem dX11_init_105 : decode cX11_init 105 = .ok (.putfield 50, 3) := by decide +kernel
theorem dX11_init_108 : decode cX11_init 108 = .ok (.aload_n 0, 1) := by decide +kernel
theorem dX11_init_109 : decode cX11_init 109 = .ok (.sipush 150, 3) := by decide +kernel
theorem dX11_init_112 : decode cX11_init 112 = .ok (.newarray .int, 2) := by decide +kernel
theorem dX11_init_114 : decode cX11_init 114 = .ok (.putfield 53, 3) := by decide +kernel
theorem dX11_init_117 : decode cX11_init 117 = .ok (.aload_n 0, 1) := by decide +kernel
theorem dX11_init_118 : decode cX11_init 118 = .ok (.sipush 150, 3) := by decide +kernel
theorem dX11_init_121 : decode cX11_init 121 = .ok (.newarray .int, 2) := by decide +kernel
theorem dX11_init_123 : decode cX11_init 123 = .ok (.putfield 56, 3) := by decide +kernel
theorem dX11_init_126 : decode cX11_init 126 = .ok (.aload_n 0, 1) := by decide +kernel
theorem dX11_init_127 : decode cX11_init 127 = .ok (.bipush 8, 2) := by decide +kernel
theorem dX11_init_129 : decode cX11_init 129 = .ok (.newarray .int, 2) := by decide +kernel
theorem dX11_init_131 : decode cX11_init 131 = .ok (.putfield 59, 3) := by decide +kernel
theorem dX11_init_134 : decode cX11_init 134 = .ok (.aload_n 0, 1) := by decide +kernel
theorem dX11_init_135 : decode cX11_init 135 = .ok (.sipush 200, 3) := by decide +kernel
theorem dX11_init_138 : decode cX11_init 138 = .ok (.newarray .int, 2) := by decide +kernel
theorem dX11_init_140 : decode cX11_init 140 = .ok (.putfield 62, 3) := by decide +kernel
theorem dX11_init_143 : decode cX11_init 143 = .ok (.aload_n 0, 1) := by decide +kernel
theorem dX11_init_144 : decode cX11_init 144 = .ok (.sipush 200, 3) := by decide +kernel
theorem dX11_init_147 : decode cX11_init 147 = .ok (.newarray .int, 2) := by decide +kernel
theorem dX11_init_149 : decode cX11_init 149 = .ok (.putfield 65, 3) := by decide +kernel
theorem dX11_init_152 : decode cX11_init 152 = .ok (.aload_n 0, 1) := by decide +kernel
theorem dX11_init_153 : decode cX11_init 153 = .ok (.bipush 68, 2) := by decide +kernel
theorem dX11_init_155 : decode cX11_init 155 = .ok (.newarray .int, 2) := by decide +kernel
theorem dX11_init_157 : decode cX11_init 157 = .ok (.putfield 68, 3) := by decide +kernel
theorem dX11_init_160 : decode cX11_init 160 = .ok (.aload_n 0, 1) := by decide +kernel
theorem dX11_init_161 : decode cX11_init 161 = .ok (.bipush 68, 2) := by decide +kernel
theorem dX11_init_163 : decode cX11_init 163 = .ok (.newarray .int, 2) := by decide +kernel
theorem dX11_init_165 : decode cX11_init 165 = .ok (.putfield 71, 3) := by decide +kernel
theorem dX11_init_168 : decode cX11_init 168 = .ok (.aload_n 0, 1) := by decide +kernel
theorem dX11_init_169 : decode cX11_init 169 = .ok (.sipush 1088, 3) := by decide +kernel
theorem dX11_init_172 : decode cX11_init 172 = .ok (.newarray .int, 2) := by decide +kernel
theorem dX11_init_174 : decode cX11_init 174 = .ok (.putfield 74, 3) := by decide +kernel
theorem dX11_init_177 : decode cX11_init 177 = .ok (.aload_n 0, 1) := by decide +kernel
theorem dX11_init_178 : decode cX11_init 178 = .ok (.bipush 8, 2) := by decide +kernel
theorem dX11_init_180 : decode cX11_init 180 = .ok (.newarray .int, 2) := by decide +kernel
theorem dX11_init_182 : decode cX11_init 182 = .ok (.putfield 77, 3) := by decide +kernel
theorem dX11_init_185 : decode cX11_init 185 = .ok (.aload_n 0, 1) := by decide +kernel
theorem dX11_init_186 : decode cX11_init 186 = .ok (.bipush 8, 2) := by decide +kernel
theorem dX11_init_188 : decode cX11_init 188 = .ok (.newarray .int, 2) := by decide +kernel
theorem dX11_init_190 : decode cX11_init 190 = .ok (.putfield 80, 3) := by decide +kernel
theorem dX11_init_193 : decode cX11_init 193 = .ok (.aload_n 0, 1) := by decide +kernel
theorem dX11_init_194 : decode cX11_init 194 = .ok (.sipush 1792, 3) := by decide +kernel
theorem dX11_init_197 : decode cX11_init 197 = .ok (.newarray .int, 2) := by decide +kernel
theorem dX11_init_199 : decode cX11_init 199 = .ok (.putfield 83, 3) := by decide +kernel
theorem dX11_init_202 : decode cX11_init 202 = .ok (.aload_n 0, 1) := by decide +kernel
theorem dX11_init_203 : decode cX11_init 203 = .ok (.bipush 6, 2) := by decide +kernel
theorem dX11_init_205 : decode cX11_init 205 = .ok (.newarray .int, 2) := by decide +kernel
theorem dX11_init_207 : decode cX11_init 207 = .ok (.putfield 86, 3) := by decide +kernel
theorem dX11_init_210 : decode cX11_init 210 = .ok (.aload_n 0, 1) := by decide +kernel
theorem dX11_init_211 : decode cX11_init 211 = .ok (.bipush 6, 2) := by decide +kernel
theorem dX11_init_213 : decode cX11_init 213 = .ok (.newarray .int, 2) := by decide +kernel
theorem dX11_init_215 : decode cX11_init 215 = .ok (.putfield 89, 3) := by decide +kernel
theorem dX11_init_218 : decode cX11_init 218 = .ok (.aload_n 0, 1) := by decide +kernel
theorem dX11_init_219 : decode cX11_init 219 = .ok (.sipush 2048, 3) := by decide +kernel
theorem dX11_init_222 : decode cX11_init 222 = .ok (.newarray .int, 2) := by decide +kernel
theorem dX11_init_224 : decode cX11_init 224 = .ok (.putfield 92, 3) := by decide +kernel
theorem dX11_init_227 : decode cX11_init 227 = .ok (.aload_n 0, 1) := by decide +kernel
theorem dX11_init_228 : decode cX11_init 228 = .ok (.bipush 7, 2) := by decide +kernel
theorem dX11_init_230 : decode cX11_init 230 = .ok (.newarray .int, 2) := by decide +kernel
theorem dX11_init_232 : decode cX11_init 232 = .ok (.putfield 95, 3) := by decide +kernel
theorem dX11_init_235 : decode cX11_init 235 = .ok (.aload_n 0, 1) := by decide +kernel
theorem dX11_init_236 : decode cX11_init 236 = .ok (.bipush 14, 2) := by decide +kernel
theorem dX11_init_238 : decode cX11_init 238 = .ok (.newarray .long, 2) := by decide +kernel
theorem dX11_init_240 : decode cX11_init 240 = .ok (.putfield 98, 3) := by decide +kernel
theorem dX11_init_243 : decode cX11_init 243 = .ok (.aload_n 0, 1) := by decide +kernel
theorem dX11_init_244 : decode cX11_init 244 = .ok (.sipush 3471, 3) := by decide +kernel
theorem dX11_init_247 : decode cX11_init 247 = .ok (.newarray .int, 2) := by decide +kernel
theorem dX11_init_249 : decode cX11_init 249 = .ok (.putfield 102, 3) := by decide +kernel
theorem dX11_init_252 : decode cX11_init 252 = .ok (.aload_n 0, 1) := by decide +kernel
theorem dX11_init_253 : decode cX11_init 253 = .ok (.invokevirtual 105, 3) := by decide +kernel
theorem dX11_init_256 : decode cX11_init 256 = .ok (.aload_n 0, 1) := by decide +kernel
theorem dX11_init_257 : decode cX11_init 257 = .ok (.invokevirtual 108, 3) := by decide +kernel
theorem dX11_init_260 : decode cX11_init 260 = .ok (.return_, 1) := by decide +kernel
theorem dX11_feed_0 : decode cX11_feed 0 = .ok (.aload_n 0, 1) := by decide +kernel
theorem dX11_feed_1 : decode cX11_feed 1 = .ok (.iconst 0, 1) := by decide +kernel
theorem dX11_feed_2 : decode cX11_feed 2 = .ok (.putfield 3, 3) := by decide +kernel
theorem dX11_feed_5 : decode cX11_feed 5 = .ok (.aload_n 0, 1) := by decide +kernel
theorem dX11_feed_6 : decode cX11_feed 6 = .ok (.getfield 111, 3) := by decide +kernel
theorem dX11_feed_9 : decode cX11_feed 9 = .ok (.bipush 20, 2) := by decide +kernel
theorem dX11_feed_11 : decode cX11_feed 11 = .ok (.iadd, 1) := by decide +kernel
theorem dX11_feed_12 : decode cX11_feed 12 = .ok (.sipush 600, 3) := by decide +kernel
theorem dX11_feed_15 : decode cX11_feed 15 = .ok (.if_icmp .le 5, 3) := by decide +kernel
theorem dX11_feed_20 : decode cX11_feed 20 = .ok (.iconst 0, 1) := by decide +kernel
theorem dX11_feed_21 : decode cX11_feed 21 = .ok (.istore 6, 2) := by decide +kernel
theorem dX11_feed_23 : decode cX11_feed 23 = .ok (.iload 6, 2) := by decide +kernel
theorem dX11_feed_25 : decode cX11_feed 25 = .ok (.bipush 20, 2) := by decide +kernel
theorem dX11_feed_27 : decode cX11_feed 27 = .ok (.if_icmp .ge 93, 3) := by decide +kernel
theorem dX11_feed_30 : decode cX11_feed 30 = .ok (.iload 6, 2) := by decide +kernel
theorem dX11_feed_32 : decode cX11_feed 32 = .ok (.iconst 4, 1) := by decide +kernel
theorem dX11_feed_33 : decode cX11_feed 33 = .ok (.if_icmp .ge 7, 3) := by decide +kernel
theorem dX11_feed_36 : decode cX11_feed 36 = .ok (.iload_n 1, 1) := by decide +kernel
theorem dX11_feed_37 : decode cX11_feed 37 = .ok (.goto 39, 3) := by decide +kernel
theorem dX11_feed_40 : decode cX11_feed 40 = .ok (.iload 6, 2) := by decide +kernel
theorem dX11_feed_42 : decode cX11_feed 42 = .ok (.bipush 8, 2) := by decide +kernel
theorem dX11_feed_44 : decode cX11_feed 44 = .ok (.if_icmp .ge 7, 3) := by decide +kernel
theorem dX11_feed_47 : decode cX11_feed 47 = .ok (.iload_n 2, 1) := by decide +kernel
theorem dX11_feed_48 : decode cX11_feed 48 = .ok (.goto 28, 3) := by decide +kernel
theorem dX11_feed_51 : decode cX11_feed 51 = .ok (.iload 6, 2) := by decide +kernel
theorem dX11_feed_53 : decode cX11_feed 53 = .ok (.bipush 12, 2) := by decide +kernel
theorem dX11_feed_55 : decode cX11_feed 55 = .ok (.if_icmp .ge 7, 3) := by decide +kernel
theorem dX11_feed_58 : decode cX11_feed 58 = .ok (.iload_n 3, 1) := by decide +kernel
theorem dX11_feed_59 : decode cX11_feed 59 = .ok (.goto 17, 3) := by decide +kernel
theorem dX11_feed_62 : decode cX11_feed 62 = .ok (.iload 6, 2) := by decide +kernel
theorem dX11_feed_64 : decode cX11_feed 64 = .ok (.bipush 16, 2) := by decide +kernel
theorem dX11_feed_66 : decode cX11_feed 66 = .ok (.if_icmp .ge 8, 3) := by decide +kernel
theorem dX11_feed_69 : decode cX11_feed 69 = .ok (.iload 4, 2) := by decide +kernel
theorem dX11_feed_71 : decode cX11_feed 71 = .ok (.goto 5, 3) := by decide +kernel
theorem dX11_feed_74 : decode cX11_feed 74 = .ok (.iload 5, 2) := by decide +kernel
theorem dX11_feed_76 : decode cX11_feed 76 = .ok (.istore 7, 2) := by decide +kernel
theorem dX11_feed_78 : decode cX11_feed 78 = .ok (.aload_n 0, 1) := by decide +kernel
theorem dX11_feed_79 : decode cX11_feed 79 = .ok (.getfield 20, 3) := by decide +kernel
theorem dX11_feed_82 : decode cX11_feed 82 = .ok (.aload_n 0, 1) := by decide +kernel
theorem dX11_feed_83 : decode cX11_feed 83 = .ok (.getfield 111, 3) := by decide +kernel
theorem dX11_feed_86 : decode cX11_feed 86 = .ok (.iload 7, 2) := by decide +kernel
theorem dX11_feed_88 : decode cX11_feed 88 = .ok (.bipush 24, 2) := by decide +kernel
theorem dX11_feed_90 : decode cX11_feed 90 = .ok (.bipush 8, 2) := by decide +kernel
theorem dX11_feed_92 : decode cX11_feed 92 = .ok (.iload 6, 2) := by decide +kernel
theorem dX11_feed_94 : decode cX11_feed 94 = .ok (.iconst 4, 1) := by decide +kernel
theorem dX11_feed_95 : decode cX11_feed 95 = .ok (.irem, 1) := by decide +kernel
theorem dX11_feed_96 : decode cX11_feed 96 = .ok (.imul, 1) := by decide +kernel
theorem dX11_feed_97 : decode cX11_feed 97 = .ok (.isub, 1) := by decide +kernel
theorem dX11_feed_98 : decode cX11_feed 98 = .ok (.ishr, 1) := by decide +kernel
theorem dX11_feed_99 : decode cX11_feed 99 = .ok (.sipush 255, 3) := by decide +kernel
theorem dX11_feed_102 : decode cX11_feed 102 = .ok (.iand, 1) := by decide +kernel
theorem dX11_feed_103 : decode cX11_feed 103 = .ok (.iastore, 1) := by decide +kernel
theorem dX11_feed_104 : decode cX11_feed 104 = .ok (.aload_n 0, 1) := by decide +kernel
theorem dX11_feed_105 : decode cX11_feed 105 = .ok (.dup, 1) := by decide +kernel
theorem dX11_feed_106 : decode cX11_feed 106 = .ok (.getfield 111, 3) := by decide +kernel
theorem dX11_feed_109 : decode cX11_feed 109 = .ok (.iconst 1, 1) := by decide +kernel
theorem dX11_feed_110 : decode cX11_feed 110 = .ok (.iadd, 1) := by decide +kernel
theorem dX11_feed_111 : decode cX11_feed 111 = .ok (.putfield 111, 3) := by decide +kernel
theorem dX11_feed_114 : decode cX11_feed 114 = .ok (.iinc 6 1, 3) := by decide +kernel
theorem dX11_feed_117 : decode cX11_feed 117 = .ok (.goto (-94), 3) := by decide +kernel
theorem dX11_feed_120 : decode cX11_feed 120 = .ok (.aload_n 0, 1) := by decide +kernel
theorem dX11_feed_121 : decode cX11_feed 121 = .ok (.getfield 111, 3) := by decide +kernel
theorem dX11_feed_124 : decode cX11_feed 124 = .ok (.ireturn, 1) := by decide +kernel
theorem dX11_fine_0 : decode cX11_fine 0 = .ok (.aload_n 0, 1) := by decide +kernel
theorem dX11_fine_1 : decode cX11_fine 1 = .ok (.getfield 114, 3) := by decide +kernel
theorem dX11_fine_4 : decode cX11_fine 4 = .ok (.iconst (-1), 1) := by decide +kernel
theorem dX11_fine_5 : decode cX11_fine 5 = .ok (.if_icmp .ne 7, 3) := by decide +kernel
theorem dX11_fine_8 : decode cX11_fine 8 = .ok (.iconst 1, 1) := by decide +kernel
theorem dX11_fine_9 : decode cX11_fine 9 = .ok (.goto 4, 3) := by decide +kernel
theorem dX11_fine_12 : decode cX11_fine 12 = .ok (.iconst 0, 1) := by decide +kernel
theorem dX11_fine_13 : decode cX11_fine 13 = .ok (.ireturn, 1) := by decide +kernel
theorem dX11_wrong_0 : decode cX11_wrong 0 = .ok (.aload_n 0, 1) := by decide +kernel
theorem dX11_wrong_1 : decode cX11_wrong 1 = .ok (.getfield 114, 3) := by decide +kernel
theorem dX11_wrong_4 : decode cX11_wrong 4 = .ok (.iconst (-1), 1) := by decide +kernel
theorem dX11_wrong_5 : decode cX11_wrong 5 = .ok (.if_icmp .eq 4, 3) := by decide +kernel
theorem dX11_wrong_9 : decode cX11_wrong 9 = .ok (.aload_n 0, 1) := by decide +kernel
theorem dX11_wrong_10 : decode cX11_wrong 10 = .ok (.iload_n 2, 1) := by decide +kernel
theorem dX11_wrong_11 : decode cX11_wrong 11 = .ok (.putfield 114, 3) := by decide +kernel
theorem dX11_wrong_14 : decode cX11_wrong 14 = .ok (.aload_n 0, 1) := by decide +kernel
theorem dX11_wrong_15 : decode cX11_wrong 15 = .ok (.iload_n 1, 1) := by decide +kernel
theorem dX11_wrong_16 : decode cX11_wrong 16 = .ok (.putfield 117, 3) := by decide +kernel
theorem dX11_wrong_19 : decode cX11_wrong 19 = .ok (.return_, 1) := by decide +kernel
theorem dX11_here_0 : decode cX11_here 0 = .ok (.aload_n 0, 1) := by decide +kernel
theorem dX11_here_1 : decode cX11_here 1 = .ok (.getfield 120, 3) := by decide +kernel
theorem dX11_here_4 : decode cX11_here 4 = .ok (.aload_n 0, 1) := by decide +kernel
theorem dX11_here_5 : decode cX11_here 5 = .ok (.getfield 123, 3) := by decide +kernel
theorem dX11_here_8 : decode cX11_here 8 = .ok (.if_icmp .ge 30, 3) := by decide +kernel
theorem dX11_here_38 : decode cX11_here 38 = .ok (.aload_n 0, 1) := by decide +kernel
theorem dX11_here_39 : decode cX11_here 39 = .ok (.getfield 120, 3) := by decide +kernel
theorem dX11_here_42 : decode cX11_here 42 = .ok (.aload_n 0, 1) := by decide +kernel
theorem dX11_here_43 : decode cX11_here 43 = .ok (.getfield 123, 3) := by decide +kernel
theorem dX11_here_46 : decode cX11_here 46 = .ok (.if_icmp .ge 15, 3) := by decide +kernel
theorem dX11_here_61 : decode cX11_here 61 = .ok (.iconst 0, 1) := by decide +kernel
theorem dX11_here_62 : decode cX11_here 62 = .ok (.ireturn, 1) := by decide +kernel
theorem dX11_isDigit_0 : decode cX11_isDigit 0 = .ok (.iload_n 0, 1) := by decide +kernel
theorem dX11_isDigit_1 : decode cX11_isDigit 1 = .ok (.bipush 48, 2) := by decide +kernel
theorem dX11_isDigit_3 : decode cX11_isDigit 3 = .ok (.if_icmp .lt 13, 3) := by decide +kernel
theorem dX11_isDigit_16 : decode cX11_isDigit 16 = .ok (.iconst 0, 1) := by decide +kernel
theorem dX11_isDigit_17 : decode cX11_isDigit 17 = .ok (.ireturn, 1) := by decide +kernel
theorem dX11_word_0 : decode cX11_word 0 = .ok (.aload_n 0, 1) := by decide +kernel
theorem dX11_word_1 : decode cX11_word 1 = .ok (.invokevirtual 126, 3) := by decide +kernel
theorem dX11_word_4 : decode cX11_word 4 = .ok (.pop, 1) := by decide +kernel
theorem dX11_word_5 : decode cX11_word 5 = .ok (.iconst 0, 1) := by decide +kernel
theorem dX11_word_6 : decode cX11_word 6 = .ok (.istore_n 1, 1) := by decide +kernel
theorem dX11_word_7 : decode cX11_word 7 = .ok (.iconst 0, 1) := by decide +kernel
theorem dX11_word_8 : decode cX11_word 8 = .ok (.istore_n 2, 1) := by decide +kernel
theorem dX11_word_9 : decode cX11_word 9 = .ok (.aload_n 0, 1) := by decide +kernel
theorem dX11_word_10 : decode cX11_word 10 = .ok (.getfield 120, 3) := by decide +kernel
theorem dX11_word_13 : decode cX11_word 13 = .ok (.istore_n 3, 1) := by decide +kernel
theorem dX11_word_14 : decode cX11_word 14 = .ok (.iload_n 3, 1) := by decide +kernel
theorem dX11_word_15 : decode cX11_word 15 = .ok (.aload_n 0, 1) := by decide +kernel
theorem dX11_word_16 : decode cX11_word 16 = .ok (.getfield 123, 3) := by decide +kernel
theorem dX11_word_19 : decode cX11_word 19 = .ok (.if_icmp .ge 48, 3) := by decide +kernel
theorem dX11_word_67 : decode cX11_word 67 = .ok (.iload_n 2, 1) := by decide +kernel
theorem dX11_word_68 : decode cX11_word 68 = .ok (.bipush 6, 2) := by decide +kernel
theorem dX11_word_70 : decode cX11_word 70 = .ok (.if_icmp .le 7, 3) := by decide +kernel
theorem dX11_word_77 : decode cX11_word 77 = .ok (.iload_n 1, 1) := by decide +kernel
theorem dX11_word_78 : decode cX11_word 78 = .ok (.ireturn, 1) := by decide +kernel
theorem dX11_of_0 : decode cX11_of 0 = .ok (.iconst 0, 1) := by decide +kernel
theorem dX11_of_1 : decode cX11_of 1 = .ok (.istore_n 1, 1) := by decide +kernel
theorem dX11_of_2 : decode cX11_of 2 = .ok (.iconst 0, 1) := by decide +kernel
theorem dX11_of_3 : decode cX11_of 3 = .ok (.istore_n 2, 1) := by decide +kernel
theorem dX11_of_4 : decode cX11_of 4 = .ok (.iload_n 2, 1) := by decide +kernel
theorem dX11_of_5 : decode cX11_of 5 = .ok (.aload_n 0, 1) := by decide +kernel
theorem dX11_of_6 : decode cX11_of 6 = .ok (.invokevirtual 134, 3) := by decide +kernel
theorem dX11_of_9 : decode cX11_of 9 = .ok (.if_icmp .ge 22, 3) := by decide +kernel
theorem dX11_of_12 : decode cX11_of 12 = .ok (.iload_n 1, 1) := by decide +kernel
theorem dX11_of_13 : decode cX11_of 13 = .ok (.iconst 5, 1) := by decide +kernel
theorem dX11_of_14 : decode cX11_of 14 = .ok (.ishl, 1) := by decide +kernel
theorem dX11_of_15 : decode cX11_of 15 = .ok (.aload_n 0, 1) := by decide +kernel
theorem dX11_of_16 : decode cX11_of 16 = .ok (.iload_n 2, 1) := by decide +kernel
theorem dX11_of_17 : decode cX11_of 17 = .ok (.invokevirtual 139, 3) := by decide +kernel
theorem dX11_of_20 : decode cX11_of 20 = .ok (.bipush 96, 2) := by decide +kernel
theorem dX11_of_22 : decode cX11_of 22 = .ok (.isub, 1) := by decide +kernel
theorem dX11_of_23 : decode cX11_of 23 = .ok (.ior, 1) := by decide +kernel
theorem dX11_of_24 : decode cX11_of 24 = .ok (.istore_n 1, 1) := by decide +kernel
theorem dX11_of_25 : decode cX11_of 25 = .ok (.iinc 2 1, 3) := by decide +kernel
theorem dX11_of_28 : decode cX11_of 28 = .ok (.goto (-24), 3) := by decide +kernel
theorem dX11_of_31 : decode cX11_of 31 = .ok (.iload_n 1, 1) := by decide +kernel
theorem dX11_of_32 : decode cX11_of 32 = .ok (.ireturn, 1) := by decide +kernel
theorem dX11_isMore_0 : decode cX11_isMore 0 = .ok (.aload_n 0, 1) := by decide +kernel
theorem dX11_isMore_1 : decode cX11_isMore 1 = .ok (.invokevirtual 126, 3) := by decide +kernel
theorem dX11_isMore_4 : decode cX11_isMore 4 = .ok (.pop, 1) := by decide +kernel
theorem dX11_isMore_5 : decode cX11_isMore 5 = .ok (.aload_n 0, 1) := by decide +kernel
theorem dX11_isMore_6 : decode cX11_isMore 6 = .ok (.getfield 120, 3) := by decide +kernel
theorem dX11_isMore_9 : decode cX11_isMore 9 = .ok (.aload_n 0, 1) := by decide +kernel
theorem dX11_isMore_10 : decode cX11_isMore 10 = .ok (.getfield 123, 3) := by decide +kernel
theorem dX11_isMore_13 : decode cX11_isMore 13 = .ok (.if_icmp .ge 7, 3) := by decide +kernel
theorem dX11_isMore_20 : decode cX11_isMore 20 = .ok (.iconst 0, 1) := by decide +kernel
theorem dX11_isMore_21 : decode cX11_isMore 21 = .ok (.ireturn, 1) := by decide +kernel
theorem dX11_begins_0 : decode cX11_begins 0 = .ok (.aload_n 0, 1) := by decide +kernel
theorem dX11_begins_1 : decode cX11_begins 1 = .ok (.iconst 0, 1) := by decide +kernel
theorem dX11_begins_2 : decode cX11_begins 2 = .ok (.putfield 111, 3) := by decide +kernel
theorem dX11_begins_5 : decode cX11_begins 5 = .ok (.aload_n 0, 1) := by decide +kernel
theorem dX11_begins_6 : decode cX11_begins 6 = .ok (.iconst (-1), 1) := by decide +kernel
theorem dX11_begins_7 : decode cX11_begins 7 = .ok (.putfield 17, 3) := by decide +kernel
theorem dX11_begins_10 : decode cX11_begins 10 = .ok (.aload_n 0, 1) := by decide +kernel
theorem dX11_begins_11 : decode cX11_begins 11 = .ok (.iload_n 1, 1) := by decide +kernel
theorem dX11_begins_12 : decode cX11_begins 12 = .ok (.putfield 123, 3) := by decide +kernel
theorem dX11_begins_15 : decode cX11_begins 15 = .ok (.aload_n 0, 1) := by decide +kernel
theorem dX11_begins_16 : decode cX11_begins 16 = .ok (.iconst 0, 1) := by decide +kernel
theorem dX11_begins_17 : decode cX11_begins 17 = .ok (.putfield 120, 3) := by decide +kernel
theorem dX11_begins_20 : decode cX11_begins 20 = .ok (.aload_n 0, 1) := by decide +kernel
theorem dX11_begins_21 : decode cX11_begins 21 = .ok (.iconst (-1), 1) := by decide +kernel
theorem dX11_begins_22 : decode cX11_begins 22 = .ok (.putfield 114, 3) := by decide +kernel
theorem dX11_begins_25 : decode cX11_begins 25 = .ok (.aload_n 0, 1) := by decide +kernel
theorem dX11_begins_26 : decode cX11_begins 26 = .ok (.iconst 0, 1) := by decide +kernel
theorem dX11_begins_27 : decode cX11_begins 27 = .ok (.putfield 154, 3) := by decide +kernel
theorem dX11_begins_30 : decode cX11_begins 30 = .ok (.return_, 1) := by decide +kernel
theorem dX11_result_0 : decode cX11_result 0 = .ok (.aload_n 0, 1) := by decide +kernel
theorem dX11_result_1 : decode cX11_result 1 = .ok (.aload_n 0, 1) := by decide +kernel
theorem dX11_result_2 : decode cX11_result 2 = .ok (.getfield 114, 3) := by decide +kernel
theorem dX11_result_5 : decode cX11_result 5 = .ok (.putfield 17, 3) := by decide +kernel
theorem dX11_result_8 : decode cX11_result 8 = .ok (.aload_n 0, 1) := by decide +kernel
theorem dX11_result_9 : decode cX11_result 9 = .ok (.invokevirtual 143, 3) := by decide +kernel
theorem dX11_result_12 : decode cX11_result 12 = .ok (.ifCond .eq 7, 3) := by decide +kernel
theorem dX11_result_15 : decode cX11_result 15 = .ok (.iload_n 1, 1) := by decide +kernel
theorem dX11_result_16 : decode cX11_result 16 = .ok (.goto 10, 3) := by decide +kernel
theorem dX11_result_19 : decode cX11_result 19 = .ok (.aload_n 0, 1) := by decide +kernel
theorem dX11_result_20 : decode cX11_result 20 = .ok (.getfield 117, 3) := by decide +kernel
theorem dX11_result_23 : decode cX11_result 23 = .ok (.bipush 10, 2) := by decide +kernel
theorem dX11_result_25 : decode cX11_result 25 = .ok (.isub, 1) := by decide +kernel
theorem dX11_result_26 : decode cX11_result 26 = .ok (.ireturn, 1) := by decide +kernel
theorem dX11_fault_0 : decode cX11_fault 0 = .ok (.aload_n 0, 1) := by decide +kernel
theorem dX11_fault_1 : decode cX11_fault 1 = .ok (.iconst 0, 1) := by decide +kernel
theorem dX11_fault_2 : decode cX11_fault 2 = .ok (.putfield 3, 3) := by decide +kernel
theorem dX11_fault_5 : decode cX11_fault 5 = .ok (.aload_n 0, 1) := by decide +kernel
theorem dX11_fault_6 : decode cX11_fault 6 = .ok (.getfield 17, 3) := by decide +kernel
theorem dX11_fault_9 : decode cX11_fault 9 = .ok (.ireturn, 1) := by decide +kernel
theorem dX11_copies_0 : decode cX11_copies 0 = .ok (.iconst 0, 1) := by decide +kernel
theorem dX11_copies_1 : decode cX11_copies 1 = .ok (.istore 4, 2) := by decide +kernel
theorem dX11_copies_3 : decode cX11_copies 3 = .ok (.iload 4, 2) := by decide +kernel
theorem dX11_copies_5 : decode cX11_copies 5 = .ok (.iload_n 3, 1) := by decide +kernel
theorem dX11_copies_6 : decode cX11_copies 6 = .ok (.if_icmp .ge 17, 3) := by decide +kernel
theorem dX11_copies_9 : decode cX11_copies 9 = .ok (.aload_n 2, 1) := by decide +kernel
theorem dX11_copies_10 : decode cX11_copies 10 = .ok (.iload 4, 2) := by decide +kernel
theorem dX11_copies_12 : decode cX11_copies 12 = .ok (.aload_n 1, 1) := by decide +kernel
theorem dX11_copies_13 : decode cX11_copies 13 = .ok (.iload 4, 2) := by decide +kernel
theorem dX11_copies_15 : decode cX11_copies 15 = .ok (.iaload, 1) := by decide +kernel
theorem dX11_copies_16 : decode cX11_copies 16 = .ok (.iastore, 1) := by decide +kernel
theorem dX11_copies_17 : decode cX11_copies 17 = .ok (.iinc 4 1, 3) := by decide +kernel
theorem dX11_copies_20 : decode cX11_copies 20 = .ok (.goto (-17), 3) := by decide +kernel
theorem dX11_copies_23 : decode cX11_copies 23 = .ok (.return_, 1) := by decide +kernel
theorem dX11_clears_0 : decode cX11_clears 0 = .ok (.aload_n 0, 1) := by decide +kernel
theorem dX11_clears_1 : decode cX11_clears 1 = .ok (.iconst 0, 1) := by decide +kernel
theorem dX11_clears_2 : decode cX11_clears 2 = .ok (.putfield 157, 3) := by decide +kernel
theorem dX11_clears_5 : decode cX11_clears 5 = .ok (.aload_n 0, 1) := by decide +kernel
theorem dX11_clears_6 : decode cX11_clears 6 = .ok (.iconst 0, 1) := by decide +kernel
theorem dX11_clears_7 : decode cX11_clears 7 = .ok (.putfield 160, 3) := by decide +kernel
theorem dX11_clears_10 : decode cX11_clears 10 = .ok (.aload_n 0, 1) := by decide +kernel
theorem dX11_clears_11 : decode cX11_clears 11 = .ok (.iconst 0, 1) := by decide +kernel
theorem dX11_clears_12 : decode cX11_clears 12 = .ok (.putfield 163, 3) := by decide +kernel
theorem dX11_clears_15 : decode cX11_clears 15 = .ok (.iconst 0, 1) := by decide +kernel
theorem dX11_clears_16 : decode cX11_clears 16 = .ok (.istore_n 1, 1) := by decide +kernel
theorem dX11_clears_17 : decode cX11_clears 17 = .ok (.iload_n 1, 1) := by decide +kernel
theorem dX11_clears_18 : decode cX11_clears 18 = .ok (.bipush 36, 2) := by decide +kernel
theorem dX11_clears_20 : decode cX11_clears 20 = .ok (.if_icmp .ge 16, 3) := by decide +kernel
theorem dX11_clears_23 : decode cX11_clears 23 = .ok (.aload_n 0, 1) := by decide +kernel
theorem dX11_clears_24 : decode cX11_clears 24 = .ok (.getfield 32, 3) := by decide +kernel
theorem dX11_clears_27 : decode cX11_clears 27 = .ok (.iload_n 1, 1) := by decide +kernel
theorem dX11_clears_28 : decode cX11_clears 28 = .ok (.iconst 0, 1) := by decide +kernel
theorem dX11_clears_29 : decode cX11_clears 29 = .ok (.iastore, 1) := by decide +kernel
theorem dX11_clears_30 : decode cX11_clears 30 = .ok (.iinc 1 1, 3) := by decide +kernel
theorem dX11_clears_33 : decode cX11_clears 33 = .ok (.goto (-16), 3) := by decide +kernel
theorem dX11_clears_36 : decode cX11_clears 36 = .ok (.return_, 1) := by decide +kernel
theorem dX11_sets_0 : decode cX11_sets 0 = .ok (.aload_n 0, 1) := by decide +kernel
theorem dX11_sets_1 : decode cX11_sets 1 = .ok (.aload_n 0, 1) := by decide +kernel
theorem dX11_sets_2 : decode cX11_sets 2 = .ok (.getfield 157, 3) := by decide +kernel
theorem dX11_sets_5 : decode cX11_sets 5 = .ok (.putfield 166, 3) := by decide +kernel
theorem dX11_sets_8 : decode cX11_sets 8 = .ok (.aload_n 0, 1) := by decide +kernel
theorem dX11_sets_9 : decode cX11_sets 9 = .ok (.aload_n 0, 1) := by decide +kernel
theorem dX11_sets_10 : decode cX11_sets 10 = .ok (.getfield 160, 3) := by decide +kernel
theorem dX11_sets_13 : decode cX11_sets 13 = .ok (.putfield 169, 3) := by decide +kernel
theorem dX11_sets_16 : decode cX11_sets 16 = .ok (.aload_n 0, 1) := by decide +kernel
theorem dX11_sets_17 : decode cX11_sets 17 = .ok (.aload_n 0, 1) := by decide +kernel
theorem dX11_sets_18 : decode cX11_sets 18 = .ok (.getfield 163, 3) := by decide +kernel
theorem dX11_sets_21 : decode cX11_sets 21 = .ok (.putfield 172, 3) := by decide +kernel
theorem dX11_sets_24 : decode cX11_sets 24 = .ok (.aload_n 0, 1) := by decide +kernel
theorem dX11_sets_25 : decode cX11_sets 25 = .ok (.aload_n 0, 1) := by decide +kernel
theorem dX11_sets_26 : decode cX11_sets 26 = .ok (.getfield 23, 3) := by decide +kernel
theorem dX11_sets_29 : decode cX11_sets 29 = .ok (.aload_n 0, 1) := by decide +kernel
theorem dX11_sets_30 : decode cX11_sets 30 = .ok (.getfield 35, 3) := by decide +kernel
theorem dX11_sets_33 : decode cX11_sets 33 = .ok (.bipush 16, 2) := by decide +kernel
theorem dX11_sets_35 : decode cX11_sets 35 = .ok (.invokevirtual 175, 3) := by decide +kernel
theorem dX11_sets_38 : decode cX11_sets 38 = .ok (.aload_n 0, 1) := by decide +kernel
theorem dX11_sets_39 : decode cX11_sets 39 = .ok (.aload_n 0, 1) := by decide +kernel
theorem dX11_sets_40 : decode cX11_sets 40 = .ok (.getfield 26, 3) := by decide +kernel
theorem dX11_sets_43 : decode cX11_sets 43 = .ok (.aload_n 0, 1) := by decide +kernel
theorem dX11_sets_44 : decode cX11_sets 44 = .ok (.getfield 38, 3) := by decide +kernel
theorem dX11_sets_47 : decode cX11_sets 47 = .ok (.bipush 12, 2) := by decide +kernel
theorem dX11_sets_49 : decode cX11_sets 49 = .ok (.invokevirtual 175, 3) := by decide +kernel
theorem dX11_sets_52 : decode cX11_sets 52 = .ok (.aload_n 0, 1) := by decide +kernel
theorem dX11_sets_53 : decode cX11_sets 53 = .ok (.aload_n 0, 1) := by decide +kernel
theorem dX11_sets_54 : decode cX11_sets 54 = .ok (.getfield 29, 3) := by decide +kernel
theorem dX11_sets_57 : decode cX11_sets 57 = .ok (.aload_n 0, 1) := by decide +kernel
theorem dX11_sets_58 : decode cX11_sets 58 = .ok (.getfield 41, 3) := by decide +kernel
theorem dX11_sets_61 : decode cX11_sets 61 = .ok (.bipush 8, 2) := by decide +kernel
theorem dX11_sets_63 : decode cX11_sets 63 = .ok (.invokevirtual 175, 3) := by decide +kernel
theorem dX11_sets_66 : decode cX11_sets 66 = .ok (.aload_n 0, 1) := by decide +kernel
theorem dX11_sets_67 : decode cX11_sets 67 = .ok (.iconst 0, 1) := by decide +kernel
theorem dX11_sets_68 : decode cX11_sets 68 = .ok (.putfield 179, 3) := by decide +kernel
theorem dX11_sets_71 : decode cX11_sets 71 = .ok (.aload_n 0, 1) := by decide +kernel
theorem dX11_sets_72 : decode cX11_sets 72 = .ok (.iconst 0, 1) := by decide +kernel
theorem dX11_sets_73 : decode cX11_sets 73 = .ok (.putfield 182, 3) := by decide +kernel
theorem dX11_sets_76 : decode cX11_sets 76 = .ok (.aload_n 0, 1) := by decide +kernel
theorem dX11_sets_77 : decode cX11_sets 77 = .ok (.iconst 0, 1) := by decide +kernel
theorem dX11_sets_78 : decode cX11_sets 78 = .ok (.putfield 185, 3) := by decide +kernel
theorem dX11_sets_81 : decode cX11_sets 81 = .ok (.aload_n 0, 1) := by decide +kernel
theorem dX11_sets_82 : decode cX11_sets 82 = .ok (.iconst 0, 1) := by decide +kernel
theorem dX11_sets_83 : decode cX11_sets 83 = .ok (.putfield 188, 3) := by decide +kernel
theorem dX11_sets_86 : decode cX11_sets 86 = .ok (.aload_n 0, 1) := by decide +kernel
theorem dX11_sets_87 : decode cX11_sets 87 = .ok (.iconst 0, 1) := by decide +kernel
theorem dX11_sets_88 : decode cX11_sets 88 = .ok (.putfield 191, 3) := by decide +kernel
theorem dX11_sets_91 : decode cX11_sets 91 = .ok (.iconst 0, 1) := by decide +kernel
theorem dX11_sets_92 : decode cX11_sets 92 = .ok (.istore_n 1, 1) := by decide +kernel
theorem dX11_sets_93 : decode cX11_sets 93 = .ok (.iload_n 1, 1) := by decide +kernel
theorem dX11_sets_94 : decode cX11_sets 94 = .ok (.bipush 8, 2) := by decide +kernel
theorem dX11_sets_96 : decode cX11_sets 96 = .ok (.if_icmp .ge 16, 3) := by decide +kernel
theorem dX11_sets_99 : decode cX11_sets 99 = .ok (.aload_n 0, 1) := by decide +kernel
theorem dX11_sets_100 : decode cX11_sets 100 = .ok (.getfield 80, 3) := by decide +kernel
theorem dX11_sets_103 : decode cX11_sets 103 = .ok (.iload_n 1, 1) := by decide +kernel
theorem dX11_sets_104 : decode cX11_sets 104 = .ok (.iconst (-1), 1) := by decide +kernel
theorem dX11_sets_105 : decode cX11_sets 105 = .ok (.iastore, 1) := by decide +kernel
theorem dX11_sets_106 : decode cX11_sets 106 = .ok (.iinc 1 1, 3) := by decide +kernel
theorem dX11_sets_109 : decode cX11_sets 109 = .ok (.goto (-16), 3) := by decide +kernel
theorem dX11_sets_112 : decode cX11_sets 112 = .ok (.iconst 0, 1) := by decide +kernel
theorem dX11_sets_113 : decode cX11_sets 113 = .ok (.istore_n 1, 1) := by decide +kernel
theorem dX11_sets_114 : decode cX11_sets 114 = .ok (.iload_n 1, 1) := by decide +kernel
theorem dX11_sets_115 : decode cX11_sets 115 = .ok (.bipush 68, 2) := by decide +kernel
theorem dX11_sets_117 : decode cX11_sets 117 = .ok (.if_icmp .ge 16, 3) := by decide +kernel
theorem dX11_sets_120 : decode cX11_sets 120 = .ok (.aload_n 0, 1) := by decide +kernel
theorem dX11_sets_121 : decode cX11_sets 121 = .ok (.getfield 68, 3) := by decide +kernel
theorem dX11_sets_124 : decode cX11_sets 124 = .ok (.iload_n 1, 1) := by decide +kernel
theorem dX11_sets_125 : decode cX11_sets 125 = .ok (.iconst 0, 1) := by decide +kernel
theorem dX11_sets_126 : decode cX11_sets 126 = .ok (.iastore, 1) := by decide +kernel
theorem dX11_sets_127 : decode cX11_sets 127 = .ok (.iinc 1 1, 3) := by decide +kernel
theorem dX11_sets_130 : decode cX11_sets 130 = .ok (.goto (-16), 3) := by decide +kernel
theorem dX11_sets_133 : decode cX11_sets 133 = .ok (.iconst 0, 1) := by decide +kernel
theorem dX11_sets_134 : decode cX11_sets 134 = .ok (.istore_n 1, 1) := by decide +kernel
theorem dX11_sets_135 : decode cX11_sets 135 = .ok (.iload_n 1, 1) := by decide +kernel
theorem dX11_sets_136 : decode cX11_sets 136 = .ok (.aload_n 0, 1) := by decide +kernel
theorem dX11_sets_137 : decode cX11_sets 137 = .ok (.getfield 169, 3) := by decide +kernel
theorem dX11_sets_140 : decode cX11_sets 140 = .ok (.if_icmp .ge 44, 3) := by decide +kernel
theorem dX11_sets_184 : decode cX11_sets 184 = .ok (.iconst 0, 1) := by decide +kernel
theorem dX11_sets_185 : decode cX11_sets 185 = .ok (.istore_n 1, 1) := by decide +kernel
theorem dX11_sets_186 : decode cX11_sets 186 = .ok (.iload_n 1, 1) := by decide +kernel
theorem dX11_sets_187 : decode cX11_sets 187 = .ok (.bipush 36, 2) := by decide +kernel
theorem dX11_sets_189 : decode cX11_sets 189 = .ok (.if_icmp .ge 24, 3) := by decide +kernel
theorem dX11_sets_192 : decode cX11_sets 192 = .ok (.aload_n 0, 1) := by decide +kernel
theorem dX11_sets_193 : decode cX11_sets 193 = .ok (.getfield 68, 3) := by decide +kernel
theorem dX11_sets_196 : decode cX11_sets 196 = .ok (.bipush 30, 2) := by decide +kernel
theorem dX11_sets_198 : decode cX11_sets 198 = .ok (.iload_n 1, 1) := by decide +kernel
theorem dX11_sets_199 : decode cX11_sets 199 = .ok (.iadd, 1) := by decide +kernel
theorem dX11_sets_200 : decode cX11_sets 200 = .ok (.aload_n 0, 1) := by decide +kernel
theorem dX11_sets_201 : decode cX11_sets 201 = .ok (.getfield 32, 3) := by decide +kernel
theorem dX11_sets_204 : decode cX11_sets 204 = .ok (.iload_n 1, 1) := by decide +kernel
theorem dX11_sets_205 : decode cX11_sets 205 = .ok (.iaload, 1) := by decide +kernel
theorem dX11_sets_206 : decode cX11_sets 206 = .ok (.iastore, 1) := by decide +kernel
theorem dX11_sets_207 : decode cX11_sets 207 = .ok (.iinc 1 1, 3) := by decide +kernel
theorem dX11_sets_210 : decode cX11_sets 210 = .ok (.goto (-24), 3) := by decide +kernel
theorem dX11_sets_213 : decode cX11_sets 213 = .ok (.aload_n 0, 1) := by decide +kernel
theorem dX11_sets_214 : decode cX11_sets 214 = .ok (.getfield 68, 3) := by decide +kernel
theorem dX11_sets_217 : decode cX11_sets 217 = .ok (.bipush 66, 2) := by decide +kernel
theorem dX11_sets_219 : decode cX11_sets 219 = .ok (.iconst 1, 1) := by decide +kernel
theorem dX11_sets_220 : decode cX11_sets 220 = .ok (.iastore, 1) := by decide +kernel
theorem dX11_sets_221 : decode cX11_sets 221 = .ok (.return_, 1) := by decide +kernel
theorem dX11_down_0 : decode cX11_down 0 = .ok (.aload_n 0, 1) := by decide +kernel
theorem dX11_down_1 : decode cX11_down 1 = .ok (.iconst 0, 1) := by decide +kernel
theorem dX11_down_2 : decode cX11_down 2 = .ok (.putfield 3, 3) := by decide +kernel
theorem dX11_down_5 : decode cX11_down 5 = .ok (.aload_n 0, 1) := by decide +kernel
theorem dX11_down_6 : decode cX11_down 6 = .ok (.iload_n 1, 1) := by decide +kernel
theorem dX11_down_7 : decode cX11_down 7 = .ok (.ifCond .lt 15, 3) := by decide +kernel
theorem dX11_down_10 : decode cX11_down 10 = .ok (.iload_n 1, 1) := by decide +kernel
theorem dX11_down_11 : decode cX11_down 11 = .ok (.aload_n 0, 1) := by decide +kernel
theorem dX11_down_12 : decode cX11_down 12 = .ok (.getfield 111, 3) := by decide +kernel
theorem dX11_down_15 : decode cX11_down 15 = .ok (.if_icmp .gt 7, 3) := by decide +kernel
theorem dX11_down_18 : decode cX11_down 18 = .ok (.iconst 1, 1) := by decide +kernel
theorem dX11_down_19 : decode cX11_down 19 = .ok (.goto 4, 3) := by decide +kernel
theorem dX11_down_22 : decode cX11_down 22 = .ok (.iconst 0, 1) := by decide +kernel
theorem dX11_down_23 : decode cX11_down 23 = .ok (.iconst 1, 1) := by decide +kernel
theorem dX11_down_24 : decode cX11_down 24 = .ok (.iconst 1, 1) := by decide +kernel
theorem dX11_down_25 : decode cX11_down 25 = .ok (.invokevirtual 213, 3) := by decide +kernel
theorem dX11_down_28 : decode cX11_down 28 = .ok (.ifCond .ne 5, 3) := by decide +kernel
theorem dX11_down_31 : decode cX11_down 31 = .ok (.iconst 0, 1) := by decide +kernel
theorem dX11_down_32 : decode cX11_down 32 = .ok (.ireturn, 1) := by decide +kernel
theorem dX11_down_33 : decode cX11_down 33 = .ok (.aload_n 0, 1) := by decide +kernel
theorem dX11_down_34 : decode cX11_down 34 = .ok (.iload_n 1, 1) := by decide +kernel
theorem dX11_down_35 : decode cX11_down 35 = .ok (.invokevirtual 217, 3) := by decide +kernel
theorem dX11_down_38 : decode cX11_down 38 = .ok (.aload_n 0, 1) := by decide +kernel
theorem dX11_down_39 : decode cX11_down 39 = .ok (.invokevirtual 105, 3) := by decide +kernel
theorem dX11_down_42 : decode cX11_down 42 = .ok (.iconst 0, 1) := by decide +kernel
theorem dX11_down_43 : decode cX11_down 43 = .ok (.istore_n 2, 1) := by decide +kernel
theorem dX11_down_44 : decode cX11_down 44 = .ok (.aload_n 0, 1) := by decide +kernel
theorem dX11_down_45 : decode cX11_down 45 = .ok (.invokevirtual 143, 3) := by decide +kernel
theorem dX11_down_48 : decode cX11_down 48 = .ok (.ifCond .eq 88, 3) := by decide +kernel
theorem dX11_down_51 : decode cX11_down 51 = .ok (.aload_n 0, 1) := by decide +kernel
theorem dX11_down_52 : decode cX11_down 52 = .ok (.invokevirtual 221, 3) := by decide +kernel
theorem dX11_down_55 : decode cX11_down 55 = .ok (.ifCond .eq 81, 3) := by decide +kernel
theorem dX11_down_136 : decode cX11_down 136 = .ok (.aload_n 0, 1) := by decide +kernel
theorem dX11_down_137 : decode cX11_down 137 = .ok (.aload_n 0, 1) := by decide +kernel
theorem dX11_down_138 : decode cX11_down 138 = .ok (.getfield 160, 3) := by decide +kernel
theorem dX11_down_141 : decode cX11_down 141 = .ok (.invokevirtual 242, 3) := by decide +kernel
theorem dX11_down_144 : decode cX11_down 144 = .ok (.istore_n 3, 1) := by decide +kernel
theorem dX11_down_145 : decode cX11_down 145 = .ok (.aload_n 0, 1) := by decide +kernel
theorem dX11_down_146 : decode cX11_down 146 = .ok (.getfield 114, 3) := by decide +kernel
theorem dX11_down_149 : decode cX11_down 149 = .ok (.iconst (-1), 1) := by decide +kernel
theorem dX11_down_150 : decode cX11_down 150 = .ok (.if_icmp .ne 7, 3) := by decide +kernel
theorem dX11_down_153 : decode cX11_down 153 = .ok (.aload_n 0, 1) := by decide +kernel
theorem dX11_down_154 : decode cX11_down 154 = .ok (.invokevirtual 108, 3) := by decide +kernel
theorem dX11_down_157 : decode cX11_down 157 = .ok (.iload_n 3, 1) := by decide +kernel
theorem dX11_down_158 : decode cX11_down 158 = .ok (.ireturn, 1) := by decide +kernel
theorem dX11_readSum_0 : decode cX11_readSum 0 = .ok (.aload_n 0, 1) := by decide +kernel
theorem dX11_readSum_1 : decode cX11_readSum 1 = .ok (.invokevirtual 249, 3) := by decide +kernel
theorem dX11_readSum_4 : decode cX11_readSum 4 = .ok (.aload_n 0, 1) := by decide +kernel
theorem dX11_readSum_5 : decode cX11_readSum 5 = .ok (.invokevirtual 143, 3) := by decide +kernel
theorem dX11_readSum_8 : decode cX11_readSum 8 = .ok (.ifCond .eq 59, 3) := by decide +kernel
theorem dX11_readSum_67 : decode cX11_readSum 67 = .ok (.return_, 1) := by decide +kernel
theorem dX11_readProduct_0 : decode cX11_readProduct 0 = .ok (.aload_n 0, 1) := by decide +kernel
theorem dX11_readProduct_1 : decode cX11_readProduct 1 = .ok (.invokevirtual 255, 3) := by decide +kernel
theorem dX11_readProduct_4 : decode cX11_readProduct 4 = .ok (.aload_n 0, 1) := by decide +kernel
theorem dX11_readProduct_5 : decode cX11_readProduct 5 = .ok (.invokevirtual 143, 3) := by decide +kernel
theorem dX11_readProduct_8 : decode cX11_readProduct 8 = .ok (.ifCond .eq 82, 3) := by decide +kernel
theorem dX11_readProduct_90 : decode cX11_readProduct 90 = .ok (.return_, 1) := by decide +kernel
theorem dX11_factHere_0 : decode cX11_factHere 0 = .ok (.aload_n 0, 1) := by decide +kernel
theorem dX11_factHere_1 : decode cX11_factHere 1 = .ok (.invokevirtual 224, 3) := by decide +kernel
theorem dX11_factHere_4 : decode cX11_factHere 4 = .ok (.istore_n 1, 1) := by decide +kernel
theorem dX11_factHere_5 : decode cX11_factHere 5 = .ok (.iload_n 1, 1) := by decide +kernel
theorem dX11_factHere_6 : decode cX11_factHere 6 = .ok (.ldc_w 264, 3) := by decide +kernel
theorem dX11_factHere_9 : decode cX11_factHere 9 = .ok (.invokestatic 202, 3) := by decide +kernel
theorem dX11_factHere_12 : decode cX11_factHere 12 = .ok (.if_icmp .ne 7, 3) := by decide +kernel
theorem dX11_factHere_19 : decode cX11_factHere 19 = .ok (.iload_n 1, 1) := by decide +kernel
theorem dX11_factHere_20 : decode cX11_factHere 20 = .ok (.ldc_w 266, 3) := by decide +kernel
theorem dX11_factHere_23 : decode cX11_factHere 23 = .ok (.invokestatic 202, 3) := by decide +kernel
theorem dX11_factHere_26 : decode cX11_factHere 26 = .ok (.if_icmp .ne 7, 3) := by decide +kernel
theorem dX11_factHere_33 : decode cX11_factHere 33 = .ok (.iload_n 1, 1) := by decide +kernel
theorem dX11_factHere_34 : decode cX11_factHere 34 = .ok (.ldc_w 268, 3) := by decide +kernel
theorem dX11_factHere_37 : decode cX11_factHere 37 = .ok (.invokestatic 202, 3) := by decide +kernel
theorem dX11_factHere_40 : decode cX11_factHere 40 = .ok (.if_icmp .ne 7, 3) := by decide +kernel
theorem dX11_factHere_47 : decode cX11_factHere 47 = .ok (.iload_n 1, 1) := by decide +kernel
theorem dX11_factHere_48 : decode cX11_factHere 48 = .ok (.ldc_w 270, 3) := by decide +kernel
theorem dX11_factHere_51 : decode cX11_factHere 51 = .ok (.invokestatic 202, 3) := by decide +kernel
theorem dX11_factHere_54 : decode cX11_factHere 54 = .ok (.if_icmp .ne 7, 3) := by decide +kernel
theorem dX11_factHere_61 : decode cX11_factHere 61 = .ok (.iload_n 1, 1) := by decide +kernel
theorem dX11_factHere_62 : decode cX11_factHere 62 = .ok (.ldc_w 272, 3) := by decide +kernel
theorem dX11_factHere_65 : decode cX11_factHere 65 = .ok (.invokestatic 202, 3) := by decide +kernel
theorem dX11_factHere_68 : decode cX11_factHere 68 = .ok (.if_icmp .ne 7, 3) := by decide +kernel
theorem dX11_factHere_75 : decode cX11_factHere 75 = .ok (.iload_n 1, 1) := by decide +kernel
theorem dX11_factHere_76 : decode cX11_factHere 76 = .ok (.ldc_w 274, 3) := by decide +kernel
theorem dX11_factHere_79 : decode cX11_factHere 79 = .ok (.invokestatic 202, 3) := by decide +kernel
theorem dX11_factHere_82 : decode cX11_factHere 82 = .ok (.if_icmp .ne 7, 3) := by decide +kernel
theorem dX11_factHere_89 : decode cX11_factHere 89 = .ok (.iload_n 1, 1) := by decide +kernel
theorem dX11_factHere_90 : decode cX11_factHere 90 = .ok (.ldc 206, 2) := by decide +kernel
theorem dX11_factHere_92 : decode cX11_factHere 92 = .ok (.invokestatic 202, 3) := by decide +kernel
theorem dX11_factHere_95 : decode cX11_factHere 95 = .ok (.if_icmp .ne 8, 3) := by decide +kernel
theorem dX11_factHere_103 : decode cX11_factHere 103 = .ok (.iload_n 1, 1) := by decide +kernel
theorem dX11_factHere_104 : decode cX11_factHere 104 = .ok (.ldc_w 276, 3) := by decide +kernel
theorem dX11_factHere_107 : decode cX11_factHere 107 = .ok (.invokestatic 202, 3) := by decide +kernel
theorem dX11_factHere_110 : decode cX11_factHere 110 = .ok (.if_icmp .ne 8, 3) := by decide +kernel
theorem dX11_factHere_118 : decode cX11_factHere 118 = .ok (.iconst (-1), 1) := by decide +kernel
theorem dX11_factHere_119 : decode cX11_factHere 119 = .ok (.ireturn, 1) := by decide +kernel
theorem dX11_readUnit_0 : decode cX11_readUnit 0 = .ok (.aload_n 0, 1) := by decide +kernel
theorem dX11_readUnit_1 : decode cX11_readUnit 1 = .ok (.invokevirtual 143, 3) := by decide +kernel
theorem dX11_readUnit_4 : decode cX11_readUnit 4 = .ok (.ifCond .ne 4, 3) := by decide +kernel
theorem dX11_readUnit_8 : decode cX11_readUnit 8 = .ok (.aload_n 0, 1) := by decide +kernel
theorem dX11_readUnit_9 : decode cX11_readUnit 9 = .ok (.invokevirtual 126, 3) := by decide +kernel
theorem dX11_readUnit_12 : decode cX11_readUnit 12 = .ok (.bipush 40, 2) := by decide +kernel
theorem dX11_readUnit_14 : decode cX11_readUnit 14 = .ok (.if_icmp .ne 31, 3) := by decide +kernel
theorem dX11_readUnit_45 : decode cX11_readUnit 45 = .ok (.aload_n 0, 1) := by decide +kernel
theorem dX11_readUnit_46 : decode cX11_readUnit 46 = .ok (.invokevirtual 126, 3) := by decide +kernel
theorem dX11_readUnit_49 : decode cX11_readUnit 49 = .ok (.invokestatic 147, 3) := by decide +kernel
theorem dX11_readUnit_52 : decode cX11_readUnit 52 = .ok (.ifCond .eq 19, 3) := by decide +kernel
theorem dX11_readUnit_71 : decode cX11_readUnit 71 = .ok (.aload_n 0, 1) := by decide +kernel
theorem dX11_readUnit_72 : decode cX11_readUnit 72 = .ok (.invokevirtual 224, 3) := by decide +kernel
theorem dX11_readUnit_75 : decode cX11_readUnit 75 = .ok (.ldc_w 278, 3) := by decide +kernel
theorem dX11_readUnit_78 : decode cX11_readUnit 78 = .ok (.invokestatic 202, 3) := by decide +kernel
theorem dX11_readUnit_81 : decode cX11_readUnit 81 = .ok (.if_icmp .ne 13, 3) := by decide +kernel
theorem dX11_readUnit_94 : decode cX11_readUnit 94 = .ok (.aload_n 0, 1) := by decide +kernel
theorem dX11_readUnit_95 : decode cX11_readUnit 95 = .ok (.invokevirtual 224, 3) := by decide +kernel
theorem dX11_readUnit_98 : decode cX11_readUnit 98 = .ok (.ldc_w 283, 3) := by decide +kernel
theorem dX11_readUnit_101 : decode cX11_readUnit 101 = .ok (.invokestatic 202, 3) := by decide +kernel
theorem dX11_readUnit_104 : decode cX11_readUnit 104 = .ok (.if_icmp .ne 13, 3) := by decide +kernel
theorem dX11_readUnit_117 : decode cX11_readUnit 117 = .ok (.aload_n 0, 1) := by decide +kernel
theorem dX11_readUnit_118 : decode cX11_readUnit 118 = .ok (.invokevirtual 285, 3) := by decide +kernel
theorem dX11_readUnit_121 : decode cX11_readUnit 121 = .ok (.istore_n 1, 1) := by decide +kernel
theorem dX11_readUnit_122 : decode cX11_readUnit 122 = .ok (.iload_n 1, 1) := by decide +kernel
theorem dX11_readUnit_123 : decode cX11_readUnit 123 = .ok (.iconst (-1), 1) := by decide +kernel
theorem dX11_readUnit_124 : decode cX11_readUnit 124 = .ok (.if_icmp .ne 12, 3) := by decide +kernel
theorem dX11_readUnit_127 : decode cX11_readUnit 127 = .ok (.aload_n 0, 1) := by decide +kernel
theorem dX11_readUnit_128 : decode cX11_readUnit 128 = .ok (.iconst 1, 1) := by decide +kernel
theorem dX11_readUnit_129 : decode cX11_readUnit 129 = .ok (.aload_n 0, 1) := by decide +kernel
theorem dX11_readUnit_130 : decode cX11_readUnit 130 = .ok (.getfield 120, 3) := by decide +kernel
theorem dX11_readUnit_133 : decode cX11_readUnit 133 = .ok (.invokevirtual 150, 3) := by decide +kernel
theorem dX11_readUnit_136 : decode cX11_readUnit 136 = .ok (.aload_n 0, 1) := by decide +kernel
theorem dX11_readUnit_137 : decode cX11_readUnit 137 = .ok (.invokevirtual 143, 3) := by decide +kernel
theorem dX11_readUnit_140 : decode cX11_readUnit 140 = .ok (.ifCond .ne 4, 3) := by decide +kernel
theorem dX11_readUnit_143 : decode cX11_readUnit 143 = .ok (.return_, 1) := by decide +kernel
theorem dX11_law_0 : decode cX11_law 0 = .ok (.aload_n 0, 1) := by decide +kernel
theorem dX11_law_1 : decode cX11_law 1 = .ok (.iconst 0, 1) := by decide +kernel
theorem dX11_law_2 : decode cX11_law 2 = .ok (.putfield 3, 3) := by decide +kernel
theorem dX11_law_5 : decode cX11_law 5 = .ok (.aload_n 0, 1) := by decide +kernel
theorem dX11_law_6 : decode cX11_law 6 = .ok (.iload_n 1, 1) := by decide +kernel
theorem dX11_law_7 : decode cX11_law 7 = .ok (.ifCond .lt 22, 3) := by decide +kernel
theorem dX11_law_10 : decode cX11_law 10 = .ok (.iload_n 1, 1) := by decide +kernel
theorem dX11_law_11 : decode cX11_law 11 = .ok (.aload_n 0, 1) := by decide +kernel
theorem dX11_law_12 : decode cX11_law 12 = .ok (.getfield 111, 3) := by decide +kernel
theorem dX11_law_15 : decode cX11_law 15 = .ok (.if_icmp .gt 14, 3) := by decide +kernel
theorem dX11_law_18 : decode cX11_law 18 = .ok (.iload_n 1, 1) := by decide +kernel
theorem dX11_law_19 : decode cX11_law 19 = .ok (.sipush 150, 3) := by decide +kernel
theorem dX11_law_22 : decode cX11_law 22 = .ok (.if_icmp .gt 7, 3) := by decide +kernel
theorem dX11_law_25 : decode cX11_law 25 = .ok (.iconst 1, 1) := by decide +kernel
theorem dX11_law_26 : decode cX11_law 26 = .ok (.goto 4, 3) := by decide +kernel
theorem dX11_law_29 : decode cX11_law 29 = .ok (.iconst 0, 1) := by decide +kernel
theorem dX11_law_30 : decode cX11_law 30 = .ok (.iconst 1, 1) := by decide +kernel
theorem dX11_law_31 : decode cX11_law 31 = .ok (.iconst 1, 1) := by decide +kernel
theorem dX11_law_32 : decode cX11_law 32 = .ok (.invokevirtual 213, 3) := by decide +kernel
theorem dX11_law_35 : decode cX11_law 35 = .ok (.ifCond .ne 5, 3) := by decide +kernel
theorem dX11_law_38 : decode cX11_law 38 = .ok (.iconst 0, 1) := by decide +kernel
theorem dX11_law_39 : decode cX11_law 39 = .ok (.ireturn, 1) := by decide +kernel
theorem dX11_law_40 : decode cX11_law 40 = .ok (.aload_n 0, 1) := by decide +kernel
theorem dX11_law_41 : decode cX11_law 41 = .ok (.iload_n 1, 1) := by decide +kernel
theorem dX11_law_42 : decode cX11_law 42 = .ok (.invokevirtual 217, 3) := by decide +kernel
theorem dX11_law_45 : decode cX11_law 45 = .ok (.aload_n 0, 1) := by decide +kernel
theorem dX11_law_46 : decode cX11_law 46 = .ok (.iconst 0, 1) := by decide +kernel
theorem dX11_law_47 : decode cX11_law 47 = .ok (.putfield 246, 3) := by decide +kernel
theorem dX11_law_50 : decode cX11_law 50 = .ok (.aload_n 0, 1) := by decide +kernel
theorem dX11_law_51 : decode cX11_law 51 = .ok (.invokevirtual 261, 3) := by decide +kernel
theorem dX11_law_54 : decode cX11_law 54 = .ok (.aload_n 0, 1) := by decide +kernel
theorem dX11_law_55 : decode cX11_law 55 = .ok (.invokevirtual 143, 3) := by decide +kernel
theorem dX11_law_58 : decode cX11_law 58 = .ok (.ifCond .eq 19, 3) := by decide +kernel
theorem dX11_law_77 : decode cX11_law 77 = .ok (.aload_n 0, 1) := by decide +kernel
theorem dX11_law_78 : decode cX11_law 78 = .ok (.iconst 1, 1) := by decide +kernel
theorem dX11_law_79 : decode cX11_law 79 = .ok (.invokevirtual 242, 3) := by decide +kernel
theorem dX11_law_82 : decode cX11_law 82 = .ok (.istore_n 2, 1) := by decide +kernel
theorem dX11_law_83 : decode cX11_law 83 = .ok (.aload_n 0, 1) := by decide +kernel
theorem dX11_law_84 : decode cX11_law 84 = .ok (.getfield 114, 3) := by decide +kernel
theorem dX11_law_87 : decode cX11_law 87 = .ok (.iconst (-1), 1) := by decide +kernel
theorem dX11_law_88 : decode cX11_law 88 = .ok (.if_icmp .eq 5, 3) := by decide +kernel
theorem dX11_law_91 : decode cX11_law 91 = .ok (.iload_n 2, 1) := by decide +kernel
theorem dX11_law_92 : decode cX11_law 92 = .ok (.ireturn, 1) := by decide +kernel
theorem dX11_leapNow_0 : decode cX11_leapNow 0 = .ok (.aload_n 0, 1) := by decide +kernel
theorem dX11_leapNow_1 : decode cX11_leapNow 1 = .ok (.getfield 179, 3) := by decide +kernel
theorem dX11_leapNow_4 : decode cX11_leapNow 4 = .ok (.ifCond .ne 21, 3) := by decide +kernel
theorem dX11_leapNow_7 : decode cX11_leapNow 7 = .ok (.iconst 4, 1) := by decide +kernel
theorem dX11_leapNow_8 : decode cX11_leapNow 8 = .ok (.aload_n 0, 1) := by decide +kernel
theorem dX11_leapNow_9 : decode cX11_leapNow 9 = .ok (.getfield 59, 3) := by decide +kernel
theorem dX11_leapNow_12 : decode cX11_leapNow 12 = .ok (.iconst 0, 1) := by decide +kernel
theorem dX11_leapNow_13 : decode cX11_leapNow 13 = .ok (.iaload, 1) := by decide +kernel
theorem dX11_leapNow_14 : decode cX11_leapNow 14 = .ok (.iadd, 1) := by decide +kernel
theorem dX11_leapNow_15 : decode cX11_leapNow 15 = .ok (.aload_n 0, 1) := by decide +kernel
theorem dX11_leapNow_16 : decode cX11_leapNow 16 = .ok (.getfield 59, 3) := by decide +kernel
theorem dX11_leapNow_19 : decode cX11_leapNow 19 = .ok (.iconst 1, 1) := by decide +kernel
theorem dX11_leapNow_20 : decode cX11_leapNow 20 = .ok (.iaload, 1) := by decide +kernel
theorem dX11_leapNow_21 : decode cX11_leapNow 21 = .ok (.isub, 1) := by decide +kernel
theorem dX11_leapNow_22 : decode cX11_leapNow 22 = .ok (.goto 7, 3) := by decide +kernel
theorem dX11_leapNow_29 : decode cX11_leapNow 29 = .ok (.istore_n 1, 1) := by decide +kernel
theorem dX11_leapNow_30 : decode cX11_leapNow 30 = .ok (.iload_n 1, 1) := by decide +kernel
theorem dX11_leapNow_31 : decode cX11_leapNow 31 = .ok (.ifCond .ge 7, 3) := by decide +kernel
theorem dX11_leapNow_34 : decode cX11_leapNow 34 = .ok (.iconst 0, 1) := by decide +kernel
theorem dX11_leapNow_35 : decode cX11_leapNow 35 = .ok (.goto 15, 3) := by decide +kernel
theorem dX11_leapNow_38 : decode cX11_leapNow 38 = .ok (.iload_n 1, 1) := by decide +kernel
theorem dX11_leapNow_39 : decode cX11_leapNow 39 = .ok (.bipush 60, 2) := by decide +kernel
theorem dX11_leapNow_41 : decode cX11_leapNow 41 = .ok (.if_icmp .le 8, 3) := by decide +kernel
theorem dX11_leapNow_49 : decode cX11_leapNow 49 = .ok (.iload_n 1, 1) := by decide +kernel
theorem dX11_leapNow_50 : decode cX11_leapNow 50 = .ok (.ireturn, 1) := by decide +kernel
theorem dX11_work_0 : decode cX11_work 0 = .ok (.aload_n 0, 1) := by decide +kernel
theorem dX11_work_1 : decode cX11_work 1 = .ok (.iconst 0, 1) := by decide +kernel
theorem dX11_work_2 : decode cX11_work 2 = .ok (.putfield 3, 3) := by decide +kernel
theorem dX11_work_5 : decode cX11_work 5 = .ok (.aload_n 0, 1) := by decide +kernel
theorem dX11_work_6 : decode cX11_work 6 = .ok (.iload_n 1, 1) := by decide +kernel
theorem dX11_work_7 : decode cX11_work 7 = .ok (.ifCond .lt 22, 3) := by decide +kernel
theorem dX11_work_10 : decode cX11_work 10 = .ok (.iload_n 1, 1) := by decide +kernel
theorem dX11_work_11 : decode cX11_work 11 = .ok (.aload_n 0, 1) := by decide +kernel
theorem dX11_work_12 : decode cX11_work 12 = .ok (.getfield 111, 3) := by decide +kernel
theorem dX11_work_15 : decode cX11_work 15 = .ok (.if_icmp .gt 14, 3) := by decide +kernel
theorem dX11_work_18 : decode cX11_work 18 = .ok (.iload_n 1, 1) := by decide +kernel
theorem dX11_work_19 : decode cX11_work 19 = .ok (.sipush 150, 3) := by decide +kernel
theorem dX11_work_22 : decode cX11_work 22 = .ok (.if_icmp .gt 7, 3) := by decide +kernel
theorem dX11_work_25 : decode cX11_work 25 = .ok (.iconst 1, 1) := by decide +kernel
theorem dX11_work_26 : decode cX11_work 26 = .ok (.goto 4, 3) := by decide +kernel
theorem dX11_work_29 : decode cX11_work 29 = .ok (.iconst 0, 1) := by decide +kernel
theorem dX11_work_30 : decode cX11_work 30 = .ok (.iconst 1, 1) := by decide +kernel
theorem dX11_work_31 : decode cX11_work 31 = .ok (.iconst 1, 1) := by decide +kernel
theorem dX11_work_32 : decode cX11_work 32 = .ok (.invokevirtual 213, 3) := by decide +kernel
theorem dX11_work_35 : decode cX11_work 35 = .ok (.ifCond .ne 5, 3) := by decide +kernel
theorem dX11_work_38 : decode cX11_work 38 = .ok (.iconst 0, 1) := by decide +kernel
theorem dX11_work_39 : decode cX11_work 39 = .ok (.ireturn, 1) := by decide +kernel
theorem dX11_work_40 : decode cX11_work 40 = .ok (.aload_n 0, 1) := by decide +kernel
theorem dX11_work_41 : decode cX11_work 41 = .ok (.iload_n 1, 1) := by decide +kernel
theorem dX11_work_42 : decode cX11_work 42 = .ok (.invokevirtual 217, 3) := by decide +kernel
theorem dX11_work_45 : decode cX11_work 45 = .ok (.aload_n 0, 1) := by decide +kernel
theorem dX11_work_46 : decode cX11_work 46 = .ok (.getfield 185, 3) := by decide +kernel
theorem dX11_work_49 : decode cX11_work 49 = .ok (.bipush 16, 2) := by decide +kernel
theorem dX11_work_51 : decode cX11_work 51 = .ok (.if_icmp .ne 12, 3) := by decide +kernel
theorem dX11_work_63 : decode cX11_work 63 = .ok (.aload_n 0, 1) := by decide +kernel
theorem dX11_work_64 : decode cX11_work 64 = .ok (.iconst 0, 1) := by decide +kernel
theorem dX11_work_65 : decode cX11_work 65 = .ok (.putfield 295, 3) := by decide +kernel
theorem dX11_work_68 : decode cX11_work 68 = .ok (.aload_n 0, 1) := by decide +kernel
theorem dX11_work_69 : decode cX11_work 69 = .ok (.invokevirtual 143, 3) := by decide +kernel
theorem dX11_work_72 : decode cX11_work 72 = .ok (.ifCond .eq 17, 3) := by decide +kernel
theorem dX11_work_75 : decode cX11_work 75 = .ok (.aload_n 0, 1) := by decide +kernel
theorem dX11_work_76 : decode cX11_work 76 = .ok (.invokevirtual 221, 3) := by decide +kernel
theorem dX11_work_79 : decode cX11_work 79 = .ok (.ifCond .eq 10, 3) := by decide +kernel
theorem dX11_work_89 : decode cX11_work 89 = .ok (.aload_n 0, 1) := by decide +kernel
theorem dX11_work_90 : decode cX11_work 90 = .ok (.iconst 0, 1) := by decide +kernel
theorem dX11_work_91 : decode cX11_work 91 = .ok (.invokevirtual 242, 3) := by decide +kernel
theorem dX11_work_94 : decode cX11_work 94 = .ok (.istore_n 2, 1) := by decide +kernel
theorem dX11_work_95 : decode cX11_work 95 = .ok (.aload_n 0, 1) := by decide +kernel
theorem dX11_work_96 : decode cX11_work 96 = .ok (.getfield 114, 3) := by decide +kernel
theorem dX11_work_99 : decode cX11_work 99 = .ok (.iconst (-1), 1) := by decide +kernel
theorem dX11_work_100 : decode cX11_work 100 = .ok (.if_icmp .eq 5, 3) := by decide +kernel
theorem dX11_work_105 : decode cX11_work 105 = .ok (.aload_n 0, 1) := by decide +kernel
theorem dX11_work_106 : decode cX11_work 106 = .ok (.aload_n 0, 1) := by decide +kernel
theorem dX11_work_107 : decode cX11_work 107 = .ok (.getfield 62, 3) := by decide +kernel
theorem dX11_work_110 : decode cX11_work 110 = .ok (.aload_n 0, 1) := by decide +kernel
theorem dX11_work_111 : decode cX11_work 111 = .ok (.getfield 65, 3) := by decide +kernel
theorem dX11_work_114 : decode cX11_work 114 = .ok (.aload_n 0, 1) := by decide +kernel
theorem dX11_work_115 : decode cX11_work 115 = .ok (.getfield 295, 3) := by decide +kernel
theorem dX11_work_118 : decode cX11_work 118 = .ok (.invokevirtual 175, 3) := by decide +kernel
theorem dX11_work_121 : decode cX11_work 121 = .ok (.iconst 0, 1) := by decide +kernel
theorem dX11_work_122 : decode cX11_work 122 = .ok (.istore_n 3, 1) := by decide +kernel
theorem dX11_work_123 : decode cX11_work 123 = .ok (.iload_n 3, 1) := by decide +kernel
theorem dX11_work_124 : decode cX11_work 124 = .ok (.bipush 68, 2) := by decide +kernel
theorem dX11_work_126 : decode cX11_work 126 = .ok (.if_icmp .ge 29, 3) := by decide +kernel
theorem dX11_work_129 : decode cX11_work 129 = .ok (.aload_n 0, 1) := by decide +kernel
theorem dX11_work_130 : decode cX11_work 130 = .ok (.getfield 74, 3) := by decide +kernel
theorem dX11_work_133 : decode cX11_work 133 = .ok (.bipush 68, 2) := by decide +kernel
theorem dX11_work_135 : decode cX11_work 135 = .ok (.aload_n 0, 1) := by decide +kernel
theorem dX11_work_136 : decode cX11_work 136 = .ok (.getfield 185, 3) := by decide +kernel
theorem dX11_work_139 : decode cX11_work 139 = .ok (.imul, 1) := by decide +kernel
theorem dX11_work_140 : decode cX11_work 140 = .ok (.iload_n 3, 1) := by decide +kernel
theorem dX11_work_141 : decode cX11_work 141 = .ok (.iadd, 1) := by decide +kernel
theorem dX11_work_142 : decode cX11_work 142 = .ok (.aload_n 0, 1) := by decide +kernel
theorem dX11_work_143 : decode cX11_work 143 = .ok (.getfield 68, 3) := by decide +kernel
theorem dX11_work_146 : decode cX11_work 146 = .ok (.iload_n 3, 1) := by decide +kernel
theorem dX11_work_147 : decode cX11_work 147 = .ok (.iaload, 1) := by decide +kernel
theorem dX11_work_148 : decode cX11_work 148 = .ok (.iastore, 1) := by decide +kernel
theorem dX11_work_149 : decode cX11_work 149 = .ok (.iinc 3 1, 3) := by decide +kernel
theorem dX11_work_152 : decode cX11_work 152 = .ok (.goto (-29), 3) := by decide +kernel
theorem dX11_work_155 : decode cX11_work 155 = .ok (.aload_n 0, 1) := by decide +kernel
theorem dX11_work_156 : decode cX11_work 156 = .ok (.dup, 1) := by decide +kernel
theorem dX11_work_157 : decode cX11_work 157 = .ok (.getfield 185, 3) := by decide +kernel
theorem dX11_work_160 : decode cX11_work 160 = .ok (.iconst 1, 1) := by decide +kernel
theorem dX11_work_161 : decode cX11_work 161 = .ok (.iadd, 1) := by decide +kernel
theorem dX11_work_162 : decode cX11_work 162 = .ok (.putfield 185, 3) := by decide +kernel
theorem dX11_work_165 : decode cX11_work 165 = .ok (.aload_n 0, 1) := by decide +kernel
theorem dX11_work_166 : decode cX11_work 166 = .ok (.invokevirtual 316, 3) := by decide +kernel
theorem dX11_work_169 : decode cX11_work 169 = .ok (.aload_n 0, 1) := by decide +kernel
theorem dX11_work_170 : decode cX11_work 170 = .ok (.iconst 0, 1) := by decide +kernel
theorem dX11_work_171 : decode cX11_work 171 = .ok (.putfield 319, 3) := by decide +kernel
theorem dX11_work_174 : decode cX11_work 174 = .ok (.aload_n 0, 1) := by decide +kernel
theorem dX11_work_175 : decode cX11_work 175 = .ok (.iconst 0, 1) := by decide +kernel
theorem dX11_work_176 : decode cX11_work 176 = .ok (.putfield 322, 3) := by decide +kernel
theorem dX11_work_179 : decode cX11_work 179 = .ok (.aload_n 0, 1) := by decide +kernel
theorem dX11_work_180 : decode cX11_work 180 = .ok (.iconst 0, 1) := by decide +kernel
theorem dX11_work_181 : decode cX11_work 181 = .ok (.putfield 325, 3) := by decide +kernel
theorem dX11_work_184 : decode cX11_work 184 = .ok (.aload_n 0, 1) := by decide +kernel
theorem dX11_work_185 : decode cX11_work 185 = .ok (.iconst 0, 1) := by decide +kernel
theorem dX11_work_186 : decode cX11_work 186 = .ok (.aload_n 0, 1) := by decide +kernel
theorem dX11_work_187 : decode cX11_work 187 = .ok (.getfield 295, 3) := by decide +kernel
theorem dX11_work_190 : decode cX11_work 190 = .ok (.invokevirtual 328, 3) := by decide +kernel
theorem dX11_work_193 : decode cX11_work 193 = .ok (.aload_n 0, 1) := by decide +kernel
theorem dX11_work_194 : decode cX11_work 194 = .ok (.aload_n 0, 1) := by decide +kernel
theorem dX11_work_195 : decode cX11_work 195 = .ok (.getfield 71, 3) := by decide +kernel
theorem dX11_work_198 : decode cX11_work 198 = .ok (.aload_n 0, 1) := by decide +kernel
theorem dX11_work_199 : decode cX11_work 199 = .ok (.getfield 68, 3) := by decide +kernel
theorem dX11_work_202 : decode cX11_work 202 = .ok (.bipush 68, 2) := by decide +kernel
theorem dX11_work_204 : decode cX11_work 204 = .ok (.invokevirtual 175, 3) := by decide +kernel
theorem dX11_work_207 : decode cX11_work 207 = .ok (.aload_n 0, 1) := by decide +kernel
theorem dX11_work_208 : decode cX11_work 208 = .ok (.aload_n 0, 1) := by decide +kernel
theorem dX11_work_209 : decode cX11_work 209 = .ok (.getfield 325, 3) := by decide +kernel
theorem dX11_work_212 : decode cX11_work 212 = .ok (.putfield 191, 3) := by decide +kernel
theorem dX11_work_215 : decode cX11_work 215 = .ok (.aload_n 0, 1) := by decide +kernel
theorem dX11_work_216 : decode cX11_work 216 = .ok (.getfield 322, 3) := by decide +kernel
theorem dX11_work_219 : decode cX11_work 219 = .ok (.ireturn, 1) := by decide +kernel
theorem dX11_goesSteps_0 : decode cX11_goesSteps 0 = .ok (.iload_n 1, 1) := by decide +kernel
theorem dX11_goesSteps_1 : decode cX11_goesSteps 1 = .ok (.istore_n 3, 1) := by decide +kernel
theorem dX11_goesSteps_2 : decode cX11_goesSteps 2 = .ok (.iload_n 3, 1) := by decide +kernel
theorem dX11_goesSteps_3 : decode cX11_goesSteps 3 = .ok (.iload_n 2, 1) := by decide +kernel
theorem dX11_goesSteps_4 : decode cX11_goesSteps 4 = .ok (.if_icmp .ge 156, 3) := by decide +kernel
theorem dX11_goesSteps_160 : decode cX11_goesSteps 160 = .ok (.return_, 1) := by decide +kernel
theorem dX11_take_0 : decode cX11_take 0 = .ok (.aload_n 0, 1) := by decide +kernel
theorem dX11_take_1 : decode cX11_take 1 = .ok (.aload_n 0, 1) := by decide +kernel
theorem dX11_take_2 : decode cX11_take 2 = .ok (.getfield 68, 3) := by decide +kernel
theorem dX11_take_5 : decode cX11_take 5 = .ok (.aload_n 0, 1) := by decide +kernel
theorem dX11_take_6 : decode cX11_take 6 = .ok (.getfield 71, 3) := by decide +kernel
theorem dX11_take_9 : decode cX11_take 9 = .ok (.bipush 68, 2) := by decide +kernel
theorem dX11_take_11 : decode cX11_take 11 = .ok (.invokevirtual 175, 3) := by decide +kernel
theorem dX11_take_14 : decode cX11_take 14 = .ok (.return_, 1) := by decide +kernel
theorem dX11_leapOf_0 : decode cX11_leapOf 0 = .ok (.aload_n 0, 1) := by decide +kernel
theorem dX11_leapOf_1 : decode cX11_leapOf 1 = .ok (.getfield 59, 3) := by decide +kernel
theorem dX11_leapOf_4 : decode cX11_leapOf 4 = .ok (.iconst 0, 1) := by decide +kernel
theorem dX11_leapOf_5 : decode cX11_leapOf 5 = .ok (.iload_n 1, 1) := by decide +kernel
theorem dX11_leapOf_6 : decode cX11_leapOf 6 = .ok (.iastore, 1) := by decide +kernel
theorem dX11_leapOf_7 : decode cX11_leapOf 7 = .ok (.aload_n 0, 1) := by decide +kernel
theorem dX11_leapOf_8 : decode cX11_leapOf 8 = .ok (.getfield 59, 3) := by decide +kernel
theorem dX11_leapOf_11 : decode cX11_leapOf 11 = .ok (.iconst 1, 1) := by decide +kernel
theorem dX11_leapOf_12 : decode cX11_leapOf 12 = .ok (.iload_n 2, 1) := by decide +kernel
theorem dX11_leapOf_13 : decode cX11_leapOf 13 = .ok (.iastore, 1) := by decide +kernel
theorem dX11_leapOf_14 : decode cX11_leapOf 14 = .ok (.aload_n 0, 1) := by decide +kernel
theorem dX11_leapOf_15 : decode cX11_leapOf 15 = .ok (.getfield 59, 3) := by decide +kernel
theorem dX11_leapOf_18 : decode cX11_leapOf 18 = .ok (.iconst 2, 1) := by decide +kernel
theorem dX11_leapOf_19 : decode cX11_leapOf 19 = .ok (.iload_n 3, 1) := by decide +kernel
theorem dX11_leapOf_20 : decode cX11_leapOf 20 = .ok (.iastore, 1) := by decide +kernel
theorem dX11_leapOf_21 : decode cX11_leapOf 21 = .ok (.aload_n 0, 1) := by decide +kernel
theorem dX11_leapOf_22 : decode cX11_leapOf 22 = .ok (.getfield 59, 3) := by decide +kernel
theorem dX11_leapOf_25 : decode cX11_leapOf 25 = .ok (.iconst 3, 1) := by decide +kernel
theorem dX11_leapOf_26 : decode cX11_leapOf 26 = .ok (.iload 4, 2) := by decide +kernel
theorem dX11_leapOf_28 : decode cX11_leapOf 28 = .ok (.iastore, 1) := by decide +kernel
theorem dX11_leapOf_29 : decode cX11_leapOf 29 = .ok (.aload_n 0, 1) := by decide +kernel
theorem dX11_leapOf_30 : decode cX11_leapOf 30 = .ok (.getfield 59, 3) := by decide +kernel
theorem dX11_leapOf_33 : decode cX11_leapOf 33 = .ok (.iconst 4, 1) := by decide +kernel
theorem dX11_leapOf_34 : decode cX11_leapOf 34 = .ok (.iload 5, 2) := by decide +kernel
theorem dX11_leapOf_36 : decode cX11_leapOf 36 = .ok (.iastore, 1) := by decide +kernel
theorem dX11_leapOf_37 : decode cX11_leapOf 37 = .ok (.aload_n 0, 1) := by decide +kernel
theorem dX11_leapOf_38 : decode cX11_leapOf 38 = .ok (.getfield 59, 3) := by decide +kernel
theorem dX11_leapOf_41 : decode cX11_leapOf 41 = .ok (.iconst 5, 1) := by decide +kernel
theorem dX11_leapOf_42 : decode cX11_leapOf 42 = .ok (.iload 6, 2) := by decide +kernel
theorem dX11_leapOf_44 : decode cX11_leapOf 44 = .ok (.iastore, 1) := by decide +kernel
theorem dX11_leapOf_45 : decode cX11_leapOf 45 = .ok (.aload_n 0, 1) := by decide +kernel
theorem dX11_leapOf_46 : decode cX11_leapOf 46 = .ok (.getfield 59, 3) := by decide +kernel
theorem dX11_leapOf_49 : decode cX11_leapOf 49 = .ok (.bipush 6, 2) := by decide +kernel
theorem dX11_leapOf_51 : decode cX11_leapOf 51 = .ok (.iload 7, 2) := by decide +kernel
theorem dX11_leapOf_53 : decode cX11_leapOf 53 = .ok (.iastore, 1) := by decide +kernel
theorem dX11_leapOf_54 : decode cX11_leapOf 54 = .ok (.aload_n 0, 1) := by decide +kernel
theorem dX11_leapOf_55 : decode cX11_leapOf 55 = .ok (.getfield 59, 3) := by decide +kernel
theorem dX11_leapOf_58 : decode cX11_leapOf 58 = .ok (.bipush 7, 2) := by decide +kernel
theorem dX11_leapOf_60 : decode cX11_leapOf 60 = .ok (.iload 8, 2) := by decide +kernel
theorem dX11_leapOf_62 : decode cX11_leapOf 62 = .ok (.iastore, 1) := by decide +kernel
theorem dX11_leapOf_63 : decode cX11_leapOf 63 = .ok (.aload_n 0, 1) := by decide +kernel
theorem dX11_leapOf_64 : decode cX11_leapOf 64 = .ok (.invokevirtual 337, 3) := by decide +kernel
theorem dX11_leapOf_67 : decode cX11_leapOf 67 = .ok (.ireturn, 1) := by decide +kernel
theorem dX11_strokes_0 : decode cX11_strokes 0 = .ok (.iconst 0, 1) := by decide +kernel
theorem dX11_strokes_1 : decode cX11_strokes 1 = .ok (.istore_n 1, 1) := by decide +kernel
theorem dX11_strokes_2 : decode cX11_strokes 2 = .ok (.iload_n 1, 1) := by decide +kernel
theorem dX11_strokes_3 : decode cX11_strokes 3 = .ok (.aload_n 0, 1) := by decide +kernel
theorem dX11_strokes_4 : decode cX11_strokes 4 = .ok (.getfield 169, 3) := by decide +kernel
theorem dX11_strokes_7 : decode cX11_strokes 7 = .ok (.if_icmp .ge 112, 3) := by decide +kernel
theorem dX11_strokes_119 : decode cX11_strokes 119 = .ok (.aload_n 0, 1) := by decide +kernel
theorem dX11_strokes_120 : decode cX11_strokes 120 = .ok (.getfield 71, 3) := by decide +kernel
theorem dX11_strokes_123 : decode cX11_strokes 123 = .ok (.bipush 66, 2) := by decide +kernel
theorem dX11_strokes_125 : decode cX11_strokes 125 = .ok (.iconst 1, 1) := by decide +kernel
theorem dX11_strokes_126 : decode cX11_strokes 126 = .ok (.iastore, 1) := by decide +kernel
theorem dX11_strokes_127 : decode cX11_strokes 127 = .ok (.aload_n 0, 1) := by decide +kernel
theorem dX11_strokes_128 : decode cX11_strokes 128 = .ok (.getfield 71, 3) := by decide +kernel
theorem dX11_strokes_131 : decode cX11_strokes 131 = .ok (.bipush 67, 2) := by decide +kernel
theorem dX11_strokes_133 : decode cX11_strokes 133 = .ok (.dup2, 1) := by decide +kernel
theorem dX11_strokes_134 : decode cX11_strokes 134 = .ok (.iaload, 1) := by decide +kernel
theorem dX11_strokes_135 : decode cX11_strokes 135 = .ok (.iconst 1, 1) := by decide +kernel
theorem dX11_strokes_136 : decode cX11_strokes 136 = .ok (.iadd, 1) := by decide +kernel
theorem dX11_strokes_137 : decode cX11_strokes 137 = .ok (.iastore, 1) := by decide +kernel
theorem dX11_strokes_138 : decode cX11_strokes 138 = .ok (.return_, 1) := by decide +kernel
theorem dX11_passes_0 : decode cX11_passes 0 = .ok (.iconst 0, 1) := by decide +kernel
theorem dX11_passes_1 : decode cX11_passes 1 = .ok (.istore_n 1, 1) := by decide +kernel
theorem dX11_passes_2 : decode cX11_passes 2 = .ok (.iload_n 1, 1) := by decide +kernel
theorem dX11_passes_3 : decode cX11_passes 3 = .ok (.aload_n 0, 1) := by decide +kernel
theorem dX11_passes_4 : decode cX11_passes 4 = .ok (.getfield 169, 3) := by decide +kernel
theorem dX11_passes_7 : decode cX11_passes 7 = .ok (.if_icmp .ge 42, 3) := by decide +kernel
theorem dX11_passes_49 : decode cX11_passes 49 = .ok (.aload_n 0, 1) := by decide +kernel
theorem dX11_passes_50 : decode cX11_passes 50 = .ok (.getfield 71, 3) := by decide +kernel
theorem dX11_passes_53 : decode cX11_passes 53 = .ok (.bipush 66, 2) := by decide +kernel
theorem dX11_passes_55 : decode cX11_passes 55 = .ok (.dup2, 1) := by decide +kernel
theorem dX11_passes_56 : decode cX11_passes 56 = .ok (.iaload, 1) := by decide +kernel
theorem dX11_passes_57 : decode cX11_passes 57 = .ok (.iconst 1, 1) := by decide +kernel
theorem dX11_passes_58 : decode cX11_passes 58 = .ok (.iadd, 1) := by decide +kernel
theorem dX11_passes_59 : decode cX11_passes 59 = .ok (.iastore, 1) := by decide +kernel
theorem dX11_passes_60 : decode cX11_passes 60 = .ok (.aload_n 0, 1) := by decide +kernel
theorem dX11_passes_61 : decode cX11_passes 61 = .ok (.getfield 71, 3) := by decide +kernel
theorem dX11_passes_64 : decode cX11_passes 64 = .ok (.bipush 66, 2) := by decide +kernel
theorem dX11_passes_66 : decode cX11_passes 66 = .ok (.iaload, 1) := by decide +kernel
theorem dX11_passes_67 : decode cX11_passes 67 = .ok (.bipush 31, 2) := by decide +kernel
theorem dX11_passes_69 : decode cX11_passes 69 = .ok (.if_icmp .le 7, 3) := by decide +kernel
theorem dX11_passes_72 : decode cX11_passes 72 = .ok (.aload_n 0, 1) := by decide +kernel
theorem dX11_passes_73 : decode cX11_passes 73 = .ok (.invokevirtual 374, 3) := by decide +kernel
theorem dX11_passes_76 : decode cX11_passes 76 = .ok (.iconst 0, 1) := by decide +kernel
theorem dX11_passes_77 : decode cX11_passes 77 = .ok (.istore_n 1, 1) := by decide +kernel
theorem dX11_passes_78 : decode cX11_passes 78 = .ok (.iload_n 1, 1) := by decide +kernel
theorem dX11_passes_79 : decode cX11_passes 79 = .ok (.bipush 6, 2) := by decide +kernel
theorem dX11_passes_81 : decode cX11_passes 81 = .ok (.if_icmp .ge 19, 3) := by decide +kernel
theorem dX11_passes_84 : decode cX11_passes 84 = .ok (.aload_n 0, 1) := by decide +kernel
theorem dX11_passes_85 : decode cX11_passes 85 = .ok (.getfield 71, 3) := by decide +kernel
theorem dX11_passes_88 : decode cX11_passes 88 = .ok (.bipush 24, 2) := by decide +kernel
theorem dX11_passes_90 : decode cX11_passes 90 = .ok (.iload_n 1, 1) := by decide +kernel
theorem dX11_passes_91 : decode cX11_passes 91 = .ok (.iadd, 1) := by decide +kernel
theorem dX11_passes_92 : decode cX11_passes 92 = .ok (.iconst 0, 1) := by decide +kernel
theorem dX11_passes_93 : decode cX11_passes 93 = .ok (.iastore, 1) := by decide +kernel
theorem dX11_passes_94 : decode cX11_passes 94 = .ok (.iinc 1 1, 3) := by decide +kernel
theorem dX11_passes_97 : decode cX11_passes 97 = .ok (.goto (-19), 3) := by decide +kernel
theorem dX11_passes_100 : decode cX11_passes 100 = .ok (.return_, 1) := by decide +kernel
theorem dX11_book_0 : decode cX11_book 0 = .ok (.aload_n 0, 1) := by decide +kernel
theorem dX11_book_1 : decode cX11_book 1 = .ok (.iconst 0, 1) := by decide +kernel
theorem dX11_book_2 : decode cX11_book 2 = .ok (.putfield 3, 3) := by decide +kernel
theorem dX11_book_5 : decode cX11_book 5 = .ok (.aload_n 0, 1) := by decide +kernel
theorem dX11_book_6 : decode cX11_book 6 = .ok (.iload_n 1, 1) := by decide +kernel
theorem dX11_book_7 : decode cX11_book 7 = .ok (.ifCond .lt 21, 3) := by decide +kernel
theorem dX11_book_10 : decode cX11_book 10 = .ok (.iload_n 1, 1) := by decide +kernel
theorem dX11_book_11 : decode cX11_book 11 = .ok (.aload_n 0, 1) := by decide +kernel
theorem dX11_book_12 : decode cX11_book 12 = .ok (.getfield 111, 3) := by decide +kernel
theorem dX11_book_15 : decode cX11_book 15 = .ok (.if_icmp .gt 13, 3) := by decide +kernel
theorem dX11_book_18 : decode cX11_book 18 = .ok (.iload_n 1, 1) := by decide +kernel
theorem dX11_book_19 : decode cX11_book 19 = .ok (.bipush 60, 2) := by decide +kernel
theorem dX11_book_21 : decode cX11_book 21 = .ok (.if_icmp .gt 7, 3) := by decide +kernel
theorem dX11_book_24 : decode cX11_book 24 = .ok (.iconst 1, 1) := by decide +kernel
theorem dX11_book_25 : decode cX11_book 25 = .ok (.goto 4, 3) := by decide +kernel
theorem dX11_book_28 : decode cX11_book 28 = .ok (.iconst 0, 1) := by decide +kernel
theorem dX11_book_29 : decode cX11_book 29 = .ok (.iconst 1, 1) := by decide +kernel
theorem dX11_book_30 : decode cX11_book 30 = .ok (.iconst 1, 1) := by decide +kernel
theorem dX11_book_31 : decode cX11_book 31 = .ok (.invokevirtual 213, 3) := by decide +kernel
theorem dX11_book_34 : decode cX11_book 34 = .ok (.ifCond .ne 5, 3) := by decide +kernel
theorem dX11_book_37 : decode cX11_book 37 = .ok (.iconst 0, 1) := by decide +kernel
theorem dX11_book_38 : decode cX11_book 38 = .ok (.ireturn, 1) := by decide +kernel
theorem dX11_book_39 : decode cX11_book 39 = .ok (.aload_n 0, 1) := by decide +kernel
theorem dX11_book_40 : decode cX11_book 40 = .ok (.iload_n 1, 1) := by decide +kernel
theorem dX11_book_41 : decode cX11_book 41 = .ok (.invokevirtual 217, 3) := by decide +kernel
theorem dX11_book_44 : decode cX11_book 44 = .ok (.iconst 0, 1) := by decide +kernel
theorem dX11_book_45 : decode cX11_book 45 = .ok (.istore_n 2, 1) := by decide +kernel
theorem dX11_book_46 : decode cX11_book 46 = .ok (.iload_n 2, 1) := by decide +kernel
theorem dX11_book_47 : decode cX11_book 47 = .ok (.bipush 8, 2) := by decide +kernel
theorem dX11_book_49 : decode cX11_book 49 = .ok (.if_icmp .ge 16, 3) := by decide +kernel
theorem dX11_book_52 : decode cX11_book 52 = .ok (.aload_n 0, 1) := by decide +kernel
theorem dX11_book_53 : decode cX11_book 53 = .ok (.getfield 77, 3) := by decide +kernel
theorem dX11_book_56 : decode cX11_book 56 = .ok (.iload_n 2, 1) := by decide +kernel
theorem dX11_book_57 : decode cX11_book 57 = .ok (.iconst (-1), 1) := by decide +kernel
theorem dX11_book_58 : decode cX11_book 58 = .ok (.iastore, 1) := by decide +kernel
theorem dX11_book_59 : decode cX11_book 59 = .ok (.iinc 2 1, 3) := by decide +kernel
theorem dX11_book_62 : decode cX11_book 62 = .ok (.goto (-16), 3) := by decide +kernel
theorem dX11_book_65 : decode cX11_book 65 = .ok (.iconst 0, 1) := by decide +kernel
theorem dX11_book_66 : decode cX11_book 66 = .ok (.istore_n 2, 1) := by decide +kernel
theorem dX11_book_67 : decode cX11_book 67 = .ok (.aload_n 0, 1) := by decide +kernel
theorem dX11_book_68 : decode cX11_book 68 = .ok (.invokevirtual 143, 3) := by decide +kernel
theorem dX11_book_71 : decode cX11_book 71 = .ok (.ifCond .eq 97, 3) := by decide +kernel
theorem dX11_book_74 : decode cX11_book 74 = .ok (.aload_n 0, 1) := by decide +kernel
theorem dX11_book_75 : decode cX11_book 75 = .ok (.invokevirtual 221, 3) := by decide +kernel
theorem dX11_book_78 : decode cX11_book 78 = .ok (.ifCond .eq 90, 3) := by decide +kernel
theorem dX11_book_168 : decode cX11_book 168 = .ok (.aload_n 0, 1) := by decide +kernel
theorem dX11_book_169 : decode cX11_book 169 = .ok (.iload_n 2, 1) := by decide +kernel
theorem dX11_book_170 : decode cX11_book 170 = .ok (.invokevirtual 242, 3) := by decide +kernel
theorem dX11_book_173 : decode cX11_book 173 = .ok (.istore_n 3, 1) := by decide +kernel
theorem dX11_book_174 : decode cX11_book 174 = .ok (.aload_n 0, 1) := by decide +kernel
theorem dX11_book_175 : decode cX11_book 175 = .ok (.getfield 114, 3) := by decide +kernel
theorem dX11_book_178 : decode cX11_book 178 = .ok (.iconst (-1), 1) := by decide +kernel
theorem dX11_book_179 : decode cX11_book 179 = .ok (.if_icmp .eq 5, 3) := by decide +kernel
theorem dX11_book_184 : decode cX11_book 184 = .ok (.aload_n 0, 1) := by decide +kernel
theorem dX11_book_185 : decode cX11_book 185 = .ok (.iload_n 2, 1) := by decide +kernel
theorem dX11_book_186 : decode cX11_book 186 = .ok (.putfield 182, 3) := by decide +kernel
theorem dX11_book_189 : decode cX11_book 189 = .ok (.aload_n 0, 1) := by decide +kernel
theorem dX11_book_190 : decode cX11_book 190 = .ok (.aload_n 0, 1) := by decide +kernel
theorem dX11_book_191 : decode cX11_book 191 = .ok (.getfield 77, 3) := by decide +kernel
theorem dX11_book_194 : decode cX11_book 194 = .ok (.aload_n 0, 1) := by decide +kernel
theorem dX11_book_195 : decode cX11_book 195 = .ok (.getfield 80, 3) := by decide +kernel
theorem dX11_book_198 : decode cX11_book 198 = .ok (.bipush 8, 2) := by decide +kernel
theorem dX11_book_200 : decode cX11_book 200 = .ok (.invokevirtual 175, 3) := by decide +kernel
theorem dX11_book_203 : decode cX11_book 203 = .ok (.iload_n 3, 1) := by decide +kernel
theorem dX11_book_204 : decode cX11_book 204 = .ok (.ireturn, 1) := by decide +kernel
theorem dX11_undo_0 : decode cX11_undo 0 = .ok (.aload_n 0, 1) := by decide +kernel
theorem dX11_undo_1 : decode cX11_undo 1 = .ok (.iconst 0, 1) := by decide +kernel
theorem dX11_undo_2 : decode cX11_undo 2 = .ok (.putfield 3, 3) := by decide +kernel
theorem dX11_undo_5 : decode cX11_undo 5 = .ok (.aload_n 0, 1) := by decide +kernel
theorem dX11_undo_6 : decode cX11_undo 6 = .ok (.getfield 185, 3) := by decide +kernel
theorem dX11_undo_9 : decode cX11_undo 9 = .ok (.ifCond .ne 5, 3) := by decide +kernel
theorem dX11_undo_12 : decode cX11_undo 12 = .ok (.iconst (-1), 1) := by decide +kernel
theorem dX11_undo_13 : decode cX11_undo 13 = .ok (.ireturn, 1) := by decide +kernel
theorem dX11_caughtNow_0 : decode cX11_caughtNow 0 = .ok (.iconst 0, 1) := by decide +kernel
theorem dX11_caughtNow_1 : decode cX11_caughtNow 1 = .ok (.istore_n 1, 1) := by decide +kernel
theorem dX11_caughtNow_2 : decode cX11_caughtNow 2 = .ok (.iconst 0, 1) := by decide +kernel
theorem dX11_caughtNow_3 : decode cX11_caughtNow 3 = .ok (.istore_n 2, 1) := by decide +kernel
theorem dX11_caughtNow_4 : decode cX11_caughtNow 4 = .ok (.iload_n 2, 1) := by decide +kernel
theorem dX11_caughtNow_5 : decode cX11_caughtNow 5 = .ok (.aload_n 0, 1) := by decide +kernel
theorem dX11_caughtNow_6 : decode cX11_caughtNow 6 = .ok (.getfield 169, 3) := by decide +kernel
theorem dX11_caughtNow_9 : decode cX11_caughtNow 9 = .ok (.if_icmp .ge 27, 3) := by decide +kernel
theorem dX11_caughtNow_36 : decode cX11_caughtNow 36 = .ok (.iload_n 1, 1) := by decide +kernel
theorem dX11_caughtNow_37 : decode cX11_caughtNow 37 = .ok (.ireturn, 1) := by decide +kernel
theorem dX11_debtsNow_0 : decode cX11_debtsNow 0 = .ok (.iconst 0, 1) := by decide +kernel
theorem dX11_debtsNow_1 : decode cX11_debtsNow 1 = .ok (.istore_n 1, 1) := by decide +kernel
theorem dX11_debtsNow_2 : decode cX11_debtsNow 2 = .ok (.iconst 0, 1) := by decide +kernel
theorem dX11_debtsNow_3 : decode cX11_debtsNow 3 = .ok (.istore_n 2, 1) := by decide +kernel
theorem dX11_debtsNow_4 : decode cX11_debtsNow 4 = .ok (.iload_n 2, 1) := by decide +kernel
theorem dX11_debtsNow_5 : decode cX11_debtsNow 5 = .ok (.bipush 36, 2) := by decide +kernel
theorem dX11_debtsNow_7 : decode cX11_debtsNow 7 = .ok (.if_icmp .ge 21, 3) := by decide +kernel
theorem dX11_debtsNow_10 : decode cX11_debtsNow 10 = .ok (.iload_n 1, 1) := by decide +kernel
theorem dX11_debtsNow_11 : decode cX11_debtsNow 11 = .ok (.aload_n 0, 1) := by decide +kernel
theorem dX11_debtsNow_12 : decode cX11_debtsNow 12 = .ok (.getfield 71, 3) := by decide +kernel
theorem dX11_debtsNow_15 : decode cX11_debtsNow 15 = .ok (.bipush 30, 2) := by decide +kernel
theorem dX11_debtsNow_17 : decode cX11_debtsNow 17 = .ok (.iload_n 2, 1) := by decide +kernel
theorem dX11_debtsNow_18 : decode cX11_debtsNow 18 = .ok (.iadd, 1) := by decide +kernel
theorem dX11_debtsNow_19 : decode cX11_debtsNow 19 = .ok (.iaload, 1) := by decide +kernel
theorem dX11_debtsNow_20 : decode cX11_debtsNow 20 = .ok (.iadd, 1) := by decide +kernel
theorem dX11_debtsNow_21 : decode cX11_debtsNow 21 = .ok (.istore_n 1, 1) := by decide +kernel
theorem dX11_debtsNow_22 : decode cX11_debtsNow 22 = .ok (.iinc 2 1, 3) := by decide +kernel
theorem dX11_debtsNow_25 : decode cX11_debtsNow 25 = .ok (.goto (-21), 3) := by decide +kernel
theorem dX11_debtsNow_28 : decode cX11_debtsNow 28 = .ok (.iload_n 1, 1) := by decide +kernel
theorem dX11_debtsNow_29 : decode cX11_debtsNow 29 = .ok (.ireturn, 1) := by decide +kernel
theorem dX11_bitsTold_0 : decode cX11_bitsTold 0 = .ok (.iconst 0, 1) := by decide +kernel
theorem dX11_bitsTold_1 : decode cX11_bitsTold 1 = .ok (.istore_n 2, 1) := by decide +kernel
theorem dX11_bitsTold_2 : decode cX11_bitsTold 2 = .ok (.iconst 0, 1) := by decide +kernel
theorem dX11_bitsTold_3 : decode cX11_bitsTold 3 = .ok (.istore_n 3, 1) := by decide +kernel
theorem dX11_bitsTold_4 : decode cX11_bitsTold 4 = .ok (.iload_n 3, 1) := by decide +kernel
theorem dX11_bitsTold_5 : decode cX11_bitsTold 5 = .ok (.aload_n 0, 1) := by decide +kernel
theorem dX11_bitsTold_6 : decode cX11_bitsTold 6 = .ok (.getfield 169, 3) := by decide +kernel
theorem dX11_bitsTold_9 : decode cX11_bitsTold 9 = .ok (.if_icmp .ge 49, 3) := by decide +kernel
theorem dX11_bitsTold_58 : decode cX11_bitsTold 58 = .ok (.iload_n 2, 1) := by decide +kernel
theorem dX11_bitsTold_59 : decode cX11_bitsTold 59 = .ok (.ireturn, 1) := by decide +kernel
theorem dX11_safeForms_0 : decode cX11_safeForms 0 = .ok (.iconst 0, 1) := by decide +kernel
theorem dX11_safeForms_1 : decode cX11_safeForms 1 = .ok (.istore_n 1, 1) := by decide +kernel
theorem dX11_safeForms_2 : decode cX11_safeForms 2 = .ok (.iconst 0, 1) := by decide +kernel
theorem dX11_safeForms_3 : decode cX11_safeForms 3 = .ok (.istore_n 2, 1) := by decide +kernel
theorem dX11_safeForms_4 : decode cX11_safeForms 4 = .ok (.iload_n 2, 1) := by decide +kernel
theorem dX11_safeForms_5 : decode cX11_safeForms 5 = .ok (.aload_n 0, 1) := by decide +kernel
theorem dX11_safeForms_6 : decode cX11_safeForms 6 = .ok (.getfield 166, 3) := by decide +kernel
theorem dX11_safeForms_9 : decode cX11_safeForms 9 = .ok (.if_icmp .ge 27, 3) := by decide +kernel
theorem dX11_safeForms_36 : decode cX11_safeForms 36 = .ok (.iload_n 1, 1) := by decide +kernel
theorem dX11_safeForms_37 : decode cX11_safeForms 37 = .ok (.ireturn, 1) := by decide +kernel
theorem dX11_told_0 : decode cX11_told 0 = .ok (.aload_n 0, 1) := by decide +kernel
theorem dX11_told_1 : decode cX11_told 1 = .ok (.iconst 0, 1) := by decide +kernel
theorem dX11_told_2 : decode cX11_told 2 = .ok (.putfield 3, 3) := by decide +kernel
theorem dX11_told_5 : decode cX11_told 5 = .ok (.aload_n 0, 1) := by decide +kernel
theorem dX11_told_6 : decode cX11_told 6 = .ok (.iload_n 1, 1) := by decide +kernel
theorem dX11_told_7 : decode cX11_told 7 = .ok (.iconst 0, 1) := by decide +kernel
theorem dX11_told_8 : decode cX11_told 8 = .ok (.bipush 11, 2) := by decide +kernel
theorem dX11_told_10 : decode cX11_told 10 = .ok (.invokestatic 390, 3) := by decide +kernel
theorem dX11_told_13 : decode cX11_told 13 = .ok (.iconst 1, 1) := by decide +kernel
theorem dX11_told_14 : decode cX11_told 14 = .ok (.iconst 1, 1) := by decide +kernel
theorem dX11_told_15 : decode cX11_told 15 = .ok (.invokevirtual 213, 3) := by decide +kernel
theorem dX11_told_18 : decode cX11_told 18 = .ok (.ifCond .ne 5, 3) := by decide +kernel
theorem dX11_told_21 : decode cX11_told 21 = .ok (.iconst 0, 1) := by decide +kernel
theorem dX11_told_22 : decode cX11_told 22 = .ok (.ireturn, 1) := by decide +kernel
theorem dX11_told_23 : decode cX11_told 23 = .ok (.aload_n 0, 1) := by decide +kernel
theorem dX11_told_24 : decode cX11_told 24 = .ok (.invokevirtual 316, 3) := by decide +kernel
theorem dX11_told_27 : decode cX11_told 27 = .ok (.iload_n 1, 1) := by decide +kernel
theorem dX11_told_28 : decode cX11_told 28 = .ok (.iconst 5, 1) := by decide +kernel
theorem dX11_told_29 : decode cX11_told 29 = .ok (.if_icmp .ge 56, 3) := by decide +kernel
theorem dX11_told_32 : decode cX11_told 32 = .ok (.iload_n 1, 1) := by decide +kernel
theorem dX11_told_33 : decode cX11_told 33 = .ok (.ifCond .ne 10, 3) := by decide +kernel
theorem dX11_told_36 : decode cX11_told 36 = .ok (.aload_n 0, 1) := by decide +kernel
theorem dX11_told_37 : decode cX11_told 37 = .ok (.getfield 166, 3) := by decide +kernel
theorem dX11_told_40 : decode cX11_told 40 = .ok (.goto 44, 3) := by decide +kernel
theorem dX11_told_43 : decode cX11_told 43 = .ok (.iload_n 1, 1) := by decide +kernel
theorem dX11_told_44 : decode cX11_told 44 = .ok (.iconst 1, 1) := by decide +kernel
theorem dX11_told_45 : decode cX11_told 45 = .ok (.if_icmp .ne 10, 3) := by decide +kernel
theorem dX11_told_48 : decode cX11_told 48 = .ok (.aload_n 0, 1) := by decide +kernel
theorem dX11_told_49 : decode cX11_told 49 = .ok (.getfield 169, 3) := by decide +kernel
theorem dX11_told_52 : decode cX11_told 52 = .ok (.goto 32, 3) := by decide +kernel
theorem dX11_told_55 : decode cX11_told 55 = .ok (.iload_n 1, 1) := by decide +kernel
theorem dX11_told_56 : decode cX11_told 56 = .ok (.iconst 2, 1) := by decide +kernel
theorem dX11_told_57 : decode cX11_told 57 = .ok (.if_icmp .ne 10, 3) := by decide +kernel
theorem dX11_told_60 : decode cX11_told 60 = .ok (.aload_n 0, 1) := by decide +kernel
theorem dX11_told_61 : decode cX11_told 61 = .ok (.getfield 172, 3) := by decide +kernel
theorem dX11_told_64 : decode cX11_told 64 = .ok (.goto 20, 3) := by decide +kernel
theorem dX11_told_67 : decode cX11_told 67 = .ok (.aload_n 0, 1) := by decide +kernel
theorem dX11_told_68 : decode cX11_told 68 = .ok (.getfield 71, 3) := by decide +kernel
theorem dX11_told_71 : decode cX11_told 71 = .ok (.iload_n 1, 1) := by decide +kernel
theorem dX11_told_72 : decode cX11_told 72 = .ok (.iconst 3, 1) := by decide +kernel
theorem dX11_told_73 : decode cX11_told 73 = .ok (.if_icmp .ne 8, 3) := by decide +kernel
theorem dX11_told_76 : decode cX11_told 76 = .ok (.bipush 66, 2) := by decide +kernel
theorem dX11_told_78 : decode cX11_told 78 = .ok (.goto 5, 3) := by decide +kernel
theorem dX11_told_81 : decode cX11_told 81 = .ok (.bipush 67, 2) := by decide +kernel
theorem dX11_told_83 : decode cX11_told 83 = .ok (.iaload, 1) := by decide +kernel
theorem dX11_told_84 : decode cX11_told 84 = .ok (.ireturn, 1) := by decide +kernel
theorem dX11_told_85 : decode cX11_told 85 = .ok (.iload_n 1, 1) := by decide +kernel
theorem dX11_told_86 : decode cX11_told 86 = .ok (.bipush 6, 2) := by decide +kernel
theorem dX11_told_88 : decode cX11_told 88 = .ok (.if_icmp .eq 9, 3) := by decide +kernel
theorem dX11_told_91 : decode cX11_told 91 = .ok (.iload_n 1, 1) := by decide +kernel
theorem dX11_told_92 : decode cX11_told 92 = .ok (.bipush 11, 2) := by decide +kernel
theorem dX11_told_94 : decode cX11_told 94 = .ok (.if_icmp .ne 9, 3) := by decide +kernel
theorem dX11_told_97 : decode cX11_told 97 = .ok (.aload_n 0, 1) := by decide +kernel
theorem dX11_told_98 : decode cX11_told 98 = .ok (.iload_n 1, 1) := by decide +kernel
theorem dX11_told_99 : decode cX11_told 99 = .ok (.invokevirtual 393, 3) := by decide +kernel
theorem dX11_told_102 : decode cX11_told 102 = .ok (.ireturn, 1) := by decide +kernel
theorem dX11_told_103 : decode cX11_told 103 = .ok (.iload_n 1, 1) := by decide +kernel
theorem dX11_told_104 : decode cX11_told 104 = .ok (.iconst 5, 1) := by decide +kernel
theorem dX11_told_105 : decode cX11_told 105 = .ok (.if_icmp .ne 10, 3) := by decide +kernel
theorem dX11_told_108 : decode cX11_told 108 = .ok (.aload_n 0, 1) := by decide +kernel
theorem dX11_told_109 : decode cX11_told 109 = .ok (.invokevirtual 396, 3) := by decide +kernel
theorem dX11_told_112 : decode cX11_told 112 = .ok (.goto 46, 3) := by decide +kernel
theorem dX11_told_115 : decode cX11_told 115 = .ok (.iload_n 1, 1) := by decide +kernel
theorem dX11_told_116 : decode cX11_told 116 = .ok (.bipush 7, 2) := by decide +kernel
theorem dX11_told_118 : decode cX11_told 118 = .ok (.if_icmp .ne 10, 3) := by decide +kernel
theorem dX11_told_121 : decode cX11_told 121 = .ok (.aload_n 0, 1) := by decide +kernel
theorem dX11_told_122 : decode cX11_told 122 = .ok (.invokevirtual 399, 3) := by decide +kernel
theorem dX11_told_125 : decode cX11_told 125 = .ok (.goto 33, 3) := by decide +kernel
theorem dX11_told_128 : decode cX11_told 128 = .ok (.iload_n 1, 1) := by decide +kernel
theorem dX11_told_129 : decode cX11_told 129 = .ok (.bipush 8, 2) := by decide +kernel
theorem dX11_told_131 : decode cX11_told 131 = .ok (.if_icmp .ne 10, 3) := by decide +kernel
theorem dX11_told_134 : decode cX11_told 134 = .ok (.aload_n 0, 1) := by decide +kernel
theorem dX11_told_135 : decode cX11_told 135 = .ok (.invokevirtual 402, 3) := by decide +kernel
theorem dX11_told_138 : decode cX11_told 138 = .ok (.goto 20, 3) := by decide +kernel
theorem dX11_told_141 : decode cX11_told 141 = .ok (.iload_n 1, 1) := by decide +kernel
theorem dX11_told_142 : decode cX11_told 142 = .ok (.bipush 9, 2) := by decide +kernel
theorem dX11_told_144 : decode cX11_told 144 = .ok (.if_icmp .ne 10, 3) := by decide +kernel
theorem dX11_told_147 : decode cX11_told 147 = .ok (.aload_n 0, 1) := by decide +kernel
theorem dX11_told_148 : decode cX11_told 148 = .ok (.getfield 182, 3) := by decide +kernel
theorem dX11_told_151 : decode cX11_told 151 = .ok (.goto 7, 3) := by decide +kernel
theorem dX11_told_154 : decode cX11_told 154 = .ok (.aload_n 0, 1) := by decide +kernel
theorem dX11_told_155 : decode cX11_told 155 = .ok (.getfield 191, 3) := by decide +kernel
theorem dX11_told_158 : decode cX11_told 158 = .ok (.ireturn, 1) := by decide +kernel
theorem dX11_isForm_0 : decode cX11_isForm 0 = .ok (.aload_n 0, 1) := by decide +kernel
theorem dX11_isForm_1 : decode cX11_isForm 1 = .ok (.iload_n 1, 1) := by decide +kernel
theorem dX11_isForm_2 : decode cX11_isForm 2 = .ok (.iconst 0, 1) := by decide +kernel
theorem dX11_isForm_3 : decode cX11_isForm 3 = .ok (.aload_n 0, 1) := by decide +kernel
theorem dX11_isForm_4 : decode cX11_isForm 4 = .ok (.getfield 166, 3) := by decide +kernel
theorem dX11_isForm_7 : decode cX11_isForm 7 = .ok (.iconst 1, 1) := by decide +kernel
theorem dX11_isForm_8 : decode cX11_isForm 8 = .ok (.isub, 1) := by decide +kernel
theorem dX11_isForm_9 : decode cX11_isForm 9 = .ok (.invokestatic 390, 3) := by decide +kernel
theorem dX11_isForm_12 : decode cX11_isForm 12 = .ok (.iload_n 2, 1) := by decide +kernel
theorem dX11_isForm_13 : decode cX11_isForm 13 = .ok (.iconst 0, 1) := by decide +kernel
theorem dX11_isForm_14 : decode cX11_isForm 14 = .ok (.invokevirtual 213, 3) := by decide +kernel
theorem dX11_isForm_17 : decode cX11_isForm 17 = .ok (.ireturn, 1) := by decide +kernel
theorem dX11_isHare_0 : decode cX11_isHare 0 = .ok (.aload_n 0, 1) := by decide +kernel
theorem dX11_isHare_1 : decode cX11_isHare 1 = .ok (.iload_n 1, 1) := by decide +kernel
theorem dX11_isHare_2 : decode cX11_isHare 2 = .ok (.iconst 0, 1) := by decide +kernel
theorem dX11_isHare_3 : decode cX11_isHare 3 = .ok (.aload_n 0, 1) := by decide +kernel
theorem dX11_isHare_4 : decode cX11_isHare 4 = .ok (.getfield 169, 3) := by decide +kernel
theorem dX11_isHare_7 : decode cX11_isHare 7 = .ok (.iconst 1, 1) := by decide +kernel
theorem dX11_isHare_8 : decode cX11_isHare 8 = .ok (.isub, 1) := by decide +kernel
theorem dX11_isHare_9 : decode cX11_isHare 9 = .ok (.invokestatic 390, 3) := by decide +kernel
theorem dX11_isHare_12 : decode cX11_isHare 12 = .ok (.iload_n 2, 1) := by decide +kernel
theorem dX11_isHare_13 : decode cX11_isHare 13 = .ok (.iconst 0, 1) := by decide +kernel
theorem dX11_isHare_14 : decode cX11_isHare 14 = .ok (.invokevirtual 213, 3) := by decide +kernel
theorem dX11_isHare_17 : decode cX11_isHare 17 = .ok (.ireturn, 1) := by decide +kernel
theorem dX11_form_0 : decode cX11_form 0 = .ok (.aload_n 0, 1) := by decide +kernel
theorem dX11_form_1 : decode cX11_form 1 = .ok (.iconst 0, 1) := by decide +kernel
theorem dX11_form_2 : decode cX11_form 2 = .ok (.putfield 3, 3) := by decide +kernel
theorem dX11_form_5 : decode cX11_form 5 = .ok (.aload_n 0, 1) := by decide +kernel
theorem dX11_form_6 : decode cX11_form 6 = .ok (.iload_n 1, 1) := by decide +kernel
theorem dX11_form_7 : decode cX11_form 7 = .ok (.iconst 1, 1) := by decide +kernel
theorem dX11_form_8 : decode cX11_form 8 = .ok (.invokevirtual 405, 3) := by decide +kernel
theorem dX11_form_11 : decode cX11_form 11 = .ok (.ifCond .eq 18, 3) := by decide +kernel
theorem dX11_form_29 : decode cX11_form 29 = .ok (.iconst 0, 1) := by decide +kernel
theorem dX11_form_30 : decode cX11_form 30 = .ok (.ireturn, 1) := by decide +kernel
theorem dX11_hare_0 : decode cX11_hare 0 = .ok (.aload_n 0, 1) := by decide +kernel
theorem dX11_hare_1 : decode cX11_hare 1 = .ok (.iconst 0, 1) := by decide +kernel
theorem dX11_hare_2 : decode cX11_hare 2 = .ok (.putfield 3, 3) := by decide +kernel
theorem dX11_hare_5 : decode cX11_hare 5 = .ok (.aload_n 0, 1) := by decide +kernel
theorem dX11_hare_6 : decode cX11_hare 6 = .ok (.iload_n 1, 1) := by decide +kernel
theorem dX11_hare_7 : decode cX11_hare 7 = .ok (.iconst 1, 1) := by decide +kernel
theorem dX11_hare_8 : decode cX11_hare 8 = .ok (.invokevirtual 408, 3) := by decide +kernel
theorem dX11_hare_11 : decode cX11_hare 11 = .ok (.ifCond .eq 19, 3) := by decide +kernel
theorem dX11_hare_30 : decode cX11_hare 30 = .ok (.iconst 0, 1) := by decide +kernel
theorem dX11_hare_31 : decode cX11_hare 31 = .ok (.ireturn, 1) := by decide +kernel
theorem dX11_fox_0 : decode cX11_fox 0 = .ok (.aload_n 0, 1) := by decide +kernel
theorem dX11_fox_1 : decode cX11_fox 1 = .ok (.iconst 0, 1) := by decide +kernel
theorem dX11_fox_2 : decode cX11_fox 2 = .ok (.putfield 3, 3) := by decide +kernel
theorem dX11_fox_5 : decode cX11_fox 5 = .ok (.aload_n 0, 1) := by decide +kernel
theorem dX11_fox_6 : decode cX11_fox 6 = .ok (.iload_n 1, 1) := by decide +kernel
theorem dX11_fox_7 : decode cX11_fox 7 = .ok (.iconst 0, 1) := by decide +kernel
theorem dX11_fox_8 : decode cX11_fox 8 = .ok (.aload_n 0, 1) := by decide +kernel
theorem dX11_fox_9 : decode cX11_fox 9 = .ok (.getfield 172, 3) := by decide +kernel
theorem dX11_fox_12 : decode cX11_fox 12 = .ok (.iconst 1, 1) := by decide +kernel
theorem dX11_fox_13 : decode cX11_fox 13 = .ok (.isub, 1) := by decide +kernel
theorem dX11_fox_14 : decode cX11_fox 14 = .ok (.invokestatic 390, 3) := by decide +kernel
theorem dX11_fox_17 : decode cX11_fox 17 = .ok (.iconst 1, 1) := by decide +kernel
theorem dX11_fox_18 : decode cX11_fox 18 = .ok (.iconst 0, 1) := by decide +kernel
theorem dX11_fox_19 : decode cX11_fox 19 = .ok (.invokevirtual 213, 3) := by decide +kernel
theorem dX11_fox_22 : decode cX11_fox 22 = .ok (.ifCond .eq 18, 3) := by decide +kernel
theorem dX11_fox_40 : decode cX11_fox 40 = .ok (.iconst 0, 1) := by decide +kernel
theorem dX11_fox_41 : decode cX11_fox 41 = .ok (.ireturn, 1) := by decide +kernel
theorem dX11_debt_0 : decode cX11_debt 0 = .ok (.aload_n 0, 1) := by decide +kernel
theorem dX11_debt_1 : decode cX11_debt 1 = .ok (.iconst 0, 1) := by decide +kernel
theorem dX11_debt_2 : decode cX11_debt 2 = .ok (.putfield 3, 3) := by decide +kernel
theorem dX11_debt_5 : decode cX11_debt 5 = .ok (.aload_n 0, 1) := by decide +kernel
theorem dX11_debt_6 : decode cX11_debt 6 = .ok (.iload_n 1, 1) := by decide +kernel
theorem dX11_debt_7 : decode cX11_debt 7 = .ok (.iconst 1, 1) := by decide +kernel
theorem dX11_debt_8 : decode cX11_debt 8 = .ok (.invokevirtual 408, 3) := by decide +kernel
theorem dX11_debt_11 : decode cX11_debt 11 = .ok (.ifCond .eq 29, 3) := by decide +kernel
theorem dX11_debt_40 : decode cX11_debt 40 = .ok (.iconst 0, 1) := by decide +kernel
theorem dX11_debt_41 : decode cX11_debt 41 = .ok (.ireturn, 1) := by decide +kernel
theorem dX11_far_0 : decode cX11_far 0 = .ok (.aload_n 0, 1) := by decide +kernel
theorem dX11_far_1 : decode cX11_far 1 = .ok (.iconst 0, 1) := by decide +kernel
theorem dX11_far_2 : decode cX11_far 2 = .ok (.putfield 3, 3) := by decide +kernel
theorem dX11_far_5 : decode cX11_far 5 = .ok (.aload_n 0, 1) := by decide +kernel
theorem dX11_far_6 : decode cX11_far 6 = .ok (.iload_n 1, 1) := by decide +kernel
theorem dX11_far_7 : decode cX11_far 7 = .ok (.iconst 1, 1) := by decide +kernel
theorem dX11_far_8 : decode cX11_far 8 = .ok (.invokevirtual 405, 3) := by decide +kernel
theorem dX11_far_11 : decode cX11_far 11 = .ok (.ifCond .eq 21, 3) := by decide +kernel
theorem dX11_far_32 : decode cX11_far 32 = .ok (.iconst 0, 1) := by decide +kernel
theorem dX11_far_33 : decode cX11_far 33 = .ok (.ireturn, 1) := by decide +kernel
theorem dX11_would_0 : decode cX11_would 0 = .ok (.aload_n 0, 1) := by decide +kernel
theorem dX11_would_1 : decode cX11_would 1 = .ok (.iconst 0, 1) := by decide +kernel
theorem dX11_would_2 : decode cX11_would 2 = .ok (.putfield 3, 3) := by decide +kernel
theorem dX11_would_5 : decode cX11_would 5 = .ok (.aload_n 0, 1) := by decide +kernel
theorem dX11_would_6 : decode cX11_would 6 = .ok (.iload_n 1, 1) := by decide +kernel
theorem dX11_would_7 : decode cX11_would 7 = .ok (.iconst 0, 1) := by decide +kernel
theorem dX11_would_8 : decode cX11_would 8 = .ok (.bipush 9, 2) := by decide +kernel
theorem dX11_would_10 : decode cX11_would 10 = .ok (.invokestatic 390, 3) := by decide +kernel
theorem dX11_would_13 : decode cX11_would 13 = .ok (.ifCond .eq 84, 3) := by decide +kernel
theorem dX11_would_16 : decode cX11_would 16 = .ok (.iload_n 2, 1) := by decide +kernel
theorem dX11_would_17 : decode cX11_would 17 = .ok (.iconst 0, 1) := by decide +kernel
theorem dX11_would_18 : decode cX11_would 18 = .ok (.sipush 999, 3) := by decide +kernel
theorem dX11_would_21 : decode cX11_would 21 = .ok (.invokestatic 390, 3) := by decide +kernel
theorem dX11_would_24 : decode cX11_would 24 = .ok (.ifCond .eq 73, 3) := by decide +kernel
theorem dX11_would_27 : decode cX11_would 27 = .ok (.iload_n 3, 1) := by decide +kernel
theorem dX11_would_28 : decode cX11_would 28 = .ok (.iconst 0, 1) := by decide +kernel
theorem dX11_would_29 : decode cX11_would 29 = .ok (.sipush 999, 3) := by decide +kernel
theorem dX11_would_32 : decode cX11_would 32 = .ok (.invokestatic 390, 3) := by decide +kernel
theorem dX11_would_35 : decode cX11_would 35 = .ok (.ifCond .eq 62, 3) := by decide +kernel
theorem dX11_would_38 : decode cX11_would 38 = .ok (.iload 4, 2) := by decide +kernel
theorem dX11_would_40 : decode cX11_would 40 = .ok (.iconst 0, 1) := by decide +kernel
theorem dX11_would_41 : decode cX11_would 41 = .ok (.sipush 999, 3) := by decide +kernel
theorem dX11_would_44 : decode cX11_would 44 = .ok (.invokestatic 390, 3) := by decide +kernel
theorem dX11_would_47 : decode cX11_would 47 = .ok (.ifCond .eq 50, 3) := by decide +kernel
theorem dX11_would_50 : decode cX11_would 50 = .ok (.iload 5, 2) := by decide +kernel
theorem dX11_would_52 : decode cX11_would 52 = .ok (.iconst 0, 1) := by decide +kernel
theorem dX11_would_53 : decode cX11_would 53 = .ok (.iconst 5, 1) := by decide +kernel
theorem dX11_would_54 : decode cX11_would 54 = .ok (.invokestatic 390, 3) := by decide +kernel
theorem dX11_would_57 : decode cX11_would 57 = .ok (.ifCond .eq 40, 3) := by decide +kernel
theorem dX11_would_60 : decode cX11_would 60 = .ok (.iload 6, 2) := by decide +kernel
theorem dX11_would_62 : decode cX11_would 62 = .ok (.iconst 1, 1) := by decide +kernel
theorem dX11_would_63 : decode cX11_would 63 = .ok (.bipush 31, 2) := by decide +kernel
theorem dX11_would_65 : decode cX11_would 65 = .ok (.invokestatic 390, 3) := by decide +kernel
theorem dX11_would_68 : decode cX11_would 68 = .ok (.ifCond .eq 29, 3) := by decide +kernel
theorem dX11_would_71 : decode cX11_would 71 = .ok (.iload 7, 2) := by decide +kernel
theorem dX11_would_73 : decode cX11_would 73 = .ok (.iconst 0, 1) := by decide +kernel
theorem dX11_would_74 : decode cX11_would 74 = .ok (.iconst 5, 1) := by decide +kernel
theorem dX11_would_75 : decode cX11_would 75 = .ok (.invokestatic 390, 3) := by decide +kernel
theorem dX11_would_78 : decode cX11_would 78 = .ok (.ifCond .eq 19, 3) := by decide +kernel
theorem dX11_would_81 : decode cX11_would 81 = .ok (.iload 8, 2) := by decide +kernel
theorem dX11_would_83 : decode cX11_would 83 = .ok (.iconst 0, 1) := by decide +kernel
theorem dX11_would_84 : decode cX11_would 84 = .ok (.sipush 999, 3) := by decide +kernel
theorem dX11_would_87 : decode cX11_would 87 = .ok (.invokestatic 390, 3) := by decide +kernel
theorem dX11_would_90 : decode cX11_would 90 = .ok (.ifCond .eq 7, 3) := by decide +kernel
theorem dX11_would_93 : decode cX11_would 93 = .ok (.iconst 1, 1) := by decide +kernel
theorem dX11_would_94 : decode cX11_would 94 = .ok (.goto 4, 3) := by decide +kernel
theorem dX11_would_97 : decode cX11_would 97 = .ok (.iconst 0, 1) := by decide +kernel
theorem dX11_would_98 : decode cX11_would 98 = .ok (.iconst 1, 1) := by decide +kernel
theorem dX11_would_99 : decode cX11_would 99 = .ok (.iconst 1, 1) := by decide +kernel
theorem dX11_would_100 : decode cX11_would 100 = .ok (.invokevirtual 213, 3) := by decide +kernel
theorem dX11_would_103 : decode cX11_would 103 = .ok (.ifCond .ne 5, 3) := by decide +kernel
theorem dX11_would_106 : decode cX11_would 106 = .ok (.iconst 0, 1) := by decide +kernel
theorem dX11_would_107 : decode cX11_would 107 = .ok (.ireturn, 1) := by decide +kernel
theorem dX11_would_108 : decode cX11_would 108 = .ok (.aload_n 0, 1) := by decide +kernel
theorem dX11_would_109 : decode cX11_would 109 = .ok (.iload_n 1, 1) := by decide +kernel
theorem dX11_would_110 : decode cX11_would 110 = .ok (.iload_n 2, 1) := by decide +kernel
theorem dX11_would_111 : decode cX11_would 111 = .ok (.iload_n 3, 1) := by decide +kernel
theorem dX11_would_112 : decode cX11_would 112 = .ok (.iload 4, 2) := by decide +kernel
theorem dX11_would_114 : decode cX11_would 114 = .ok (.iload 5, 2) := by decide +kernel
theorem dX11_would_116 : decode cX11_would 116 = .ok (.iload 6, 2) := by decide +kernel
theorem dX11_would_118 : decode cX11_would 118 = .ok (.iload 7, 2) := by decide +kernel
theorem dX11_would_120 : decode cX11_would 120 = .ok (.iload 8, 2) := by decide +kernel
theorem dX11_would_122 : decode cX11_would 122 = .ok (.invokevirtual 354, 3) := by decide +kernel
theorem dX11_would_125 : decode cX11_would 125 = .ok (.ireturn, 1) := by decide +kernel
theorem dX11_can_0 : decode cX11_can 0 = .ok (.aload_n 0, 1) := by decide +kernel
theorem dX11_can_1 : decode cX11_can 1 = .ok (.iconst 0, 1) := by decide +kernel
theorem dX11_can_2 : decode cX11_can 2 = .ok (.putfield 3, 3) := by decide +kernel
theorem dX11_can_5 : decode cX11_can 5 = .ok (.aload_n 0, 1) := by decide +kernel
theorem dX11_can_6 : decode cX11_can 6 = .ok (.iload_n 1, 1) := by decide +kernel
theorem dX11_can_7 : decode cX11_can 7 = .ok (.iconst 1, 1) := by decide +kernel
theorem dX11_can_8 : decode cX11_can 8 = .ok (.invokevirtual 408, 3) := by decide +kernel
theorem dX11_can_11 : decode cX11_can 11 = .ok (.ifCond .eq 12, 3) := by decide +kernel
theorem dX11_can_23 : decode cX11_can 23 = .ok (.iconst 0, 1) := by decide +kernel
theorem dX11_can_24 : decode cX11_can 24 = .ok (.ireturn, 1) := by decide +kernel
theorem dX11_range_0 : decode cX11_range 0 = .ok (.aload_n 0, 1) := by decide +kernel
theorem dX11_range_1 : decode cX11_range 1 = .ok (.iconst 0, 1) := by decide +kernel
theorem dX11_range_2 : decode cX11_range 2 = .ok (.putfield 3, 3) := by decide +kernel
theorem dX11_range_5 : decode cX11_range 5 = .ok (.aload_n 0, 1) := by decide +kernel
theorem dX11_range_6 : decode cX11_range 6 = .ok (.iload_n 1, 1) := by decide +kernel
theorem dX11_range_7 : decode cX11_range 7 = .ok (.iconst 1, 1) := by decide +kernel
theorem dX11_range_8 : decode cX11_range 8 = .ok (.invokevirtual 408, 3) := by decide +kernel
theorem dX11_range_11 : decode cX11_range 11 = .ok (.ifCond .ne 5, 3) := by decide +kernel
theorem dX11_range_14 : decode cX11_range 14 = .ok (.iconst 0, 1) := by decide +kernel
theorem dX11_range_15 : decode cX11_range 15 = .ok (.ireturn, 1) := by decide +kernel
theorem dX11_ahead_0 : decode cX11_ahead 0 = .ok (.aload_n 0, 1) := by decide +kernel
theorem dX11_ahead_1 : decode cX11_ahead 1 = .ok (.iconst 0, 1) := by decide +kernel
theorem dX11_ahead_2 : decode cX11_ahead 2 = .ok (.putfield 3, 3) := by decide +kernel
theorem dX11_ahead_5 : decode cX11_ahead 5 = .ok (.aload_n 0, 1) := by decide +kernel
theorem dX11_ahead_6 : decode cX11_ahead 6 = .ok (.iload_n 1, 1) := by decide +kernel
theorem dX11_ahead_7 : decode cX11_ahead 7 = .ok (.iconst 0, 1) := by decide +kernel
theorem dX11_ahead_8 : decode cX11_ahead 8 = .ok (.bipush 99, 2) := by decide +kernel
theorem dX11_ahead_10 : decode cX11_ahead 10 = .ok (.invokestatic 390, 3) := by decide +kernel
theorem dX11_ahead_13 : decode cX11_ahead 13 = .ok (.ifCond .eq 16, 3) := by decide +kernel
theorem dX11_ahead_16 : decode cX11_ahead 16 = .ok (.iload_n 2, 1) := by decide +kernel
theorem dX11_ahead_17 : decode cX11_ahead 17 = .ok (.iconst 0, 1) := by decide +kernel
theorem dX11_ahead_18 : decode cX11_ahead 18 = .ok (.iconst 2, 1) := by decide +kernel
theorem dX11_ahead_19 : decode cX11_ahead 19 = .ok (.invokestatic 390, 3) := by decide +kernel
theorem dX11_ahead_22 : decode cX11_ahead 22 = .ok (.ifCond .eq 7, 3) := by decide +kernel
theorem dX11_ahead_25 : decode cX11_ahead 25 = .ok (.iconst 1, 1) := by decide +kernel
theorem dX11_ahead_26 : decode cX11_ahead 26 = .ok (.goto 4, 3) := by decide +kernel
theorem dX11_ahead_29 : decode cX11_ahead 29 = .ok (.iconst 0, 1) := by decide +kernel
theorem dX11_ahead_30 : decode cX11_ahead 30 = .ok (.iconst 1, 1) := by decide +kernel
theorem dX11_ahead_31 : decode cX11_ahead 31 = .ok (.iconst 1, 1) := by decide +kernel
theorem dX11_ahead_32 : decode cX11_ahead 32 = .ok (.invokevirtual 213, 3) := by decide +kernel
theorem dX11_ahead_35 : decode cX11_ahead 35 = .ok (.ifCond .ne 5, 3) := by decide +kernel
theorem dX11_ahead_38 : decode cX11_ahead 38 = .ok (.iconst 0, 1) := by decide +kernel
theorem dX11_ahead_39 : decode cX11_ahead 39 = .ok (.ireturn, 1) := by decide +kernel
theorem dX11_ahead_40 : decode cX11_ahead 40 = .ok (.aload_n 0, 1) := by decide +kernel
theorem dX11_ahead_41 : decode cX11_ahead 41 = .ok (.invokevirtual 316, 3) := by decide +kernel
theorem dX11_ahead_44 : decode cX11_ahead 44 = .ok (.iconst 0, 1) := by decide +kernel
theorem dX11_ahead_45 : decode cX11_ahead 45 = .ok (.istore_n 3, 1) := by decide +kernel
theorem dX11_ahead_46 : decode cX11_ahead 46 = .ok (.iload_n 3, 1) := by decide +kernel
theorem dX11_ahead_47 : decode cX11_ahead 47 = .ok (.iload_n 1, 1) := by decide +kernel
theorem dX11_ahead_48 : decode cX11_ahead 48 = .ok (.if_icmp .ge 13, 3) := by decide +kernel
theorem dX11_ahead_51 : decode cX11_ahead 51 = .ok (.aload_n 0, 1) := by decide +kernel
theorem dX11_ahead_52 : decode cX11_ahead 52 = .ok (.invokevirtual 387, 3) := by decide +kernel
theorem dX11_ahead_55 : decode cX11_ahead 55 = .ok (.iinc 3 1, 3) := by decide +kernel
theorem dX11_ahead_58 : decode cX11_ahead 58 = .ok (.goto (-12), 3) := by decide +kernel
theorem dX11_ahead_61 : decode cX11_ahead 61 = .ok (.iload_n 2, 1) := by decide +kernel
theorem dX11_ahead_62 : decode cX11_ahead 62 = .ok (.ifCond .ne 13, 3) := by decide +kernel
theorem dX11_ahead_65 : decode cX11_ahead 65 = .ok (.aload_n 0, 1) := by decide +kernel
theorem dX11_ahead_66 : decode cX11_ahead 66 = .ok (.getfield 71, 3) := by decide +kernel
theorem dX11_ahead_69 : decode cX11_ahead 69 = .ok (.bipush 66, 2) := by decide +kernel
theorem dX11_ahead_71 : decode cX11_ahead 71 = .ok (.iaload, 1) := by decide +kernel
theorem dX11_ahead_72 : decode cX11_ahead 72 = .ok (.goto 19, 3) := by decide +kernel
theorem dX11_ahead_75 : decode cX11_ahead 75 = .ok (.iload_n 2, 1) := by decide +kernel
theorem dX11_ahead_76 : decode cX11_ahead 76 = .ok (.iconst 1, 1) := by decide +kernel
theorem dX11_ahead_77 : decode cX11_ahead 77 = .ok (.if_icmp .ne 10, 3) := by decide +kernel
theorem dX11_ahead_80 : decode cX11_ahead 80 = .ok (.aload_n 0, 1) := by decide +kernel
theorem dX11_ahead_81 : decode cX11_ahead 81 = .ok (.invokevirtual 396, 3) := by decide +kernel
theorem dX11_ahead_84 : decode cX11_ahead 84 = .ok (.goto 7, 3) := by decide +kernel
theorem dX11_ahead_87 : decode cX11_ahead 87 = .ok (.aload_n 0, 1) := by decide +kernel
theorem dX11_ahead_88 : decode cX11_ahead 88 = .ok (.invokevirtual 402, 3) := by decide +kernel
theorem dX11_ahead_91 : decode cX11_ahead 91 = .ok (.ireturn, 1) := by decide +kernel
theorem dX11_hops_0 : decode cX11_hops 0 = .ok (.aload_n 0, 1) := by decide +kernel
theorem dX11_hops_1 : decode cX11_hops 1 = .ok (.iconst 0, 1) := by decide +kernel
theorem dX11_hops_2 : decode cX11_hops 2 = .ok (.putfield 3, 3) := by decide +kernel
theorem dX11_hops_5 : decode cX11_hops 5 = .ok (.aload_n 0, 1) := by decide +kernel
theorem dX11_hops_6 : decode cX11_hops 6 = .ok (.iload_n 1, 1) := by decide +kernel
theorem dX11_hops_7 : decode cX11_hops 7 = .ok (.iconst 1, 1) := by decide +kernel
theorem dX11_hops_8 : decode cX11_hops 8 = .ok (.invokevirtual 408, 3) := by decide +kernel
theorem dX11_hops_11 : decode cX11_hops 11 = .ok (.ifCond .eq 12, 3) := by decide +kernel
theorem dX11_hops_23 : decode cX11_hops 23 = .ok (.iconst 0, 1) := by decide +kernel
theorem dX11_hops_24 : decode cX11_hops 24 = .ok (.ireturn, 1) := by decide +kernel
theorem dX11_findSeats_0 : decode cX11_findSeats 0 = .ok (.aload_n 0, 1) := by decide +kernel
theorem dX11_findSeats_1 : decode cX11_findSeats 1 = .ok (.invokevirtual 316, 3) := by decide +kernel
theorem dX11_findSeats_4 : decode cX11_findSeats 4 = .ok (.iconst 0, 1) := by decide +kernel
theorem dX11_findSeats_5 : decode cX11_findSeats 5 = .ok (.istore_n 1, 1) := by decide +kernel
theorem dX11_findSeats_6 : decode cX11_findSeats 6 = .ok (.iload_n 1, 1) := by decide +kernel
theorem dX11_findSeats_7 : decode cX11_findSeats 7 = .ok (.aload_n 0, 1) := by decide +kernel
theorem dX11_findSeats_8 : decode cX11_findSeats 8 = .ok (.getfield 169, 3) := by decide +kernel
theorem dX11_findSeats_11 : decode cX11_findSeats 11 = .ok (.if_icmp .ge 48, 3) := by decide +kernel
theorem dX11_findSeats_59 : decode cX11_findSeats 59 = .ok (.iconst 0, 1) := by decide +kernel
theorem dX11_findSeats_60 : decode cX11_findSeats 60 = .ok (.istore_n 1, 1) := by decide +kernel
theorem dX11_findSeats_61 : decode cX11_findSeats 61 = .ok (.iload_n 1, 1) := by decide +kernel
theorem dX11_findSeats_62 : decode cX11_findSeats 62 = .ok (.iconst 1, 1) := by decide +kernel
theorem dX11_findSeats_63 : decode cX11_findSeats 63 = .ok (.aload_n 0, 1) := by decide +kernel
theorem dX11_findSeats_64 : decode cX11_findSeats 64 = .ok (.getfield 166, 3) := by decide +kernel
theorem dX11_findSeats_67 : decode cX11_findSeats 67 = .ok (.ishl, 1) := by decide +kernel
theorem dX11_findSeats_68 : decode cX11_findSeats 68 = .ok (.if_icmp .ge 24, 3) := by decide +kernel
theorem dX11_findSeats_71 : decode cX11_findSeats 71 = .ok (.aload_n 0, 1) := by decide +kernel
theorem dX11_findSeats_72 : decode cX11_findSeats 72 = .ok (.getfield 83, 3) := by decide +kernel
theorem dX11_findSeats_75 : decode cX11_findSeats 75 = .ok (.aload_n 0, 1) := by decide +kernel
theorem dX11_findSeats_76 : decode cX11_findSeats 76 = .ok (.getfield 169, 3) := by decide +kernel
theorem dX11_findSeats_79 : decode cX11_findSeats 79 = .ok (.bipush 8, 2) := by decide +kernel
theorem dX11_findSeats_81 : decode cX11_findSeats 81 = .ok (.ishl, 1) := by decide +kernel
theorem dX11_findSeats_82 : decode cX11_findSeats 82 = .ok (.iload_n 1, 1) := by decide +kernel
theorem dX11_findSeats_83 : decode cX11_findSeats 83 = .ok (.ior, 1) := by decide +kernel
theorem dX11_findSeats_84 : decode cX11_findSeats 84 = .ok (.iconst 0, 1) := by decide +kernel
theorem dX11_findSeats_85 : decode cX11_findSeats 85 = .ok (.iastore, 1) := by decide +kernel
theorem dX11_findSeats_86 : decode cX11_findSeats 86 = .ok (.iinc 1 1, 3) := by decide +kernel
theorem dX11_findSeats_89 : decode cX11_findSeats 89 = .ok (.goto (-28), 3) := by decide +kernel
theorem dX11_findSeats_92 : decode cX11_findSeats 92 = .ok (.aload_n 0, 1) := by decide +kernel
theorem dX11_findSeats_93 : decode cX11_findSeats 93 = .ok (.getfield 169, 3) := by decide +kernel
theorem dX11_findSeats_96 : decode cX11_findSeats 96 = .ok (.iconst 1, 1) := by decide +kernel
theorem dX11_findSeats_97 : decode cX11_findSeats 97 = .ok (.isub, 1) := by decide +kernel
theorem dX11_findSeats_98 : decode cX11_findSeats 98 = .ok (.istore_n 1, 1) := by decide +kernel
theorem dX11_findSeats_99 : decode cX11_findSeats 99 = .ok (.iload_n 1, 1) := by decide +kernel
theorem dX11_findSeats_100 : decode cX11_findSeats 100 = .ok (.ifCond .lt 139, 3) := by decide +kernel
theorem dX11_findSeats_239 : decode cX11_findSeats 239 = .ok (.iconst 0, 1) := by decide +kernel
theorem dX11_findSeats_240 : decode cX11_findSeats 240 = .ok (.istore_n 1, 1) := by decide +kernel
theorem dX11_findSeats_241 : decode cX11_findSeats 241 = .ok (.iconst 0, 1) := by decide +kernel
theorem dX11_findSeats_242 : decode cX11_findSeats 242 = .ok (.istore_n 2, 1) := by decide +kernel
theorem dX11_findSeats_243 : decode cX11_findSeats 243 = .ok (.iload_n 2, 1) := by decide +kernel
theorem dX11_findSeats_244 : decode cX11_findSeats 244 = .ok (.aload_n 0, 1) := by decide +kernel
theorem dX11_findSeats_245 : decode cX11_findSeats 245 = .ok (.getfield 169, 3) := by decide +kernel
theorem dX11_findSeats_248 : decode cX11_findSeats 248 = .ok (.if_icmp .ge 112, 3) := by decide +kernel
theorem dX11_findSeats_360 : decode cX11_findSeats 360 = .ok (.return_, 1) := by decide +kernel
theorem dX11_seats_0 : decode cX11_seats 0 = .ok (.aload_n 0, 1) := by decide +kernel
theorem dX11_seats_1 : decode cX11_seats 1 = .ok (.iconst 0, 1) := by decide +kernel
theorem dX11_seats_2 : decode cX11_seats 2 = .ok (.putfield 3, 3) := by decide +kernel
theorem dX11_seats_5 : decode cX11_seats 5 = .ok (.aload_n 0, 1) := by decide +kernel
theorem dX11_seats_6 : decode cX11_seats 6 = .ok (.invokevirtual 414, 3) := by decide +kernel
theorem dX11_seats_9 : decode cX11_seats 9 = .ok (.aload_n 0, 1) := by decide +kernel
theorem dX11_seats_10 : decode cX11_seats 10 = .ok (.getfield 83, 3) := by decide +kernel
theorem dX11_seats_13 : decode cX11_seats 13 = .ok (.iconst 0, 1) := by decide +kernel
theorem dX11_seats_14 : decode cX11_seats 14 = .ok (.iaload, 1) := by decide +kernel
theorem dX11_seats_15 : decode cX11_seats 15 = .ok (.ireturn, 1) := by decide +kernel
theorem dX11_seat_0 : decode cX11_seat 0 = .ok (.aload_n 0, 1) := by decide +kernel
theorem dX11_seat_1 : decode cX11_seat 1 = .ok (.iconst 0, 1) := by decide +kernel
theorem dX11_seat_2 : decode cX11_seat 2 = .ok (.putfield 3, 3) := by decide +kernel
theorem dX11_seat_5 : decode cX11_seat 5 = .ok (.aload_n 0, 1) := by decide +kernel
theorem dX11_seat_6 : decode cX11_seat 6 = .ok (.iload_n 1, 1) := by decide +kernel
theorem dX11_seat_7 : decode cX11_seat 7 = .ok (.iconst 1, 1) := by decide +kernel
theorem dX11_seat_8 : decode cX11_seat 8 = .ok (.invokevirtual 408, 3) := by decide +kernel
theorem dX11_seat_11 : decode cX11_seat 11 = .ok (.ifCond .ne 5, 3) := by decide +kernel
theorem dX11_seat_14 : decode cX11_seat 14 = .ok (.iconst 0, 1) := by decide +kernel
theorem dX11_seat_15 : decode cX11_seat 15 = .ok (.ireturn, 1) := by decide +kernel
theorem dX11_ring_0 : decode cX11_ring 0 = .ok (.aload_n 0, 1) := by decide +kernel
theorem dX11_ring_1 : decode cX11_ring 1 = .ok (.iconst 0, 1) := by decide +kernel
theorem dX11_ring_2 : decode cX11_ring 2 = .ok (.putfield 3, 3) := by decide +kernel
theorem dX11_ring_5 : decode cX11_ring 5 = .ok (.aload_n 0, 1) := by decide +kernel
theorem dX11_ring_6 : decode cX11_ring 6 = .ok (.getfield 166, 3) := by decide +kernel
theorem dX11_ring_9 : decode cX11_ring 9 = .ok (.iconst 2, 1) := by decide +kernel
theorem dX11_ring_10 : decode cX11_ring 10 = .ok (.if_icmp .ge 5, 3) := by decide +kernel
theorem dX11_ring_13 : decode cX11_ring 13 = .ok (.iconst 0, 1) := by decide +kernel
theorem dX11_ring_14 : decode cX11_ring 14 = .ok (.ireturn, 1) := by decide +kernel
theorem dX11_ringed_0 : decode cX11_ringed 0 = .ok (.aload_n 0, 1) := by decide +kernel
theorem dX11_ringed_1 : decode cX11_ringed 1 = .ok (.iconst 0, 1) := by decide +kernel
theorem dX11_ringed_2 : decode cX11_ringed 2 = .ok (.putfield 3, 3) := by decide +kernel
theorem dX11_ringed_5 : decode cX11_ringed 5 = .ok (.aload_n 0, 1) := by decide +kernel
theorem dX11_ringed_6 : decode cX11_ringed 6 = .ok (.iload_n 1, 1) := by decide +kernel
theorem dX11_ringed_7 : decode cX11_ringed 7 = .ok (.ifCond .lt 7, 3) := by decide +kernel
theorem dX11_ringed_10 : decode cX11_ringed 10 = .ok (.iconst 1, 1) := by decide +kernel
theorem dX11_ringed_11 : decode cX11_ringed 11 = .ok (.goto 4, 3) := by decide +kernel
theorem dX11_ringed_14 : decode cX11_ringed 14 = .ok (.iconst 0, 1) := by decide +kernel
theorem dX11_ringed_15 : decode cX11_ringed 15 = .ok (.iconst 1, 1) := by decide +kernel
theorem dX11_ringed_16 : decode cX11_ringed 16 = .ok (.iconst 1, 1) := by decide +kernel
theorem dX11_ringed_17 : decode cX11_ringed 17 = .ok (.invokevirtual 213, 3) := by decide +kernel
theorem dX11_ringed_20 : decode cX11_ringed 20 = .ok (.ifCond .ne 5, 3) := by decide +kernel
theorem dX11_ringed_23 : decode cX11_ringed 23 = .ok (.iconst 0, 1) := by decide +kernel
theorem dX11_ringed_24 : decode cX11_ringed 24 = .ok (.ireturn, 1) := by decide +kernel
theorem dX11_ringed_25 : decode cX11_ringed 25 = .ok (.iload_n 1, 1) := by decide +kernel
theorem dX11_ringed_26 : decode cX11_ringed 26 = .ok (.aload_n 0, 1) := by decide +kernel
theorem dX11_ringed_27 : decode cX11_ringed 27 = .ok (.getfield 166, 3) := by decide +kernel
theorem dX11_ringed_30 : decode cX11_ringed 30 = .ok (.if_icmp .lt 5, 3) := by decide +kernel
theorem dX11_ringed_33 : decode cX11_ringed 33 = .ok (.iconst (-1), 1) := by decide +kernel
theorem dX11_ringed_34 : decode cX11_ringed 34 = .ok (.ireturn, 1) := by decide +kernel
theorem dX11_bouts_0 : decode cX11_bouts 0 = .ok (.aload_n 0, 1) := by decide +kernel
theorem dX11_bouts_1 : decode cX11_bouts 1 = .ok (.iconst 0, 1) := by decide +kernel
theorem dX11_bouts_2 : decode cX11_bouts 2 = .ok (.putfield 3, 3) := by decide +kernel
theorem dX11_bouts_5 : decode cX11_bouts 5 = .ok (.aload_n 0, 1) := by decide +kernel
theorem dX11_bouts_6 : decode cX11_bouts 6 = .ok (.iload_n 1, 1) := by decide +kernel
theorem dX11_bouts_7 : decode cX11_bouts 7 = .ok (.iconst 1, 1) := by decide +kernel
theorem dX11_bouts_8 : decode cX11_bouts 8 = .ok (.invokevirtual 408, 3) := by decide +kernel
theorem dX11_bouts_11 : decode cX11_bouts 11 = .ok (.ifCond .ne 5, 3) := by decide +kernel
theorem dX11_bouts_14 : decode cX11_bouts 14 = .ok (.iconst 0, 1) := by decide +kernel
theorem dX11_bouts_15 : decode cX11_bouts 15 = .ok (.ireturn, 1) := by decide +kernel
theorem dX11_fits_0 : decode cX11_fits 0 = .ok (.aload_n 0, 1) := by decide +kernel
theorem dX11_fits_1 : decode cX11_fits 1 = .ok (.iconst 0, 1) := by decide +kernel
theorem dX11_fits_2 : decode cX11_fits 2 = .ok (.putfield 3, 3) := by decide +kernel
theorem dX11_fits_5 : decode cX11_fits 5 = .ok (.aload_n 0, 1) := by decide +kernel
theorem dX11_fits_6 : decode cX11_fits 6 = .ok (.iload_n 1, 1) := by decide +kernel
theorem dX11_fits_7 : decode cX11_fits 7 = .ok (.iconst 0, 1) := by decide +kernel
theorem dX11_fits_8 : decode cX11_fits 8 = .ok (.iconst 1, 1) := by decide +kernel
theorem dX11_fits_9 : decode cX11_fits 9 = .ok (.invokestatic 390, 3) := by decide +kernel
theorem dX11_fits_12 : decode cX11_fits 12 = .ok (.iconst 1, 1) := by decide +kernel
theorem dX11_fits_13 : decode cX11_fits 13 = .ok (.iconst 1, 1) := by decide +kernel
theorem dX11_fits_14 : decode cX11_fits 14 = .ok (.invokevirtual 213, 3) := by decide +kernel
theorem dX11_fits_17 : decode cX11_fits 17 = .ok (.ifCond .ne 5, 3) := by decide +kernel
theorem dX11_fits_20 : decode cX11_fits 20 = .ok (.iconst 0, 1) := by decide +kernel
theorem dX11_fits_21 : decode cX11_fits 21 = .ok (.ireturn, 1) := by decide +kernel
theorem dX11_fits_22 : decode cX11_fits 22 = .ok (.aload_n 0, 1) := by decide +kernel
theorem dX11_fits_23 : decode cX11_fits 23 = .ok (.invokevirtual 316, 3) := by decide +kernel
theorem dX11_fits_26 : decode cX11_fits 26 = .ok (.iconst 0, 1) := by decide +kernel
theorem dX11_fits_27 : decode cX11_fits 27 = .ok (.istore_n 2, 1) := by decide +kernel
theorem dX11_fits_28 : decode cX11_fits 28 = .ok (.iconst (-1), 1) := by decide +kernel
theorem dX11_fits_29 : decode cX11_fits 29 = .ok (.istore_n 3, 1) := by decide +kernel
theorem dX11_fits_30 : decode cX11_fits 30 = .ok (.iconst 0, 1) := by decide +kernel
theorem dX11_fits_31 : decode cX11_fits 31 = .ok (.istore 4, 2) := by decide +kernel
theorem dX11_fits_33 : decode cX11_fits 33 = .ok (.iload 4, 2) := by decide +kernel
theorem dX11_fits_35 : decode cX11_fits 35 = .ok (.aload_n 0, 1) := by decide +kernel
theorem dX11_fits_36 : decode cX11_fits 36 = .ok (.getfield 169, 3) := by decide +kernel
theorem dX11_fits_39 : decode cX11_fits 39 = .ok (.if_icmp .ge 62, 3) := by decide +kernel
theorem dX11_fits_101 : decode cX11_fits 101 = .ok (.iload_n 1, 1) := by decide +kernel
theorem dX11_fits_102 : decode cX11_fits 102 = .ok (.ifCond .ne 7, 3) := by decide +kernel
theorem dX11_fits_105 : decode cX11_fits 105 = .ok (.iload_n 2, 1) := by decide +kernel
theorem dX11_fits_106 : decode cX11_fits 106 = .ok (.goto 4, 3) := by decide +kernel
theorem dX11_fits_109 : decode cX11_fits 109 = .ok (.iload_n 3, 1) := by decide +kernel
theorem dX11_fits_110 : decode cX11_fits 110 = .ok (.ireturn, 1) := by decide +kernel
theorem dX11_look_0 : decode cX11_look 0 = .ok (.aload_n 0, 1) := by decide +kernel
theorem dX11_look_1 : decode cX11_look 1 = .ok (.iconst 0, 1) := by decide +kernel
theorem dX11_look_2 : decode cX11_look 2 = .ok (.putfield 3, 3) := by decide +kernel
theorem dX11_look_5 : decode cX11_look 5 = .ok (.aload_n 0, 1) := by decide +kernel
theorem dX11_look_6 : decode cX11_look 6 = .ok (.iload_n 1, 1) := by decide +kernel
theorem dX11_look_7 : decode cX11_look 7 = .ok (.iconst 0, 1) := by decide +kernel
theorem dX11_look_8 : decode cX11_look 8 = .ok (.iconst 1, 1) := by decide +kernel
theorem dX11_look_9 : decode cX11_look 9 = .ok (.invokestatic 390, 3) := by decide +kernel
theorem dX11_look_12 : decode cX11_look 12 = .ok (.iconst 1, 1) := by decide +kernel
theorem dX11_look_13 : decode cX11_look 13 = .ok (.iconst 1, 1) := by decide +kernel
theorem dX11_look_14 : decode cX11_look 14 = .ok (.invokevirtual 213, 3) := by decide +kernel
theorem dX11_look_17 : decode cX11_look 17 = .ok (.ifCond .ne 5, 3) := by decide +kernel
theorem dX11_look_20 : decode cX11_look 20 = .ok (.iconst 0, 1) := by decide +kernel
theorem dX11_look_21 : decode cX11_look 21 = .ok (.ireturn, 1) := by decide +kernel
theorem dX11_look_22 : decode cX11_look 22 = .ok (.aload_n 0, 1) := by decide +kernel
theorem dX11_look_23 : decode cX11_look 23 = .ok (.invokevirtual 316, 3) := by decide +kernel
theorem dX11_look_26 : decode cX11_look 26 = .ok (.iconst (-1), 1) := by decide +kernel
theorem dX11_look_27 : decode cX11_look 27 = .ok (.istore_n 2, 1) := by decide +kernel
theorem dX11_look_28 : decode cX11_look 28 = .ok (.iconst (-1), 1) := by decide +kernel
theorem dX11_look_29 : decode cX11_look 29 = .ok (.istore_n 3, 1) := by decide +kernel
theorem dX11_look_30 : decode cX11_look 30 = .ok (.iconst 0, 1) := by decide +kernel
theorem dX11_look_31 : decode cX11_look 31 = .ok (.istore 4, 2) := by decide +kernel
theorem dX11_look_33 : decode cX11_look 33 = .ok (.iload 4, 2) := by decide +kernel
theorem dX11_look_35 : decode cX11_look 35 = .ok (.aload_n 0, 1) := by decide +kernel
theorem dX11_look_36 : decode cX11_look 36 = .ok (.getfield 166, 3) := by decide +kernel
theorem dX11_look_39 : decode cX11_look 39 = .ok (.if_icmp .ge 51, 3) := by decide +kernel
theorem dX11_look_90 : decode cX11_look 90 = .ok (.iload_n 1, 1) := by decide +kernel
theorem dX11_look_91 : decode cX11_look 91 = .ok (.ifCond .ne 7, 3) := by decide +kernel
theorem dX11_look_94 : decode cX11_look 94 = .ok (.iload_n 2, 1) := by decide +kernel
theorem dX11_look_95 : decode cX11_look 95 = .ok (.goto 4, 3) := by decide +kernel
theorem dX11_look_98 : decode cX11_look 98 = .ok (.iload_n 3, 1) := by decide +kernel
theorem dX11_look_99 : decode cX11_look 99 = .ok (.ireturn, 1) := by decide +kernel
theorem dX11_watch_0 : decode cX11_watch 0 = .ok (.aload_n 0, 1) := by decide +kernel
theorem dX11_watch_1 : decode cX11_watch 1 = .ok (.iconst 0, 1) := by decide +kernel
theorem dX11_watch_2 : decode cX11_watch 2 = .ok (.putfield 3, 3) := by decide +kernel
theorem dX11_watch_5 : decode cX11_watch 5 = .ok (.aload_n 0, 1) := by decide +kernel
theorem dX11_watch_6 : decode cX11_watch 6 = .ok (.iload_n 1, 1) := by decide +kernel
theorem dX11_watch_7 : decode cX11_watch 7 = .ok (.iconst 0, 1) := by decide +kernel
theorem dX11_watch_8 : decode cX11_watch 8 = .ok (.bipush 60, 2) := by decide +kernel
theorem dX11_watch_10 : decode cX11_watch 10 = .ok (.invokestatic 390, 3) := by decide +kernel
theorem dX11_watch_13 : decode cX11_watch 13 = .ok (.iconst 1, 1) := by decide +kernel
theorem dX11_watch_14 : decode cX11_watch 14 = .ok (.iconst 1, 1) := by decide +kernel
theorem dX11_watch_15 : decode cX11_watch 15 = .ok (.invokevirtual 213, 3) := by decide +kernel
theorem dX11_watch_18 : decode cX11_watch 18 = .ok (.ifCond .ne 5, 3) := by decide +kernel
theorem dX11_watch_21 : decode cX11_watch 21 = .ok (.iconst 0, 1) := by decide +kernel
theorem dX11_watch_22 : decode cX11_watch 22 = .ok (.ireturn, 1) := by decide +kernel
theorem dX11_watch_23 : decode cX11_watch 23 = .ok (.iconst (-1), 1) := by decide +kernel
theorem dX11_watch_24 : decode cX11_watch 24 = .ok (.istore_n 2, 1) := by decide +kernel
theorem dX11_watch_25 : decode cX11_watch 25 = .ok (.iconst 0, 1) := by decide +kernel
theorem dX11_watch_26 : decode cX11_watch 26 = .ok (.istore_n 3, 1) := by decide +kernel
theorem dX11_watch_27 : decode cX11_watch 27 = .ok (.iload_n 3, 1) := by decide +kernel
theorem dX11_watch_28 : decode cX11_watch 28 = .ok (.iconst 1, 1) := by decide +kernel
theorem dX11_watch_29 : decode cX11_watch 29 = .ok (.aload_n 0, 1) := by decide +kernel
theorem dX11_watch_30 : decode cX11_watch 30 = .ok (.getfield 166, 3) := by decide +kernel
theorem dX11_watch_33 : decode cX11_watch 33 = .ok (.ishl, 1) := by decide +kernel
theorem dX11_watch_34 : decode cX11_watch 34 = .ok (.if_icmp .ge 125, 3) := by decide +kernel
theorem dX11_watch_37 : decode cX11_watch 37 = .ok (.iconst 1, 1) := by decide +kernel
theorem dX11_watch_38 : decode cX11_watch 38 = .ok (.istore 4, 2) := by decide +kernel
theorem dX11_watch_40 : decode cX11_watch 40 = .ok (.iconst 0, 1) := by decide +kernel
theorem dX11_watch_41 : decode cX11_watch 41 = .ok (.istore 5, 2) := by decide +kernel
theorem dX11_watch_43 : decode cX11_watch 43 = .ok (.iload 5, 2) := by decide +kernel
theorem dX11_watch_45 : decode cX11_watch 45 = .ok (.aload_n 0, 1) := by decide +kernel
theorem dX11_watch_46 : decode cX11_watch 46 = .ok (.getfield 166, 3) := by decide +kernel
theorem dX11_watch_49 : decode cX11_watch 49 = .ok (.if_icmp .ge 81, 3) := by decide +kernel
theorem dX11_watch_130 : decode cX11_watch 130 = .ok (.iload 4, 2) := by decide +kernel
theorem dX11_watch_132 : decode cX11_watch 132 = .ok (.ifCond .eq 21, 3) := by decide +kernel
theorem dX11_watch_135 : decode cX11_watch 135 = .ok (.iload_n 2, 1) := by decide +kernel
theorem dX11_watch_136 : decode cX11_watch 136 = .ok (.iconst (-1), 1) := by decide +kernel
theorem dX11_watch_137 : decode cX11_watch 137 = .ok (.if_icmp .eq 14, 3) := by decide +kernel
theorem dX11_watch_151 : decode cX11_watch 151 = .ok (.iload_n 3, 1) := by decide +kernel
theorem dX11_watch_152 : decode cX11_watch 152 = .ok (.istore_n 2, 1) := by decide +kernel
theorem dX11_watch_153 : decode cX11_watch 153 = .ok (.iinc 3 1, 3) := by decide +kernel
theorem dX11_watch_156 : decode cX11_watch 156 = .ok (.goto (-129), 3) := by decide +kernel
theorem dX11_watch_159 : decode cX11_watch 159 = .ok (.iload_n 2, 1) := by decide +kernel
theorem dX11_watch_160 : decode cX11_watch 160 = .ok (.ireturn, 1) := by decide +kernel
theorem dX11_least_0 : decode cX11_least 0 = .ok (.lload_n 0, 1) := by decide +kernel
theorem dX11_least_1 : decode cX11_least 1 = .ok (.lstore 5, 2) := by decide +kernel
theorem dX11_least_3 : decode cX11_least 3 = .ok (.lload_n 2, 1) := by decide +kernel
theorem dX11_least_4 : decode cX11_least 4 = .ok (.lstore 7, 2) := by decide +kernel
theorem dX11_least_6 : decode cX11_least 6 = .ok (.lload 7, 2) := by decide +kernel
theorem dX11_least_8 : decode cX11_least 8 = .ok (.lconst 0, 1) := by decide +kernel
theorem dX11_least_9 : decode cX11_least 9 = .ok (.lcmp, 1) := by decide +kernel
theorem dX11_least_10 : decode cX11_least 10 = .ok (.ifCond .eq 21, 3) := by decide +kernel
theorem dX11_least_13 : decode cX11_least 13 = .ok (.lload 5, 2) := by decide +kernel
theorem dX11_least_15 : decode cX11_least 15 = .ok (.lload 7, 2) := by decide +kernel
theorem dX11_least_17 : decode cX11_least 17 = .ok (.lrem, 1) := by decide +kernel
theorem dX11_least_18 : decode cX11_least 18 = .ok (.lstore 9, 2) := by decide +kernel
theorem dX11_least_20 : decode cX11_least 20 = .ok (.lload 7, 2) := by decide +kernel
theorem dX11_least_22 : decode cX11_least 22 = .ok (.lstore 5, 2) := by decide +kernel
theorem dX11_least_24 : decode cX11_least 24 = .ok (.lload 9, 2) := by decide +kernel
theorem dX11_least_26 : decode cX11_least 26 = .ok (.lstore 7, 2) := by decide +kernel
theorem dX11_least_28 : decode cX11_least 28 = .ok (.goto (-22), 3) := by decide +kernel
theorem dX11_least_31 : decode cX11_least 31 = .ok (.iload 4, 2) := by decide +kernel
theorem dX11_least_33 : decode cX11_least 33 = .ok (.ifCond .ne 7, 3) := by decide +kernel
theorem dX11_least_36 : decode cX11_least 36 = .ok (.lload_n 0, 1) := by decide +kernel
theorem dX11_least_37 : decode cX11_least 37 = .ok (.goto 4, 3) := by decide +kernel
theorem dX11_least_40 : decode cX11_least 40 = .ok (.lload_n 2, 1) := by decide +kernel
theorem dX11_least_41 : decode cX11_least 41 = .ok (.lload 5, 2) := by decide +kernel
theorem dX11_least_43 : decode cX11_least 43 = .ok (.ldiv, 1) := by decide +kernel
theorem dX11_least_44 : decode cX11_least 44 = .ok (.lreturn, 1) := by decide +kernel
theorem dX11_few_0 : decode cX11_few 0 = .ok (.aload_n 0, 1) := by decide +kernel
theorem dX11_few_1 : decode cX11_few 1 = .ok (.iconst 0, 1) := by decide +kernel
theorem dX11_few_2 : decode cX11_few 2 = .ok (.putfield 3, 3) := by decide +kernel
theorem dX11_few_5 : decode cX11_few 5 = .ok (.aload_n 0, 1) := by decide +kernel
theorem dX11_few_6 : decode cX11_few 6 = .ok (.iload_n 1, 1) := by decide +kernel
theorem dX11_few_7 : decode cX11_few 7 = .ok (.iconst 0, 1) := by decide +kernel
theorem dX11_few_8 : decode cX11_few 8 = .ok (.bipush 12, 2) := by decide +kernel
theorem dX11_few_10 : decode cX11_few 10 = .ok (.invokestatic 390, 3) := by decide +kernel
theorem dX11_few_13 : decode cX11_few 13 = .ok (.ifCond .eq 37, 3) := by decide +kernel
theorem dX11_few_16 : decode cX11_few 16 = .ok (.iload_n 2, 1) := by decide +kernel
theorem dX11_few_17 : decode cX11_few 17 = .ok (.iconst 0, 1) := by decide +kernel
theorem dX11_few_18 : decode cX11_few 18 = .ok (.bipush 12, 2) := by decide +kernel
theorem dX11_few_20 : decode cX11_few 20 = .ok (.invokestatic 390, 3) := by decide +kernel
theorem dX11_few_23 : decode cX11_few 23 = .ok (.ifCond .eq 27, 3) := by decide +kernel
theorem dX11_few_26 : decode cX11_few 26 = .ok (.iload_n 3, 1) := by decide +kernel
theorem dX11_few_27 : decode cX11_few 27 = .ok (.iconst 0, 1) := by decide +kernel
theorem dX11_few_28 : decode cX11_few 28 = .ok (.bipush 16, 2) := by decide +kernel
theorem dX11_few_30 : decode cX11_few 30 = .ok (.invokestatic 390, 3) := by decide +kernel
theorem dX11_few_33 : decode cX11_few 33 = .ok (.ifCond .eq 17, 3) := by decide +kernel
theorem dX11_few_36 : decode cX11_few 36 = .ok (.iload 4, 2) := by decide +kernel
theorem dX11_few_38 : decode cX11_few 38 = .ok (.iconst 0, 1) := by decide +kernel
theorem dX11_few_39 : decode cX11_few 39 = .ok (.iconst 1, 1) := by decide +kernel
theorem dX11_few_40 : decode cX11_few 40 = .ok (.invokestatic 390, 3) := by decide +kernel
theorem dX11_few_43 : decode cX11_few 43 = .ok (.ifCond .eq 7, 3) := by decide +kernel
theorem dX11_few_46 : decode cX11_few 46 = .ok (.iconst 1, 1) := by decide +kernel
theorem dX11_few_47 : decode cX11_few 47 = .ok (.goto 4, 3) := by decide +kernel
theorem dX11_few_50 : decode cX11_few 50 = .ok (.iconst 0, 1) := by decide +kernel
theorem dX11_few_51 : decode cX11_few 51 = .ok (.iconst 1, 1) := by decide +kernel
theorem dX11_few_52 : decode cX11_few 52 = .ok (.iconst 1, 1) := by decide +kernel
theorem dX11_few_53 : decode cX11_few 53 = .ok (.invokevirtual 213, 3) := by decide +kernel
theorem dX11_few_56 : decode cX11_few 56 = .ok (.ifCond .ne 5, 3) := by decide +kernel
theorem dX11_few_59 : decode cX11_few 59 = .ok (.lconst 0, 1) := by decide +kernel
theorem dX11_few_60 : decode cX11_few 60 = .ok (.lreturn, 1) := by decide +kernel
theorem dX11_few_61 : decode cX11_few 61 = .ok (.iconst 0, 1) := by decide +kernel
theorem dX11_few_62 : decode cX11_few 62 = .ok (.istore 5, 2) := by decide +kernel
theorem dX11_few_64 : decode cX11_few 64 = .ok (.iload 5, 2) := by decide +kernel
theorem dX11_few_66 : decode cX11_few 66 = .ok (.bipush 14, 2) := by decide +kernel
theorem dX11_few_68 : decode cX11_few 68 = .ok (.if_icmp .ge 26, 3) := by decide +kernel
theorem dX11_few_71 : decode cX11_few 71 = .ok (.aload_n 0, 1) := by decide +kernel
theorem dX11_few_72 : decode cX11_few 72 = .ok (.getfield 98, 3) := by decide +kernel
theorem dX11_few_75 : decode cX11_few 75 = .ok (.iload 5, 2) := by decide +kernel
theorem dX11_few_77 : decode cX11_few 77 = .ok (.iload 5, 2) := by decide +kernel
theorem dX11_few_79 : decode cX11_few 79 = .ok (.ifCond .ne 7, 3) := by decide +kernel
theorem dX11_few_82 : decode cX11_few 82 = .ok (.lconst 1, 1) := by decide +kernel
theorem dX11_few_83 : decode cX11_few 83 = .ok (.goto 4, 3) := by decide +kernel
theorem dX11_few_86 : decode cX11_few 86 = .ok (.lconst 0, 1) := by decide +kernel
theorem dX11_few_87 : decode cX11_few 87 = .ok (.lastore, 1) := by decide +kernel
theorem dX11_few_88 : decode cX11_few 88 = .ok (.iinc 5 1, 3) := by decide +kernel
theorem dX11_few_91 : decode cX11_few 91 = .ok (.goto (-27), 3) := by decide +kernel
theorem dX11_few_94 : decode cX11_few 94 = .ok (.lconst 1, 1) := by decide +kernel
theorem dX11_few_95 : decode cX11_few 95 = .ok (.lstore 5, 2) := by decide +kernel
theorem dX11_few_97 : decode cX11_few 97 = .ok (.iconst 0, 1) := by decide +kernel
theorem dX11_few_98 : decode cX11_few 98 = .ok (.istore 7, 2) := by decide +kernel
theorem dX11_few_100 : decode cX11_few 100 = .ok (.iload 7, 2) := by decide +kernel
theorem dX11_few_102 : decode cX11_few 102 = .ok (.iload_n 1, 1) := by decide +kernel
theorem dX11_few_103 : decode cX11_few 103 = .ok (.if_icmp .ge 74, 3) := by decide +kernel
theorem dX11_few_106 : decode cX11_few 106 = .ok (.bipush 13, 2) := by decide +kernel
theorem dX11_few_108 : decode cX11_few 108 = .ok (.istore 8, 2) := by decide +kernel
theorem dX11_few_110 : decode cX11_few 110 = .ok (.iload 8, 2) := by decide +kernel
theorem dX11_few_112 : decode cX11_few 112 = .ok (.ifCond .lt 51, 3) := by decide +kernel
theorem dX11_few_115 : decode cX11_few 115 = .ok (.aload_n 0, 1) := by decide +kernel
theorem dX11_few_116 : decode cX11_few 116 = .ok (.getfield 98, 3) := by decide +kernel
theorem dX11_few_119 : decode cX11_few 119 = .ok (.iload 8, 2) := by decide +kernel
theorem dX11_few_121 : decode cX11_few 121 = .ok (.aload_n 0, 1) := by decide +kernel
theorem dX11_few_122 : decode cX11_few 122 = .ok (.getfield 98, 3) := by decide +kernel
theorem dX11_few_125 : decode cX11_few 125 = .ok (.iload 8, 2) := by decide +kernel
theorem dX11_few_127 : decode cX11_few 127 = .ok (.laload, 1) := by decide +kernel
theorem dX11_few_128 : decode cX11_few 128 = .ok (.bipush 16, 2) := by decide +kernel
theorem dX11_few_130 : decode cX11_few 130 = .ok (.iload_n 3, 1) := by decide +kernel
theorem dX11_few_131 : decode cX11_few 131 = .ok (.isub, 1) := by decide +kernel
theorem dX11_few_132 : decode cX11_few 132 = .ok (.i2l, 1) := by decide +kernel
theorem dX11_few_133 : decode cX11_few 133 = .ok (.lmul, 1) := by decide +kernel
theorem dX11_few_134 : decode cX11_few 134 = .ok (.iload 8, 2) := by decide +kernel
theorem dX11_few_136 : decode cX11_few 136 = .ok (.ifCond .le 18, 3) := by decide +kernel
theorem dX11_few_139 : decode cX11_few 139 = .ok (.aload_n 0, 1) := by decide +kernel
theorem dX11_few_140 : decode cX11_few 140 = .ok (.getfield 98, 3) := by decide +kernel
theorem dX11_few_143 : decode cX11_few 143 = .ok (.iload 8, 2) := by decide +kernel
theorem dX11_few_145 : decode cX11_few 145 = .ok (.iconst 1, 1) := by decide +kernel
theorem dX11_few_146 : decode cX11_few 146 = .ok (.isub, 1) := by decide +kernel
theorem dX11_few_147 : decode cX11_few 147 = .ok (.laload, 1) := by decide +kernel
theorem dX11_few_148 : decode cX11_few 148 = .ok (.iload_n 3, 1) := by decide +kernel
theorem dX11_few_149 : decode cX11_few 149 = .ok (.i2l, 1) := by decide +kernel
theorem dX11_few_150 : decode cX11_few 150 = .ok (.lmul, 1) := by decide +kernel
theorem dX11_few_151 : decode cX11_few 151 = .ok (.goto 4, 3) := by decide +kernel
theorem dX11_few_154 : decode cX11_few 154 = .ok (.lconst 0, 1) := by decide +kernel
theorem dX11_few_155 : decode cX11_few 155 = .ok (.ladd, 1) := by decide +kernel
theorem dX11_few_156 : decode cX11_few 156 = .ok (.lastore, 1) := by decide +kernel
theorem dX11_few_157 : decode cX11_few 157 = .ok (.iinc 8 (-1), 3) := by decide +kernel
theorem dX11_few_160 : decode cX11_few 160 = .ok (.goto (-50), 3) := by decide +kernel
theorem dX11_few_163 : decode cX11_few 163 = .ok (.lload 5, 2) := by decide +kernel
theorem dX11_few_165 : decode cX11_few 165 = .ok (.ldc2_w 433, 3) := by decide +kernel
theorem dX11_few_168 : decode cX11_few 168 = .ok (.lmul, 1) := by decide +kernel
theorem dX11_few_169 : decode cX11_few 169 = .ok (.lstore 5, 2) := by decide +kernel
theorem dX11_few_171 : decode cX11_few 171 = .ok (.iinc 7 1, 3) := by decide +kernel
theorem dX11_few_174 : decode cX11_few 174 = .ok (.goto (-74), 3) := by decide +kernel
theorem dX11_few_177 : decode cX11_few 177 = .ok (.lconst 0, 1) := by decide +kernel
theorem dX11_few_178 : decode cX11_few 178 = .ok (.lstore 7, 2) := by decide +kernel
theorem dX11_few_180 : decode cX11_few 180 = .ok (.iconst 0, 1) := by decide +kernel
theorem dX11_few_181 : decode cX11_few 181 = .ok (.istore 9, 2) := by decide +kernel
theorem dX11_few_183 : decode cX11_few 183 = .ok (.iload 9, 2) := by decide +kernel
theorem dX11_few_185 : decode cX11_few 185 = .ok (.iload_n 2, 1) := by decide +kernel
theorem dX11_few_186 : decode cX11_few 186 = .ok (.if_icmp .gt 21, 3) := by decide +kernel
theorem dX11_few_189 : decode cX11_few 189 = .ok (.lload 7, 2) := by decide +kernel
theorem dX11_few_191 : decode cX11_few 191 = .ok (.aload_n 0, 1) := by decide +kernel
theorem dX11_few_192 : decode cX11_few 192 = .ok (.getfield 98, 3) := by decide +kernel
theorem dX11_few_195 : decode cX11_few 195 = .ok (.iload 9, 2) := by decide +kernel
theorem dX11_few_197 : decode cX11_few 197 = .ok (.laload, 1) := by decide +kernel
theorem dX11_few_198 : decode cX11_few 198 = .ok (.ladd, 1) := by decide +kernel
theorem dX11_few_199 : decode cX11_few 199 = .ok (.lstore 7, 2) := by decide +kernel
theorem dX11_few_201 : decode cX11_few 201 = .ok (.iinc 9 1, 3) := by decide +kernel
theorem dX11_few_204 : decode cX11_few 204 = .ok (.goto (-21), 3) := by decide +kernel
theorem dX11_few_207 : decode cX11_few 207 = .ok (.lload 7, 2) := by decide +kernel
theorem dX11_few_209 : decode cX11_few 209 = .ok (.lload 5, 2) := by decide +kernel
theorem dX11_few_211 : decode cX11_few 211 = .ok (.iload 4, 2) := by decide +kernel
theorem dX11_few_213 : decode cX11_few 213 = .ok (.invokestatic 435, 3) := by decide +kernel
theorem dX11_few_216 : decode cX11_few 216 = .ok (.lreturn, 1) := by decide +kernel
theorem dX11_hasBy_0 : decode cX11_hasBy 0 = .ok (.iload_n 0, 1) := by decide +kernel
theorem dX11_hasBy_1 : decode cX11_hasBy 1 = .ok (.iconst 1, 1) := by decide +kernel
theorem dX11_hasBy_2 : decode cX11_hasBy 2 = .ok (.if_icmp .ne 16, 3) := by decide +kernel
theorem dX11_hasBy_5 : decode cX11_hasBy 5 = .ok (.iload_n 1, 1) := by decide +kernel
theorem dX11_hasBy_6 : decode cX11_hasBy 6 = .ok (.iconst 1, 1) := by decide +kernel
theorem dX11_hasBy_7 : decode cX11_hasBy 7 = .ok (.if_icmp .ne 7, 3) := by decide +kernel
theorem dX11_hasBy_10 : decode cX11_hasBy 10 = .ok (.iload_n 2, 1) := by decide +kernel
theorem dX11_hasBy_11 : decode cX11_hasBy 11 = .ok (.goto 20, 3) := by decide +kernel
theorem dX11_hasBy_14 : decode cX11_hasBy 14 = .ok (.iconst 0, 1) := by decide +kernel
theorem dX11_hasBy_15 : decode cX11_hasBy 15 = .ok (.goto 16, 3) := by decide +kernel
theorem dX11_hasBy_18 : decode cX11_hasBy 18 = .ok (.iload_n 1, 1) := by decide +kernel
theorem dX11_hasBy_19 : decode cX11_hasBy 19 = .ok (.iconst 1, 1) := by decide +kernel
theorem dX11_hasBy_20 : decode cX11_hasBy 20 = .ok (.if_icmp .ne 9, 3) := by decide +kernel
theorem dX11_hasBy_23 : decode cX11_hasBy 23 = .ok (.iload_n 2, 1) := by decide +kernel
theorem dX11_hasBy_24 : decode cX11_hasBy 24 = .ok (.iload_n 3, 1) := by decide +kernel
theorem dX11_hasBy_25 : decode cX11_hasBy 25 = .ok (.iadd, 1) := by decide +kernel
theorem dX11_hasBy_26 : decode cX11_hasBy 26 = .ok (.goto 5, 3) := by decide +kernel
theorem dX11_hasBy_29 : decode cX11_hasBy 29 = .ok (.iload_n 3, 1) := by decide +kernel
theorem dX11_hasBy_30 : decode cX11_hasBy 30 = .ok (.ineg, 1) := by decide +kernel
theorem dX11_hasBy_31 : decode cX11_hasBy 31 = .ok (.ireturn, 1) := by decide +kernel
theorem dX11_road_0 : decode cX11_road 0 = .ok (.aload_n 0, 1) := by decide +kernel
theorem dX11_road_1 : decode cX11_road 1 = .ok (.iconst 0, 1) := by decide +kernel
theorem dX11_road_2 : decode cX11_road 2 = .ok (.putfield 3, 3) := by decide +kernel
theorem dX11_road_5 : decode cX11_road 5 = .ok (.aload_n 0, 1) := by decide +kernel
theorem dX11_road_6 : decode cX11_road 6 = .ok (.iload_n 1, 1) := by decide +kernel
theorem dX11_road_7 : decode cX11_road 7 = .ok (.iconst 0, 1) := by decide +kernel
theorem dX11_road_8 : decode cX11_road 8 = .ok (.bipush 99, 2) := by decide +kernel
theorem dX11_road_10 : decode cX11_road 10 = .ok (.invokestatic 390, 3) := by decide +kernel
theorem dX11_road_13 : decode cX11_road 13 = .ok (.ifCond .eq 26, 3) := by decide +kernel
theorem dX11_road_16 : decode cX11_road 16 = .ok (.iload_n 2, 1) := by decide +kernel
theorem dX11_road_17 : decode cX11_road 17 = .ok (.iconst 0, 1) := by decide +kernel
theorem dX11_road_18 : decode cX11_road 18 = .ok (.bipush 99, 2) := by decide +kernel
theorem dX11_road_20 : decode cX11_road 20 = .ok (.invokestatic 390, 3) := by decide +kernel
theorem dX11_road_23 : decode cX11_road 23 = .ok (.ifCond .eq 16, 3) := by decide +kernel
theorem dX11_road_26 : decode cX11_road 26 = .ok (.iload_n 3, 1) := by decide +kernel
theorem dX11_road_27 : decode cX11_road 27 = .ok (.iconst 0, 1) := by decide +kernel
theorem dX11_road_28 : decode cX11_road 28 = .ok (.iconst 2, 1) := by decide +kernel
theorem dX11_road_29 : decode cX11_road 29 = .ok (.invokestatic 390, 3) := by decide +kernel
theorem dX11_road_32 : decode cX11_road 32 = .ok (.ifCond .eq 7, 3) := by decide +kernel
theorem dX11_road_35 : decode cX11_road 35 = .ok (.iconst 1, 1) := by decide +kernel
theorem dX11_road_36 : decode cX11_road 36 = .ok (.goto 4, 3) := by decide +kernel
theorem dX11_road_39 : decode cX11_road 39 = .ok (.iconst 0, 1) := by decide +kernel
theorem dX11_road_40 : decode cX11_road 40 = .ok (.iconst 1, 1) := by decide +kernel
theorem dX11_road_41 : decode cX11_road 41 = .ok (.iconst 1, 1) := by decide +kernel
theorem dX11_road_42 : decode cX11_road 42 = .ok (.invokevirtual 213, 3) := by decide +kernel
theorem dX11_road_45 : decode cX11_road 45 = .ok (.ifCond .ne 5, 3) := by decide +kernel
theorem dX11_road_48 : decode cX11_road 48 = .ok (.iconst 0, 1) := by decide +kernel
theorem dX11_road_49 : decode cX11_road 49 = .ok (.ireturn, 1) := by decide +kernel
theorem dX11_road_50 : decode cX11_road 50 = .ok (.iconst 0, 1) := by decide +kernel
theorem dX11_road_51 : decode cX11_road 51 = .ok (.istore 4, 2) := by decide +kernel
theorem dX11_road_53 : decode cX11_road 53 = .ok (.iconst (-1), 1) := by decide +kernel
theorem dX11_road_54 : decode cX11_road 54 = .ok (.istore 5, 2) := by decide +kernel
theorem dX11_road_56 : decode cX11_road 56 = .ok (.iconst 0, 1) := by decide +kernel
theorem dX11_road_57 : decode cX11_road 57 = .ok (.istore 6, 2) := by decide +kernel
theorem dX11_road_59 : decode cX11_road 59 = .ok (.iload 6, 2) := by decide +kernel
theorem dX11_road_61 : decode cX11_road 61 = .ok (.iconst 4, 1) := by decide +kernel
theorem dX11_road_62 : decode cX11_road 62 = .ok (.if_icmp .ge 94, 3) := by decide +kernel
theorem dX11_road_65 : decode cX11_road 65 = .ok (.iload 6, 2) := by decide +kernel
theorem dX11_road_67 : decode cX11_road 67 = .ok (.iconst 2, 1) := by decide +kernel
theorem dX11_road_68 : decode cX11_road 68 = .ok (.idiv, 1) := by decide +kernel
theorem dX11_road_69 : decode cX11_road 69 = .ok (.istore 7, 2) := by decide +kernel
theorem dX11_road_71 : decode cX11_road 71 = .ok (.iload 6, 2) := by decide +kernel
theorem dX11_road_73 : decode cX11_road 73 = .ok (.iconst 2, 1) := by decide +kernel
theorem dX11_road_74 : decode cX11_road 74 = .ok (.irem, 1) := by decide +kernel
theorem dX11_road_75 : decode cX11_road 75 = .ok (.istore 8, 2) := by decide +kernel
theorem dX11_road_77 : decode cX11_road 77 = .ok (.iconst 1, 1) := by decide +kernel
theorem dX11_road_78 : decode cX11_road 78 = .ok (.iload 7, 2) := by decide +kernel
theorem dX11_road_80 : decode cX11_road 80 = .ok (.isub, 1) := by decide +kernel
theorem dX11_road_81 : decode cX11_road 81 = .ok (.iload 8, 2) := by decide +kernel
theorem dX11_road_83 : decode cX11_road 83 = .ok (.iload_n 1, 1) := by decide +kernel
theorem dX11_road_84 : decode cX11_road 84 = .ok (.iload_n 2, 1) := by decide +kernel
theorem dX11_road_85 : decode cX11_road 85 = .ok (.invokestatic 438, 3) := by decide +kernel
theorem dX11_road_88 : decode cX11_road 88 = .ok (.iload 7, 2) := by decide +kernel
theorem dX11_road_90 : decode cX11_road 90 = .ok (.iload 8, 2) := by decide +kernel
theorem dX11_road_92 : decode cX11_road 92 = .ok (.iload_n 1, 1) := by decide +kernel
theorem dX11_road_93 : decode cX11_road 93 = .ok (.iload_n 2, 1) := by decide +kernel
theorem dX11_road_94 : decode cX11_road 94 = .ok (.invokestatic 438, 3) := by decide +kernel
theorem dX11_road_97 : decode cX11_road 97 = .ok (.if_icmp .gt 53, 3) := by decide +kernel
theorem dX11_road_100 : decode cX11_road 100 = .ok (.iconst 1, 1) := by decide +kernel
theorem dX11_road_101 : decode cX11_road 101 = .ok (.iload 8, 2) := by decide +kernel
theorem dX11_road_103 : decode cX11_road 103 = .ok (.isub, 1) := by decide +kernel
theorem dX11_road_104 : decode cX11_road 104 = .ok (.iload 7, 2) := by decide +kernel
theorem dX11_road_106 : decode cX11_road 106 = .ok (.iload_n 1, 1) := by decide +kernel
theorem dX11_road_107 : decode cX11_road 107 = .ok (.iload_n 2, 1) := by decide +kernel
theorem dX11_road_108 : decode cX11_road 108 = .ok (.invokestatic 438, 3) := by decide +kernel
theorem dX11_road_111 : decode cX11_road 111 = .ok (.iload 8, 2) := by decide +kernel
theorem dX11_road_113 : decode cX11_road 113 = .ok (.iload 7, 2) := by decide +kernel
theorem dX11_road_115 : decode cX11_road 115 = .ok (.iload_n 1, 1) := by decide +kernel
theorem dX11_road_116 : decode cX11_road 116 = .ok (.iload_n 2, 1) := by decide +kernel
theorem dX11_road_117 : decode cX11_road 117 = .ok (.invokestatic 438, 3) := by decide +kernel
theorem dX11_road_120 : decode cX11_road 120 = .ok (.if_icmp .le 6, 3) := by decide +kernel
theorem dX11_road_123 : decode cX11_road 123 = .ok (.goto 27, 3) := by decide +kernel
theorem dX11_road_126 : decode cX11_road 126 = .ok (.iinc 4 1, 3) := by decide +kernel
theorem dX11_road_129 : decode cX11_road 129 = .ok (.iload 5, 2) := by decide +kernel
theorem dX11_road_131 : decode cX11_road 131 = .ok (.iconst (-1), 1) := by decide +kernel
theorem dX11_road_132 : decode cX11_road 132 = .ok (.if_icmp .ne 14, 3) := by decide +kernel
theorem dX11_road_135 : decode cX11_road 135 = .ok (.bipush 10, 2) := by decide +kernel
theorem dX11_road_137 : decode cX11_road 137 = .ok (.iload 7, 2) := by decide +kernel
theorem dX11_road_139 : decode cX11_road 139 = .ok (.imul, 1) := by decide +kernel
theorem dX11_road_140 : decode cX11_road 140 = .ok (.iload 8, 2) := by decide +kernel
theorem dX11_road_142 : decode cX11_road 142 = .ok (.iadd, 1) := by decide +kernel
theorem dX11_road_143 : decode cX11_road 143 = .ok (.goto 5, 3) := by decide +kernel
theorem dX11_road_146 : decode cX11_road 146 = .ok (.iload 5, 2) := by decide +kernel
theorem dX11_road_148 : decode cX11_road 148 = .ok (.istore 5, 2) := by decide +kernel
theorem dX11_road_150 : decode cX11_road 150 = .ok (.iinc 6 1, 3) := by decide +kernel
theorem dX11_road_153 : decode cX11_road 153 = .ok (.goto (-94), 3) := by decide +kernel
theorem dX11_road_156 : decode cX11_road 156 = .ok (.iload_n 3, 1) := by decide +kernel
theorem dX11_road_157 : decode cX11_road 157 = .ok (.ifCond .ne 8, 3) := by decide +kernel
theorem dX11_road_160 : decode cX11_road 160 = .ok (.iload 4, 2) := by decide +kernel
theorem dX11_road_162 : decode cX11_road 162 = .ok (.goto 54, 3) := by decide +kernel
theorem dX11_road_165 : decode cX11_road 165 = .ok (.iload_n 3, 1) := by decide +kernel
theorem dX11_road_166 : decode cX11_road 166 = .ok (.iconst 1, 1) := by decide +kernel
theorem dX11_road_167 : decode cX11_road 167 = .ok (.if_icmp .ne 8, 3) := by decide +kernel
theorem dX11_road_170 : decode cX11_road 170 = .ok (.iload 5, 2) := by decide +kernel
theorem dX11_road_172 : decode cX11_road 172 = .ok (.goto 44, 3) := by decide +kernel
theorem dX11_road_175 : decode cX11_road 175 = .ok (.iload 5, 2) := by decide +kernel
theorem dX11_road_177 : decode cX11_road 177 = .ok (.iconst (-1), 1) := by decide +kernel
theorem dX11_road_178 : decode cX11_road 178 = .ok (.if_icmp .ne 7, 3) := by decide +kernel
theorem dX11_road_181 : decode cX11_road 181 = .ok (.iconst 0, 1) := by decide +kernel
theorem dX11_road_182 : decode cX11_road 182 = .ok (.goto 34, 3) := by decide +kernel
theorem dX11_road_185 : decode cX11_road 185 = .ok (.iload 5, 2) := by decide +kernel
theorem dX11_road_187 : decode cX11_road 187 = .ok (.bipush 10, 2) := by decide +kernel
theorem dX11_road_189 : decode cX11_road 189 = .ok (.idiv, 1) := by decide +kernel
theorem dX11_road_190 : decode cX11_road 190 = .ok (.iload 5, 2) := by decide +kernel
theorem dX11_road_192 : decode cX11_road 192 = .ok (.bipush 10, 2) := by decide +kernel
theorem dX11_road_194 : decode cX11_road 194 = .ok (.irem, 1) := by decide +kernel
theorem dX11_road_195 : decode cX11_road 195 = .ok (.iload_n 1, 1) := by decide +kernel
theorem dX11_road_196 : decode cX11_road 196 = .ok (.iload_n 2, 1) := by decide +kernel
theorem dX11_road_197 : decode cX11_road 197 = .ok (.invokestatic 438, 3) := by decide +kernel
theorem dX11_road_200 : decode cX11_road 200 = .ok (.iload 5, 2) := by decide +kernel
theorem dX11_road_202 : decode cX11_road 202 = .ok (.bipush 10, 2) := by decide +kernel
theorem dX11_road_204 : decode cX11_road 204 = .ok (.irem, 1) := by decide +kernel
theorem dX11_road_205 : decode cX11_road 205 = .ok (.iload 5, 2) := by decide +kernel
theorem dX11_road_207 : decode cX11_road 207 = .ok (.bipush 10, 2) := by decide +kernel
theorem dX11_road_209 : decode cX11_road 209 = .ok (.idiv, 1) := by decide +kernel
theorem dX11_road_210 : decode cX11_road 210 = .ok (.iload_n 1, 1) := by decide +kernel
theorem dX11_road_211 : decode cX11_road 211 = .ok (.iload_n 2, 1) := by decide +kernel
theorem dX11_road_212 : decode cX11_road 212 = .ok (.invokestatic 438, 3) := by decide +kernel
theorem dX11_road_215 : decode cX11_road 215 = .ok (.iadd, 1) := by decide +kernel
theorem dX11_road_216 : decode cX11_road 216 = .ok (.ireturn, 1) := by decide +kernel
theorem dX11_clover_0 : decode cX11_clover 0 = .ok (.aload_n 0, 1) := by decide +kernel
theorem dX11_clover_1 : decode cX11_clover 1 = .ok (.iconst 0, 1) := by decide +kernel
theorem dX11_clover_2 : decode cX11_clover 2 = .ok (.putfield 3, 3) := by decide +kernel
theorem dX11_clover_5 : decode cX11_clover 5 = .ok (.aload_n 0, 1) := by decide +kernel
theorem dX11_clover_6 : decode cX11_clover 6 = .ok (.iload_n 1, 1) := by decide +kernel
theorem dX11_clover_7 : decode cX11_clover 7 = .ok (.iconst 1, 1) := by decide +kernel
theorem dX11_clover_8 : decode cX11_clover 8 = .ok (.invokevirtual 408, 3) := by decide +kernel
theorem dX11_clover_11 : decode cX11_clover 11 = .ok (.ifCond .eq 42, 3) := by decide +kernel
theorem dX11_clover_53 : decode cX11_clover 53 = .ok (.iconst 0, 1) := by decide +kernel
theorem dX11_clover_54 : decode cX11_clover 54 = .ok (.ireturn, 1) := by decide +kernel
theorem dX11_strongest_0 : decode cX11_strongest 0 = .ok (.aload_n 0, 1) := by decide +kernel
theorem dX11_strongest_1 : decode cX11_strongest 1 = .ok (.iconst 0, 1) := by decide +kernel
theorem dX11_strongest_2 : decode cX11_strongest 2 = .ok (.putfield 3, 3) := by decide +kernel
theorem dX11_strongest_5 : decode cX11_strongest 5 = .ok (.aload_n 0, 1) := by decide +kernel
theorem dX11_strongest_6 : decode cX11_strongest 6 = .ok (.iload_n 1, 1) := by decide +kernel
theorem dX11_strongest_7 : decode cX11_strongest 7 = .ok (.iconst 0, 1) := by decide +kernel
theorem dX11_strongest_8 : decode cX11_strongest 8 = .ok (.iconst 1, 1) := by decide +kernel
theorem dX11_strongest_9 : decode cX11_strongest 9 = .ok (.invokestatic 390, 3) := by decide +kernel
theorem dX11_strongest_12 : decode cX11_strongest 12 = .ok (.iconst 1, 1) := by decide +kernel
theorem dX11_strongest_13 : decode cX11_strongest 13 = .ok (.iconst 1, 1) := by decide +kernel
theorem dX11_strongest_14 : decode cX11_strongest 14 = .ok (.invokevirtual 213, 3) := by decide +kernel
theorem dX11_strongest_17 : decode cX11_strongest 17 = .ok (.ifCond .ne 5, 3) := by decide +kernel
theorem dX11_strongest_20 : decode cX11_strongest 20 = .ok (.iconst 0, 1) := by decide +kernel
theorem dX11_strongest_21 : decode cX11_strongest 21 = .ok (.ireturn, 1) := by decide +kernel
theorem dX11_strongest_22 : decode cX11_strongest 22 = .ok (.aload_n 0, 1) := by decide +kernel
theorem dX11_strongest_23 : decode cX11_strongest 23 = .ok (.invokevirtual 316, 3) := by decide +kernel
theorem dX11_strongest_26 : decode cX11_strongest 26 = .ok (.iconst (-1), 1) := by decide +kernel
theorem dX11_strongest_27 : decode cX11_strongest 27 = .ok (.istore_n 2, 1) := by decide +kernel
theorem dX11_strongest_28 : decode cX11_strongest 28 = .ok (.iconst 0, 1) := by decide +kernel
theorem dX11_strongest_29 : decode cX11_strongest 29 = .ok (.istore_n 3, 1) := by decide +kernel
theorem dX11_strongest_30 : decode cX11_strongest 30 = .ok (.iload_n 3, 1) := by decide +kernel
theorem dX11_strongest_31 : decode cX11_strongest 31 = .ok (.aload_n 0, 1) := by decide +kernel
theorem dX11_strongest_32 : decode cX11_strongest 32 = .ok (.getfield 169, 3) := by decide +kernel
theorem dX11_strongest_35 : decode cX11_strongest 35 = .ok (.if_icmp .ge 45, 3) := by decide +kernel
theorem dX11_strongest_80 : decode cX11_strongest 80 = .ok (.iload_n 1, 1) := by decide +kernel
theorem dX11_strongest_81 : decode cX11_strongest 81 = .ok (.ifCond .eq 8, 3) := by decide +kernel
theorem dX11_strongest_84 : decode cX11_strongest 84 = .ok (.iload_n 2, 1) := by decide +kernel
theorem dX11_strongest_85 : decode cX11_strongest 85 = .ok (.iconst (-1), 1) := by decide +kernel
theorem dX11_strongest_86 : decode cX11_strongest 86 = .ok (.if_icmp .ne 7, 3) := by decide +kernel
theorem dX11_strongest_89 : decode cX11_strongest 89 = .ok (.iload_n 2, 1) := by decide +kernel
theorem dX11_strongest_90 : decode cX11_strongest 90 = .ok (.goto 12, 3) := by decide +kernel
theorem dX11_strongest_102 : decode cX11_strongest 102 = .ok (.ireturn, 1) := by decide +kernel
theorem dX11_ties_0 : decode cX11_ties 0 = .ok (.aload_n 0, 1) := by decide +kernel
theorem dX11_ties_1 : decode cX11_ties 1 = .ok (.iconst 0, 1) := by decide +kernel
theorem dX11_ties_2 : decode cX11_ties 2 = .ok (.putfield 3, 3) := by decide +kernel
theorem dX11_ties_5 : decode cX11_ties 5 = .ok (.aload_n 0, 1) := by decide +kernel
theorem dX11_ties_6 : decode cX11_ties 6 = .ok (.iload_n 1, 1) := by decide +kernel
theorem dX11_ties_7 : decode cX11_ties 7 = .ok (.iconst 1, 1) := by decide +kernel
theorem dX11_ties_8 : decode cX11_ties 8 = .ok (.invokevirtual 408, 3) := by decide +kernel
theorem dX11_ties_11 : decode cX11_ties 11 = .ok (.ifCond .eq 18, 3) := by decide +kernel
theorem dX11_ties_29 : decode cX11_ties 29 = .ok (.iconst 0, 1) := by decide +kernel
theorem dX11_ties_30 : decode cX11_ties 30 = .ok (.ireturn, 1) := by decide +kernel
theorem dX11_refuge_0 : decode cX11_refuge 0 = .ok (.aload_n 0, 1) := by decide +kernel
theorem dX11_refuge_1 : decode cX11_refuge 1 = .ok (.iconst 0, 1) := by decide +kernel
theorem dX11_refuge_2 : decode cX11_refuge 2 = .ok (.putfield 3, 3) := by decide +kernel
theorem dX11_refuge_5 : decode cX11_refuge 5 = .ok (.aload_n 0, 1) := by decide +kernel
theorem dX11_refuge_6 : decode cX11_refuge 6 = .ok (.iload_n 1, 1) := by decide +kernel
theorem dX11_refuge_7 : decode cX11_refuge 7 = .ok (.iconst 1, 1) := by decide +kernel
theorem dX11_refuge_8 : decode cX11_refuge 8 = .ok (.invokevirtual 405, 3) := by decide +kernel
theorem dX11_refuge_11 : decode cX11_refuge 11 = .ok (.ifCond .eq 18, 3) := by decide +kernel
theorem dX11_refuge_29 : decode cX11_refuge 29 = .ok (.iconst 0, 1) := by decide +kernel
theorem dX11_refuge_30 : decode cX11_refuge 30 = .ok (.ireturn, 1) := by decide +kernel
theorem dX11_marchGoes_0 : decode cX11_marchGoes 0 = .ok (.aload_n 0, 1) := by decide +kernel
theorem dX11_marchGoes_1 : decode cX11_marchGoes 1 = .ok (.invokevirtual 316, 3) := by decide +kernel
theorem dX11_marchGoes_4 : decode cX11_marchGoes 4 = .ok (.aload_n 0, 1) := by decide +kernel
theorem dX11_marchGoes_5 : decode cX11_marchGoes 5 = .ok (.iload_n 1, 1) := by decide +kernel
theorem dX11_marchGoes_6 : decode cX11_marchGoes 6 = .ok (.putfield 444, 3) := by decide +kernel
theorem dX11_marchGoes_9 : decode cX11_marchGoes 9 = .ok (.aload_n 0, 1) := by decide +kernel
theorem dX11_marchGoes_10 : decode cX11_marchGoes 10 = .ok (.iconst 0, 1) := by decide +kernel
theorem dX11_marchGoes_11 : decode cX11_marchGoes 11 = .ok (.putfield 448, 3) := by decide +kernel
theorem dX11_marchGoes_14 : decode cX11_marchGoes 14 = .ok (.iconst 0, 1) := by decide +kernel
theorem dX11_marchGoes_15 : decode cX11_marchGoes 15 = .ok (.istore_n 3, 1) := by decide +kernel
theorem dX11_marchGoes_16 : decode cX11_marchGoes 16 = .ok (.iload_n 3, 1) := by decide +kernel
theorem dX11_marchGoes_17 : decode cX11_marchGoes 17 = .ok (.iload_n 2, 1) := by decide +kernel
theorem dX11_marchGoes_18 : decode cX11_marchGoes 18 = .ok (.if_icmp .ge 76, 3) := by decide +kernel
theorem dX11_marchGoes_21 : decode cX11_marchGoes 21 = .ok (.aload_n 0, 1) := by decide +kernel
theorem dX11_marchGoes_22 : decode cX11_marchGoes 22 = .ok (.getfield 169, 3) := by decide +kernel
theorem dX11_marchGoes_25 : decode cX11_marchGoes 25 = .ok (.ifCond .le 59, 3) := by decide +kernel
theorem dX11_marchGoes_84 : decode cX11_marchGoes 84 = .ok (.aload_n 0, 1) := by decide +kernel
theorem dX11_marchGoes_85 : decode cX11_marchGoes 85 = .ok (.invokevirtual 387, 3) := by decide +kernel
theorem dX11_marchGoes_88 : decode cX11_marchGoes 88 = .ok (.iinc 3 1, 3) := by decide +kernel
theorem dX11_marchGoes_91 : decode cX11_marchGoes 91 = .ok (.goto (-75), 3) := by decide +kernel
theorem dX11_marchGoes_94 : decode cX11_marchGoes 94 = .ok (.return_, 1) := by decide +kernel
theorem dX11_strengthNow_0 : decode cX11_strengthNow 0 = .ok (.iconst 0, 1) := by decide +kernel
theorem dX11_strengthNow_1 : decode cX11_strengthNow 1 = .ok (.istore_n 1, 1) := by decide +kernel
theorem dX11_strengthNow_2 : decode cX11_strengthNow 2 = .ok (.iconst 0, 1) := by decide +kernel
theorem dX11_strengthNow_3 : decode cX11_strengthNow 3 = .ok (.istore_n 2, 1) := by decide +kernel
theorem dX11_strengthNow_4 : decode cX11_strengthNow 4 = .ok (.iload_n 2, 1) := by decide +kernel
theorem dX11_strengthNow_5 : decode cX11_strengthNow 5 = .ok (.aload_n 0, 1) := by decide +kernel
theorem dX11_strengthNow_6 : decode cX11_strengthNow 6 = .ok (.getfield 169, 3) := by decide +kernel
theorem dX11_strengthNow_9 : decode cX11_strengthNow 9 = .ok (.if_icmp .ge 33, 3) := by decide +kernel
theorem dX11_strengthNow_42 : decode cX11_strengthNow 42 = .ok (.iload_n 1, 1) := by decide +kernel
theorem dX11_strengthNow_43 : decode cX11_strengthNow 43 = .ok (.ireturn, 1) := by decide +kernel
theorem dX11_march_0 : decode cX11_march 0 = .ok (.aload_n 0, 1) := by decide +kernel
theorem dX11_march_1 : decode cX11_march 1 = .ok (.iconst 0, 1) := by decide +kernel
theorem dX11_march_2 : decode cX11_march 2 = .ok (.putfield 3, 3) := by decide +kernel
theorem dX11_march_5 : decode cX11_march 5 = .ok (.aload_n 0, 1) := by decide +kernel
theorem dX11_march_6 : decode cX11_march 6 = .ok (.iload_n 2, 1) := by decide +kernel
theorem dX11_march_7 : decode cX11_march 7 = .ok (.iconst 1, 1) := by decide +kernel
theorem dX11_march_8 : decode cX11_march 8 = .ok (.bipush 96, 2) := by decide +kernel
theorem dX11_march_10 : decode cX11_march 10 = .ok (.invokestatic 390, 3) := by decide +kernel
theorem dX11_march_13 : decode cX11_march 13 = .ok (.ifCond .eq 16, 3) := by decide +kernel
theorem dX11_march_16 : decode cX11_march 16 = .ok (.iload_n 3, 1) := by decide +kernel
theorem dX11_march_17 : decode cX11_march 17 = .ok (.iconst 0, 1) := by decide +kernel
theorem dX11_march_18 : decode cX11_march 18 = .ok (.iconst 3, 1) := by decide +kernel
theorem dX11_march_19 : decode cX11_march 19 = .ok (.invokestatic 390, 3) := by decide +kernel
theorem dX11_march_22 : decode cX11_march 22 = .ok (.ifCond .eq 7, 3) := by decide +kernel
theorem dX11_march_25 : decode cX11_march 25 = .ok (.iconst 1, 1) := by decide +kernel
theorem dX11_march_26 : decode cX11_march 26 = .ok (.goto 4, 3) := by decide +kernel
theorem dX11_march_29 : decode cX11_march 29 = .ok (.iconst 0, 1) := by decide +kernel
theorem dX11_march_30 : decode cX11_march 30 = .ok (.iconst 1, 1) := by decide +kernel
theorem dX11_march_31 : decode cX11_march 31 = .ok (.iconst 1, 1) := by decide +kernel
theorem dX11_march_32 : decode cX11_march 32 = .ok (.invokevirtual 213, 3) := by decide +kernel
theorem dX11_march_35 : decode cX11_march 35 = .ok (.ifCond .ne 5, 3) := by decide +kernel
theorem dX11_march_38 : decode cX11_march 38 = .ok (.iconst 0, 1) := by decide +kernel
theorem dX11_march_39 : decode cX11_march 39 = .ok (.ireturn, 1) := by decide +kernel
theorem dX11_march_40 : decode cX11_march 40 = .ok (.aload_n 0, 1) := by decide +kernel
theorem dX11_march_41 : decode cX11_march 41 = .ok (.iload_n 1, 1) := by decide +kernel
theorem dX11_march_42 : decode cX11_march 42 = .ok (.iload_n 2, 1) := by decide +kernel
theorem dX11_march_43 : decode cX11_march 43 = .ok (.invokevirtual 454, 3) := by decide +kernel
theorem dX11_march_46 : decode cX11_march 46 = .ok (.iload_n 3, 1) := by decide +kernel
theorem dX11_march_47 : decode cX11_march 47 = .ok (.ifCond .ne 10, 3) := by decide +kernel
theorem dX11_march_50 : decode cX11_march 50 = .ok (.aload_n 0, 1) := by decide +kernel
theorem dX11_march_51 : decode cX11_march 51 = .ok (.getfield 448, 3) := by decide +kernel
theorem dX11_march_54 : decode cX11_march 54 = .ok (.goto 34, 3) := by decide +kernel
theorem dX11_march_57 : decode cX11_march 57 = .ok (.iload_n 3, 1) := by decide +kernel
theorem dX11_march_58 : decode cX11_march 58 = .ok (.iconst 1, 1) := by decide +kernel
theorem dX11_march_59 : decode cX11_march 59 = .ok (.if_icmp .ne 10, 3) := by decide +kernel
theorem dX11_march_62 : decode cX11_march 62 = .ok (.aload_n 0, 1) := by decide +kernel
theorem dX11_march_63 : decode cX11_march 63 = .ok (.invokevirtual 396, 3) := by decide +kernel
theorem dX11_march_66 : decode cX11_march 66 = .ok (.goto 22, 3) := by decide +kernel
theorem dX11_march_69 : decode cX11_march 69 = .ok (.iload_n 3, 1) := by decide +kernel
theorem dX11_march_70 : decode cX11_march 70 = .ok (.iconst 2, 1) := by decide +kernel
theorem dX11_march_71 : decode cX11_march 71 = .ok (.if_icmp .ne 10, 3) := by decide +kernel
theorem dX11_march_74 : decode cX11_march 74 = .ok (.aload_n 0, 1) := by decide +kernel
theorem dX11_march_75 : decode cX11_march 75 = .ok (.invokevirtual 457, 3) := by decide +kernel
theorem dX11_march_78 : decode cX11_march 78 = .ok (.goto 10, 3) := by decide +kernel
theorem dX11_march_81 : decode cX11_march 81 = .ok (.aload_n 0, 1) := by decide +kernel
theorem dX11_march_82 : decode cX11_march 82 = .ok (.getfield 71, 3) := by decide +kernel
theorem dX11_march_85 : decode cX11_march 85 = .ok (.bipush 66, 2) := by decide +kernel
theorem dX11_march_87 : decode cX11_march 87 = .ok (.iaload, 1) := by decide +kernel
theorem dX11_march_88 : decode cX11_march 88 = .ok (.ireturn, 1) := by decide +kernel
theorem dX11_span_0 : decode cX11_span 0 = .ok (.aload_n 0, 1) := by decide +kernel
theorem dX11_span_1 : decode cX11_span 1 = .ok (.iconst 0, 1) := by decide +kernel
theorem dX11_span_2 : decode cX11_span 2 = .ok (.putfield 3, 3) := by decide +kernel
theorem dX11_span_5 : decode cX11_span 5 = .ok (.aload_n 0, 1) := by decide +kernel
theorem dX11_span_6 : decode cX11_span 6 = .ok (.iload_n 2, 1) := by decide +kernel
theorem dX11_span_7 : decode cX11_span 7 = .ok (.iconst 1, 1) := by decide +kernel
theorem dX11_span_8 : decode cX11_span 8 = .ok (.bipush 20, 2) := by decide +kernel
theorem dX11_span_10 : decode cX11_span 10 = .ok (.invokestatic 390, 3) := by decide +kernel
theorem dX11_span_13 : decode cX11_span 13 = .ok (.ifCond .eq 42, 3) := by decide +kernel
theorem dX11_span_16 : decode cX11_span 16 = .ok (.iload_n 3, 1) := by decide +kernel
theorem dX11_span_17 : decode cX11_span 17 = .ok (.iconst 1, 1) := by decide +kernel
theorem dX11_span_18 : decode cX11_span 18 = .ok (.bipush 96, 2) := by decide +kernel
theorem dX11_span_20 : decode cX11_span 20 = .ok (.invokestatic 390, 3) := by decide +kernel
theorem dX11_span_23 : decode cX11_span 23 = .ok (.ifCond .eq 32, 3) := by decide +kernel
theorem dX11_span_26 : decode cX11_span 26 = .ok (.iload 4, 2) := by decide +kernel
theorem dX11_span_28 : decode cX11_span 28 = .ok (.iconst 0, 1) := by decide +kernel
theorem dX11_span_29 : decode cX11_span 29 = .ok (.iconst 2, 1) := by decide +kernel
theorem dX11_span_30 : decode cX11_span 30 = .ok (.invokestatic 390, 3) := by decide +kernel
theorem dX11_span_33 : decode cX11_span 33 = .ok (.ifCond .eq 22, 3) := by decide +kernel
theorem dX11_span_36 : decode cX11_span 36 = .ok (.iload 5, 2) := by decide +kernel
theorem dX11_span_38 : decode cX11_span 38 = .ok (.iconst 0, 1) := by decide +kernel
theorem dX11_span_39 : decode cX11_span 39 = .ok (.aload_n 0, 1) := by decide +kernel
theorem dX11_span_40 : decode cX11_span 40 = .ok (.getfield 169, 3) := by decide +kernel
theorem dX11_span_43 : decode cX11_span 43 = .ok (.iconst 1, 1) := by decide +kernel
theorem dX11_span_44 : decode cX11_span 44 = .ok (.isub, 1) := by decide +kernel
theorem dX11_span_45 : decode cX11_span 45 = .ok (.invokestatic 390, 3) := by decide +kernel
theorem dX11_span_48 : decode cX11_span 48 = .ok (.ifCond .eq 7, 3) := by decide +kernel
theorem dX11_span_55 : decode cX11_span 55 = .ok (.iconst 0, 1) := by decide +kernel
theorem dX11_span_56 : decode cX11_span 56 = .ok (.iconst 1, 1) := by decide +kernel
theorem dX11_span_57 : decode cX11_span 57 = .ok (.iconst 1, 1) := by decide +kernel
theorem dX11_span_58 : decode cX11_span 58 = .ok (.invokevirtual 213, 3) := by decide +kernel
theorem dX11_span_61 : decode cX11_span 61 = .ok (.ifCond .ne 5, 3) := by decide +kernel
theorem dX11_span_64 : decode cX11_span 64 = .ok (.iconst 0, 1) := by decide +kernel
theorem dX11_span_65 : decode cX11_span 65 = .ok (.ireturn, 1) := by decide +kernel
theorem dX11_keepsRow_0 : decode cX11_keepsRow 0 = .ok (.iconst 0, 1) := by decide +kernel
theorem dX11_keepsRow_1 : decode cX11_keepsRow 1 = .ok (.istore 5, 2) := by decide +kernel
theorem dX11_keepsRow_3 : decode cX11_keepsRow 3 = .ok (.iload 5, 2) := by decide +kernel
theorem dX11_keepsRow_5 : decode cX11_keepsRow 5 = .ok (.iload_n 3, 1) := by decide +kernel
theorem dX11_keepsRow_6 : decode cX11_keepsRow 6 = .ok (.if_icmp .ge 43, 3) := by decide +kernel
theorem dX11_keepsRow_9 : decode cX11_keepsRow 9 = .ok (.iload 4, 2) := by decide +kernel
theorem dX11_keepsRow_11 : decode cX11_keepsRow 11 = .ok (.ifCond .eq 19, 3) := by decide +kernel
theorem dX11_keepsRow_14 : decode cX11_keepsRow 14 = .ok (.aload_n 0, 1) := by decide +kernel
theorem dX11_keepsRow_15 : decode cX11_keepsRow 15 = .ok (.getfield 102, 3) := by decide +kernel
theorem dX11_keepsRow_18 : decode cX11_keepsRow 18 = .ok (.iload_n 1, 1) := by decide +kernel
theorem dX11_keepsRow_19 : decode cX11_keepsRow 19 = .ok (.iload 5, 2) := by decide +kernel
theorem dX11_keepsRow_21 : decode cX11_keepsRow 21 = .ok (.iadd, 1) := by decide +kernel
theorem dX11_keepsRow_22 : decode cX11_keepsRow 22 = .ok (.aload_n 2, 1) := by decide +kernel
theorem dX11_keepsRow_23 : decode cX11_keepsRow 23 = .ok (.iload 5, 2) := by decide +kernel
theorem dX11_keepsRow_25 : decode cX11_keepsRow 25 = .ok (.iaload, 1) := by decide +kernel
theorem dX11_keepsRow_26 : decode cX11_keepsRow 26 = .ok (.iastore, 1) := by decide +kernel
theorem dX11_keepsRow_27 : decode cX11_keepsRow 27 = .ok (.goto 16, 3) := by decide +kernel
theorem dX11_keepsRow_43 : decode cX11_keepsRow 43 = .ok (.iinc 5 1, 3) := by decide +kernel
theorem dX11_keepsRow_46 : decode cX11_keepsRow 46 = .ok (.goto (-43), 3) := by decide +kernel
theorem dX11_keepsRow_49 : decode cX11_keepsRow 49 = .ok (.iload_n 1, 1) := by decide +kernel
theorem dX11_keepsRow_50 : decode cX11_keepsRow 50 = .ok (.iload_n 3, 1) := by decide +kernel
theorem dX11_keepsRow_51 : decode cX11_keepsRow 51 = .ok (.iadd, 1) := by decide +kernel
theorem dX11_keepsRow_52 : decode cX11_keepsRow 52 = .ok (.ireturn, 1) := by decide +kernel
theorem dX11_keepsAll_0 : decode cX11_keepsAll 0 = .ok (.aload_n 0, 1) := by decide +kernel
theorem dX11_keepsAll_1 : decode cX11_keepsAll 1 = .ok (.sipush 1157, 3) := by decide +kernel
theorem dX11_keepsAll_4 : decode cX11_keepsAll 4 = .ok (.iload_n 1, 1) := by decide +kernel
theorem dX11_keepsAll_5 : decode cX11_keepsAll 5 = .ok (.imul, 1) := by decide +kernel
theorem dX11_keepsAll_6 : decode cX11_keepsAll 6 = .ok (.aload_n 0, 1) := by decide +kernel
theorem dX11_keepsAll_7 : decode cX11_keepsAll 7 = .ok (.getfield 68, 3) := by decide +kernel
theorem dX11_keepsAll_10 : decode cX11_keepsAll 10 = .ok (.bipush 68, 2) := by decide +kernel
theorem dX11_keepsAll_12 : decode cX11_keepsAll 12 = .ok (.iload_n 2, 1) := by decide +kernel
theorem dX11_keepsAll_13 : decode cX11_keepsAll 13 = .ok (.invokevirtual 460, 3) := by decide +kernel
theorem dX11_keepsAll_16 : decode cX11_keepsAll 16 = .ok (.istore_n 3, 1) := by decide +kernel
theorem dX11_keepsAll_17 : decode cX11_keepsAll 17 = .ok (.aload_n 0, 1) := by decide +kernel
theorem dX11_keepsAll_18 : decode cX11_keepsAll 18 = .ok (.iload_n 3, 1) := by decide +kernel
theorem dX11_keepsAll_19 : decode cX11_keepsAll 19 = .ok (.aload_n 0, 1) := by decide +kernel
theorem dX11_keepsAll_20 : decode cX11_keepsAll 20 = .ok (.getfield 74, 3) := by decide +kernel
theorem dX11_keepsAll_23 : decode cX11_keepsAll 23 = .ok (.sipush 1088, 3) := by decide +kernel
theorem dX11_keepsAll_26 : decode cX11_keepsAll 26 = .ok (.iload_n 2, 1) := by decide +kernel
theorem dX11_keepsAll_27 : decode cX11_keepsAll 27 = .ok (.invokevirtual 460, 3) := by decide +kernel
theorem dX11_keepsAll_30 : decode cX11_keepsAll 30 = .ok (.istore_n 3, 1) := by decide +kernel
theorem dX11_keepsAll_31 : decode cX11_keepsAll 31 = .ok (.iload_n 2, 1) := by decide +kernel
theorem dX11_keepsAll_32 : decode cX11_keepsAll 32 = .ok (.ifCond .eq 16, 3) := by decide +kernel
theorem dX11_keepsAll_35 : decode cX11_keepsAll 35 = .ok (.aload_n 0, 1) := by decide +kernel
theorem dX11_keepsAll_36 : decode cX11_keepsAll 36 = .ok (.getfield 102, 3) := by decide +kernel
theorem dX11_keepsAll_39 : decode cX11_keepsAll 39 = .ok (.iload_n 3, 1) := by decide +kernel
theorem dX11_keepsAll_40 : decode cX11_keepsAll 40 = .ok (.aload_n 0, 1) := by decide +kernel
theorem dX11_keepsAll_41 : decode cX11_keepsAll 41 = .ok (.getfield 185, 3) := by decide +kernel
theorem dX11_keepsAll_44 : decode cX11_keepsAll 44 = .ok (.iastore, 1) := by decide +kernel
theorem dX11_keepsAll_45 : decode cX11_keepsAll 45 = .ok (.goto 13, 3) := by decide +kernel
theorem dX11_keepsAll_58 : decode cX11_keepsAll 58 = .ok (.return_, 1) := by decide +kernel
theorem dX11_image_0 : decode cX11_image 0 = .ok (.aload_n 0, 1) := by decide +kernel
theorem dX11_image_1 : decode cX11_image 1 = .ok (.iconst 0, 1) := by decide +kernel
theorem dX11_image_2 : decode cX11_image 2 = .ok (.putfield 3, 3) := by decide +kernel
theorem dX11_image_5 : decode cX11_image 5 = .ok (.aload_n 0, 1) := by decide +kernel
theorem dX11_image_6 : decode cX11_image 6 = .ok (.getfield 188, 3) := by decide +kernel
theorem dX11_image_9 : decode cX11_image 9 = .ok (.iconst 3, 1) := by decide +kernel
theorem dX11_image_10 : decode cX11_image 10 = .ok (.if_icmp .ne 5, 3) := by decide +kernel
theorem dX11_image_15 : decode cX11_image 15 = .ok (.aload_n 0, 1) := by decide +kernel
theorem dX11_image_16 : decode cX11_image 16 = .ok (.aload_n 0, 1) := by decide +kernel
theorem dX11_image_17 : decode cX11_image 17 = .ok (.getfield 188, 3) := by decide +kernel
theorem dX11_image_20 : decode cX11_image 20 = .ok (.iconst 1, 1) := by decide +kernel
theorem dX11_image_21 : decode cX11_image 21 = .ok (.invokevirtual 464, 3) := by decide +kernel
theorem dX11_image_24 : decode cX11_image 24 = .ok (.aload_n 0, 1) := by decide +kernel
theorem dX11_image_25 : decode cX11_image 25 = .ok (.dup, 1) := by decide +kernel
theorem dX11_image_26 : decode cX11_image 26 = .ok (.getfield 188, 3) := by decide +kernel
theorem dX11_image_29 : decode cX11_image 29 = .ok (.iconst 1, 1) := by decide +kernel
theorem dX11_image_30 : decode cX11_image 30 = .ok (.iadd, 1) := by decide +kernel
theorem dX11_image_31 : decode cX11_image 31 = .ok (.putfield 188, 3) := by decide +kernel
theorem dX11_image_34 : decode cX11_image 34 = .ok (.aload_n 0, 1) := by decide +kernel
theorem dX11_image_35 : decode cX11_image 35 = .ok (.getfield 188, 3) := by decide +kernel
theorem dX11_image_38 : decode cX11_image 38 = .ok (.ireturn, 1) := by decide +kernel
theorem dX11_restore_0 : decode cX11_restore 0 = .ok (.aload_n 0, 1) := by decide +kernel
theorem dX11_restore_1 : decode cX11_restore 1 = .ok (.iconst 0, 1) := by decide +kernel
theorem dX11_restore_2 : decode cX11_restore 2 = .ok (.putfield 3, 3) := by decide +kernel
theorem dX11_restore_5 : decode cX11_restore 5 = .ok (.aload_n 0, 1) := by decide +kernel
theorem dX11_restore_6 : decode cX11_restore 6 = .ok (.getfield 188, 3) := by decide +kernel
theorem dX11_restore_9 : decode cX11_restore 9 = .ok (.ifCond .ne 5, 3) := by decide +kernel
theorem dX11_restore_12 : decode cX11_restore 12 = .ok (.iconst (-1), 1) := by decide +kernel
theorem dX11_restore_13 : decode cX11_restore 13 = .ok (.ireturn, 1) := by decide +kernel
theorem dX11_status_0 : decode cX11_status 0 = .ok (.aload_n 0, 1) := by decide +kernel
theorem dX11_status_1 : decode cX11_status 1 = .ok (.iconst 0, 1) := by decide +kernel
theorem dX11_status_2 : decode cX11_status 2 = .ok (.putfield 3, 3) := by decide +kernel
theorem dX11_status_5 : decode cX11_status 5 = .ok (.iload_n 1, 1) := by decide +kernel
theorem dX11_status_6 : decode cX11_status 6 = .ok (.iconst 0, 1) := by decide +kernel
theorem dX11_status_7 : decode cX11_status 7 = .ok (.iconst 1, 1) := by decide +kernel
theorem dX11_status_8 : decode cX11_status 8 = .ok (.invokestatic 390, 3) := by decide +kernel
theorem dX11_status_11 : decode cX11_status 11 = .ok (.ifCond .eq 12, 3) := by decide +kernel
theorem dX11_status_14 : decode cX11_status 14 = .ok (.aload_n 0, 1) := by decide +kernel
theorem dX11_status_15 : decode cX11_status 15 = .ok (.getfield 7, 3) := by decide +kernel
theorem dX11_status_18 : decode cX11_status 18 = .ok (.iload_n 1, 1) := by decide +kernel
theorem dX11_status_19 : decode cX11_status 19 = .ok (.iaload, 1) := by decide +kernel
theorem dX11_status_20 : decode cX11_status 20 = .ok (.goto 4, 3) := by decide +kernel
theorem dX11_status_23 : decode cX11_status 23 = .ok (.iconst (-1), 1) := by decide +kernel
theorem dX11_status_24 : decode cX11_status 24 = .ok (.ireturn, 1) := by decide +kernel
theorem dX11_count_0 : decode cX11_count 0 = .ok (.aload_n 0, 1) := by decide +kernel
theorem dX11_count_1 : decode cX11_count 1 = .ok (.iconst 0, 1) := by decide +kernel
theorem dX11_count_2 : decode cX11_count 2 = .ok (.putfield 3, 3) := by decide +kernel
theorem dX11_count_5 : decode cX11_count 5 = .ok (.iload_n 1, 1) := by decide +kernel
theorem dX11_count_6 : decode cX11_count 6 = .ok (.ifCond .ne 10, 3) := by decide +kernel
theorem dX11_count_9 : decode cX11_count 9 = .ok (.aload_n 0, 1) := by decide +kernel
theorem dX11_count_10 : decode cX11_count 10 = .ok (.getfield 188, 3) := by decide +kernel
theorem dX11_count_13 : decode cX11_count 13 = .ok (.goto 28, 3) := by decide +kernel
theorem dX11_count_16 : decode cX11_count 16 = .ok (.iload_n 1, 1) := by decide +kernel
theorem dX11_count_17 : decode cX11_count 17 = .ok (.iconst 1, 1) := by decide +kernel
theorem dX11_count_18 : decode cX11_count 18 = .ok (.if_icmp .ne 10, 3) := by decide +kernel
theorem dX11_count_21 : decode cX11_count 21 = .ok (.aload_n 0, 1) := by decide +kernel
theorem dX11_count_22 : decode cX11_count 22 = .ok (.getfield 111, 3) := by decide +kernel
theorem dX11_count_25 : decode cX11_count 25 = .ok (.goto 16, 3) := by decide +kernel
theorem dX11_count_28 : decode cX11_count 28 = .ok (.iload_n 1, 1) := by decide +kernel
theorem dX11_count_29 : decode cX11_count 29 = .ok (.iconst 2, 1) := by decide +kernel
theorem dX11_count_30 : decode cX11_count 30 = .ok (.if_icmp .ne 10, 3) := by decide +kernel
theorem dX11_count_33 : decode cX11_count 33 = .ok (.aload_n 0, 1) := by decide +kernel
theorem dX11_count_34 : decode cX11_count 34 = .ok (.getfield 185, 3) := by decide +kernel
theorem dX11_count_37 : decode cX11_count 37 = .ok (.goto 4, 3) := by decide +kernel
theorem dX11_count_40 : decode cX11_count 40 = .ok (.iconst (-1), 1) := by decide +kernel
theorem dX11_count_41 : decode cX11_count 41 = .ok (.ireturn, 1) := by decide +kernel
theorem dJ0_length_8abf5_0 : decode cJ0_length_8abf5 0 = .ok (.aload_n 0, 1) := by decide +kernel
theorem dJ0_length_8abf5_1 : decode cJ0_length_8abf5 1 = .ok (.getfield 9, 3) := by decide +kernel
theorem dJ0_length_8abf5_4 : decode cJ0_length_8abf5 4 = .ok (.arraylength, 1) := by decide +kernel
theorem dJ0_length_8abf5_5 : decode cJ0_length_8abf5 5 = .ok (.aload_n 0, 1) := by decide +kernel
theorem dJ0_length_8abf5_6 : decode cJ0_length_8abf5 6 = .ok (.invokevirtual 335, 3) := by decide +kernel
theorem dJ0_length_8abf5_9 : decode cJ0_length_8abf5 9 = .ok (.ishr, 1) := by decide +kernel
theorem dJ0_length_8abf5_10 : decode cJ0_length_8abf5 10 = .ok (.ireturn, 1) := by decide +kernel
theorem dJ0_charAt_5068e_0 : decode cJ0_charAt_5068e 0 = .ok (.aload_n 0, 1) := by decide +kernel
theorem dJ0_charAt_5068e_1 : decode cJ0_charAt_5068e 1 = .ok (.invokevirtual 492, 3) := by decide +kernel
theorem dJ0_charAt_5068e_4 : decode cJ0_charAt_5068e 4 = .ok (.ifCond .eq 12, 3) := by decide +kernel
theorem dJ0_charAt_5068e_7 : decode cJ0_charAt_5068e 7 = .ok (.aload_n 0, 1) := by decide +kernel
theorem dJ0_charAt_5068e_8 : decode cJ0_charAt_5068e 8 = .ok (.getfield 9, 3) := by decide +kernel
theorem dJ0_charAt_5068e_11 : decode cJ0_charAt_5068e 11 = .ok (.iload_n 1, 1) := by decide +kernel
theorem dJ0_charAt_5068e_12 : decode cJ0_charAt_5068e 12 = .ok (.invokestatic 495, 3) := by decide +kernel
theorem dJ0_charAt_5068e_15 : decode cJ0_charAt_5068e 15 = .ok (.ireturn, 1) := by decide +kernel
theorem dJ0_coder_7d493_0 : decode cJ0_coder_7d493 0 = .ok (.getstatic 38, 3) := by decide +kernel
theorem dJ0_coder_7d493_3 : decode cJ0_coder_7d493 3 = .ok (.ifCond .eq 10, 3) := by decide +kernel
theorem dJ0_coder_7d493_6 : decode cJ0_coder_7d493 6 = .ok (.aload_n 0, 1) := by decide +kernel
theorem dJ0_coder_7d493_7 : decode cJ0_coder_7d493 7 = .ok (.getfield 15, 3) := by decide +kernel
theorem dJ0_coder_7d493_10 : decode cJ0_coder_7d493 10 = .ok (.goto 4, 3) := by decide +kernel
theorem dJ0_coder_7d493_14 : decode cJ0_coder_7d493 14 = .ok (.ireturn, 1) := by decide +kernel
theorem dJ0_isLatin1_aae02_0 : decode cJ0_isLatin1_aae02 0 = .ok (.getstatic 38, 3) := by decide +kernel
theorem dJ0_isLatin1_aae02_3 : decode cJ0_isLatin1_aae02 3 = .ok (.ifCond .eq 14, 3) := by decide +kernel
theorem dJ0_isLatin1_aae02_6 : decode cJ0_isLatin1_aae02 6 = .ok (.aload_n 0, 1) := by decide +kernel
theorem dJ0_isLatin1_aae02_7 : decode cJ0_isLatin1_aae02 7 = .ok (.getfield 15, 3) := by decide +kernel
theorem dJ0_isLatin1_aae02_10 : decode cJ0_isLatin1_aae02 10 = .ok (.ifCond .ne 7, 3) := by decide +kernel
theorem dJ0_isLatin1_aae02_13 : decode cJ0_isLatin1_aae02 13 = .ok (.iconst 1, 1) := by decide +kernel
theorem dJ0_isLatin1_aae02_14 : decode cJ0_isLatin1_aae02 14 = .ok (.goto 4, 3) := by decide +kernel
theorem dJ0_isLatin1_aae02_18 : decode cJ0_isLatin1_aae02 18 = .ok (.ireturn, 1) := by decide +kernel
theorem dJ0_checkIndex_df160_0 : decode cJ0_checkIndex_df160 0 = .ok (.iload_n 0, 1) := by decide +kernel
theorem dJ0_checkIndex_df160_1 : decode cJ0_checkIndex_df160 1 = .ok (.iload_n 1, 1) := by decide +kernel
theorem dJ0_checkIndex_df160_2 : decode cJ0_checkIndex_df160 2 = .ok (.getstatic 1053, 3) := by decide +kernel
theorem dJ0_checkIndex_df160_5 : decode cJ0_checkIndex_df160 5 = .ok (.invokestatic 1059, 3) := by decide +kernel
theorem dJ0_checkIndex_df160_8 : decode cJ0_checkIndex_df160 8 = .ok (.pop, 1) := by decide +kernel
theorem dJ0_checkIndex_df160_9 : decode cJ0_checkIndex_df160 9 = .ok (.return_, 1) := by decide +kernel
theorem dJ1_charAt_3b067_0 : decode cJ1_charAt_3b067 0 = .ok (.iload_n 1, 1) := by decide +kernel
theorem dJ1_charAt_3b067_1 : decode cJ1_charAt_3b067 1 = .ok (.aload_n 0, 1) := by decide +kernel
theorem dJ1_charAt_3b067_2 : decode cJ1_charAt_3b067 2 = .ok (.arraylength, 1) := by decide +kernel
theorem dJ1_charAt_3b067_3 : decode cJ1_charAt_3b067 3 = .ok (.invokestatic 9, 3) := by decide +kernel
theorem dJ1_charAt_3b067_6 : decode cJ1_charAt_3b067 6 = .ok (.aload_n 0, 1) := by decide +kernel
theorem dJ1_charAt_3b067_7 : decode cJ1_charAt_3b067 7 = .ok (.iload_n 1, 1) := by decide +kernel
theorem dJ1_charAt_3b067_8 : decode cJ1_charAt_3b067 8 = .ok (.baload, 1) := by decide +kernel
theorem dJ1_charAt_3b067_9 : decode cJ1_charAt_3b067 9 = .ok (.sipush 255, 3) := by decide +kernel
theorem dJ1_charAt_3b067_12 : decode cJ1_charAt_3b067 12 = .ok (.iand, 1) := by decide +kernel
theorem dJ1_charAt_3b067_13 : decode cJ1_charAt_3b067 13 = .ok (.i2c, 1) := by decide +kernel
theorem dJ1_charAt_3b067_14 : decode cJ1_charAt_3b067 14 = .ok (.ireturn, 1) := by decide +kernel
theorem dJ3_checkIndex_8e157_0 : decode cJ3_checkIndex_8e157 0 = .ok (.iload_n 0, 1) := by decide +kernel
theorem dJ3_checkIndex_8e157_1 : decode cJ3_checkIndex_8e157 1 = .ok (.ifCond .lt 8, 3) := by decide +kernel
theorem dJ3_checkIndex_8e157_4 : decode cJ3_checkIndex_8e157 4 = .ok (.iload_n 0, 1) := by decide +kernel
theorem dJ3_checkIndex_8e157_5 : decode cJ3_checkIndex_8e157 5 = .ok (.iload_n 1, 1) := by decide +kernel
theorem dJ3_checkIndex_8e157_6 : decode cJ3_checkIndex_8e157 6 = .ok (.if_icmp .lt 10, 3) := by decide +kernel
theorem dJ3_checkIndex_8e157_16 : decode cJ3_checkIndex_8e157 16 = .ok (.iload_n 0, 1) := by decide +kernel
theorem dJ3_checkIndex_8e157_17 : decode cJ3_checkIndex_8e157 17 = .ok (.ireturn, 1) := by decide +kernel
theorem dL_down_0 : decode cL_down 0 = .ok (.aload_n 2, 1) := by decide +kernel
theorem dL_down_1 : decode cL_down 1 = .ok (.iconst 0, 1) := by decide +kernel
theorem dL_down_2 : decode cL_down 2 = .ok (.aload_n 0, 1) := by decide +kernel
theorem dL_down_3 : decode cL_down 3 = .ok (.iload_n 1, 1) := by decide +kernel
theorem dL_down_4 : decode cL_down 4 = .ok (.invokevirtual 7, 3) := by decide +kernel
theorem dL_down_7 : decode cL_down 7 = .ok (.i2l, 1) := by decide +kernel
theorem dL_down_8 : decode cL_down 8 = .ok (.lastore, 1) := by decide +kernel
theorem dL_down_9 : decode cL_down 9 = .ok (.goto 6, 3) := by decide +kernel
theorem dL_down_12 : decode cL_down 12 = .ok (.astore_n 3, 1) := by decide +kernel
theorem dL_down_13 : decode cL_down 13 = .ok (.iconst 1, 1) := by decide +kernel
theorem dL_down_14 : decode cL_down 14 = .ok (.ireturn, 1) := by decide +kernel
theorem dL_down_15 : decode cL_down 15 = .ok (.iconst 0, 1) := by decide +kernel
theorem dL_down_16 : decode cL_down 16 = .ok (.ireturn, 1) := by decide +kernel
theorem dL_law_0 : decode cL_law 0 = .ok (.aload_n 2, 1) := by decide +kernel
theorem dL_law_1 : decode cL_law 1 = .ok (.iconst 0, 1) := by decide +kernel
theorem dL_law_2 : decode cL_law 2 = .ok (.aload_n 0, 1) := by decide +kernel
theorem dL_law_3 : decode cL_law 3 = .ok (.iload_n 1, 1) := by decide +kernel
theorem dL_law_4 : decode cL_law 4 = .ok (.invokevirtual 15, 3) := by decide +kernel
theorem dL_law_7 : decode cL_law 7 = .ok (.i2l, 1) := by decide +kernel
theorem dL_law_8 : decode cL_law 8 = .ok (.lastore, 1) := by decide +kernel
theorem dL_law_9 : decode cL_law 9 = .ok (.goto 6, 3) := by decide +kernel
theorem dL_law_12 : decode cL_law 12 = .ok (.astore_n 3, 1) := by decide +kernel
theorem dL_law_13 : decode cL_law 13 = .ok (.iconst 1, 1) := by decide +kernel
theorem dL_law_14 : decode cL_law 14 = .ok (.ireturn, 1) := by decide +kernel
theorem dL_law_15 : decode cL_law 15 = .ok (.iconst 0, 1) := by decide +kernel
theorem dL_law_16 : decode cL_law 16 = .ok (.ireturn, 1) := by decide +kernel
theorem dL_work_0 : decode cL_work 0 = .ok (.aload_n 2, 1) := by decide +kernel
theorem dL_work_1 : decode cL_work 1 = .ok (.iconst 0, 1) := by decide +kernel
theorem dL_work_2 : decode cL_work 2 = .ok (.aload_n 0, 1) := by decide +kernel
theorem dL_work_3 : decode cL_work 3 = .ok (.iload_n 1, 1) := by decide +kernel
theorem dL_work_4 : decode cL_work 4 = .ok (.invokevirtual 18, 3) := by decide +kernel
theorem dL_work_7 : decode cL_work 7 = .ok (.i2l, 1) := by decide +kernel
theorem dL_work_8 : decode cL_work 8 = .ok (.lastore, 1) := by decide +kernel
theorem dL_work_9 : decode cL_work 9 = .ok (.goto 6, 3) := by decide +kernel
theorem dL_work_12 : decode cL_work 12 = .ok (.astore_n 3, 1) := by decide +kernel
theorem dL_work_13 : decode cL_work 13 = .ok (.iconst 1, 1) := by decide +kernel
theorem dL_work_14 : decode cL_work 14 = .ok (.ireturn, 1) := by decide +kernel
theorem dL_work_15 : decode cL_work 15 = .ok (.iconst 0, 1) := by decide +kernel
theorem dL_work_16 : decode cL_work 16 = .ok (.ireturn, 1) := by decide +kernel
theorem dL_book_0 : decode cL_book 0 = .ok (.aload_n 2, 1) := by decide +kernel
theorem dL_book_1 : decode cL_book 1 = .ok (.iconst 0, 1) := by decide +kernel
theorem dL_book_2 : decode cL_book 2 = .ok (.aload_n 0, 1) := by decide +kernel
theorem dL_book_3 : decode cL_book 3 = .ok (.iload_n 1, 1) := by decide +kernel
theorem dL_book_4 : decode cL_book 4 = .ok (.invokevirtual 21, 3) := by decide +kernel
theorem dL_book_7 : decode cL_book 7 = .ok (.i2l, 1) := by decide +kernel
theorem dL_book_8 : decode cL_book 8 = .ok (.lastore, 1) := by decide +kernel
theorem dL_book_9 : decode cL_book 9 = .ok (.goto 6, 3) := by decide +kernel
theorem dL_book_12 : decode cL_book 12 = .ok (.astore_n 3, 1) := by decide +kernel
theorem dL_book_13 : decode cL_book 13 = .ok (.iconst 1, 1) := by decide +kernel
theorem dL_book_14 : decode cL_book 14 = .ok (.ireturn, 1) := by decide +kernel
theorem dL_book_15 : decode cL_book 15 = .ok (.iconst 0, 1) := by decide +kernel
theorem dL_book_16 : decode cL_book 16 = .ok (.ireturn, 1) := by decide +kernel
theorem dL_told_0 : decode cL_told 0 = .ok (.aload_n 2, 1) := by decide +kernel
theorem dL_told_1 : decode cL_told 1 = .ok (.iconst 0, 1) := by decide +kernel
theorem dL_told_2 : decode cL_told 2 = .ok (.aload_n 0, 1) := by decide +kernel
theorem dL_told_3 : decode cL_told 3 = .ok (.iload_n 1, 1) := by decide +kernel
theorem dL_told_4 : decode cL_told 4 = .ok (.invokevirtual 24, 3) := by decide +kernel
theorem dL_told_7 : decode cL_told 7 = .ok (.i2l, 1) := by decide +kernel
theorem dL_told_8 : decode cL_told 8 = .ok (.lastore, 1) := by decide +kernel
theorem dL_told_9 : decode cL_told 9 = .ok (.goto 6, 3) := by decide +kernel
theorem dL_told_12 : decode cL_told 12 = .ok (.astore_n 3, 1) := by decide +kernel
theorem dL_told_13 : decode cL_told 13 = .ok (.iconst 1, 1) := by decide +kernel
theorem dL_told_14 : decode cL_told 14 = .ok (.ireturn, 1) := by decide +kernel
theorem dL_told_15 : decode cL_told 15 = .ok (.iconst 0, 1) := by decide +kernel
theorem dL_told_16 : decode cL_told 16 = .ok (.ireturn, 1) := by decide +kernel
theorem dL_form_0 : decode cL_form 0 = .ok (.aload_n 3, 1) := by decide +kernel
theorem dL_form_1 : decode cL_form 1 = .ok (.iconst 0, 1) := by decide +kernel
theorem dL_form_2 : decode cL_form 2 = .ok (.aload_n 0, 1) := by decide +kernel
theorem dL_form_3 : decode cL_form 3 = .ok (.iload_n 1, 1) := by decide +kernel
theorem dL_form_4 : decode cL_form 4 = .ok (.iload_n 2, 1) := by decide +kernel
theorem dL_form_5 : decode cL_form 5 = .ok (.invokevirtual 27, 3) := by decide +kernel
theorem dL_form_13 : decode cL_form 13 = .ok (.astore 4, 2) := by decide +kernel
theorem dL_form_15 : decode cL_form 15 = .ok (.iconst 1, 1) := by decide +kernel
theorem dL_form_16 : decode cL_form 16 = .ok (.ireturn, 1) := by decide +kernel
theorem dL_hare_0 : decode cL_hare 0 = .ok (.aload_n 3, 1) := by decide +kernel
theorem dL_hare_1 : decode cL_hare 1 = .ok (.iconst 0, 1) := by decide +kernel
theorem dL_hare_2 : decode cL_hare 2 = .ok (.aload_n 0, 1) := by decide +kernel
theorem dL_hare_3 : decode cL_hare 3 = .ok (.iload_n 1, 1) := by decide +kernel
theorem dL_hare_4 : decode cL_hare 4 = .ok (.iload_n 2, 1) := by decide +kernel
theorem dL_hare_5 : decode cL_hare 5 = .ok (.invokevirtual 33, 3) := by decide +kernel
theorem dL_hare_13 : decode cL_hare 13 = .ok (.astore 4, 2) := by decide +kernel
theorem dL_hare_15 : decode cL_hare 15 = .ok (.iconst 1, 1) := by decide +kernel
theorem dL_hare_16 : decode cL_hare 16 = .ok (.ireturn, 1) := by decide +kernel
theorem dL_fox_0 : decode cL_fox 0 = .ok (.aload_n 3, 1) := by decide +kernel
theorem dL_fox_1 : decode cL_fox 1 = .ok (.iconst 0, 1) := by decide +kernel
theorem dL_fox_2 : decode cL_fox 2 = .ok (.aload_n 0, 1) := by decide +kernel
theorem dL_fox_3 : decode cL_fox 3 = .ok (.iload_n 1, 1) := by decide +kernel
theorem dL_fox_4 : decode cL_fox 4 = .ok (.iload_n 2, 1) := by decide +kernel
theorem dL_fox_5 : decode cL_fox 5 = .ok (.invokevirtual 36, 3) := by decide +kernel
theorem dL_fox_13 : decode cL_fox 13 = .ok (.astore 4, 2) := by decide +kernel
theorem dL_fox_15 : decode cL_fox 15 = .ok (.iconst 1, 1) := by decide +kernel
theorem dL_fox_16 : decode cL_fox 16 = .ok (.ireturn, 1) := by decide +kernel
theorem dL_debt_0 : decode cL_debt 0 = .ok (.aload_n 3, 1) := by decide +kernel
theorem dL_debt_1 : decode cL_debt 1 = .ok (.iconst 0, 1) := by decide +kernel
theorem dL_debt_2 : decode cL_debt 2 = .ok (.aload_n 0, 1) := by decide +kernel
theorem dL_debt_3 : decode cL_debt 3 = .ok (.iload_n 1, 1) := by decide +kernel
theorem dL_debt_4 : decode cL_debt 4 = .ok (.iload_n 2, 1) := by decide +kernel
theorem dL_debt_5 : decode cL_debt 5 = .ok (.invokevirtual 39, 3) := by decide +kernel
theorem dL_debt_13 : decode cL_debt 13 = .ok (.astore 4, 2) := by decide +kernel
theorem dL_debt_15 : decode cL_debt 15 = .ok (.iconst 1, 1) := by decide +kernel
theorem dL_debt_16 : decode cL_debt 16 = .ok (.ireturn, 1) := by decide +kernel
theorem dL_far_0 : decode cL_far 0 = .ok (.aload_n 3, 1) := by decide +kernel
theorem dL_far_1 : decode cL_far 1 = .ok (.iconst 0, 1) := by decide +kernel
theorem dL_far_2 : decode cL_far 2 = .ok (.aload_n 0, 1) := by decide +kernel
theorem dL_far_3 : decode cL_far 3 = .ok (.iload_n 1, 1) := by decide +kernel
theorem dL_far_4 : decode cL_far 4 = .ok (.iload_n 2, 1) := by decide +kernel
theorem dL_far_5 : decode cL_far 5 = .ok (.invokevirtual 42, 3) := by decide +kernel
theorem dL_far_13 : decode cL_far 13 = .ok (.astore 4, 2) := by decide +kernel
theorem dL_far_15 : decode cL_far 15 = .ok (.iconst 1, 1) := by decide +kernel
theorem dL_far_16 : decode cL_far 16 = .ok (.ireturn, 1) := by decide +kernel
theorem dL_would_0 : decode cL_would 0 = .ok (.aload 9, 2) := by decide +kernel
theorem dL_would_2 : decode cL_would 2 = .ok (.iconst 0, 1) := by decide +kernel
theorem dL_would_3 : decode cL_would 3 = .ok (.aload_n 0, 1) := by decide +kernel
theorem dL_would_4 : decode cL_would 4 = .ok (.iload_n 1, 1) := by decide +kernel
theorem dL_would_5 : decode cL_would 5 = .ok (.iload_n 2, 1) := by decide +kernel
theorem dL_would_6 : decode cL_would 6 = .ok (.iload_n 3, 1) := by decide +kernel
theorem dL_would_7 : decode cL_would 7 = .ok (.iload 4, 2) := by decide +kernel
theorem dL_would_9 : decode cL_would 9 = .ok (.iload 5, 2) := by decide +kernel
theorem dL_would_11 : decode cL_would 11 = .ok (.iload 6, 2) := by decide +kernel
theorem dL_would_13 : decode cL_would 13 = .ok (.iload 7, 2) := by decide +kernel
theorem dL_would_15 : decode cL_would 15 = .ok (.iload 8, 2) := by decide +kernel
theorem dL_would_17 : decode cL_would 17 = .ok (.invokevirtual 45, 3) := by decide +kernel
theorem dL_would_20 : decode cL_would 20 = .ok (.i2l, 1) := by decide +kernel
theorem dL_would_21 : decode cL_would 21 = .ok (.lastore, 1) := by decide +kernel
theorem dL_would_22 : decode cL_would 22 = .ok (.goto 7, 3) := by decide +kernel
theorem dL_would_25 : decode cL_would 25 = .ok (.astore 10, 2) := by decide +kernel
theorem dL_would_27 : decode cL_would 27 = .ok (.iconst 1, 1) := by decide +kernel
theorem dL_would_28 : decode cL_would 28 = .ok (.ireturn, 1) := by decide +kernel
theorem dL_would_29 : decode cL_would 29 = .ok (.iconst 0, 1) := by decide +kernel
theorem dL_would_30 : decode cL_would 30 = .ok (.ireturn, 1) := by decide +kernel
theorem dL_can_0 : decode cL_can 0 = .ok (.aload_n 3, 1) := by decide +kernel
theorem dL_can_1 : decode cL_can 1 = .ok (.iconst 0, 1) := by decide +kernel
theorem dL_can_2 : decode cL_can 2 = .ok (.aload_n 0, 1) := by decide +kernel
theorem dL_can_3 : decode cL_can 3 = .ok (.iload_n 1, 1) := by decide +kernel
theorem dL_can_4 : decode cL_can 4 = .ok (.iload_n 2, 1) := by decide +kernel
theorem dL_can_5 : decode cL_can 5 = .ok (.invokevirtual 49, 3) := by decide +kernel
theorem dL_can_20 : decode cL_can 20 = .ok (.astore 4, 2) := by decide +kernel
theorem dL_can_22 : decode cL_can 22 = .ok (.iconst 1, 1) := by decide +kernel
theorem dL_can_23 : decode cL_can 23 = .ok (.ireturn, 1) := by decide +kernel
theorem dL_ahead_0 : decode cL_ahead 0 = .ok (.aload_n 3, 1) := by decide +kernel
theorem dL_ahead_1 : decode cL_ahead 1 = .ok (.iconst 0, 1) := by decide +kernel
theorem dL_ahead_2 : decode cL_ahead 2 = .ok (.aload_n 0, 1) := by decide +kernel
theorem dL_ahead_3 : decode cL_ahead 3 = .ok (.iload_n 1, 1) := by decide +kernel
theorem dL_ahead_4 : decode cL_ahead 4 = .ok (.iload_n 2, 1) := by decide +kernel
theorem dL_ahead_5 : decode cL_ahead 5 = .ok (.invokevirtual 53, 3) := by decide +kernel
theorem dL_ahead_8 : decode cL_ahead 8 = .ok (.i2l, 1) := by decide +kernel
theorem dL_ahead_9 : decode cL_ahead 9 = .ok (.lastore, 1) := by decide +kernel
theorem dL_ahead_10 : decode cL_ahead 10 = .ok (.goto 7, 3) := by decide +kernel
theorem dL_ahead_13 : decode cL_ahead 13 = .ok (.astore 4, 2) := by decide +kernel
theorem dL_ahead_15 : decode cL_ahead 15 = .ok (.iconst 1, 1) := by decide +kernel
theorem dL_ahead_16 : decode cL_ahead 16 = .ok (.ireturn, 1) := by decide +kernel
theorem dL_ahead_17 : decode cL_ahead 17 = .ok (.iconst 0, 1) := by decide +kernel
theorem dL_ahead_18 : decode cL_ahead 18 = .ok (.ireturn, 1) := by decide +kernel
theorem dL_hops_0 : decode cL_hops 0 = .ok (.aload_n 3, 1) := by decide +kernel
theorem dL_hops_1 : decode cL_hops 1 = .ok (.iconst 0, 1) := by decide +kernel
theorem dL_hops_2 : decode cL_hops 2 = .ok (.aload_n 0, 1) := by decide +kernel
theorem dL_hops_3 : decode cL_hops 3 = .ok (.iload_n 1, 1) := by decide +kernel
theorem dL_hops_4 : decode cL_hops 4 = .ok (.iload_n 2, 1) := by decide +kernel
theorem dL_hops_5 : decode cL_hops 5 = .ok (.invokevirtual 56, 3) := by decide +kernel
theorem dL_hops_13 : decode cL_hops 13 = .ok (.astore 4, 2) := by decide +kernel
theorem dL_hops_15 : decode cL_hops 15 = .ok (.iconst 1, 1) := by decide +kernel
theorem dL_hops_16 : decode cL_hops 16 = .ok (.ireturn, 1) := by decide +kernel
theorem dL_seat_0 : decode cL_seat 0 = .ok (.aload_n 2, 1) := by decide +kernel
theorem dL_seat_1 : decode cL_seat 1 = .ok (.iconst 0, 1) := by decide +kernel
theorem dL_seat_2 : decode cL_seat 2 = .ok (.aload_n 0, 1) := by decide +kernel
theorem dL_seat_3 : decode cL_seat 3 = .ok (.iload_n 1, 1) := by decide +kernel
theorem dL_seat_4 : decode cL_seat 4 = .ok (.invokevirtual 59, 3) := by decide +kernel
theorem dL_seat_12 : decode cL_seat 12 = .ok (.astore_n 3, 1) := by decide +kernel
theorem dL_seat_13 : decode cL_seat 13 = .ok (.iconst 1, 1) := by decide +kernel
theorem dL_seat_14 : decode cL_seat 14 = .ok (.ireturn, 1) := by decide +kernel
theorem dL_ringed_0 : decode cL_ringed 0 = .ok (.aload_n 2, 1) := by decide +kernel
theorem dL_ringed_1 : decode cL_ringed 1 = .ok (.iconst 0, 1) := by decide +kernel
theorem dL_ringed_2 : decode cL_ringed 2 = .ok (.aload_n 0, 1) := by decide +kernel
theorem dL_ringed_3 : decode cL_ringed 3 = .ok (.iload_n 1, 1) := by decide +kernel
theorem dL_ringed_4 : decode cL_ringed 4 = .ok (.invokevirtual 62, 3) := by decide +kernel
theorem dL_ringed_7 : decode cL_ringed 7 = .ok (.i2l, 1) := by decide +kernel
theorem dL_ringed_8 : decode cL_ringed 8 = .ok (.lastore, 1) := by decide +kernel
theorem dL_ringed_9 : decode cL_ringed 9 = .ok (.goto 6, 3) := by decide +kernel
theorem dL_ringed_12 : decode cL_ringed 12 = .ok (.astore_n 3, 1) := by decide +kernel
theorem dL_ringed_13 : decode cL_ringed 13 = .ok (.iconst 1, 1) := by decide +kernel
theorem dL_ringed_14 : decode cL_ringed 14 = .ok (.ireturn, 1) := by decide +kernel
theorem dL_ringed_15 : decode cL_ringed 15 = .ok (.iconst 0, 1) := by decide +kernel
theorem dL_ringed_16 : decode cL_ringed 16 = .ok (.ireturn, 1) := by decide +kernel
theorem dL_bouts_0 : decode cL_bouts 0 = .ok (.aload_n 2, 1) := by decide +kernel
theorem dL_bouts_1 : decode cL_bouts 1 = .ok (.iconst 0, 1) := by decide +kernel
theorem dL_bouts_2 : decode cL_bouts 2 = .ok (.aload_n 0, 1) := by decide +kernel
theorem dL_bouts_3 : decode cL_bouts 3 = .ok (.iload_n 1, 1) := by decide +kernel
theorem dL_bouts_4 : decode cL_bouts 4 = .ok (.invokevirtual 65, 3) := by decide +kernel
theorem dL_bouts_12 : decode cL_bouts 12 = .ok (.astore_n 3, 1) := by decide +kernel
theorem dL_bouts_13 : decode cL_bouts 13 = .ok (.iconst 1, 1) := by decide +kernel
theorem dL_bouts_14 : decode cL_bouts 14 = .ok (.ireturn, 1) := by decide +kernel
theorem dL_fits_0 : decode cL_fits 0 = .ok (.aload_n 2, 1) := by decide +kernel
theorem dL_fits_1 : decode cL_fits 1 = .ok (.iconst 0, 1) := by decide +kernel
theorem dL_fits_2 : decode cL_fits 2 = .ok (.aload_n 0, 1) := by decide +kernel
theorem dL_fits_3 : decode cL_fits 3 = .ok (.iload_n 1, 1) := by decide +kernel
theorem dL_fits_4 : decode cL_fits 4 = .ok (.invokevirtual 68, 3) := by decide +kernel
theorem dL_fits_7 : decode cL_fits 7 = .ok (.i2l, 1) := by decide +kernel
theorem dL_fits_8 : decode cL_fits 8 = .ok (.lastore, 1) := by decide +kernel
theorem dL_fits_9 : decode cL_fits 9 = .ok (.goto 6, 3) := by decide +kernel
theorem dL_fits_12 : decode cL_fits 12 = .ok (.astore_n 3, 1) := by decide +kernel
theorem dL_fits_13 : decode cL_fits 13 = .ok (.iconst 1, 1) := by decide +kernel
theorem dL_fits_14 : decode cL_fits 14 = .ok (.ireturn, 1) := by decide +kernel
theorem dL_fits_15 : decode cL_fits 15 = .ok (.iconst 0, 1) := by decide +kernel
theorem dL_fits_16 : decode cL_fits 16 = .ok (.ireturn, 1) := by decide +kernel
theorem dL_look_0 : decode cL_look 0 = .ok (.aload_n 2, 1) := by decide +kernel
theorem dL_look_1 : decode cL_look 1 = .ok (.iconst 0, 1) := by decide +kernel
theorem dL_look_2 : decode cL_look 2 = .ok (.aload_n 0, 1) := by decide +kernel
theorem dL_look_3 : decode cL_look 3 = .ok (.iload_n 1, 1) := by decide +kernel
theorem dL_look_4 : decode cL_look 4 = .ok (.invokevirtual 71, 3) := by decide +kernel
theorem dL_look_7 : decode cL_look 7 = .ok (.i2l, 1) := by decide +kernel
theorem dL_look_8 : decode cL_look 8 = .ok (.lastore, 1) := by decide +kernel
theorem dL_look_9 : decode cL_look 9 = .ok (.goto 6, 3) := by decide +kernel
theorem dL_look_12 : decode cL_look 12 = .ok (.astore_n 3, 1) := by decide +kernel
theorem dL_look_13 : decode cL_look 13 = .ok (.iconst 1, 1) := by decide +kernel
theorem dL_look_14 : decode cL_look 14 = .ok (.ireturn, 1) := by decide +kernel
theorem dL_look_15 : decode cL_look 15 = .ok (.iconst 0, 1) := by decide +kernel
theorem dL_look_16 : decode cL_look 16 = .ok (.ireturn, 1) := by decide +kernel
theorem dL_watch_0 : decode cL_watch 0 = .ok (.aload_n 2, 1) := by decide +kernel
theorem dL_watch_1 : decode cL_watch 1 = .ok (.iconst 0, 1) := by decide +kernel
theorem dL_watch_2 : decode cL_watch 2 = .ok (.aload_n 0, 1) := by decide +kernel
theorem dL_watch_3 : decode cL_watch 3 = .ok (.iload_n 1, 1) := by decide +kernel
theorem dL_watch_4 : decode cL_watch 4 = .ok (.invokevirtual 74, 3) := by decide +kernel
theorem dL_watch_7 : decode cL_watch 7 = .ok (.i2l, 1) := by decide +kernel
theorem dL_watch_8 : decode cL_watch 8 = .ok (.lastore, 1) := by decide +kernel
theorem dL_watch_9 : decode cL_watch 9 = .ok (.goto 6, 3) := by decide +kernel
theorem dL_watch_12 : decode cL_watch 12 = .ok (.astore_n 3, 1) := by decide +kernel
theorem dL_watch_13 : decode cL_watch 13 = .ok (.iconst 1, 1) := by decide +kernel
theorem dL_watch_14 : decode cL_watch 14 = .ok (.ireturn, 1) := by decide +kernel
theorem dL_watch_15 : decode cL_watch 15 = .ok (.iconst 0, 1) := by decide +kernel
theorem dL_watch_16 : decode cL_watch 16 = .ok (.ireturn, 1) := by decide +kernel
theorem dL_few_0 : decode cL_few 0 = .ok (.aload 5, 2) := by decide +kernel
theorem dL_few_2 : decode cL_few 2 = .ok (.iconst 0, 1) := by decide +kernel
theorem dL_few_3 : decode cL_few 3 = .ok (.aload_n 0, 1) := by decide +kernel
theorem dL_few_4 : decode cL_few 4 = .ok (.iload_n 1, 1) := by decide +kernel
theorem dL_few_5 : decode cL_few 5 = .ok (.iload_n 2, 1) := by decide +kernel
theorem dL_few_6 : decode cL_few 6 = .ok (.iload_n 3, 1) := by decide +kernel
theorem dL_few_7 : decode cL_few 7 = .ok (.iload 4, 2) := by decide +kernel
theorem dL_few_9 : decode cL_few 9 = .ok (.invokevirtual 77, 3) := by decide +kernel
theorem dL_few_12 : decode cL_few 12 = .ok (.lastore, 1) := by decide +kernel
theorem dL_few_13 : decode cL_few 13 = .ok (.goto 7, 3) := by decide +kernel
theorem dL_few_16 : decode cL_few 16 = .ok (.astore 6, 2) := by decide +kernel
theorem dL_few_18 : decode cL_few 18 = .ok (.iconst 1, 1) := by decide +kernel
theorem dL_few_19 : decode cL_few 19 = .ok (.ireturn, 1) := by decide +kernel
theorem dL_few_20 : decode cL_few 20 = .ok (.iconst 0, 1) := by decide +kernel
theorem dL_few_21 : decode cL_few 21 = .ok (.ireturn, 1) := by decide +kernel
theorem dL_road_0 : decode cL_road 0 = .ok (.aload 4, 2) := by decide +kernel
theorem dL_road_2 : decode cL_road 2 = .ok (.iconst 0, 1) := by decide +kernel
theorem dL_road_3 : decode cL_road 3 = .ok (.aload_n 0, 1) := by decide +kernel
theorem dL_road_4 : decode cL_road 4 = .ok (.iload_n 1, 1) := by decide +kernel
theorem dL_road_5 : decode cL_road 5 = .ok (.iload_n 2, 1) := by decide +kernel
theorem dL_road_6 : decode cL_road 6 = .ok (.iload_n 3, 1) := by decide +kernel
theorem dL_road_7 : decode cL_road 7 = .ok (.invokevirtual 81, 3) := by decide +kernel
theorem dL_road_10 : decode cL_road 10 = .ok (.i2l, 1) := by decide +kernel
theorem dL_road_11 : decode cL_road 11 = .ok (.lastore, 1) := by decide +kernel
theorem dL_road_12 : decode cL_road 12 = .ok (.goto 7, 3) := by decide +kernel
theorem dL_road_15 : decode cL_road 15 = .ok (.astore 5, 2) := by decide +kernel
theorem dL_road_17 : decode cL_road 17 = .ok (.iconst 1, 1) := by decide +kernel
theorem dL_road_18 : decode cL_road 18 = .ok (.ireturn, 1) := by decide +kernel
theorem dL_road_19 : decode cL_road 19 = .ok (.iconst 0, 1) := by decide +kernel
theorem dL_road_20 : decode cL_road 20 = .ok (.ireturn, 1) := by decide +kernel
theorem dL_clover_0 : decode cL_clover 0 = .ok (.aload 4, 2) := by decide +kernel
theorem dL_clover_2 : decode cL_clover 2 = .ok (.iconst 0, 1) := by decide +kernel
theorem dL_clover_3 : decode cL_clover 3 = .ok (.aload_n 0, 1) := by decide +kernel
theorem dL_clover_4 : decode cL_clover 4 = .ok (.iload_n 1, 1) := by decide +kernel
theorem dL_clover_5 : decode cL_clover 5 = .ok (.iload_n 2, 1) := by decide +kernel
theorem dL_clover_6 : decode cL_clover 6 = .ok (.iload_n 3, 1) := by decide +kernel
theorem dL_clover_7 : decode cL_clover 7 = .ok (.invokevirtual 85, 3) := by decide +kernel
theorem dL_clover_15 : decode cL_clover 15 = .ok (.astore 5, 2) := by decide +kernel
theorem dL_clover_17 : decode cL_clover 17 = .ok (.iconst 1, 1) := by decide +kernel
theorem dL_clover_18 : decode cL_clover 18 = .ok (.ireturn, 1) := by decide +kernel
theorem dL_strongest_0 : decode cL_strongest 0 = .ok (.aload_n 2, 1) := by decide +kernel
theorem dL_strongest_1 : decode cL_strongest 1 = .ok (.iconst 0, 1) := by decide +kernel
theorem dL_strongest_2 : decode cL_strongest 2 = .ok (.aload_n 0, 1) := by decide +kernel
theorem dL_strongest_3 : decode cL_strongest 3 = .ok (.iload_n 1, 1) := by decide +kernel
theorem dL_strongest_4 : decode cL_strongest 4 = .ok (.invokevirtual 88, 3) := by decide +kernel
theorem dL_strongest_7 : decode cL_strongest 7 = .ok (.i2l, 1) := by decide +kernel
theorem dL_strongest_8 : decode cL_strongest 8 = .ok (.lastore, 1) := by decide +kernel
theorem dL_strongest_9 : decode cL_strongest 9 = .ok (.goto 6, 3) := by decide +kernel
theorem dL_strongest_12 : decode cL_strongest 12 = .ok (.astore_n 3, 1) := by decide +kernel
theorem dL_strongest_13 : decode cL_strongest 13 = .ok (.iconst 1, 1) := by decide +kernel
theorem dL_strongest_14 : decode cL_strongest 14 = .ok (.ireturn, 1) := by decide +kernel
theorem dL_strongest_15 : decode cL_strongest 15 = .ok (.iconst 0, 1) := by decide +kernel
theorem dL_strongest_16 : decode cL_strongest 16 = .ok (.ireturn, 1) := by decide +kernel
theorem dL_ties_0 : decode cL_ties 0 = .ok (.aload_n 3, 1) := by decide +kernel
theorem dL_ties_1 : decode cL_ties 1 = .ok (.iconst 0, 1) := by decide +kernel
theorem dL_ties_2 : decode cL_ties 2 = .ok (.aload_n 0, 1) := by decide +kernel
theorem dL_ties_3 : decode cL_ties 3 = .ok (.iload_n 1, 1) := by decide +kernel
theorem dL_ties_4 : decode cL_ties 4 = .ok (.iload_n 2, 1) := by decide +kernel
theorem dL_ties_5 : decode cL_ties 5 = .ok (.invokevirtual 91, 3) := by decide +kernel
theorem dL_ties_13 : decode cL_ties 13 = .ok (.astore 4, 2) := by decide +kernel
theorem dL_ties_15 : decode cL_ties 15 = .ok (.iconst 1, 1) := by decide +kernel
theorem dL_ties_16 : decode cL_ties 16 = .ok (.ireturn, 1) := by decide +kernel
theorem dL_refuge_0 : decode cL_refuge 0 = .ok (.aload_n 3, 1) := by decide +kernel
theorem dL_refuge_1 : decode cL_refuge 1 = .ok (.iconst 0, 1) := by decide +kernel
theorem dL_refuge_2 : decode cL_refuge 2 = .ok (.aload_n 0, 1) := by decide +kernel
theorem dL_refuge_3 : decode cL_refuge 3 = .ok (.iload_n 1, 1) := by decide +kernel
theorem dL_refuge_4 : decode cL_refuge 4 = .ok (.iload_n 2, 1) := by decide +kernel
theorem dL_refuge_5 : decode cL_refuge 5 = .ok (.invokevirtual 94, 3) := by decide +kernel
theorem dL_refuge_13 : decode cL_refuge 13 = .ok (.astore 4, 2) := by decide +kernel
theorem dL_refuge_15 : decode cL_refuge 15 = .ok (.iconst 1, 1) := by decide +kernel
theorem dL_refuge_16 : decode cL_refuge 16 = .ok (.ireturn, 1) := by decide +kernel
theorem dL_range_0 : decode cL_range 0 = .ok (.aload_n 2, 1) := by decide +kernel
theorem dL_range_1 : decode cL_range 1 = .ok (.iconst 0, 1) := by decide +kernel
theorem dL_range_2 : decode cL_range 2 = .ok (.aload_n 0, 1) := by decide +kernel
theorem dL_range_3 : decode cL_range 3 = .ok (.iload_n 1, 1) := by decide +kernel
theorem dL_range_4 : decode cL_range 4 = .ok (.invokevirtual 97, 3) := by decide +kernel
theorem dL_range_12 : decode cL_range 12 = .ok (.astore_n 3, 1) := by decide +kernel
theorem dL_range_13 : decode cL_range 13 = .ok (.iconst 1, 1) := by decide +kernel
theorem dL_range_14 : decode cL_range 14 = .ok (.ireturn, 1) := by decide +kernel
theorem dL_march_0 : decode cL_march 0 = .ok (.aload 4, 2) := by decide +kernel
theorem dL_march_2 : decode cL_march 2 = .ok (.iconst 0, 1) := by decide +kernel
theorem dL_march_3 : decode cL_march 3 = .ok (.aload_n 0, 1) := by decide +kernel
theorem dL_march_4 : decode cL_march 4 = .ok (.iload_n 1, 1) := by decide +kernel
theorem dL_march_5 : decode cL_march 5 = .ok (.iload_n 2, 1) := by decide +kernel
theorem dL_march_6 : decode cL_march 6 = .ok (.iload_n 3, 1) := by decide +kernel
theorem dL_march_7 : decode cL_march 7 = .ok (.invokevirtual 100, 3) := by decide +kernel
theorem dL_march_10 : decode cL_march 10 = .ok (.i2l, 1) := by decide +kernel
theorem dL_march_11 : decode cL_march 11 = .ok (.lastore, 1) := by decide +kernel
theorem dL_march_12 : decode cL_march 12 = .ok (.goto 7, 3) := by decide +kernel
theorem dL_march_15 : decode cL_march 15 = .ok (.astore 5, 2) := by decide +kernel
theorem dL_march_17 : decode cL_march 17 = .ok (.iconst 1, 1) := by decide +kernel
theorem dL_march_18 : decode cL_march 18 = .ok (.ireturn, 1) := by decide +kernel
theorem dL_march_19 : decode cL_march 19 = .ok (.iconst 0, 1) := by decide +kernel
theorem dL_march_20 : decode cL_march 20 = .ok (.ireturn, 1) := by decide +kernel
theorem dL_span_0 : decode cL_span 0 = .ok (.aload 6, 2) := by decide +kernel
theorem dL_span_2 : decode cL_span 2 = .ok (.iconst 0, 1) := by decide +kernel
theorem dL_span_3 : decode cL_span 3 = .ok (.aload_n 0, 1) := by decide +kernel
theorem dL_span_4 : decode cL_span 4 = .ok (.iload_n 1, 1) := by decide +kernel
theorem dL_span_5 : decode cL_span 5 = .ok (.iload_n 2, 1) := by decide +kernel
theorem dL_span_6 : decode cL_span 6 = .ok (.iload_n 3, 1) := by decide +kernel
theorem dL_span_7 : decode cL_span 7 = .ok (.iload 4, 2) := by decide +kernel
theorem dL_span_9 : decode cL_span 9 = .ok (.iload 5, 2) := by decide +kernel
theorem dL_span_11 : decode cL_span 11 = .ok (.invokevirtual 103, 3) := by decide +kernel
theorem dL_span_19 : decode cL_span 19 = .ok (.astore 7, 2) := by decide +kernel
theorem dL_span_21 : decode cL_span 21 = .ok (.iconst 1, 1) := by decide +kernel
theorem dL_span_22 : decode cL_span 22 = .ok (.ireturn, 1) := by decide +kernel
