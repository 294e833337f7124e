theorem dX11_both_26 : decode cX11_both 26 = .ok (.ireturn, 1) := by decide +kernel
theorem dX11_both_27 : decode cX11_both 27 = .ok (.iload_n 0, 1) := by decide +kernel
theorem dX11_both_28 : decode cX11_both 28 = .ok (.iconst 5, 1) := by decide +kernel
theorem dX11_both_29 : decode cX11_both 29 = .ok (.if_icmp .eq 9, 3) := by decide +kernel
theorem dX11_both_32 : decode cX11_both 32 = .ok (.iload_n 0, 1) := by decide +kernel
theorem dX11_both_33 : decode cX11_both 33 = .ok (.bipush 8, 2) := by decide +kernel
theorem dX11_both_35 : decode cX11_both 35 = .ok (.if_icmp .ne 26, 3) := by decide +kernel
theorem dX11_both_38 : decode cX11_both 38 = .ok (.iload_n 2, 1) := by decide +kernel
theorem dX11_both_39 : decode cX11_both 39 = .ok (.ifCond .ne 7, 3) := by decide +kernel
theorem dX11_both_42 : decode cX11_both 42 = .ok (.iconst 0, 1) := by decide +kernel
theorem dX11_both_43 : decode cX11_both 43 = .ok (.goto 17, 3) := by decide +kernel
theorem dX11_both_46 : decode cX11_both 46 = .ok (.iload_n 0, 1) := by decide +kernel
theorem dX11_both_47 : decode cX11_both 47 = .ok (.iconst 5, 1) := by decide +kernel
theorem dX11_both_48 : decode cX11_both 48 = .ok (.if_icmp .ne 9, 3) := by decide +kernel
theorem dX11_both_51 : decode cX11_both 51 = .ok (.iload_n 1, 1) := by decide +kernel
theorem dX11_both_52 : decode cX11_both 52 = .ok (.iload_n 2, 1) := by decide +kernel
theorem dX11_both_53 : decode cX11_both 53 = .ok (.idiv, 1) := by decide +kernel
theorem dX11_both_54 : decode cX11_both 54 = .ok (.goto 6, 3) := by decide +kernel
theorem dX11_both_57 : decode cX11_both 57 = .ok (.iload_n 1, 1) := by decide +kernel
theorem dX11_both_58 : decode cX11_both 58 = .ok (.iload_n 2, 1) := by decide +kernel
theorem dX11_both_59 : decode cX11_both 59 = .ok (.irem, 1) := by decide +kernel
theorem dX11_both_60 : decode cX11_both 60 = .ok (.ireturn, 1) := by decide +kernel
theorem dX11_both_61 : decode cX11_both 61 = .ok (.iload_n 1, 1) := by decide +kernel
theorem dX11_both_62 : decode cX11_both 62 = .ok (.iload_n 2, 1) := by decide +kernel
theorem dX11_both_63 : decode cX11_both 63 = .ok (.if_icmp .ge 7, 3) := by decide +kernel
theorem dX11_both_66 : decode cX11_both 66 = .ok (.iconst 1, 1) := by decide +kernel
theorem dX11_both_67 : decode cX11_both 67 = .ok (.goto 4, 3) := by decide +kernel
theorem dX11_both_70 : decode cX11_both 70 = .ok (.iconst 0, 1) := by decide +kernel
theorem dX11_both_71 : decode cX11_both 71 = .ok (.iload_n 0, 1) := by decide +kernel
theorem dX11_both_72 : decode cX11_both 72 = .ok (.bipush 6, 2) := by decide +kernel
theorem dX11_both_74 : decode cX11_both 74 = .ok (.if_icmp .ne 7, 3) := by decide +kernel
theorem dX11_both_77 : decode cX11_both 77 = .ok (.iconst 1, 1) := by decide +kernel
theorem dX11_both_78 : decode cX11_both 78 = .ok (.goto 4, 3) := by decide +kernel
theorem dX11_both_81 : decode cX11_both 81 = .ok (.iconst 0, 1) := by decide +kernel
theorem dX11_both_82 : decode cX11_both 82 = .ok (.if_icmp .ne 7, 3) := by decide +kernel
theorem dX11_both_85 : decode cX11_both 85 = .ok (.iload_n 1, 1) := by decide +kernel
theorem dX11_both_86 : decode cX11_both 86 = .ok (.goto 4, 3) := by decide +kernel
theorem dX11_both_89 : decode cX11_both 89 = .ok (.iload_n 2, 1) := by decide +kernel
theorem dX11_both_90 : decode cX11_both 90 = .ok (.ireturn, 1) := by decide +kernel
theorem dX11_leapNow_0 : decode cX11_leapNow 0 = .ok (.aload_n 0, 1) := by decide +kernel
theorem dX11_leapNow_1 : decode cX11_leapNow 1 = .ok (.getfield 179, 3) := by decide +kernel
theorem dX11_leapNow_4 : decode cX11_leapNow 4 = .ok (.ifCond .ne 21, 3) := by decide +kernel
theorem dX11_leapNow_7 : decode cX11_leapNow 7 = .ok (.iconst 4, 1) := by decide +kernel
theorem dX11_leapNow_8 : decode cX11_leapNow 8 = .ok (.aload_n 0, 1) := by decide +kernel
theorem dX11_leapNow_9 : decode cX11_leapNow 9 = .ok (.getfield 59, 3) := by decide +kernel
theorem dX11_leapNow_12 : decode cX11_leapNow 12 = .ok (.iconst 0, 1) := by decide +kernel
theorem dX11_leapNow_13 : decode cX11_leapNow 13 = .ok (.iaload, 1) := by decide +kernel
theorem dX11_leapNow_14 : decode cX11_leapNow 14 = .ok (.iadd, 1) := by decide +kernel
theorem dX11_leapNow_15 : decode cX11_leapNow 15 = .ok (.aload_n 0, 1) := by decide +kernel
theorem dX11_leapNow_16 : decode cX11_leapNow 16 = .ok (.getfield 59, 3) := by decide +kernel
theorem dX11_leapNow_19 : decode cX11_leapNow 19 = .ok (.iconst 1, 1) := by decide +kernel
theorem dX11_leapNow_20 : decode cX11_leapNow 20 = .ok (.iaload, 1) := by decide +kernel
theorem dX11_leapNow_21 : decode cX11_leapNow 21 = .ok (.isub, 1) := by decide +kernel
theorem dX11_leapNow_22 : decode cX11_leapNow 22 = .ok (.goto 7, 3) := by decide +kernel
theorem dX11_leapNow_25 : decode cX11_leapNow 25 = .ok (.aload_n 0, 1) := by decide +kernel
theorem dX11_leapNow_26 : decode cX11_leapNow 26 = .ok (.invokevirtual 292, 3) := by decide +kernel
theorem dX11_leapNow_29 : decode cX11_leapNow 29 = .ok (.istore_n 1, 1) := by decide +kernel
theorem dX11_leapNow_30 : decode cX11_leapNow 30 = .ok (.iload_n 1, 1) := by decide +kernel
theorem dX11_leapNow_31 : decode cX11_leapNow 31 = .ok (.ifCond .ge 7, 3) := by decide +kernel
theorem dX11_leapNow_34 : decode cX11_leapNow 34 = .ok (.iconst 0, 1) := by decide +kernel
theorem dX11_leapNow_35 : decode cX11_leapNow 35 = .ok (.goto 15, 3) := by decide +kernel
theorem dX11_leapNow_38 : decode cX11_leapNow 38 = .ok (.iload_n 1, 1) := by decide +kernel
theorem dX11_leapNow_39 : decode cX11_leapNow 39 = .ok (.bipush 60, 2) := by decide +kernel
theorem dX11_leapNow_41 : decode cX11_leapNow 41 = .ok (.if_icmp .le 8, 3) := by decide +kernel
theorem dX11_leapNow_44 : decode cX11_leapNow 44 = .ok (.bipush 60, 2) := by decide +kernel
theorem dX11_leapNow_46 : decode cX11_leapNow 46 = .ok (.goto 4, 3) := by decide +kernel
theorem dX11_leapNow_49 : decode cX11_leapNow 49 = .ok (.iload_n 1, 1) := by decide +kernel
theorem dX11_leapNow_50 : decode cX11_leapNow 50 = .ok (.ireturn, 1) := by decide +kernel
theorem dX11_tellsStep_0 : decode cX11_tellsStep 0 = .ok (.aload_n 0, 1) := by decide +kernel
theorem dX11_tellsStep_1 : decode cX11_tellsStep 1 = .ok (.invokevirtual 143, 3) := by decide +kernel
theorem dX11_tellsStep_4 : decode cX11_tellsStep 4 = .ok (.ifCond .ne 4, 3) := by decide +kernel
theorem dX11_tellsStep_7 : decode cX11_tellsStep 7 = .ok (.return_, 1) := by decide +kernel
theorem dX11_tellsStep_8 : decode cX11_tellsStep 8 = .ok (.aload_n 0, 1) := by decide +kernel
theorem dX11_tellsStep_9 : decode cX11_tellsStep 9 = .ok (.getfield 62, 3) := by decide +kernel
theorem dX11_tellsStep_12 : decode cX11_tellsStep 12 = .ok (.aload_n 0, 1) := by decide +kernel
theorem dX11_tellsStep_13 : decode cX11_tellsStep 13 = .ok (.getfield 295, 3) := by decide +kernel
theorem dX11_tellsStep_16 : decode cX11_tellsStep 16 = .ok (.iload_n 1, 1) := by decide +kernel
theorem dX11_tellsStep_17 : decode cX11_tellsStep 17 = .ok (.iastore, 1) := by decide +kernel
theorem dX11_tellsStep_18 : decode cX11_tellsStep 18 = .ok (.aload_n 0, 1) := by decide +kernel
theorem dX11_tellsStep_19 : decode cX11_tellsStep 19 = .ok (.getfield 62, 3) := by decide +kernel
theorem dX11_tellsStep_22 : decode cX11_tellsStep 22 = .ok (.aload_n 0, 1) := by decide +kernel
theorem dX11_tellsStep_23 : decode cX11_tellsStep 23 = .ok (.getfield 295, 3) := by decide +kernel
theorem dX11_tellsStep_26 : decode cX11_tellsStep 26 = .ok (.iconst 1, 1) := by decide +kernel
theorem dX11_tellsStep_27 : decode cX11_tellsStep 27 = .ok (.iadd, 1) := by decide +kernel
theorem dX11_tellsStep_28 : decode cX11_tellsStep 28 = .ok (.iload_n 2, 1) := by decide +kernel
theorem dX11_tellsStep_29 : decode cX11_tellsStep 29 = .ok (.iastore, 1) := by decide +kernel
theorem dX11_tellsStep_30 : decode cX11_tellsStep 30 = .ok (.aload_n 0, 1) := by decide +kernel
theorem dX11_tellsStep_31 : decode cX11_tellsStep 31 = .ok (.getfield 62, 3) := by decide +kernel
theorem dX11_tellsStep_34 : decode cX11_tellsStep 34 = .ok (.aload_n 0, 1) := by decide +kernel
theorem dX11_tellsStep_35 : decode cX11_tellsStep 35 = .ok (.getfield 295, 3) := by decide +kernel
theorem dX11_tellsStep_38 : decode cX11_tellsStep 38 = .ok (.iconst 2, 1) := by decide +kernel
theorem dX11_tellsStep_39 : decode cX11_tellsStep 39 = .ok (.iadd, 1) := by decide +kernel
theorem dX11_tellsStep_40 : decode cX11_tellsStep 40 = .ok (.iload_n 3, 1) := by decide +kernel
theorem dX11_tellsStep_41 : decode cX11_tellsStep 41 = .ok (.iastore, 1) := by decide +kernel
theorem dX11_tellsStep_42 : decode cX11_tellsStep 42 = .ok (.aload_n 0, 1) := by decide +kernel
theorem dX11_tellsStep_43 : decode cX11_tellsStep 43 = .ok (.getfield 62, 3) := by decide +kernel
theorem dX11_tellsStep_46 : decode cX11_tellsStep 46 = .ok (.aload_n 0, 1) := by decide +kernel
theorem dX11_tellsStep_47 : decode cX11_tellsStep 47 = .ok (.getfield 295, 3) := by decide +kernel
theorem dX11_tellsStep_50 : decode cX11_tellsStep 50 = .ok (.iconst 3, 1) := by decide +kernel
theorem dX11_tellsStep_51 : decode cX11_tellsStep 51 = .ok (.iadd, 1) := by decide +kernel
theorem dX11_tellsStep_52 : decode cX11_tellsStep 52 = .ok (.iload 4, 2) := by decide +kernel
theorem dX11_tellsStep_54 : decode cX11_tellsStep 54 = .ok (.iastore, 1) := by decide +kernel
theorem dX11_tellsStep_55 : decode cX11_tellsStep 55 = .ok (.aload_n 0, 1) := by decide +kernel
theorem dX11_tellsStep_56 : decode cX11_tellsStep 56 = .ok (.dup, 1) := by decide +kernel
theorem dX11_tellsStep_57 : decode cX11_tellsStep 57 = .ok (.getfield 295, 3) := by decide +kernel
theorem dX11_tellsStep_60 : decode cX11_tellsStep 60 = .ok (.iconst 4, 1) := by decide +kernel
theorem dX11_tellsStep_61 : decode cX11_tellsStep 61 = .ok (.iadd, 1) := by decide +kernel
theorem dX11_tellsStep_62 : decode cX11_tellsStep 62 = .ok (.putfield 295, 3) := by decide +kernel
theorem dX11_tellsStep_65 : decode cX11_tellsStep 65 = .ok (.return_, 1) := by decide +kernel
theorem dX11_readLiving_0 : decode cX11_readLiving 0 = .ok (.aload_n 0, 1) := by decide +kernel
theorem dX11_readLiving_1 : decode cX11_readLiving 1 = .ok (.iconst 0, 1) := by decide +kernel
theorem dX11_readLiving_2 : decode cX11_readLiving 2 = .ok (.aload_n 0, 1) := by decide +kernel
theorem dX11_readLiving_3 : decode cX11_readLiving 3 = .ok (.getfield 169, 3) := by decide +kernel
theorem dX11_readLiving_6 : decode cX11_readLiving 6 = .ok (.iconst 1, 1) := by decide +kernel
theorem dX11_readLiving_7 : decode cX11_readLiving 7 = .ok (.isub, 1) := by decide +kernel
theorem dX11_readLiving_8 : decode cX11_readLiving 8 = .ok (.invokevirtual 194, 3) := by decide +kernel
theorem dX11_readLiving_11 : decode cX11_readLiving 11 = .ok (.ireturn, 1) := by decide +kernel
theorem dX11_readStep_0 : decode cX11_readStep 0 = .ok (.aload_n 0, 1) := by decide +kernel
theorem dX11_readStep_1 : decode cX11_readStep 1 = .ok (.invokevirtual 224, 3) := by decide +kernel
theorem dX11_readStep_4 : decode cX11_readStep 4 = .ok (.istore_n 1, 1) := by decide +kernel
theorem dX11_readStep_5 : decode cX11_readStep 5 = .ok (.iload_n 1, 1) := by decide +kernel
theorem dX11_readStep_6 : decode cX11_readStep 6 = .ok (.ldc_w 274, 3) := by decide +kernel
theorem dX11_readStep_9 : decode cX11_readStep 9 = .ok (.invokestatic 202, 3) := by decide +kernel
theorem dX11_readStep_12 : decode cX11_readStep 12 = .ok (.if_icmp .ne 18, 3) := by decide +kernel
theorem dX11_readStep_15 : decode cX11_readStep 15 = .ok (.aload_n 0, 1) := by decide +kernel
theorem dX11_readStep_16 : decode cX11_readStep 16 = .ok (.invokevirtual 233, 3) := by decide +kernel
theorem dX11_readStep_19 : decode cX11_readStep 19 = .ok (.aload_n 0, 1) := by decide +kernel
theorem dX11_readStep_20 : decode cX11_readStep 20 = .ok (.iconst 3, 1) := by decide +kernel
theorem dX11_readStep_21 : decode cX11_readStep 21 = .ok (.iconst 0, 1) := by decide +kernel
theorem dX11_readStep_22 : decode cX11_readStep 22 = .ok (.iconst 0, 1) := by decide +kernel
theorem dX11_readStep_23 : decode cX11_readStep 23 = .ok (.iconst 0, 1) := by decide +kernel
theorem dX11_readStep_24 : decode cX11_readStep 24 = .ok (.invokevirtual 298, 3) := by decide +kernel
theorem dX11_readStep_27 : decode cX11_readStep 27 = .ok (.goto 234, 3) := by decide +kernel
theorem dX11_readStep_30 : decode cX11_readStep 30 = .ok (.iload_n 1, 1) := by decide +kernel
theorem dX11_readStep_31 : decode cX11_readStep 31 = .ok (.ldc_w 302, 3) := by decide +kernel
theorem dX11_readStep_34 : decode cX11_readStep 34 = .ok (.invokestatic 202, 3) := by decide +kernel
theorem dX11_readStep_37 : decode cX11_readStep 37 = .ok (.if_icmp .ne 33, 3) := by decide +kernel
theorem dX11_readStep_40 : decode cX11_readStep 40 = .ok (.aload_n 0, 1) := by decide +kernel
theorem dX11_readStep_41 : decode cX11_readStep 41 = .ok (.invokevirtual 233, 3) := by decide +kernel
theorem dX11_readStep_44 : decode cX11_readStep 44 = .ok (.aload_n 0, 1) := by decide +kernel
theorem dX11_readStep_45 : decode cX11_readStep 45 = .ok (.invokevirtual 304, 3) := by decide +kernel
theorem dX11_readStep_48 : decode cX11_readStep 48 = .ok (.istore_n 2, 1) := by decide +kernel
theorem dX11_readStep_49 : decode cX11_readStep 49 = .ok (.aload_n 0, 1) := by decide +kernel
theorem dX11_readStep_50 : decode cX11_readStep 50 = .ok (.iconst 0, 1) := by decide +kernel
theorem dX11_readStep_51 : decode cX11_readStep 51 = .ok (.iload_n 2, 1) := by decide +kernel
theorem dX11_readStep_52 : decode cX11_readStep 52 = .ok (.aload_n 0, 1) := by decide +kernel
theorem dX11_readStep_53 : decode cX11_readStep 53 = .ok (.iconst 0, 1) := by decide +kernel
theorem dX11_readStep_54 : decode cX11_readStep 54 = .ok (.aload_n 0, 1) := by decide +kernel
theorem dX11_readStep_55 : decode cX11_readStep 55 = .ok (.getfield 166, 3) := by decide +kernel
theorem dX11_readStep_58 : decode cX11_readStep 58 = .ok (.iconst 1, 1) := by decide +kernel
theorem dX11_readStep_59 : decode cX11_readStep 59 = .ok (.isub, 1) := by decide +kernel
theorem dX11_readStep_60 : decode cX11_readStep 60 = .ok (.invokevirtual 194, 3) := by decide +kernel
theorem dX11_readStep_63 : decode cX11_readStep 63 = .ok (.iconst 0, 1) := by decide +kernel
theorem dX11_readStep_64 : decode cX11_readStep 64 = .ok (.invokevirtual 298, 3) := by decide +kernel
theorem dX11_readStep_67 : decode cX11_readStep 67 = .ok (.goto 194, 3) := by decide +kernel
theorem dX11_readStep_70 : decode cX11_readStep 70 = .ok (.iload_n 1, 1) := by decide +kernel
theorem dX11_readStep_71 : decode cX11_readStep 71 = .ok (.ldc_w 307, 3) := by decide +kernel
theorem dX11_readStep_74 : decode cX11_readStep 74 = .ok (.invokestatic 202, 3) := by decide +kernel
theorem dX11_readStep_77 : decode cX11_readStep 77 = .ok (.if_icmp .eq 13, 3) := by decide +kernel
theorem dX11_readStep_80 : decode cX11_readStep 80 = .ok (.iload_n 1, 1) := by decide +kernel
theorem dX11_readStep_81 : decode cX11_readStep 81 = .ok (.ldc_w 309, 3) := by decide +kernel
theorem dX11_readStep_84 : decode cX11_readStep 84 = .ok (.invokestatic 202, 3) := by decide +kernel
theorem dX11_readStep_87 : decode cX11_readStep 87 = .ok (.if_icmp .ne 62, 3) := by decide +kernel
theorem dX11_readStep_90 : decode cX11_readStep 90 = .ok (.aload_n 0, 1) := by decide +kernel
theorem dX11_readStep_91 : decode cX11_readStep 91 = .ok (.invokevirtual 233, 3) := by decide +kernel
theorem dX11_readStep_94 : decode cX11_readStep 94 = .ok (.aload_n 0, 1) := by decide +kernel
theorem dX11_readStep_95 : decode cX11_readStep 95 = .ok (.invokevirtual 304, 3) := by decide +kernel
theorem dX11_readStep_98 : decode cX11_readStep 98 = .ok (.istore_n 2, 1) := by decide +kernel
theorem dX11_readStep_99 : decode cX11_readStep 99 = .ok (.aload_n 0, 1) := by decide +kernel
theorem dX11_readStep_100 : decode cX11_readStep 100 = .ok (.invokevirtual 304, 3) := by decide +kernel
theorem dX11_readStep_103 : decode cX11_readStep 103 = .ok (.istore_n 3, 1) := by decide +kernel
theorem dX11_readStep_104 : decode cX11_readStep 104 = .ok (.aload_n 0, 1) := by decide +kernel
theorem dX11_readStep_105 : decode cX11_readStep 105 = .ok (.iload_n 1, 1) := by decide +kernel
theorem dX11_readStep_106 : decode cX11_readStep 106 = .ok (.ldc_w 307, 3) := by decide +kernel
theorem dX11_readStep_109 : decode cX11_readStep 109 = .ok (.invokestatic 202, 3) := by decide +kernel
theorem dX11_readStep_112 : decode cX11_readStep 112 = .ok (.if_icmp .ne 7, 3) := by decide +kernel
theorem dX11_readStep_115 : decode cX11_readStep 115 = .ok (.iconst 1, 1) := by decide +kernel
theorem dX11_readStep_116 : decode cX11_readStep 116 = .ok (.goto 4, 3) := by decide +kernel
theorem dX11_readStep_119 : decode cX11_readStep 119 = .ok (.iconst 2, 1) := by decide +kernel
theorem dX11_readStep_120 : decode cX11_readStep 120 = .ok (.iload_n 2, 1) := by decide +kernel
theorem dX11_readStep_121 : decode cX11_readStep 121 = .ok (.iload_n 3, 1) := by decide +kernel
theorem dX11_readStep_122 : decode cX11_readStep 122 = .ok (.iload_n 1, 1) := by decide +kernel
theorem dX11_readStep_123 : decode cX11_readStep 123 = .ok (.ldc_w 309, 3) := by decide +kernel
theorem dX11_readStep_126 : decode cX11_readStep 126 = .ok (.invokestatic 202, 3) := by decide +kernel
theorem dX11_readStep_129 : decode cX11_readStep 129 = .ok (.if_icmp .ne 13, 3) := by decide +kernel
theorem dX11_readStep_132 : decode cX11_readStep 132 = .ok (.aload_n 0, 1) := by decide +kernel
theorem dX11_readStep_133 : decode cX11_readStep 133 = .ok (.iconst 1, 1) := by decide +kernel
theorem dX11_readStep_134 : decode cX11_readStep 134 = .ok (.bipush 99, 2) := by decide +kernel
theorem dX11_readStep_136 : decode cX11_readStep 136 = .ok (.invokevirtual 194, 3) := by decide +kernel
theorem dX11_readStep_139 : decode cX11_readStep 139 = .ok (.goto 4, 3) := by decide +kernel
theorem dX11_readStep_142 : decode cX11_readStep 142 = .ok (.iconst 0, 1) := by decide +kernel
theorem dX11_readStep_143 : decode cX11_readStep 143 = .ok (.invokevirtual 298, 3) := by decide +kernel
theorem dX11_readStep_146 : decode cX11_readStep 146 = .ok (.goto 115, 3) := by decide +kernel
theorem dX11_readStep_149 : decode cX11_readStep 149 = .ok (.iload_n 1, 1) := by decide +kernel
theorem dX11_readStep_150 : decode cX11_readStep 150 = .ok (.ldc_w 311, 3) := by decide +kernel
theorem dX11_readStep_153 : decode cX11_readStep 153 = .ok (.invokestatic 202, 3) := by decide +kernel
theorem dX11_readStep_156 : decode cX11_readStep 156 = .ok (.if_icmp .ne 96, 3) := by decide +kernel
theorem dX11_readStep_159 : decode cX11_readStep 159 = .ok (.aload_n 0, 1) := by decide +kernel
theorem dX11_readStep_160 : decode cX11_readStep 160 = .ok (.iconst 5, 1) := by decide +kernel
theorem dX11_readStep_161 : decode cX11_readStep 161 = .ok (.invokevirtual 258, 3) := by decide +kernel
theorem dX11_readStep_164 : decode cX11_readStep 164 = .ok (.aload_n 0, 1) := by decide +kernel
theorem dX11_readStep_165 : decode cX11_readStep 165 = .ok (.iconst 0, 1) := by decide +kernel
theorem dX11_readStep_166 : decode cX11_readStep 166 = .ok (.bipush 40, 2) := by decide +kernel
theorem dX11_readStep_168 : decode cX11_readStep 168 = .ok (.invokevirtual 194, 3) := by decide +kernel
theorem dX11_readStep_171 : decode cX11_readStep 171 = .ok (.istore_n 2, 1) := by decide +kernel
theorem dX11_readStep_172 : decode cX11_readStep 172 = .ok (.aload_n 0, 1) := by decide +kernel
theorem dX11_readStep_173 : decode cX11_readStep 173 = .ok (.bipush 91, 2) := by decide +kernel
theorem dX11_readStep_175 : decode cX11_readStep 175 = .ok (.invokevirtual 239, 3) := by decide +kernel
theorem dX11_readStep_178 : decode cX11_readStep 178 = .ok (.aload_n 0, 1) := by decide +kernel
theorem dX11_readStep_179 : decode cX11_readStep 179 = .ok (.getfield 295, 3) := by decide +kernel
theorem dX11_readStep_182 : decode cX11_readStep 182 = .ok (.istore_n 3, 1) := by decide +kernel
theorem dX11_readStep_183 : decode cX11_readStep 183 = .ok (.aload_n 0, 1) := by decide +kernel
theorem dX11_readStep_184 : decode cX11_readStep 184 = .ok (.iconst 4, 1) := by decide +kernel
theorem dX11_readStep_185 : decode cX11_readStep 185 = .ok (.iload_n 2, 1) := by decide +kernel
theorem dX11_readStep_186 : decode cX11_readStep 186 = .ok (.iconst 0, 1) := by decide +kernel
theorem dX11_readStep_187 : decode cX11_readStep 187 = .ok (.iconst 0, 1) := by decide +kernel
theorem dX11_readStep_188 : decode cX11_readStep 188 = .ok (.invokevirtual 298, 3) := by decide +kernel
theorem dX11_readStep_191 : decode cX11_readStep 191 = .ok (.aload_n 0, 1) := by decide +kernel
theorem dX11_readStep_192 : decode cX11_readStep 192 = .ok (.invokevirtual 143, 3) := by decide +kernel
theorem dX11_readStep_195 : decode cX11_readStep 195 = .ok (.ifCond .eq 19, 3) := by decide +kernel
theorem dX11_readStep_198 : decode cX11_readStep 198 = .ok (.aload_n 0, 1) := by decide +kernel
theorem dX11_readStep_199 : decode cX11_readStep 199 = .ok (.invokevirtual 126, 3) := by decide +kernel
theorem dX11_readStep_202 : decode cX11_readStep 202 = .ok (.bipush 93, 2) := by decide +kernel
theorem dX11_readStep_204 : decode cX11_readStep 204 = .ok (.if_icmp .eq 10, 3) := by decide +kernel
theorem dX11_readStep_207 : decode cX11_readStep 207 = .ok (.aload_n 0, 1) := by decide +kernel
theorem dX11_readStep_208 : decode cX11_readStep 208 = .ok (.invokevirtual 313, 3) := by decide +kernel
theorem dX11_readStep_211 : decode cX11_readStep 211 = .ok (.goto (-20), 3) := by decide +kernel
theorem dX11_readStep_214 : decode cX11_readStep 214 = .ok (.aload_n 0, 1) := by decide +kernel
theorem dX11_readStep_215 : decode cX11_readStep 215 = .ok (.bipush 93, 2) := by decide +kernel
theorem dX11_readStep_217 : decode cX11_readStep 217 = .ok (.invokevirtual 239, 3) := by decide +kernel
theorem dX11_readStep_220 : decode cX11_readStep 220 = .ok (.aload_n 0, 1) := by decide +kernel
theorem dX11_readStep_221 : decode cX11_readStep 221 = .ok (.dup, 1) := by decide +kernel
theorem dX11_readStep_222 : decode cX11_readStep 222 = .ok (.getfield 154, 3) := by decide +kernel
theorem dX11_readStep_225 : decode cX11_readStep 225 = .ok (.iconst 1, 1) := by decide +kernel
theorem dX11_readStep_226 : decode cX11_readStep 226 = .ok (.isub, 1) := by decide +kernel
theorem dX11_readStep_227 : decode cX11_readStep 227 = .ok (.putfield 154, 3) := by decide +kernel
theorem dX11_readStep_230 : decode cX11_readStep 230 = .ok (.aload_n 0, 1) := by decide +kernel
theorem dX11_readStep_231 : decode cX11_readStep 231 = .ok (.invokevirtual 143, 3) := by decide +kernel
theorem dX11_readStep_234 : decode cX11_readStep 234 = .ok (.ifCond .eq 15, 3) := by decide +kernel
theorem dX11_readStep_237 : decode cX11_readStep 237 = .ok (.aload_n 0, 1) := by decide +kernel
theorem dX11_readStep_238 : decode cX11_readStep 238 = .ok (.getfield 62, 3) := by decide +kernel
theorem dX11_readStep_241 : decode cX11_readStep 241 = .ok (.iload_n 3, 1) := by decide +kernel
theorem dX11_readStep_242 : decode cX11_readStep 242 = .ok (.iconst 2, 1) := by decide +kernel
theorem dX11_readStep_243 : decode cX11_readStep 243 = .ok (.iadd, 1) := by decide +kernel
theorem dX11_readStep_244 : decode cX11_readStep 244 = .ok (.aload_n 0, 1) := by decide +kernel
theorem dX11_readStep_245 : decode cX11_readStep 245 = .ok (.getfield 295, 3) := by decide +kernel
theorem dX11_readStep_248 : decode cX11_readStep 248 = .ok (.iastore, 1) := by decide +kernel
theorem dX11_readStep_249 : decode cX11_readStep 249 = .ok (.goto 12, 3) := by decide +kernel
theorem dX11_readStep_252 : decode cX11_readStep 252 = .ok (.aload_n 0, 1) := by decide +kernel
theorem dX11_readStep_253 : decode cX11_readStep 253 = .ok (.iconst 1, 1) := by decide +kernel
theorem dX11_readStep_254 : decode cX11_readStep 254 = .ok (.aload_n 0, 1) := by decide +kernel
theorem dX11_readStep_255 : decode cX11_readStep 255 = .ok (.getfield 120, 3) := by decide +kernel
theorem dX11_readStep_258 : decode cX11_readStep 258 = .ok (.invokevirtual 150, 3) := by decide +kernel
theorem dX11_readStep_261 : decode cX11_readStep 261 = .ok (.aload_n 0, 1) := by decide +kernel
theorem dX11_readStep_262 : decode cX11_readStep 262 = .ok (.bipush 59, 2) := by decide +kernel
theorem dX11_readStep_264 : decode cX11_readStep 264 = .ok (.invokevirtual 239, 3) := by decide +kernel
theorem dX11_readStep_267 : decode cX11_readStep 267 = .ok (.return_, 1) := by decide +kernel
theorem dX11_work_0 : decode cX11_work 0 = .ok (.aload_n 0, 1) := by decide +kernel
theorem dX11_work_1 : decode cX11_work 1 = .ok (.iconst 0, 1) := by decide +kernel
theorem dX11_work_2 : decode cX11_work 2 = .ok (.putfield 3, 3) := by decide +kernel
theorem dX11_work_5 : decode cX11_work 5 = .ok (.aload_n 0, 1) := by decide +kernel
theorem dX11_work_6 : decode cX11_work 6 = .ok (.iload_n 1, 1) := by decide +kernel
theorem dX11_work_7 : decode cX11_work 7 = .ok (.ifCond .lt 22, 3) := by decide +kernel
theorem dX11_work_10 : decode cX11_work 10 = .ok (.iload_n 1, 1) := by decide +kernel
theorem dX11_work_11 : decode cX11_work 11 = .ok (.aload_n 0, 1) := by decide +kernel
theorem dX11_work_12 : decode cX11_work 12 = .ok (.getfield 111, 3) := by decide +kernel
theorem dX11_work_15 : decode cX11_work 15 = .ok (.if_icmp .gt 14, 3) := by decide +kernel
theorem dX11_work_18 : decode cX11_work 18 = .ok (.iload_n 1, 1) := by decide +kernel
theorem dX11_work_19 : decode cX11_work 19 = .ok (.sipush 150, 3) := by decide +kernel
theorem dX11_work_22 : decode cX11_work 22 = .ok (.if_icmp .gt 7, 3) := by decide +kernel
theorem dX11_work_25 : decode cX11_work 25 = .ok (.iconst 1, 1) := by decide +kernel
theorem dX11_work_26 : decode cX11_work 26 = .ok (.goto 4, 3) := by decide +kernel
theorem dX11_work_29 : decode cX11_work 29 = .ok (.iconst 0, 1) := by decide +kernel
theorem dX11_work_30 : decode cX11_work 30 = .ok (.iconst 1, 1) := by decide +kernel
theorem dX11_work_31 : decode cX11_work 31 = .ok (.iconst 1, 1) := by decide +kernel
theorem dX11_work_32 : decode cX11_work 32 = .ok (.invokevirtual 213, 3) := by decide +kernel
theorem dX11_work_35 : decode cX11_work 35 = .ok (.ifCond .ne 5, 3) := by decide +kernel
theorem dX11_work_38 : decode cX11_work 38 = .ok (.iconst 0, 1) := by decide +kernel
theorem dX11_work_39 : decode cX11_work 39 = .ok (.ireturn, 1) := by decide +kernel
theorem dX11_work_40 : decode cX11_work 40 = .ok (.aload_n 0, 1) := by decide +kernel
theorem dX11_work_41 : decode cX11_work 41 = .ok (.iload_n 1, 1) := by decide +kernel
theorem dX11_work_42 : decode cX11_work 42 = .ok (.invokevirtual 217, 3) := by decide +kernel
theorem dX11_work_45 : decode cX11_work 45 = .ok (.aload_n 0, 1) := by decide +kernel
theorem dX11_work_46 : decode cX11_work 46 = .ok (.getfield 185, 3) := by decide +kernel
theorem dX11_work_49 : decode cX11_work 49 = .ok (.bipush 16, 2) := by decide +kernel
theorem dX11_work_51 : decode cX11_work 51 = .ok (.if_icmp .ne 12, 3) := by decide +kernel
theorem dX11_work_54 : decode cX11_work 54 = .ok (.aload_n 0, 1) := by decide +kernel
theorem dX11_work_55 : decode cX11_work 55 = .ok (.iconst 0, 1) := by decide +kernel
theorem dX11_work_56 : decode cX11_work 56 = .ok (.invokevirtual 242, 3) := by decide +kernel
theorem dX11_work_59 : decode cX11_work 59 = .ok (.pop, 1) := by decide +kernel
theorem dX11_work_60 : decode cX11_work 60 = .ok (.bipush (-20), 2) := by decide +kernel
theorem dX11_work_62 : decode cX11_work 62 = .ok (.ireturn, 1) := by decide +kernel
theorem dX11_work_63 : decode cX11_work 63 = .ok (.aload_n 0, 1) := by decide +kernel
theorem dX11_work_64 : decode cX11_work 64 = .ok (.iconst 0, 1) := by decide +kernel
theorem dX11_work_65 : decode cX11_work 65 = .ok (.putfield 295, 3) := by decide +kernel
theorem dX11_work_68 : decode cX11_work 68 = .ok (.aload_n 0, 1) := by decide +kernel
theorem dX11_work_69 : decode cX11_work 69 = .ok (.invokevirtual 143, 3) := by decide +kernel
theorem dX11_work_72 : decode cX11_work 72 = .ok (.ifCond .eq 17, 3) := by decide +kernel
theorem dX11_work_75 : decode cX11_work 75 = .ok (.aload_n 0, 1) := by decide +kernel
theorem dX11_work_76 : decode cX11_work 76 = .ok (.invokevirtual 221, 3) := by decide +kernel
theorem dX11_work_79 : decode cX11_work 79 = .ok (.ifCond .eq 10, 3) := by decide +kernel
theorem dX11_work_82 : decode cX11_work 82 = .ok (.aload_n 0, 1) := by decide +kernel
theorem dX11_work_83 : decode cX11_work 83 = .ok (.invokevirtual 313, 3) := by decide +kernel
theorem dX11_work_86 : decode cX11_work 86 = .ok (.goto (-18), 3) := by decide +kernel
theorem dX11_work_89 : decode cX11_work 89 = .ok (.aload_n 0, 1) := by decide +kernel
theorem dX11_work_90 : decode cX11_work 90 = .ok (.iconst 0, 1) := by decide +kernel
theorem dX11_work_91 : decode cX11_work 91 = .ok (.invokevirtual 242, 3) := by decide +kernel
theorem dX11_work_94 : decode cX11_work 94 = .ok (.istore_n 2, 1) := by decide +kernel
theorem dX11_work_95 : decode cX11_work 95 = .ok (.aload_n 0, 1) := by decide +kernel
theorem dX11_work_96 : decode cX11_work 96 = .ok (.getfield 114, 3) := by decide +kernel
theorem dX11_work_99 : decode cX11_work 99 = .ok (.iconst (-1), 1) := by decide +kernel
theorem dX11_work_100 : decode cX11_work 100 = .ok (.if_icmp .eq 5, 3) := by decide +kernel
theorem dX11_work_103 : decode cX11_work 103 = .ok (.iload_n 2, 1) := by decide +kernel
theorem dX11_work_104 : decode cX11_work 104 = .ok (.ireturn, 1) := by decide +kernel
theorem dX11_work_105 : decode cX11_work 105 = .ok (.aload_n 0, 1) := by decide +kernel
theorem dX11_work_106 : decode cX11_work 106 = .ok (.aload_n 0, 1) := by decide +kernel
theorem dX11_work_107 : decode cX11_work 107 = .ok (.getfield 62, 3) := by decide +kernel
theorem dX11_work_110 : decode cX11_work 110 = .ok (.aload_n 0, 1) := by decide +kernel
theorem dX11_work_111 : decode cX11_work 111 = .ok (.getfield 65, 3) := by decide +kernel
theorem dX11_work_114 : decode cX11_work 114 = .ok (.aload_n 0, 1) := by decide +kernel
theorem dX11_work_115 : decode cX11_work 115 = .ok (.getfield 295, 3) := by decide +kernel
theorem dX11_work_118 : decode cX11_work 118 = .ok (.invokevirtual 175, 3) := by decide +kernel
theorem dX11_work_121 : decode cX11_work 121 = .ok (.iconst 0, 1) := by decide +kernel
theorem dX11_work_122 : decode cX11_work 122 = .ok (.istore_n 3, 1) := by decide +kernel
theorem dX11_work_123 : decode cX11_work 123 = .ok (.iload_n 3, 1) := by decide +kernel
theorem dX11_work_124 : decode cX11_work 124 = .ok (.bipush 68, 2) := by decide +kernel
theorem dX11_work_126 : decode cX11_work 126 = .ok (.if_icmp .ge 29, 3) := by decide +kernel
theorem dX11_work_129 : decode cX11_work 129 = .ok (.aload_n 0, 1) := by decide +kernel
theorem dX11_work_130 : decode cX11_work 130 = .ok (.getfield 74, 3) := by decide +kernel
theorem dX11_work_133 : decode cX11_work 133 = .ok (.bipush 68, 2) := by decide +kernel
theorem dX11_work_135 : decode cX11_work 135 = .ok (.aload_n 0, 1) := by decide +kernel
theorem dX11_work_136 : decode cX11_work 136 = .ok (.getfield 185, 3) := by decide +kernel
theorem dX11_work_139 : decode cX11_work 139 = .ok (.imul, 1) := by decide +kernel
theorem dX11_work_140 : decode cX11_work 140 = .ok (.iload_n 3, 1) := by decide +kernel
theorem dX11_work_141 : decode cX11_work 141 = .ok (.iadd, 1) := by decide +kernel
theorem dX11_work_142 : decode cX11_work 142 = .ok (.aload_n 0, 1) := by decide +kernel
theorem dX11_work_143 : decode cX11_work 143 = .ok (.getfield 68, 3) := by decide +kernel
theorem dX11_work_146 : decode cX11_work 146 = .ok (.iload_n 3, 1) := by decide +kernel
theorem dX11_work_147 : decode cX11_work 147 = .ok (.iaload, 1) := by decide +kernel
theorem dX11_work_148 : decode cX11_work 148 = .ok (.iastore, 1) := by decide +kernel
theorem dX11_work_149 : decode cX11_work 149 = .ok (.iinc 3 1, 3) := by decide +kernel
theorem dX11_work_152 : decode cX11_work 152 = .ok (.goto (-29), 3) := by decide +kernel
theorem dX11_work_155 : decode cX11_work 155 = .ok (.aload_n 0, 1) := by decide +kernel
theorem dX11_work_156 : decode cX11_work 156 = .ok (.dup, 1) := by decide +kernel
theorem dX11_work_157 : decode cX11_work 157 = .ok (.getfield 185, 3) := by decide +kernel
theorem dX11_work_160 : decode cX11_work 160 = .ok (.iconst 1, 1) := by decide +kernel
theorem dX11_work_161 : decode cX11_work 161 = .ok (.iadd, 1) := by decide +kernel
theorem dX11_work_162 : decode cX11_work 162 = .ok (.putfield 185, 3) := by decide +kernel
theorem dX11_work_165 : decode cX11_work 165 = .ok (.aload_n 0, 1) := by decide +kernel
theorem dX11_work_166 : decode cX11_work 166 = .ok (.invokevirtual 316, 3) := by decide +kernel
theorem dX11_work_169 : decode cX11_work 169 = .ok (.aload_n 0, 1) := by decide +kernel
theorem dX11_work_170 : decode cX11_work 170 = .ok (.iconst 0, 1) := by decide +kernel
theorem dX11_work_171 : decode cX11_work 171 = .ok (.putfield 319, 3) := by decide +kernel
theorem dX11_work_174 : decode cX11_work 174 = .ok (.aload_n 0, 1) := by decide +kernel
theorem dX11_work_175 : decode cX11_work 175 = .ok (.iconst 0, 1) := by decide +kernel
theorem dX11_work_176 : decode cX11_work 176 = .ok (.putfield 322, 3) := by decide +kernel
theorem dX11_work_179 : decode cX11_work 179 = .ok (.aload_n 0, 1) := by decide +kernel
theorem dX11_work_180 : decode cX11_work 180 = .ok (.iconst 0, 1) := by decide +kernel
theorem dX11_work_181 : decode cX11_work 181 = .ok (.putfield 325, 3) := by decide +kernel
theorem dX11_work_184 : decode cX11_work 184 = .ok (.aload_n 0, 1) := by decide +kernel
theorem dX11_work_185 : decode cX11_work 185 = .ok (.iconst 0, 1) := by decide +kernel
theorem dX11_work_186 : decode cX11_work 186 = .ok (.aload_n 0, 1) := by decide +kernel
theorem dX11_work_187 : decode cX11_work 187 = .ok (.getfield 295, 3) := by decide +kernel
theorem dX11_work_190 : decode cX11_work 190 = .ok (.invokevirtual 328, 3) := by decide +kernel
theorem dX11_work_193 : decode cX11_work 193 = .ok (.aload_n 0, 1) := by decide +kernel
theorem dX11_work_194 : decode cX11_work 194 = .ok (.aload_n 0, 1) := by decide +kernel
theorem dX11_work_195 : decode cX11_work 195 = .ok (.getfield 71, 3) := by decide +kernel
theorem dX11_work_198 : decode cX11_work 198 = .ok (.aload_n 0, 1) := by decide +kernel
theorem dX11_work_199 : decode cX11_work 199 = .ok (.getfield 68, 3) := by decide +kernel
theorem dX11_work_202 : decode cX11_work 202 = .ok (.bipush 68, 2) := by decide +kernel
theorem dX11_work_204 : decode cX11_work 204 = .ok (.invokevirtual 175, 3) := by decide +kernel
theorem dX11_work_207 : decode cX11_work 207 = .ok (.aload_n 0, 1) := by decide +kernel
theorem dX11_work_208 : decode cX11_work 208 = .ok (.aload_n 0, 1) := by decide +kernel
theorem dX11_work_209 : decode cX11_work 209 = .ok (.getfield 325, 3) := by decide +kernel
theorem dX11_work_212 : decode cX11_work 212 = .ok (.putfield 191, 3) := by decide +kernel
theorem dX11_work_215 : decode cX11_work 215 = .ok (.aload_n 0, 1) := by decide +kernel
theorem dX11_work_216 : decode cX11_work 216 = .ok (.getfield 322, 3) := by decide +kernel
theorem dX11_work_219 : decode cX11_work 219 = .ok (.ireturn, 1) := by decide +kernel
theorem dX11_goesSteps_0 : decode cX11_goesSteps 0 = .ok (.iload_n 1, 1) := by decide +kernel
theorem dX11_goesSteps_1 : decode cX11_goesSteps 1 = .ok (.istore_n 3, 1) := by decide +kernel
theorem dX11_goesSteps_2 : decode cX11_goesSteps 2 = .ok (.iload_n 3, 1) := by decide +kernel
theorem dX11_goesSteps_3 : decode cX11_goesSteps 3 = .ok (.iload_n 2, 1) := by decide +kernel
theorem dX11_goesSteps_4 : decode cX11_goesSteps 4 = .ok (.if_icmp .ge 156, 3) := by decide +kernel
theorem dX11_goesSteps_7 : decode cX11_goesSteps 7 = .ok (.aload_n 0, 1) := by decide +kernel
theorem dX11_goesSteps_8 : decode cX11_goesSteps 8 = .ok (.getfield 319, 3) := by decide +kernel
theorem dX11_goesSteps_11 : decode cX11_goesSteps 11 = .ok (.sipush 200, 3) := by decide +kernel
theorem dX11_goesSteps_14 : decode cX11_goesSteps 14 = .ok (.if_icmp .ge 146, 3) := by decide +kernel
theorem dX11_goesSteps_17 : decode cX11_goesSteps 17 = .ok (.aload_n 0, 1) := by decide +kernel
theorem dX11_goesSteps_18 : decode cX11_goesSteps 18 = .ok (.dup, 1) := by decide +kernel
theorem dX11_goesSteps_19 : decode cX11_goesSteps 19 = .ok (.getfield 319, 3) := by decide +kernel
theorem dX11_goesSteps_22 : decode cX11_goesSteps 22 = .ok (.iconst 1, 1) := by decide +kernel
theorem dX11_goesSteps_23 : decode cX11_goesSteps 23 = .ok (.iadd, 1) := by decide +kernel
theorem dX11_goesSteps_24 : decode cX11_goesSteps 24 = .ok (.putfield 319, 3) := by decide +kernel
theorem dX11_goesSteps_27 : decode cX11_goesSteps 27 = .ok (.aload_n 0, 1) := by decide +kernel
theorem dX11_goesSteps_28 : decode cX11_goesSteps 28 = .ok (.getfield 65, 3) := by decide +kernel
theorem dX11_goesSteps_31 : decode cX11_goesSteps 31 = .ok (.iload_n 3, 1) := by decide +kernel
theorem dX11_goesSteps_32 : decode cX11_goesSteps 32 = .ok (.iaload, 1) := by decide +kernel
theorem dX11_goesSteps_33 : decode cX11_goesSteps 33 = .ok (.iconst 4, 1) := by decide +kernel
theorem dX11_goesSteps_34 : decode cX11_goesSteps 34 = .ok (.if_icmp .ne 60, 3) := by decide +kernel
theorem dX11_goesSteps_37 : decode cX11_goesSteps 37 = .ok (.aload_n 0, 1) := by decide +kernel
theorem dX11_goesSteps_38 : decode cX11_goesSteps 38 = .ok (.getfield 65, 3) := by decide +kernel
theorem dX11_goesSteps_41 : decode cX11_goesSteps 41 = .ok (.iload_n 3, 1) := by decide +kernel
theorem dX11_goesSteps_42 : decode cX11_goesSteps 42 = .ok (.iconst 2, 1) := by decide +kernel
theorem dX11_goesSteps_43 : decode cX11_goesSteps 43 = .ok (.iadd, 1) := by decide +kernel
theorem dX11_goesSteps_44 : decode cX11_goesSteps 44 = .ok (.iaload, 1) := by decide +kernel
theorem dX11_goesSteps_45 : decode cX11_goesSteps 45 = .ok (.istore 4, 2) := by decide +kernel
theorem dX11_goesSteps_47 : decode cX11_goesSteps 47 = .ok (.iconst 0, 1) := by decide +kernel
theorem dX11_goesSteps_48 : decode cX11_goesSteps 48 = .ok (.istore 5, 2) := by decide +kernel
theorem dX11_goesSteps_50 : decode cX11_goesSteps 50 = .ok (.iload 5, 2) := by decide +kernel
theorem dX11_goesSteps_52 : decode cX11_goesSteps 52 = .ok (.aload_n 0, 1) := by decide +kernel
theorem dX11_goesSteps_53 : decode cX11_goesSteps 53 = .ok (.getfield 65, 3) := by decide +kernel
theorem dX11_goesSteps_56 : decode cX11_goesSteps 56 = .ok (.iload_n 3, 1) := by decide +kernel
theorem dX11_goesSteps_57 : decode cX11_goesSteps 57 = .ok (.iconst 1, 1) := by decide +kernel
theorem dX11_goesSteps_58 : decode cX11_goesSteps 58 = .ok (.iadd, 1) := by decide +kernel
theorem dX11_goesSteps_59 : decode cX11_goesSteps 59 = .ok (.iaload, 1) := by decide +kernel
theorem dX11_goesSteps_60 : decode cX11_goesSteps 60 = .ok (.if_icmp .ge 28, 3) := by decide +kernel
theorem dX11_goesSteps_63 : decode cX11_goesSteps 63 = .ok (.aload_n 0, 1) := by decide +kernel
theorem dX11_goesSteps_64 : decode cX11_goesSteps 64 = .ok (.getfield 319, 3) := by decide +kernel
theorem dX11_goesSteps_67 : decode cX11_goesSteps 67 = .ok (.sipush 200, 3) := by decide +kernel
theorem dX11_goesSteps_70 : decode cX11_goesSteps 70 = .ok (.if_icmp .ge 18, 3) := by decide +kernel
theorem dX11_goesSteps_73 : decode cX11_goesSteps 73 = .ok (.aload_n 0, 1) := by decide +kernel
theorem dX11_goesSteps_74 : decode cX11_goesSteps 74 = .ok (.iload_n 3, 1) := by decide +kernel
theorem dX11_goesSteps_75 : decode cX11_goesSteps 75 = .ok (.iconst 4, 1) := by decide +kernel
theorem dX11_goesSteps_76 : decode cX11_goesSteps 76 = .ok (.iadd, 1) := by decide +kernel
theorem dX11_goesSteps_77 : decode cX11_goesSteps 77 = .ok (.iload 4, 2) := by decide +kernel
theorem dX11_goesSteps_79 : decode cX11_goesSteps 79 = .ok (.invokevirtual 328, 3) := by decide +kernel
theorem dX11_goesSteps_82 : decode cX11_goesSteps 82 = .ok (.iinc 5 1, 3) := by decide +kernel
theorem dX11_goesSteps_85 : decode cX11_goesSteps 85 = .ok (.goto (-35), 3) := by decide +kernel
theorem dX11_goesSteps_88 : decode cX11_goesSteps 88 = .ok (.iload 4, 2) := by decide +kernel
theorem dX11_goesSteps_90 : decode cX11_goesSteps 90 = .ok (.istore_n 3, 1) := by decide +kernel
theorem dX11_goesSteps_91 : decode cX11_goesSteps 91 = .ok (.goto (-89), 3) := by decide +kernel
theorem dX11_goesSteps_94 : decode cX11_goesSteps 94 = .ok (.aload_n 0, 1) := by decide +kernel
theorem dX11_goesSteps_95 : decode cX11_goesSteps 95 = .ok (.aload_n 0, 1) := by decide +kernel
theorem dX11_goesSteps_96 : decode cX11_goesSteps 96 = .ok (.getfield 65, 3) := by decide +kernel
theorem dX11_goesSteps_99 : decode cX11_goesSteps 99 = .ok (.iload_n 3, 1) := by decide +kernel
theorem dX11_goesSteps_100 : decode cX11_goesSteps 100 = .ok (.iaload, 1) := by decide +kernel
theorem dX11_goesSteps_101 : decode cX11_goesSteps 101 = .ok (.aload_n 0, 1) := by decide +kernel
theorem dX11_goesSteps_102 : decode cX11_goesSteps 102 = .ok (.getfield 65, 3) := by decide +kernel
theorem dX11_goesSteps_105 : decode cX11_goesSteps 105 = .ok (.iload_n 3, 1) := by decide +kernel
theorem dX11_goesSteps_106 : decode cX11_goesSteps 106 = .ok (.iconst 1, 1) := by decide +kernel
theorem dX11_goesSteps_107 : decode cX11_goesSteps 107 = .ok (.iadd, 1) := by decide +kernel
theorem dX11_goesSteps_108 : decode cX11_goesSteps 108 = .ok (.iaload, 1) := by decide +kernel
theorem dX11_goesSteps_109 : decode cX11_goesSteps 109 = .ok (.aload_n 0, 1) := by decide +kernel
theorem dX11_goesSteps_110 : decode cX11_goesSteps 110 = .ok (.getfield 65, 3) := by decide +kernel
theorem dX11_goesSteps_113 : decode cX11_goesSteps 113 = .ok (.iload_n 3, 1) := by decide +kernel
theorem dX11_goesSteps_114 : decode cX11_goesSteps 114 = .ok (.iconst 2, 1) := by decide +kernel
theorem dX11_goesSteps_115 : decode cX11_goesSteps 115 = .ok (.iadd, 1) := by decide +kernel
theorem dX11_goesSteps_116 : decode cX11_goesSteps 116 = .ok (.iaload, 1) := by decide +kernel
theorem dX11_goesSteps_117 : decode cX11_goesSteps 117 = .ok (.aload_n 0, 1) := by decide +kernel
theorem dX11_goesSteps_118 : decode cX11_goesSteps 118 = .ok (.getfield 65, 3) := by decide +kernel
theorem dX11_goesSteps_121 : decode cX11_goesSteps 121 = .ok (.iload_n 3, 1) := by decide +kernel
theorem dX11_goesSteps_122 : decode cX11_goesSteps 122 = .ok (.iconst 3, 1) := by decide +kernel
theorem dX11_goesSteps_123 : decode cX11_goesSteps 123 = .ok (.iadd, 1) := by decide +kernel
theorem dX11_goesSteps_124 : decode cX11_goesSteps 124 = .ok (.iaload, 1) := by decide +kernel
theorem dX11_goesSteps_125 : decode cX11_goesSteps 125 = .ok (.invokevirtual 331, 3) := by decide +kernel
theorem dX11_goesSteps_128 : decode cX11_goesSteps 128 = .ok (.ifCond .eq 16, 3) := by decide +kernel
theorem dX11_goesSteps_131 : decode cX11_goesSteps 131 = .ok (.aload_n 0, 1) := by decide +kernel
theorem dX11_goesSteps_132 : decode cX11_goesSteps 132 = .ok (.dup, 1) := by decide +kernel
theorem dX11_goesSteps_133 : decode cX11_goesSteps 133 = .ok (.getfield 322, 3) := by decide +kernel
theorem dX11_goesSteps_136 : decode cX11_goesSteps 136 = .ok (.iconst 1, 1) := by decide +kernel
theorem dX11_goesSteps_137 : decode cX11_goesSteps 137 = .ok (.iadd, 1) := by decide +kernel
theorem dX11_goesSteps_138 : decode cX11_goesSteps 138 = .ok (.putfield 322, 3) := by decide +kernel
theorem dX11_goesSteps_141 : decode cX11_goesSteps 141 = .ok (.goto 13, 3) := by decide +kernel
theorem dX11_goesSteps_144 : decode cX11_goesSteps 144 = .ok (.aload_n 0, 1) := by decide +kernel
theorem dX11_goesSteps_145 : decode cX11_goesSteps 145 = .ok (.dup, 1) := by decide +kernel
theorem dX11_goesSteps_146 : decode cX11_goesSteps 146 = .ok (.getfield 325, 3) := by decide +kernel
theorem dX11_goesSteps_149 : decode cX11_goesSteps 149 = .ok (.iconst 1, 1) := by decide +kernel
theorem dX11_goesSteps_150 : decode cX11_goesSteps 150 = .ok (.iadd, 1) := by decide +kernel
theorem dX11_goesSteps_151 : decode cX11_goesSteps 151 = .ok (.putfield 325, 3) := by decide +kernel
theorem dX11_goesSteps_154 : decode cX11_goesSteps 154 = .ok (.iinc 3 4, 3) := by decide +kernel
theorem dX11_goesSteps_157 : decode cX11_goesSteps 157 = .ok (.goto (-155), 3) := by decide +kernel
theorem dX11_goesSteps_160 : decode cX11_goesSteps 160 = .ok (.return_, 1) := by decide +kernel
theorem dX11_take_0 : decode cX11_take 0 = .ok (.aload_n 0, 1) := by decide +kernel
theorem dX11_take_1 : decode cX11_take 1 = .ok (.aload_n 0, 1) := by decide +kernel
theorem dX11_take_2 : decode cX11_take 2 = .ok (.getfield 68, 3) := by decide +kernel
theorem dX11_take_5 : decode cX11_take 5 = .ok (.aload_n 0, 1) := by decide +kernel
theorem dX11_take_6 : decode cX11_take 6 = .ok (.getfield 71, 3) := by decide +kernel
theorem dX11_take_9 : decode cX11_take 9 = .ok (.bipush 68, 2) := by decide +kernel
theorem dX11_take_11 : decode cX11_take 11 = .ok (.invokevirtual 175, 3) := by decide +kernel
theorem dX11_take_14 : decode cX11_take 14 = .ok (.return_, 1) := by decide +kernel
theorem dX11_size_0 : decode cX11_size 0 = .ok (.iload_n 0, 1) := by decide +kernel
theorem dX11_size_1 : decode cX11_size 1 = .ok (.ifCond .ge 8, 3) := by decide +kernel
theorem dX11_size_4 : decode cX11_size 4 = .ok (.iload_n 0, 1) := by decide +kernel
theorem dX11_size_5 : decode cX11_size 5 = .ok (.ineg, 1) := by decide +kernel
theorem dX11_size_6 : decode cX11_size 6 = .ok (.goto 4, 3) := by decide +kernel
theorem dX11_size_9 : decode cX11_size 9 = .ok (.iload_n 0, 1) := by decide +kernel
theorem dX11_size_10 : decode cX11_size 10 = .ok (.ireturn, 1) := by decide +kernel
theorem dX11_farOf_0 : decode cX11_farOf 0 = .ok (.aload_n 0, 1) := by decide +kernel
theorem dX11_farOf_1 : decode cX11_farOf 1 = .ok (.getfield 35, 3) := by decide +kernel
theorem dX11_farOf_4 : decode cX11_farOf 4 = .ok (.iconst 2, 1) := by decide +kernel
theorem dX11_farOf_5 : decode cX11_farOf 5 = .ok (.iload_n 1, 1) := by decide +kernel
theorem dX11_farOf_6 : decode cX11_farOf 6 = .ok (.imul, 1) := by decide +kernel
theorem dX11_farOf_7 : decode cX11_farOf 7 = .ok (.iaload, 1) := by decide +kernel
theorem dX11_farOf_8 : decode cX11_farOf 8 = .ok (.aload_n 0, 1) := by decide +kernel
theorem dX11_farOf_9 : decode cX11_farOf 9 = .ok (.getfield 35, 3) := by decide +kernel
theorem dX11_farOf_12 : decode cX11_farOf 12 = .ok (.iconst 2, 1) := by decide +kernel
theorem dX11_farOf_13 : decode cX11_farOf 13 = .ok (.iload_n 2, 1) := by decide +kernel
theorem dX11_farOf_14 : decode cX11_farOf 14 = .ok (.imul, 1) := by decide +kernel
theorem dX11_farOf_15 : decode cX11_farOf 15 = .ok (.iaload, 1) := by decide +kernel
theorem dX11_farOf_16 : decode cX11_farOf 16 = .ok (.isub, 1) := by decide +kernel
theorem dX11_farOf_17 : decode cX11_farOf 17 = .ok (.invokestatic 335, 3) := by decide +kernel
theorem dX11_farOf_20 : decode cX11_farOf 20 = .ok (.aload_n 0, 1) := by decide +kernel
theorem dX11_farOf_21 : decode cX11_farOf 21 = .ok (.getfield 35, 3) := by decide +kernel
theorem dX11_farOf_24 : decode cX11_farOf 24 = .ok (.iconst 2, 1) := by decide +kernel
theorem dX11_farOf_25 : decode cX11_farOf 25 = .ok (.iload_n 1, 1) := by decide +kernel
theorem dX11_farOf_26 : decode cX11_farOf 26 = .ok (.imul, 1) := by decide +kernel
theorem dX11_farOf_27 : decode cX11_farOf 27 = .ok (.iconst 1, 1) := by decide +kernel
theorem dX11_farOf_28 : decode cX11_farOf 28 = .ok (.iadd, 1) := by decide +kernel
theorem dX11_farOf_29 : decode cX11_farOf 29 = .ok (.iaload, 1) := by decide +kernel
theorem dX11_farOf_30 : decode cX11_farOf 30 = .ok (.aload_n 0, 1) := by decide +kernel
theorem dX11_farOf_31 : decode cX11_farOf 31 = .ok (.getfield 35, 3) := by decide +kernel
theorem dX11_farOf_34 : decode cX11_farOf 34 = .ok (.iconst 2, 1) := by decide +kernel
theorem dX11_farOf_35 : decode cX11_farOf 35 = .ok (.iload_n 2, 1) := by decide +kernel
theorem dX11_farOf_36 : decode cX11_farOf 36 = .ok (.imul, 1) := by decide +kernel
theorem dX11_farOf_37 : decode cX11_farOf 37 = .ok (.iconst 1, 1) := by decide +kernel
theorem dX11_farOf_38 : decode cX11_farOf 38 = .ok (.iadd, 1) := by decide +kernel
theorem dX11_farOf_39 : decode cX11_farOf 39 = .ok (.iaload, 1) := by decide +kernel
theorem dX11_farOf_40 : decode cX11_farOf 40 = .ok (.isub, 1) := by decide +kernel
theorem dX11_farOf_41 : decode cX11_farOf 41 = .ok (.invokestatic 335, 3) := by decide +kernel
theorem dX11_farOf_44 : decode cX11_farOf 44 = .ok (.iadd, 1) := by decide +kernel
theorem dX11_farOf_45 : decode cX11_farOf 45 = .ok (.ireturn, 1) := by decide +kernel
theorem dX11_isSafe_0 : decode cX11_isSafe 0 = .ok (.iconst 0, 1) := by decide +kernel
theorem dX11_isSafe_1 : decode cX11_isSafe 1 = .ok (.istore_n 2, 1) := by decide +kernel
theorem dX11_isSafe_2 : decode cX11_isSafe 2 = .ok (.iload_n 2, 1) := by decide +kernel
theorem dX11_isSafe_3 : decode cX11_isSafe 3 = .ok (.aload_n 0, 1) := by decide +kernel
theorem dX11_isSafe_4 : decode cX11_isSafe 4 = .ok (.getfield 172, 3) := by decide +kernel
theorem dX11_isSafe_7 : decode cX11_isSafe 7 = .ok (.if_icmp .ge 60, 3) := by decide +kernel
theorem dX11_isSafe_10 : decode cX11_isSafe 10 = .ok (.aload_n 0, 1) := by decide +kernel
theorem dX11_isSafe_11 : decode cX11_isSafe 11 = .ok (.getfield 35, 3) := by decide +kernel
theorem dX11_isSafe_14 : decode cX11_isSafe 14 = .ok (.iconst 2, 1) := by decide +kernel
theorem dX11_isSafe_15 : decode cX11_isSafe 15 = .ok (.iload_n 1, 1) := by decide +kernel
theorem dX11_isSafe_16 : decode cX11_isSafe 16 = .ok (.imul, 1) := by decide +kernel
theorem dX11_isSafe_17 : decode cX11_isSafe 17 = .ok (.iaload, 1) := by decide +kernel
theorem dX11_isSafe_18 : decode cX11_isSafe 18 = .ok (.aload_n 0, 1) := by decide +kernel
theorem dX11_isSafe_19 : decode cX11_isSafe 19 = .ok (.getfield 41, 3) := by decide +kernel
theorem dX11_isSafe_22 : decode cX11_isSafe 22 = .ok (.iconst 2, 1) := by decide +kernel
theorem dX11_isSafe_23 : decode cX11_isSafe 23 = .ok (.iload_n 2, 1) := by decide +kernel
theorem dX11_isSafe_24 : decode cX11_isSafe 24 = .ok (.imul, 1) := by decide +kernel
theorem dX11_isSafe_25 : decode cX11_isSafe 25 = .ok (.iaload, 1) := by decide +kernel
theorem dX11_isSafe_26 : decode cX11_isSafe 26 = .ok (.isub, 1) := by decide +kernel
theorem dX11_isSafe_27 : decode cX11_isSafe 27 = .ok (.invokestatic 335, 3) := by decide +kernel
theorem dX11_isSafe_30 : decode cX11_isSafe 30 = .ok (.aload_n 0, 1) := by decide +kernel
theorem dX11_isSafe_31 : decode cX11_isSafe 31 = .ok (.getfield 35, 3) := by decide +kernel
theorem dX11_isSafe_34 : decode cX11_isSafe 34 = .ok (.iconst 2, 1) := by decide +kernel
theorem dX11_isSafe_35 : decode cX11_isSafe 35 = .ok (.iload_n 1, 1) := by decide +kernel
theorem dX11_isSafe_36 : decode cX11_isSafe 36 = .ok (.imul, 1) := by decide +kernel
theorem dX11_isSafe_37 : decode cX11_isSafe 37 = .ok (.iconst 1, 1) := by decide +kernel
theorem dX11_isSafe_38 : decode cX11_isSafe 38 = .ok (.iadd, 1) := by decide +kernel
theorem dX11_isSafe_39 : decode cX11_isSafe 39 = .ok (.iaload, 1) := by decide +kernel
theorem dX11_isSafe_40 : decode cX11_isSafe 40 = .ok (.aload_n 0, 1) := by decide +kernel
theorem dX11_isSafe_41 : decode cX11_isSafe 41 = .ok (.getfield 41, 3) := by decide +kernel
theorem dX11_isSafe_44 : decode cX11_isSafe 44 = .ok (.iconst 2, 1) := by decide +kernel
theorem dX11_isSafe_45 : decode cX11_isSafe 45 = .ok (.iload_n 2, 1) := by decide +kernel
theorem dX11_isSafe_46 : decode cX11_isSafe 46 = .ok (.imul, 1) := by decide +kernel
theorem dX11_isSafe_47 : decode cX11_isSafe 47 = .ok (.iconst 1, 1) := by decide +kernel
theorem dX11_isSafe_48 : decode cX11_isSafe 48 = .ok (.iadd, 1) := by decide +kernel
theorem dX11_isSafe_49 : decode cX11_isSafe 49 = .ok (.iaload, 1) := by decide +kernel
theorem dX11_isSafe_50 : decode cX11_isSafe 50 = .ok (.isub, 1) := by decide +kernel
theorem dX11_isSafe_51 : decode cX11_isSafe 51 = .ok (.invokestatic 335, 3) := by decide +kernel
theorem dX11_isSafe_54 : decode cX11_isSafe 54 = .ok (.iadd, 1) := by decide +kernel
theorem dX11_isSafe_55 : decode cX11_isSafe 55 = .ok (.iconst 3, 1) := by decide +kernel
theorem dX11_isSafe_56 : decode cX11_isSafe 56 = .ok (.if_icmp .gt 5, 3) := by decide +kernel
theorem dX11_isSafe_59 : decode cX11_isSafe 59 = .ok (.iconst 0, 1) := by decide +kernel
theorem dX11_isSafe_60 : decode cX11_isSafe 60 = .ok (.ireturn, 1) := by decide +kernel
theorem dX11_isSafe_61 : decode cX11_isSafe 61 = .ok (.iinc 2 1, 3) := by decide +kernel
theorem dX11_isSafe_64 : decode cX11_isSafe 64 = .ok (.goto (-62), 3) := by decide +kernel
theorem dX11_isSafe_67 : decode cX11_isSafe 67 = .ok (.iconst 1, 1) := by decide +kernel
theorem dX11_isSafe_68 : decode cX11_isSafe 68 = .ok (.ireturn, 1) := by decide +kernel
theorem dX11_isCaught_0 : decode cX11_isCaught 0 = .ok (.aload_n 0, 1) := by decide +kernel
theorem dX11_isCaught_1 : decode cX11_isCaught 1 = .ok (.getfield 71, 3) := by decide +kernel
theorem dX11_isCaught_4 : decode cX11_isCaught 4 = .ok (.iconst 0, 1) := by decide +kernel
theorem dX11_isCaught_5 : decode cX11_isCaught 5 = .ok (.iload_n 1, 1) := by decide +kernel
theorem dX11_isCaught_6 : decode cX11_isCaught 6 = .ok (.iadd, 1) := by decide +kernel
theorem dX11_isCaught_7 : decode cX11_isCaught 7 = .ok (.iaload, 1) := by decide +kernel
theorem dX11_isCaught_8 : decode cX11_isCaught 8 = .ok (.iconst (-1), 1) := by decide +kernel
theorem dX11_isCaught_9 : decode cX11_isCaught 9 = .ok (.if_icmp .ne 7, 3) := by decide +kernel
theorem dX11_isCaught_12 : decode cX11_isCaught 12 = .ok (.iconst 1, 1) := by decide +kernel
theorem dX11_isCaught_13 : decode cX11_isCaught 13 = .ok (.goto 4, 3) := by decide +kernel
theorem dX11_isCaught_16 : decode cX11_isCaught 16 = .ok (.iconst 0, 1) := by decide +kernel
theorem dX11_isCaught_17 : decode cX11_isCaught 17 = .ok (.ireturn, 1) := by decide +kernel
theorem dX11_sitIn_0 : decode cX11_sitIn 0 = .ok (.iconst 0, 1) := by decide +kernel
theorem dX11_sitIn_1 : decode cX11_sitIn 1 = .ok (.istore_n 2, 1) := by decide +kernel
theorem dX11_sitIn_2 : decode cX11_sitIn 2 = .ok (.iconst 0, 1) := by decide +kernel
theorem dX11_sitIn_3 : decode cX11_sitIn 3 = .ok (.istore_n 3, 1) := by decide +kernel
theorem dX11_sitIn_4 : decode cX11_sitIn 4 = .ok (.iload_n 3, 1) := by decide +kernel
theorem dX11_sitIn_5 : decode cX11_sitIn 5 = .ok (.aload_n 0, 1) := by decide +kernel
theorem dX11_sitIn_6 : decode cX11_sitIn 6 = .ok (.getfield 169, 3) := by decide +kernel
theorem dX11_sitIn_9 : decode cX11_sitIn 9 = .ok (.if_icmp .ge 31, 3) := by decide +kernel
theorem dX11_sitIn_12 : decode cX11_sitIn 12 = .ok (.iload_n 2, 1) := by decide +kernel
theorem dX11_sitIn_13 : decode cX11_sitIn 13 = .ok (.aload_n 0, 1) := by decide +kernel
theorem dX11_sitIn_14 : decode cX11_sitIn 14 = .ok (.getfield 71, 3) := by decide +kernel
theorem dX11_sitIn_17 : decode cX11_sitIn 17 = .ok (.iconst 0, 1) := by decide +kernel
theorem dX11_sitIn_18 : decode cX11_sitIn 18 = .ok (.iload_n 3, 1) := by decide +kernel
theorem dX11_sitIn_19 : decode cX11_sitIn 19 = .ok (.iadd, 1) := by decide +kernel
theorem dX11_sitIn_20 : decode cX11_sitIn 20 = .ok (.iaload, 1) := by decide +kernel
theorem dX11_sitIn_21 : decode cX11_sitIn 21 = .ok (.iload_n 1, 1) := by decide +kernel
theorem dX11_sitIn_22 : decode cX11_sitIn 22 = .ok (.if_icmp .ne 9, 3) := by decide +kernel
theorem dX11_sitIn_25 : decode cX11_sitIn 25 = .ok (.iconst 1, 1) := by decide +kernel
theorem dX11_sitIn_26 : decode cX11_sitIn 26 = .ok (.iload_n 3, 1) := by decide +kernel
theorem dX11_sitIn_27 : decode cX11_sitIn 27 = .ok (.ishl, 1) := by decide +kernel
theorem dX11_sitIn_28 : decode cX11_sitIn 28 = .ok (.goto 4, 3) := by decide +kernel
theorem dX11_sitIn_31 : decode cX11_sitIn 31 = .ok (.iconst 0, 1) := by decide +kernel
theorem dX11_sitIn_32 : decode cX11_sitIn 32 = .ok (.ior, 1) := by decide +kernel
theorem dX11_sitIn_33 : decode cX11_sitIn 33 = .ok (.istore_n 2, 1) := by decide +kernel
theorem dX11_sitIn_34 : decode cX11_sitIn 34 = .ok (.iinc 3 1, 3) := by decide +kernel
theorem dX11_sitIn_37 : decode cX11_sitIn 37 = .ok (.goto (-33), 3) := by decide +kernel
theorem dX11_sitIn_40 : decode cX11_sitIn 40 = .ok (.iload_n 2, 1) := by decide +kernel
theorem dX11_sitIn_41 : decode cX11_sitIn 41 = .ok (.ireturn, 1) := by decide +kernel
theorem dX11_ones_0 : decode cX11_ones 0 = .ok (.iconst 0, 1) := by decide +kernel
theorem dX11_ones_1 : decode cX11_ones 1 = .ok (.istore_n 1, 1) := by decide +kernel
theorem dX11_ones_2 : decode cX11_ones 2 = .ok (.iconst 0, 1) := by decide +kernel
theorem dX11_ones_3 : decode cX11_ones 3 = .ok (.istore_n 2, 1) := by decide +kernel
theorem dX11_ones_4 : decode cX11_ones 4 = .ok (.iload_n 2, 1) := by decide +kernel
theorem dX11_ones_5 : decode cX11_ones 5 = .ok (.bipush 8, 2) := by decide +kernel
theorem dX11_ones_7 : decode cX11_ones 7 = .ok (.if_icmp .ge 17, 3) := by decide +kernel
theorem dX11_ones_10 : decode cX11_ones 10 = .ok (.iload_n 1, 1) := by decide +kernel
theorem dX11_ones_11 : decode cX11_ones 11 = .ok (.iload_n 0, 1) := by decide +kernel
theorem dX11_ones_12 : decode cX11_ones 12 = .ok (.iload_n 2, 1) := by decide +kernel
theorem dX11_ones_13 : decode cX11_ones 13 = .ok (.ishr, 1) := by decide +kernel
theorem dX11_ones_14 : decode cX11_ones 14 = .ok (.iconst 1, 1) := by decide +kernel
theorem dX11_ones_15 : decode cX11_ones 15 = .ok (.iand, 1) := by decide +kernel
theorem dX11_ones_16 : decode cX11_ones 16 = .ok (.iadd, 1) := by decide +kernel
theorem dX11_ones_17 : decode cX11_ones 17 = .ok (.istore_n 1, 1) := by decide +kernel
theorem dX11_ones_18 : decode cX11_ones 18 = .ok (.iinc 2 1, 3) := by decide +kernel
theorem dX11_ones_21 : decode cX11_ones 21 = .ok (.goto (-17), 3) := by decide +kernel
theorem dX11_ones_24 : decode cX11_ones 24 = .ok (.iload_n 1, 1) := by decide +kernel
theorem dX11_ones_25 : decode cX11_ones 25 = .ok (.ireturn, 1) := by decide +kernel
theorem dX11_owes_0 : decode cX11_owes 0 = .ok (.iconst 0, 1) := by decide +kernel
theorem dX11_owes_1 : decode cX11_owes 1 = .ok (.istore_n 2, 1) := by decide +kernel
theorem dX11_owes_2 : decode cX11_owes 2 = .ok (.iconst 0, 1) := by decide +kernel
theorem dX11_owes_3 : decode cX11_owes 3 = .ok (.istore_n 3, 1) := by decide +kernel
theorem dX11_owes_4 : decode cX11_owes 4 = .ok (.iload_n 3, 1) := by decide +kernel
theorem dX11_owes_5 : decode cX11_owes 5 = .ok (.aload_n 0, 1) := by decide +kernel
theorem dX11_owes_6 : decode cX11_owes 6 = .ok (.getfield 169, 3) := by decide +kernel
theorem dX11_owes_9 : decode cX11_owes 9 = .ok (.if_icmp .ge 26, 3) := by decide +kernel
theorem dX11_owes_12 : decode cX11_owes 12 = .ok (.iload_n 2, 1) := by decide +kernel
theorem dX11_owes_13 : decode cX11_owes 13 = .ok (.aload_n 0, 1) := by decide +kernel
theorem dX11_owes_14 : decode cX11_owes 14 = .ok (.getfield 71, 3) := by decide +kernel
theorem dX11_owes_17 : decode cX11_owes 17 = .ok (.bipush 30, 2) := by decide +kernel
theorem dX11_owes_19 : decode cX11_owes 19 = .ok (.bipush 6, 2) := by decide +kernel
theorem dX11_owes_21 : decode cX11_owes 21 = .ok (.iload_n 1, 1) := by decide +kernel
theorem dX11_owes_22 : decode cX11_owes 22 = .ok (.imul, 1) := by decide +kernel
theorem dX11_owes_23 : decode cX11_owes 23 = .ok (.iadd, 1) := by decide +kernel
theorem dX11_owes_24 : decode cX11_owes 24 = .ok (.iload_n 3, 1) := by decide +kernel
theorem dX11_owes_25 : decode cX11_owes 25 = .ok (.iadd, 1) := by decide +kernel
theorem dX11_owes_26 : decode cX11_owes 26 = .ok (.iaload, 1) := by decide +kernel
theorem dX11_owes_27 : decode cX11_owes 27 = .ok (.iadd, 1) := by decide +kernel
theorem dX11_owes_28 : decode cX11_owes 28 = .ok (.istore_n 2, 1) := by decide +kernel
theorem dX11_owes_29 : decode cX11_owes 29 = .ok (.iinc 3 1, 3) := by decide +kernel
theorem dX11_owes_32 : decode cX11_owes 32 = .ok (.goto (-28), 3) := by decide +kernel
theorem dX11_owes_35 : decode cX11_owes 35 = .ok (.iload_n 2, 1) := by decide +kernel
theorem dX11_owes_36 : decode cX11_owes 36 = .ok (.ireturn, 1) := by decide +kernel
theorem dX11_isOwed_0 : decode cX11_isOwed 0 = .ok (.iconst 0, 1) := by decide +kernel
theorem dX11_isOwed_1 : decode cX11_isOwed 1 = .ok (.istore_n 2, 1) := by decide +kernel
theorem dX11_isOwed_2 : decode cX11_isOwed 2 = .ok (.iconst 0, 1) := by decide +kernel
theorem dX11_isOwed_3 : decode cX11_isOwed 3 = .ok (.istore_n 3, 1) := by decide +kernel
theorem dX11_isOwed_4 : decode cX11_isOwed 4 = .ok (.iload_n 3, 1) := by decide +kernel
theorem dX11_isOwed_5 : decode cX11_isOwed 5 = .ok (.aload_n 0, 1) := by decide +kernel
theorem dX11_isOwed_6 : decode cX11_isOwed 6 = .ok (.getfield 169, 3) := by decide +kernel
theorem dX11_isOwed_9 : decode cX11_isOwed 9 = .ok (.if_icmp .ge 26, 3) := by decide +kernel
theorem dX11_isOwed_12 : decode cX11_isOwed 12 = .ok (.iload_n 2, 1) := by decide +kernel
theorem dX11_isOwed_13 : decode cX11_isOwed 13 = .ok (.aload_n 0, 1) := by decide +kernel
theorem dX11_isOwed_14 : decode cX11_isOwed 14 = .ok (.getfield 71, 3) := by decide +kernel
theorem dX11_isOwed_17 : decode cX11_isOwed 17 = .ok (.bipush 30, 2) := by decide +kernel
theorem dX11_isOwed_19 : decode cX11_isOwed 19 = .ok (.bipush 6, 2) := by decide +kernel
theorem dX11_isOwed_21 : decode cX11_isOwed 21 = .ok (.iload_n 3, 1) := by decide +kernel
theorem dX11_isOwed_22 : decode cX11_isOwed 22 = .ok (.imul, 1) := by decide +kernel
theorem dX11_isOwed_23 : decode cX11_isOwed 23 = .ok (.iadd, 1) := by decide +kernel
theorem dX11_isOwed_24 : decode cX11_isOwed 24 = .ok (.iload_n 1, 1) := by decide +kernel
theorem dX11_isOwed_25 : decode cX11_isOwed 25 = .ok (.iadd, 1) := by decide +kernel
theorem dX11_isOwed_26 : decode cX11_isOwed 26 = .ok (.iaload, 1) := by decide +kernel
theorem dX11_isOwed_27 : decode cX11_isOwed 27 = .ok (.iadd, 1) := by decide +kernel
theorem dX11_isOwed_28 : decode cX11_isOwed 28 = .ok (.istore_n 2, 1) := by decide +kernel
theorem dX11_isOwed_29 : decode cX11_isOwed 29 = .ok (.iinc 3 1, 3) := by decide +kernel
theorem dX11_isOwed_32 : decode cX11_isOwed 32 = .ok (.goto (-28), 3) := by decide +kernel
theorem dX11_isOwed_35 : decode cX11_isOwed 35 = .ok (.iload_n 2, 1) := by decide +kernel
theorem dX11_isOwed_36 : decode cX11_isOwed 36 = .ok (.ireturn, 1) := by decide +kernel
theorem dX11_leapOf_0 : decode cX11_leapOf 0 = .ok (.aload_n 0, 1) := by decide +kernel
theorem dX11_leapOf_1 : decode cX11_leapOf 1 = .ok (.getfield 59, 3) := by decide +kernel
theorem dX11_leapOf_4 : decode cX11_leapOf 4 = .ok (.iconst 0, 1) := by decide +kernel
theorem dX11_leapOf_5 : decode cX11_leapOf 5 = .ok (.iload_n 1, 1) := by decide +kernel
theorem dX11_leapOf_6 : decode cX11_leapOf 6 = .ok (.iastore, 1) := by decide +kernel
theorem dX11_leapOf_7 : decode cX11_leapOf 7 = .ok (.aload_n 0, 1) := by decide +kernel
theorem dX11_leapOf_8 : decode cX11_leapOf 8 = .ok (.getfield 59, 3) := by decide +kernel
theorem dX11_leapOf_11 : decode cX11_leapOf 11 = .ok (.iconst 1, 1) := by decide +kernel
theorem dX11_leapOf_12 : decode cX11_leapOf 12 = .ok (.iload_n 2, 1) := by decide +kernel
theorem dX11_leapOf_13 : decode cX11_leapOf 13 = .ok (.iastore, 1) := by decide +kernel
theorem dX11_leapOf_14 : decode cX11_leapOf 14 = .ok (.aload_n 0, 1) := by decide +kernel
theorem dX11_leapOf_15 : decode cX11_leapOf 15 = .ok (.getfield 59, 3) := by decide +kernel
theorem dX11_leapOf_18 : decode cX11_leapOf 18 = .ok (.iconst 2, 1) := by decide +kernel
theorem dX11_leapOf_19 : decode cX11_leapOf 19 = .ok (.iload_n 3, 1) := by decide +kernel
theorem dX11_leapOf_20 : decode cX11_leapOf 20 = .ok (.iastore, 1) := by decide +kernel
theorem dX11_leapOf_21 : decode cX11_leapOf 21 = .ok (.aload_n 0, 1) := by decide +kernel
theorem dX11_leapOf_22 : decode cX11_leapOf 22 = .ok (.getfield 59, 3) := by decide +kernel
theorem dX11_leapOf_25 : decode cX11_leapOf 25 = .ok (.iconst 3, 1) := by decide +kernel
theorem dX11_leapOf_26 : decode cX11_leapOf 26 = .ok (.iload 4, 2) := by decide +kernel
theorem dX11_leapOf_28 : decode cX11_leapOf 28 = .ok (.iastore, 1) := by decide +kernel
theorem dX11_leapOf_29 : decode cX11_leapOf 29 = .ok (.aload_n 0, 1) := by decide +kernel
theorem dX11_leapOf_30 : decode cX11_leapOf 30 = .ok (.getfield 59, 3) := by decide +kernel
theorem dX11_leapOf_33 : decode cX11_leapOf 33 = .ok (.iconst 4, 1) := by decide +kernel
theorem dX11_leapOf_34 : decode cX11_leapOf 34 = .ok (.iload 5, 2) := by decide +kernel
theorem dX11_leapOf_36 : decode cX11_leapOf 36 = .ok (.iastore, 1) := by decide +kernel
theorem dX11_leapOf_37 : decode cX11_leapOf 37 = .ok (.aload_n 0, 1) := by decide +kernel
theorem dX11_leapOf_38 : decode cX11_leapOf 38 = .ok (.getfield 59, 3) := by decide +kernel
theorem dX11_leapOf_41 : decode cX11_leapOf 41 = .ok (.iconst 5, 1) := by decide +kernel
theorem dX11_leapOf_42 : decode cX11_leapOf 42 = .ok (.iload 6, 2) := by decide +kernel
theorem dX11_leapOf_44 : decode cX11_leapOf 44 = .ok (.iastore, 1) := by decide +kernel
theorem dX11_leapOf_45 : decode cX11_leapOf 45 = .ok (.aload_n 0, 1) := by decide +kernel
theorem dX11_leapOf_46 : decode cX11_leapOf 46 = .ok (.getfield 59, 3) := by decide +kernel
theorem dX11_leapOf_49 : decode cX11_leapOf 49 = .ok (.bipush 6, 2) := by decide +kernel
theorem dX11_leapOf_51 : decode cX11_leapOf 51 = .ok (.iload 7, 2) := by decide +kernel
theorem dX11_leapOf_53 : decode cX11_leapOf 53 = .ok (.iastore, 1) := by decide +kernel
theorem dX11_leapOf_54 : decode cX11_leapOf 54 = .ok (.aload_n 0, 1) := by decide +kernel
theorem dX11_leapOf_55 : decode cX11_leapOf 55 = .ok (.getfield 59, 3) := by decide +kernel
theorem dX11_leapOf_58 : decode cX11_leapOf 58 = .ok (.bipush 7, 2) := by decide +kernel
theorem dX11_leapOf_60 : decode cX11_leapOf 60 = .ok (.iload 8, 2) := by decide +kernel
theorem dX11_leapOf_62 : decode cX11_leapOf 62 = .ok (.iastore, 1) := by decide +kernel
theorem dX11_leapOf_63 : decode cX11_leapOf 63 = .ok (.aload_n 0, 1) := by decide +kernel
theorem dX11_leapOf_64 : decode cX11_leapOf 64 = .ok (.invokevirtual 337, 3) := by decide +kernel
theorem dX11_leapOf_67 : decode cX11_leapOf 67 = .ok (.ireturn, 1) := by decide +kernel
theorem dX11_leapBy_0 : decode cX11_leapBy 0 = .ok (.aload_n 0, 1) := by decide +kernel
theorem dX11_leapBy_1 : decode cX11_leapBy 1 = .ok (.iload_n 1, 1) := by decide +kernel
theorem dX11_leapBy_2 : decode cX11_leapBy 2 = .ok (.invokevirtual 340, 3) := by decide +kernel
theorem dX11_leapBy_5 : decode cX11_leapBy 5 = .ok (.ifCond .eq 7, 3) := by decide +kernel
theorem dX11_leapBy_8 : decode cX11_leapBy 8 = .ok (.iconst 0, 1) := by decide +kernel
theorem dX11_leapBy_9 : decode cX11_leapBy 9 = .ok (.goto 69, 3) := by decide +kernel
theorem dX11_leapBy_12 : decode cX11_leapBy 12 = .ok (.aload_n 0, 1) := by decide +kernel
theorem dX11_leapBy_13 : decode cX11_leapBy 13 = .ok (.aload_n 0, 1) := by decide +kernel
theorem dX11_leapBy_14 : decode cX11_leapBy 14 = .ok (.getfield 71, 3) := by decide +kernel
theorem dX11_leapBy_17 : decode cX11_leapBy 17 = .ok (.bipush 6, 2) := by decide +kernel
theorem dX11_leapBy_19 : decode cX11_leapBy 19 = .ok (.iload_n 1, 1) := by decide +kernel
theorem dX11_leapBy_20 : decode cX11_leapBy 20 = .ok (.iadd, 1) := by decide +kernel
theorem dX11_leapBy_21 : decode cX11_leapBy 21 = .ok (.iaload, 1) := by decide +kernel
theorem dX11_leapBy_22 : decode cX11_leapBy 22 = .ok (.aload_n 0, 1) := by decide +kernel
theorem dX11_leapBy_23 : decode cX11_leapBy 23 = .ok (.getfield 71, 3) := by decide +kernel
theorem dX11_leapBy_26 : decode cX11_leapBy 26 = .ok (.bipush 12, 2) := by decide +kernel
theorem dX11_leapBy_28 : decode cX11_leapBy 28 = .ok (.iload_n 1, 1) := by decide +kernel
theorem dX11_leapBy_29 : decode cX11_leapBy 29 = .ok (.iadd, 1) := by decide +kernel
theorem dX11_leapBy_30 : decode cX11_leapBy 30 = .ok (.iaload, 1) := by decide +kernel
theorem dX11_leapBy_31 : decode cX11_leapBy 31 = .ok (.aload_n 0, 1) := by decide +kernel
theorem dX11_leapBy_32 : decode cX11_leapBy 32 = .ok (.iload_n 1, 1) := by decide +kernel
theorem dX11_leapBy_33 : decode cX11_leapBy 33 = .ok (.invokevirtual 343, 3) := by decide +kernel
theorem dX11_leapBy_36 : decode cX11_leapBy 36 = .ok (.aload_n 0, 1) := by decide +kernel
theorem dX11_leapBy_37 : decode cX11_leapBy 37 = .ok (.iload_n 1, 1) := by decide +kernel
theorem dX11_leapBy_38 : decode cX11_leapBy 38 = .ok (.invokevirtual 345, 3) := by decide +kernel
theorem dX11_leapBy_41 : decode cX11_leapBy 41 = .ok (.aload_n 0, 1) := by decide +kernel
theorem dX11_leapBy_42 : decode cX11_leapBy 42 = .ok (.aload_n 0, 1) := by decide +kernel
theorem dX11_leapBy_43 : decode cX11_leapBy 43 = .ok (.getfield 71, 3) := by decide +kernel
theorem dX11_leapBy_46 : decode cX11_leapBy 46 = .ok (.iconst 0, 1) := by decide +kernel
theorem dX11_leapBy_47 : decode cX11_leapBy 47 = .ok (.iload_n 1, 1) := by decide +kernel
theorem dX11_leapBy_48 : decode cX11_leapBy 48 = .ok (.iadd, 1) := by decide +kernel
theorem dX11_leapBy_49 : decode cX11_leapBy 49 = .ok (.iaload, 1) := by decide +kernel
theorem dX11_leapBy_50 : decode cX11_leapBy 50 = .ok (.invokevirtual 348, 3) := by decide +kernel
theorem dX11_leapBy_53 : decode cX11_leapBy 53 = .ok (.invokestatic 351, 3) := by decide +kernel
theorem dX11_leapBy_56 : decode cX11_leapBy 56 = .ok (.iconst 1, 1) := by decide +kernel
theorem dX11_leapBy_57 : decode cX11_leapBy 57 = .ok (.isub, 1) := by decide +kernel
theorem dX11_leapBy_58 : decode cX11_leapBy 58 = .ok (.aload_n 0, 1) := by decide +kernel
theorem dX11_leapBy_59 : decode cX11_leapBy 59 = .ok (.getfield 71, 3) := by decide +kernel
theorem dX11_leapBy_62 : decode cX11_leapBy 62 = .ok (.bipush 66, 2) := by decide +kernel
theorem dX11_leapBy_64 : decode cX11_leapBy 64 = .ok (.iaload, 1) := by decide +kernel
theorem dX11_leapBy_65 : decode cX11_leapBy 65 = .ok (.iload_n 1, 1) := by decide +kernel
theorem dX11_leapBy_66 : decode cX11_leapBy 66 = .ok (.aload_n 0, 1) := by decide +kernel
theorem dX11_leapBy_67 : decode cX11_leapBy 67 = .ok (.getfield 71, 3) := by decide +kernel
theorem dX11_leapBy_70 : decode cX11_leapBy 70 = .ok (.bipush 18, 2) := by decide +kernel
theorem dX11_leapBy_72 : decode cX11_leapBy 72 = .ok (.iload_n 1, 1) := by decide +kernel
theorem dX11_leapBy_73 : decode cX11_leapBy 73 = .ok (.iadd, 1) := by decide +kernel
theorem dX11_leapBy_74 : decode cX11_leapBy 74 = .ok (.iaload, 1) := by decide +kernel
theorem dX11_leapBy_75 : decode cX11_leapBy 75 = .ok (.invokevirtual 354, 3) := by decide +kernel
theorem dX11_leapBy_78 : decode cX11_leapBy 78 = .ok (.ireturn, 1) := by decide +kernel
theorem dX11_canLeap_0 : decode cX11_canLeap 0 = .ok (.aload_n 0, 1) := by decide +kernel
theorem dX11_canLeap_1 : decode cX11_canLeap 1 = .ok (.iload_n 1, 1) := by decide +kernel
theorem dX11_canLeap_2 : decode cX11_canLeap 2 = .ok (.invokevirtual 340, 3) := by decide +kernel
theorem dX11_canLeap_5 : decode cX11_canLeap 5 = .ok (.ifCond .ne 40, 3) := by decide +kernel
theorem dX11_canLeap_8 : decode cX11_canLeap 8 = .ok (.aload_n 0, 1) := by decide +kernel
theorem dX11_canLeap_9 : decode cX11_canLeap 9 = .ok (.getfield 71, 3) := by decide +kernel
theorem dX11_canLeap_12 : decode cX11_canLeap 12 = .ok (.iconst 0, 1) := by decide +kernel
theorem dX11_canLeap_13 : decode cX11_canLeap 13 = .ok (.iload_n 1, 1) := by decide +kernel
theorem dX11_canLeap_14 : decode cX11_canLeap 14 = .ok (.iadd, 1) := by decide +kernel
theorem dX11_canLeap_15 : decode cX11_canLeap 15 = .ok (.iaload, 1) := by decide +kernel
theorem dX11_canLeap_16 : decode cX11_canLeap 16 = .ok (.iload_n 2, 1) := by decide +kernel
theorem dX11_canLeap_17 : decode cX11_canLeap 17 = .ok (.if_icmp .eq 28, 3) := by decide +kernel
theorem dX11_canLeap_20 : decode cX11_canLeap 20 = .ok (.aload_n 0, 1) := by decide +kernel
theorem dX11_canLeap_21 : decode cX11_canLeap 21 = .ok (.aload_n 0, 1) := by decide +kernel
theorem dX11_canLeap_22 : decode cX11_canLeap 22 = .ok (.getfield 71, 3) := by decide +kernel
theorem dX11_canLeap_25 : decode cX11_canLeap 25 = .ok (.iconst 0, 1) := by decide +kernel
theorem dX11_canLeap_26 : decode cX11_canLeap 26 = .ok (.iload_n 1, 1) := by decide +kernel
theorem dX11_canLeap_27 : decode cX11_canLeap 27 = .ok (.iadd, 1) := by decide +kernel
theorem dX11_canLeap_28 : decode cX11_canLeap 28 = .ok (.iaload, 1) := by decide +kernel
theorem dX11_canLeap_29 : decode cX11_canLeap 29 = .ok (.iload_n 2, 1) := by decide +kernel
theorem dX11_canLeap_30 : decode cX11_canLeap 30 = .ok (.invokevirtual 358, 3) := by decide +kernel
theorem dX11_canLeap_33 : decode cX11_canLeap 33 = .ok (.aload_n 0, 1) := by decide +kernel
theorem dX11_canLeap_34 : decode cX11_canLeap 34 = .ok (.iload_n 1, 1) := by decide +kernel
theorem dX11_canLeap_35 : decode cX11_canLeap 35 = .ok (.invokevirtual 361, 3) := by decide +kernel
theorem dX11_canLeap_38 : decode cX11_canLeap 38 = .ok (.if_icmp .gt 7, 3) := by decide +kernel
theorem dX11_canLeap_41 : decode cX11_canLeap 41 = .ok (.iconst 1, 1) := by decide +kernel
theorem dX11_canLeap_42 : decode cX11_canLeap 42 = .ok (.goto 4, 3) := by decide +kernel
theorem dX11_canLeap_45 : decode cX11_canLeap 45 = .ok (.iconst 0, 1) := by decide +kernel
theorem dX11_canLeap_46 : decode cX11_canLeap 46 = .ok (.ireturn, 1) := by decide +kernel
theorem dX11_leapsTo_0 : decode cX11_leapsTo 0 = .ok (.aload_n 0, 1) := by decide +kernel
theorem dX11_leapsTo_1 : decode cX11_leapsTo 1 = .ok (.iload_n 1, 1) := by decide +kernel
theorem dX11_leapsTo_2 : decode cX11_leapsTo 2 = .ok (.iload_n 2, 1) := by decide +kernel
theorem dX11_leapsTo_3 : decode cX11_leapsTo 3 = .ok (.invokevirtual 364, 3) := by decide +kernel
theorem dX11_leapsTo_6 : decode cX11_leapsTo 6 = .ok (.ifCond .ne 5, 3) := by decide +kernel
theorem dX11_leapsTo_9 : decode cX11_leapsTo 9 = .ok (.iconst 0, 1) := by decide +kernel
theorem dX11_leapsTo_10 : decode cX11_leapsTo 10 = .ok (.ireturn, 1) := by decide +kernel
theorem dX11_leapsTo_11 : decode cX11_leapsTo 11 = .ok (.aload_n 0, 1) := by decide +kernel
theorem dX11_leapsTo_12 : decode cX11_leapsTo 12 = .ok (.getfield 71, 3) := by decide +kernel
theorem dX11_leapsTo_15 : decode cX11_leapsTo 15 = .ok (.iconst 0, 1) := by decide +kernel
theorem dX11_leapsTo_16 : decode cX11_leapsTo 16 = .ok (.iload_n 1, 1) := by decide +kernel
theorem dX11_leapsTo_17 : decode cX11_leapsTo 17 = .ok (.iadd, 1) := by decide +kernel
theorem dX11_leapsTo_18 : decode cX11_leapsTo 18 = .ok (.iload_n 2, 1) := by decide +kernel
theorem dX11_leapsTo_19 : decode cX11_leapsTo 19 = .ok (.iastore, 1) := by decide +kernel
theorem dX11_leapsTo_20 : decode cX11_leapsTo 20 = .ok (.aload_n 0, 1) := by decide +kernel
theorem dX11_leapsTo_21 : decode cX11_leapsTo 21 = .ok (.getfield 71, 3) := by decide +kernel
theorem dX11_leapsTo_24 : decode cX11_leapsTo 24 = .ok (.bipush 12, 2) := by decide +kernel
theorem dX11_leapsTo_26 : decode cX11_leapsTo 26 = .ok (.iload_n 1, 1) := by decide +kernel
theorem dX11_leapsTo_27 : decode cX11_leapsTo 27 = .ok (.iadd, 1) := by decide +kernel
theorem dX11_leapsTo_28 : decode cX11_leapsTo 28 = .ok (.iconst 0, 1) := by decide +kernel
theorem dX11_leapsTo_29 : decode cX11_leapsTo 29 = .ok (.iastore, 1) := by decide +kernel
theorem dX11_leapsTo_30 : decode cX11_leapsTo 30 = .ok (.aload_n 0, 1) := by decide +kernel
theorem dX11_leapsTo_31 : decode cX11_leapsTo 31 = .ok (.getfield 71, 3) := by decide +kernel
theorem dX11_leapsTo_34 : decode cX11_leapsTo 34 = .ok (.bipush 18, 2) := by decide +kernel
theorem dX11_leapsTo_36 : decode cX11_leapsTo 36 = .ok (.iload_n 1, 1) := by decide +kernel
theorem dX11_leapsTo_37 : decode cX11_leapsTo 37 = .ok (.iadd, 1) := by decide +kernel
theorem dX11_leapsTo_38 : decode cX11_leapsTo 38 = .ok (.dup2, 1) := by decide +kernel
theorem dX11_leapsTo_39 : decode cX11_leapsTo 39 = .ok (.iaload, 1) := by decide +kernel
theorem dX11_leapsTo_40 : decode cX11_leapsTo 40 = .ok (.iconst 1, 1) := by decide +kernel
theorem dX11_leapsTo_41 : decode cX11_leapsTo 41 = .ok (.iadd, 1) := by decide +kernel
theorem dX11_leapsTo_42 : decode cX11_leapsTo 42 = .ok (.iastore, 1) := by decide +kernel
theorem dX11_leapsTo_43 : decode cX11_leapsTo 43 = .ok (.aload_n 0, 1) := by decide +kernel
theorem dX11_leapsTo_44 : decode cX11_leapsTo 44 = .ok (.getfield 71, 3) := by decide +kernel
theorem dX11_leapsTo_47 : decode cX11_leapsTo 47 = .ok (.bipush 24, 2) := by decide +kernel
theorem dX11_leapsTo_49 : decode cX11_leapsTo 49 = .ok (.iload_n 1, 1) := by decide +kernel
theorem dX11_leapsTo_50 : decode cX11_leapsTo 50 = .ok (.iadd, 1) := by decide +kernel
theorem dX11_leapsTo_51 : decode cX11_leapsTo 51 = .ok (.iconst 1, 1) := by decide +kernel
theorem dX11_leapsTo_52 : decode cX11_leapsTo 52 = .ok (.iastore, 1) := by decide +kernel
theorem dX11_leapsTo_53 : decode cX11_leapsTo 53 = .ok (.iconst 1, 1) := by decide +kernel
theorem dX11_leapsTo_54 : decode cX11_leapsTo 54 = .ok (.ireturn, 1) := by decide +kernel
theorem dX11_boxes_0 : decode cX11_boxes 0 = .ok (.iload_n 1, 1) := by decide +kernel
theorem dX11_boxes_1 : decode cX11_boxes 1 = .ok (.iload_n 2, 1) := by decide +kernel
theorem dX11_boxes_2 : decode cX11_boxes 2 = .ok (.if_icmp .eq 30, 3) := by decide +kernel
theorem dX11_boxes_5 : decode cX11_boxes 5 = .ok (.aload_n 0, 1) := by decide +kernel
theorem dX11_boxes_6 : decode cX11_boxes 6 = .ok (.iload_n 1, 1) := by decide +kernel
theorem dX11_boxes_7 : decode cX11_boxes 7 = .ok (.invokevirtual 340, 3) := by decide +kernel
theorem dX11_boxes_10 : decode cX11_boxes 10 = .ok (.ifCond .ne 22, 3) := by decide +kernel
theorem dX11_boxes_13 : decode cX11_boxes 13 = .ok (.aload_n 0, 1) := by decide +kernel
theorem dX11_boxes_14 : decode cX11_boxes 14 = .ok (.getfield 71, 3) := by decide +kernel
theorem dX11_boxes_17 : decode cX11_boxes 17 = .ok (.iconst 0, 1) := by decide +kernel
theorem dX11_boxes_18 : decode cX11_boxes 18 = .ok (.iload_n 1, 1) := by decide +kernel
theorem dX11_boxes_19 : decode cX11_boxes 19 = .ok (.iadd, 1) := by decide +kernel
theorem dX11_boxes_20 : decode cX11_boxes 20 = .ok (.iaload, 1) := by decide +kernel
theorem dX11_boxes_21 : decode cX11_boxes 21 = .ok (.aload_n 0, 1) := by decide +kernel
theorem dX11_boxes_22 : decode cX11_boxes 22 = .ok (.getfield 71, 3) := by decide +kernel
theorem dX11_boxes_25 : decode cX11_boxes 25 = .ok (.iconst 0, 1) := by decide +kernel
theorem dX11_boxes_26 : decode cX11_boxes 26 = .ok (.iload_n 2, 1) := by decide +kernel
theorem dX11_boxes_27 : decode cX11_boxes 27 = .ok (.iadd, 1) := by decide +kernel
theorem dX11_boxes_28 : decode cX11_boxes 28 = .ok (.iaload, 1) := by decide +kernel
theorem dX11_boxes_29 : decode cX11_boxes 29 = .ok (.if_icmp .eq 5, 3) := by decide +kernel
theorem dX11_boxes_32 : decode cX11_boxes 32 = .ok (.iconst 0, 1) := by decide +kernel
theorem dX11_boxes_33 : decode cX11_boxes 33 = .ok (.ireturn, 1) := by decide +kernel
theorem dX11_boxes_34 : decode cX11_boxes 34 = .ok (.aload_n 0, 1) := by decide +kernel
theorem dX11_boxes_35 : decode cX11_boxes 35 = .ok (.getfield 71, 3) := by decide +kernel
theorem dX11_boxes_38 : decode cX11_boxes 38 = .ok (.bipush 6, 2) := by decide +kernel
theorem dX11_boxes_40 : decode cX11_boxes 40 = .ok (.iload_n 2, 1) := by decide +kernel
theorem dX11_boxes_41 : decode cX11_boxes 41 = .ok (.iadd, 1) := by decide +kernel
theorem dX11_boxes_42 : decode cX11_boxes 42 = .ok (.iaload, 1) := by decide +kernel
theorem dX11_boxes_43 : decode cX11_boxes 43 = .ok (.aload_n 0, 1) := by decide +kernel
theorem dX11_boxes_44 : decode cX11_boxes 44 = .ok (.getfield 71, 3) := by decide +kernel
theorem dX11_boxes_47 : decode cX11_boxes 47 = .ok (.bipush 6, 2) := by decide +kernel
theorem dX11_boxes_49 : decode cX11_boxes 49 = .ok (.iload_n 1, 1) := by decide +kernel
theorem dX11_boxes_50 : decode cX11_boxes 50 = .ok (.iadd, 1) := by decide +kernel
theorem dX11_boxes_51 : decode cX11_boxes 51 = .ok (.iaload, 1) := by decide +kernel
theorem dX11_boxes_52 : decode cX11_boxes 52 = .ok (.if_icmp .le 7, 3) := by decide +kernel
theorem dX11_boxes_55 : decode cX11_boxes 55 = .ok (.iload_n 1, 1) := by decide +kernel
theorem dX11_boxes_56 : decode cX11_boxes 56 = .ok (.goto 4, 3) := by decide +kernel
theorem dX11_boxes_59 : decode cX11_boxes 59 = .ok (.iload_n 2, 1) := by decide +kernel
theorem dX11_boxes_60 : decode cX11_boxes 60 = .ok (.istore_n 3, 1) := by decide +kernel
theorem dX11_boxes_61 : decode cX11_boxes 61 = .ok (.aload_n 0, 1) := by decide +kernel
theorem dX11_boxes_62 : decode cX11_boxes 62 = .ok (.getfield 71, 3) := by decide +kernel
theorem dX11_boxes_65 : decode cX11_boxes 65 = .ok (.bipush 6, 2) := by decide +kernel
theorem dX11_boxes_67 : decode cX11_boxes 67 = .ok (.iload_n 3, 1) := by decide +kernel
theorem dX11_boxes_68 : decode cX11_boxes 68 = .ok (.iadd, 1) := by decide +kernel
theorem dX11_boxes_69 : decode cX11_boxes 69 = .ok (.dup2, 1) := by decide +kernel
theorem dX11_boxes_70 : decode cX11_boxes 70 = .ok (.iaload, 1) := by decide +kernel
theorem dX11_boxes_71 : decode cX11_boxes 71 = .ok (.aload_n 0, 1) := by decide +kernel
theorem dX11_boxes_72 : decode cX11_boxes 72 = .ok (.getfield 71, 3) := by decide +kernel
theorem dX11_boxes_75 : decode cX11_boxes 75 = .ok (.bipush 6, 2) := by decide +kernel
theorem dX11_boxes_77 : decode cX11_boxes 77 = .ok (.iload_n 3, 1) := by decide +kernel
theorem dX11_boxes_78 : decode cX11_boxes 78 = .ok (.iadd, 1) := by decide +kernel
theorem dX11_boxes_79 : decode cX11_boxes 79 = .ok (.iaload, 1) := by decide +kernel
theorem dX11_boxes_80 : decode cX11_boxes 80 = .ok (.ifCond .le 7, 3) := by decide +kernel
theorem dX11_boxes_83 : decode cX11_boxes 83 = .ok (.iconst 1, 1) := by decide +kernel
theorem dX11_boxes_84 : decode cX11_boxes 84 = .ok (.goto 4, 3) := by decide +kernel
theorem dX11_boxes_87 : decode cX11_boxes 87 = .ok (.iconst 0, 1) := by decide +kernel
theorem dX11_boxes_88 : decode cX11_boxes 88 = .ok (.isub, 1) := by decide +kernel
theorem dX11_boxes_89 : decode cX11_boxes 89 = .ok (.iastore, 1) := by decide +kernel
theorem dX11_boxes_90 : decode cX11_boxes 90 = .ok (.aload_n 0, 1) := by decide +kernel
theorem dX11_boxes_91 : decode cX11_boxes 91 = .ok (.getfield 71, 3) := by decide +kernel
theorem dX11_boxes_94 : decode cX11_boxes 94 = .ok (.bipush 12, 2) := by decide +kernel
theorem dX11_boxes_96 : decode cX11_boxes 96 = .ok (.iload_n 1, 1) := by decide +kernel
theorem dX11_boxes_97 : decode cX11_boxes 97 = .ok (.iadd, 1) := by decide +kernel
theorem dX11_boxes_98 : decode cX11_boxes 98 = .ok (.iconst 0, 1) := by decide +kernel
theorem dX11_boxes_99 : decode cX11_boxes 99 = .ok (.iastore, 1) := by decide +kernel
theorem dX11_boxes_100 : decode cX11_boxes 100 = .ok (.aload_n 0, 1) := by decide +kernel
theorem dX11_boxes_101 : decode cX11_boxes 101 = .ok (.getfield 71, 3) := by decide +kernel
theorem dX11_boxes_104 : decode cX11_boxes 104 = .ok (.bipush 12, 2) := by decide +kernel
theorem dX11_boxes_106 : decode cX11_boxes 106 = .ok (.iload_n 2, 1) := by decide +kernel
theorem dX11_boxes_107 : decode cX11_boxes 107 = .ok (.iadd, 1) := by decide +kernel
theorem dX11_boxes_108 : decode cX11_boxes 108 = .ok (.iconst 0, 1) := by decide +kernel
theorem dX11_boxes_109 : decode cX11_boxes 109 = .ok (.iastore, 1) := by decide +kernel
theorem dX11_boxes_110 : decode cX11_boxes 110 = .ok (.aload_n 0, 1) := by decide +kernel
theorem dX11_boxes_111 : decode cX11_boxes 111 = .ok (.getfield 71, 3) := by decide +kernel
theorem dX11_boxes_114 : decode cX11_boxes 114 = .ok (.bipush 24, 2) := by decide +kernel
theorem dX11_boxes_116 : decode cX11_boxes 116 = .ok (.iload_n 1, 1) := by decide +kernel
theorem dX11_boxes_117 : decode cX11_boxes 117 = .ok (.iadd, 1) := by decide +kernel
theorem dX11_boxes_118 : decode cX11_boxes 118 = .ok (.iconst 1, 1) := by decide +kernel
theorem dX11_boxes_119 : decode cX11_boxes 119 = .ok (.iastore, 1) := by decide +kernel
theorem dX11_boxes_120 : decode cX11_boxes 120 = .ok (.aload_n 0, 1) := by decide +kernel
theorem dX11_boxes_121 : decode cX11_boxes 121 = .ok (.getfield 71, 3) := by decide +kernel
theorem dX11_boxes_124 : decode cX11_boxes 124 = .ok (.bipush 24, 2) := by decide +kernel
theorem dX11_boxes_126 : decode cX11_boxes 126 = .ok (.iload_n 2, 1) := by decide +kernel
theorem dX11_boxes_127 : decode cX11_boxes 127 = .ok (.iadd, 1) := by decide +kernel
theorem dX11_boxes_128 : decode cX11_boxes 128 = .ok (.iconst 1, 1) := by decide +kernel
theorem dX11_boxes_129 : decode cX11_boxes 129 = .ok (.iastore, 1) := by decide +kernel
theorem dX11_boxes_130 : decode cX11_boxes 130 = .ok (.iconst 1, 1) := by decide +kernel
theorem dX11_boxes_131 : decode cX11_boxes 131 = .ok (.ireturn, 1) := by decide +kernel
theorem dX11_pays_0 : decode cX11_pays 0 = .ok (.aload_n 0, 1) := by decide +kernel
theorem dX11_pays_1 : decode cX11_pays 1 = .ok (.iload_n 1, 1) := by decide +kernel
theorem dX11_pays_2 : decode cX11_pays 2 = .ok (.invokevirtual 340, 3) := by decide +kernel
theorem dX11_pays_5 : decode cX11_pays 5 = .ok (.ifCond .ne 29, 3) := by decide +kernel
theorem dX11_pays_8 : decode cX11_pays 8 = .ok (.aload_n 0, 1) := by decide +kernel
theorem dX11_pays_9 : decode cX11_pays 9 = .ok (.iload_n 2, 1) := by decide +kernel
theorem dX11_pays_10 : decode cX11_pays 10 = .ok (.invokevirtual 340, 3) := by decide +kernel
theorem dX11_pays_13 : decode cX11_pays 13 = .ok (.ifCond .ne 21, 3) := by decide +kernel
theorem dX11_pays_16 : decode cX11_pays 16 = .ok (.aload_n 0, 1) := by decide +kernel
theorem dX11_pays_17 : decode cX11_pays 17 = .ok (.getfield 71, 3) := by decide +kernel
theorem dX11_pays_20 : decode cX11_pays 20 = .ok (.bipush 30, 2) := by decide +kernel
theorem dX11_pays_22 : decode cX11_pays 22 = .ok (.bipush 6, 2) := by decide +kernel
theorem dX11_pays_24 : decode cX11_pays 24 = .ok (.iload_n 1, 1) := by decide +kernel
theorem dX11_pays_25 : decode cX11_pays 25 = .ok (.imul, 1) := by decide +kernel
theorem dX11_pays_26 : decode cX11_pays 26 = .ok (.iadd, 1) := by decide +kernel
theorem dX11_pays_27 : decode cX11_pays 27 = .ok (.iload_n 2, 1) := by decide +kernel
theorem dX11_pays_28 : decode cX11_pays 28 = .ok (.iadd, 1) := by decide +kernel
theorem dX11_pays_29 : decode cX11_pays 29 = .ok (.iaload, 1) := by decide +kernel
theorem dX11_pays_30 : decode cX11_pays 30 = .ok (.iload_n 3, 1) := by decide +kernel
theorem dX11_pays_31 : decode cX11_pays 31 = .ok (.if_icmp .ge 5, 3) := by decide +kernel
theorem dX11_pays_34 : decode cX11_pays 34 = .ok (.iconst 0, 1) := by decide +kernel
theorem dX11_pays_35 : decode cX11_pays 35 = .ok (.ireturn, 1) := by decide +kernel
theorem dX11_pays_36 : decode cX11_pays 36 = .ok (.aload_n 0, 1) := by decide +kernel
theorem dX11_pays_37 : decode cX11_pays 37 = .ok (.getfield 71, 3) := by decide +kernel
theorem dX11_pays_40 : decode cX11_pays 40 = .ok (.bipush 30, 2) := by decide +kernel
theorem dX11_pays_42 : decode cX11_pays 42 = .ok (.bipush 6, 2) := by decide +kernel
theorem dX11_pays_44 : decode cX11_pays 44 = .ok (.iload_n 1, 1) := by decide +kernel
theorem dX11_pays_45 : decode cX11_pays 45 = .ok (.imul, 1) := by decide +kernel
theorem dX11_pays_46 : decode cX11_pays 46 = .ok (.iadd, 1) := by decide +kernel
theorem dX11_pays_47 : decode cX11_pays 47 = .ok (.iload_n 2, 1) := by decide +kernel
theorem dX11_pays_48 : decode cX11_pays 48 = .ok (.iadd, 1) := by decide +kernel
theorem dX11_pays_49 : decode cX11_pays 49 = .ok (.dup2, 1) := by decide +kernel
theorem dX11_pays_50 : decode cX11_pays 50 = .ok (.iaload, 1) := by decide +kernel
theorem dX11_pays_51 : decode cX11_pays 51 = .ok (.iload_n 3, 1) := by decide +kernel
theorem dX11_pays_52 : decode cX11_pays 52 = .ok (.isub, 1) := by decide +kernel
theorem dX11_pays_53 : decode cX11_pays 53 = .ok (.iastore, 1) := by decide +kernel
theorem dX11_pays_54 : decode cX11_pays 54 = .ok (.iconst 1, 1) := by decide +kernel
theorem dX11_pays_55 : decode cX11_pays 55 = .ok (.ireturn, 1) := by decide +kernel
theorem dX11_wouldBeCaught_0 : decode cX11_wouldBeCaught 0 = .ok (.aload_n 0, 1) := by decide +kernel
theorem dX11_wouldBeCaught_1 : decode cX11_wouldBeCaught 1 = .ok (.iload_n 1, 1) := by decide +kernel
theorem dX11_wouldBeCaught_2 : decode cX11_wouldBeCaught 2 = .ok (.invokevirtual 340, 3) := by decide +kernel
theorem dX11_wouldBeCaught_5 : decode cX11_wouldBeCaught 5 = .ok (.ifCond .ne 35, 3) := by decide +kernel
theorem dX11_wouldBeCaught_8 : decode cX11_wouldBeCaught 8 = .ok (.aload_n 0, 1) := by decide +kernel
theorem dX11_wouldBeCaught_9 : decode cX11_wouldBeCaught 9 = .ok (.aload_n 0, 1) := by decide +kernel
theorem dX11_wouldBeCaught_10 : decode cX11_wouldBeCaught 10 = .ok (.getfield 71, 3) := by decide +kernel
theorem dX11_wouldBeCaught_13 : decode cX11_wouldBeCaught 13 = .ok (.iconst 0, 1) := by decide +kernel
theorem dX11_wouldBeCaught_14 : decode cX11_wouldBeCaught 14 = .ok (.iload_n 1, 1) := by decide +kernel
theorem dX11_wouldBeCaught_15 : decode cX11_wouldBeCaught 15 = .ok (.iadd, 1) := by decide +kernel
theorem dX11_wouldBeCaught_16 : decode cX11_wouldBeCaught 16 = .ok (.iaload, 1) := by decide +kernel
theorem dX11_wouldBeCaught_17 : decode cX11_wouldBeCaught 17 = .ok (.invokevirtual 368, 3) := by decide +kernel
theorem dX11_wouldBeCaught_20 : decode cX11_wouldBeCaught 20 = .ok (.ifCond .ne 20, 3) := by decide +kernel
theorem dX11_wouldBeCaught_23 : decode cX11_wouldBeCaught 23 = .ok (.aload_n 0, 1) := by decide +kernel
theorem dX11_wouldBeCaught_24 : decode cX11_wouldBeCaught 24 = .ok (.getfield 71, 3) := by decide +kernel
theorem dX11_wouldBeCaught_27 : decode cX11_wouldBeCaught 27 = .ok (.bipush 12, 2) := by decide +kernel
theorem dX11_wouldBeCaught_29 : decode cX11_wouldBeCaught 29 = .ok (.iload_n 1, 1) := by decide +kernel
theorem dX11_wouldBeCaught_30 : decode cX11_wouldBeCaught 30 = .ok (.iadd, 1) := by decide +kernel
theorem dX11_wouldBeCaught_31 : decode cX11_wouldBeCaught 31 = .ok (.iaload, 1) := by decide +kernel
theorem dX11_wouldBeCaught_32 : decode cX11_wouldBeCaught 32 = .ok (.iconst 3, 1) := by decide +kernel
theorem dX11_wouldBeCaught_33 : decode cX11_wouldBeCaught 33 = .ok (.if_icmp .ge 7, 3) := by decide +kernel
theorem dX11_wouldBeCaught_36 : decode cX11_wouldBeCaught 36 = .ok (.iconst 1, 1) := by decide +kernel
theorem dX11_wouldBeCaught_37 : decode cX11_wouldBeCaught 37 = .ok (.goto 4, 3) := by decide +kernel
theorem dX11_wouldBeCaught_40 : decode cX11_wouldBeCaught 40 = .ok (.iconst 0, 1) := by decide +kernel
theorem dX11_wouldBeCaught_41 : decode cX11_wouldBeCaught 41 = .ok (.ireturn, 1) := by decide +kernel
theorem dX11_strokes_0 : decode cX11_strokes 0 = .ok (.iconst 0, 1) := by decide +kernel
theorem dX11_strokes_1 : decode cX11_strokes 1 = .ok (.istore_n 1, 1) := by decide +kernel
theorem dX11_strokes_2 : decode cX11_strokes 2 = .ok (.iload_n 1, 1) := by decide +kernel
theorem dX11_strokes_3 : decode cX11_strokes 3 = .ok (.aload_n 0, 1) := by decide +kernel
theorem dX11_strokes_4 : decode cX11_strokes 4 = .ok (.getfield 169, 3) := by decide +kernel
theorem dX11_strokes_7 : decode cX11_strokes 7 = .ok (.if_icmp .ge 112, 3) := by decide +kernel
theorem dX11_strokes_10 : decode cX11_strokes 10 = .ok (.aload_n 0, 1) := by decide +kernel
theorem dX11_strokes_11 : decode cX11_strokes 11 = .ok (.iload_n 1, 1) := by decide +kernel
theorem dX11_strokes_12 : decode cX11_strokes 12 = .ok (.invokevirtual 371, 3) := by decide +kernel
theorem dX11_strokes_15 : decode cX11_strokes 15 = .ok (.ifCond .eq 61, 3) := by decide +kernel
theorem dX11_strokes_18 : decode cX11_strokes 18 = .ok (.aload_n 0, 1) := by decide +kernel
theorem dX11_strokes_19 : decode cX11_strokes 19 = .ok (.getfield 71, 3) := by decide +kernel
theorem dX11_strokes_22 : decode cX11_strokes 22 = .ok (.iconst 0, 1) := by decide +kernel
theorem dX11_strokes_23 : decode cX11_strokes 23 = .ok (.iload_n 1, 1) := by decide +kernel
theorem dX11_strokes_24 : decode cX11_strokes 24 = .ok (.iadd, 1) := by decide +kernel
theorem dX11_strokes_25 : decode cX11_strokes 25 = .ok (.iconst (-1), 1) := by decide +kernel
theorem dX11_strokes_26 : decode cX11_strokes 26 = .ok (.iastore, 1) := by decide +kernel
theorem dX11_strokes_27 : decode cX11_strokes 27 = .ok (.iconst 0, 1) := by decide +kernel
theorem dX11_strokes_28 : decode cX11_strokes 28 = .ok (.istore_n 2, 1) := by decide +kernel
theorem dX11_strokes_29 : decode cX11_strokes 29 = .ok (.iload_n 2, 1) := by decide +kernel
theorem dX11_strokes_30 : decode cX11_strokes 30 = .ok (.aload_n 0, 1) := by decide +kernel
theorem dX11_strokes_31 : decode cX11_strokes 31 = .ok (.getfield 169, 3) := by decide +kernel
theorem dX11_strokes_34 : decode cX11_strokes 34 = .ok (.if_icmp .ge 39, 3) := by decide +kernel
theorem dX11_strokes_37 : decode cX11_strokes 37 = .ok (.aload_n 0, 1) := by decide +kernel
theorem dX11_strokes_38 : decode cX11_strokes 38 = .ok (.getfield 71, 3) := by decide +kernel
theorem dX11_strokes_41 : decode cX11_strokes 41 = .ok (.bipush 30, 2) := by decide +kernel
theorem dX11_strokes_43 : decode cX11_strokes 43 = .ok (.bipush 6, 2) := by decide +kernel
theorem dX11_strokes_45 : decode cX11_strokes 45 = .ok (.iload_n 1, 1) := by decide +kernel
theorem dX11_strokes_46 : decode cX11_strokes 46 = .ok (.imul, 1) := by decide +kernel
theorem dX11_strokes_47 : decode cX11_strokes 47 = .ok (.iadd, 1) := by decide +kernel
theorem dX11_strokes_48 : decode cX11_strokes 48 = .ok (.iload_n 2, 1) := by decide +kernel
theorem dX11_strokes_49 : decode cX11_strokes 49 = .ok (.iadd, 1) := by decide +kernel
theorem dX11_strokes_50 : decode cX11_strokes 50 = .ok (.iconst 0, 1) := by decide +kernel
theorem dX11_strokes_51 : decode cX11_strokes 51 = .ok (.iastore, 1) := by decide +kernel
theorem dX11_strokes_52 : decode cX11_strokes 52 = .ok (.aload_n 0, 1) := by decide +kernel
theorem dX11_strokes_53 : decode cX11_strokes 53 = .ok (.getfield 71, 3) := by decide +kernel
theorem dX11_strokes_56 : decode cX11_strokes 56 = .ok (.bipush 30, 2) := by decide +kernel
theorem dX11_strokes_58 : decode cX11_strokes 58 = .ok (.bipush 6, 2) := by decide +kernel
theorem dX11_strokes_60 : decode cX11_strokes 60 = .ok (.iload_n 2, 1) := by decide +kernel
theorem dX11_strokes_61 : decode cX11_strokes 61 = .ok (.imul, 1) := by decide +kernel
theorem dX11_strokes_62 : decode cX11_strokes 62 = .ok (.iadd, 1) := by decide +kernel
theorem dX11_strokes_63 : decode cX11_strokes 63 = .ok (.iload_n 1, 1) := by decide +kernel
theorem dX11_strokes_64 : decode cX11_strokes 64 = .ok (.iadd, 1) := by decide +kernel
theorem dX11_strokes_65 : decode cX11_strokes 65 = .ok (.iconst 0, 1) := by decide +kernel
theorem dX11_strokes_66 : decode cX11_strokes 66 = .ok (.iastore, 1) := by decide +kernel
theorem dX11_strokes_67 : decode cX11_strokes 67 = .ok (.iinc 2 1, 3) := by decide +kernel
theorem dX11_strokes_70 : decode cX11_strokes 70 = .ok (.goto (-41), 3) := by decide +kernel
theorem dX11_strokes_73 : decode cX11_strokes 73 = .ok (.goto 40, 3) := by decide +kernel
theorem dX11_strokes_76 : decode cX11_strokes 76 = .ok (.aload_n 0, 1) := by decide +kernel
theorem dX11_strokes_77 : decode cX11_strokes 77 = .ok (.iload_n 1, 1) := by decide +kernel
theorem dX11_strokes_78 : decode cX11_strokes 78 = .ok (.invokevirtual 340, 3) := by decide +kernel
theorem dX11_strokes_81 : decode cX11_strokes 81 = .ok (.ifCond .ne 32, 3) := by decide +kernel
theorem dX11_strokes_84 : decode cX11_strokes 84 = .ok (.aload_n 0, 1) := by decide +kernel
theorem dX11_strokes_85 : decode cX11_strokes 85 = .ok (.getfield 71, 3) := by decide +kernel
theorem dX11_strokes_88 : decode cX11_strokes 88 = .ok (.bipush 6, 2) := by decide +kernel
theorem dX11_strokes_90 : decode cX11_strokes 90 = .ok (.iload_n 1, 1) := by decide +kernel
theorem dX11_strokes_91 : decode cX11_strokes 91 = .ok (.iadd, 1) := by decide +kernel
theorem dX11_strokes_92 : decode cX11_strokes 92 = .ok (.aload_n 0, 1) := by decide +kernel
theorem dX11_strokes_93 : decode cX11_strokes 93 = .ok (.getfield 38, 3) := by decide +kernel
theorem dX11_strokes_96 : decode cX11_strokes 96 = .ok (.iconst 2, 1) := by decide +kernel
theorem dX11_strokes_97 : decode cX11_strokes 97 = .ok (.iload_n 1, 1) := by decide +kernel
theorem dX11_strokes_98 : decode cX11_strokes 98 = .ok (.imul, 1) := by decide +kernel
theorem dX11_strokes_99 : decode cX11_strokes 99 = .ok (.iconst 1, 1) := by decide +kernel
theorem dX11_strokes_100 : decode cX11_strokes 100 = .ok (.iadd, 1) := by decide +kernel
theorem dX11_strokes_101 : decode cX11_strokes 101 = .ok (.iaload, 1) := by decide +kernel
theorem dX11_strokes_102 : decode cX11_strokes 102 = .ok (.iastore, 1) := by decide +kernel
theorem dX11_strokes_103 : decode cX11_strokes 103 = .ok (.aload_n 0, 1) := by decide +kernel
theorem dX11_strokes_104 : decode cX11_strokes 104 = .ok (.getfield 71, 3) := by decide +kernel
theorem dX11_strokes_107 : decode cX11_strokes 107 = .ok (.bipush 12, 2) := by decide +kernel
theorem dX11_strokes_109 : decode cX11_strokes 109 = .ok (.iload_n 1, 1) := by decide +kernel
theorem dX11_strokes_110 : decode cX11_strokes 110 = .ok (.iadd, 1) := by decide +kernel
theorem dX11_strokes_111 : decode cX11_strokes 111 = .ok (.iconst 0, 1) := by decide +kernel
theorem dX11_strokes_112 : decode cX11_strokes 112 = .ok (.iastore, 1) := by decide +kernel
theorem dX11_strokes_113 : decode cX11_strokes 113 = .ok (.iinc 1 1, 3) := by decide +kernel
theorem dX11_strokes_116 : decode cX11_strokes 116 = .ok (.goto (-114), 3) := by decide +kernel
theorem dX11_strokes_119 : decode cX11_strokes 119 = .ok (.aload_n 0, 1) := by decide +kernel
theorem dX11_strokes_120 : decode cX11_strokes 120 = .ok (.getfield 71, 3) := by decide +kernel
theorem dX11_strokes_123 : decode cX11_strokes 123 = .ok (.bipush 66, 2) := by decide +kernel
theorem dX11_strokes_125 : decode cX11_strokes 125 = .ok (.iconst 1, 1) := by decide +kernel
theorem dX11_strokes_126 : decode cX11_strokes 126 = .ok (.iastore, 1) := by decide +kernel
theorem dX11_strokes_127 : decode cX11_strokes 127 = .ok (.aload_n 0, 1) := by decide +kernel
theorem dX11_strokes_128 : decode cX11_strokes 128 = .ok (.getfield 71, 3) := by decide +kernel
theorem dX11_strokes_131 : decode cX11_strokes 131 = .ok (.bipush 67, 2) := by decide +kernel
theorem dX11_strokes_133 : decode cX11_strokes 133 = .ok (.dup2, 1) := by decide +kernel
theorem dX11_strokes_134 : decode cX11_strokes 134 = .ok (.iaload, 1) := by decide +kernel
theorem dX11_strokes_135 : decode cX11_strokes 135 = .ok (.iconst 1, 1) := by decide +kernel
theorem dX11_strokes_136 : decode cX11_strokes 136 = .ok (.iadd, 1) := by decide +kernel
theorem dX11_strokes_137 : decode cX11_strokes 137 = .ok (.iastore, 1) := by decide +kernel
theorem dX11_strokes_138 : decode cX11_strokes 138 = .ok (.return_, 1) := by decide +kernel
theorem dX11_passes_0 : decode cX11_passes 0 = .ok (.iconst 0, 1) := by decide +kernel
theorem dX11_passes_1 : decode cX11_passes 1 = .ok (.istore_n 1, 1) := by decide +kernel
theorem dX11_passes_2 : decode cX11_passes 2 = .ok (.iload_n 1, 1) := by decide +kernel
theorem dX11_passes_3 : decode cX11_passes 3 = .ok (.aload_n 0, 1) := by decide +kernel
theorem dX11_passes_4 : decode cX11_passes 4 = .ok (.getfield 169, 3) := by decide +kernel
theorem dX11_passes_7 : decode cX11_passes 7 = .ok (.if_icmp .ge 42, 3) := by decide +kernel
theorem dX11_passes_10 : decode cX11_passes 10 = .ok (.aload_n 0, 1) := by decide +kernel
theorem dX11_passes_11 : decode cX11_passes 11 = .ok (.iload_n 1, 1) := by decide +kernel
theorem dX11_passes_12 : decode cX11_passes 12 = .ok (.invokevirtual 340, 3) := by decide +kernel
theorem dX11_passes_15 : decode cX11_passes 15 = .ok (.ifCond .ne 28, 3) := by decide +kernel
theorem dX11_passes_18 : decode cX11_passes 18 = .ok (.aload_n 0, 1) := by decide +kernel
theorem dX11_passes_19 : decode cX11_passes 19 = .ok (.getfield 71, 3) := by decide +kernel
theorem dX11_passes_22 : decode cX11_passes 22 = .ok (.bipush 24, 2) := by decide +kernel
theorem dX11_passes_24 : decode cX11_passes 24 = .ok (.iload_n 1, 1) := by decide +kernel
theorem dX11_passes_25 : decode cX11_passes 25 = .ok (.iadd, 1) := by decide +kernel
theorem dX11_passes_26 : decode cX11_passes 26 = .ok (.iaload, 1) := by decide +kernel
theorem dX11_passes_27 : decode cX11_passes 27 = .ok (.ifCond .ne 16, 3) := by decide +kernel
theorem dX11_passes_30 : decode cX11_passes 30 = .ok (.aload_n 0, 1) := by decide +kernel
theorem dX11_passes_31 : decode cX11_passes 31 = .ok (.getfield 71, 3) := by decide +kernel
theorem dX11_passes_34 : decode cX11_passes 34 = .ok (.bipush 12, 2) := by decide +kernel
theorem dX11_passes_36 : decode cX11_passes 36 = .ok (.iload_n 1, 1) := by decide +kernel
theorem dX11_passes_37 : decode cX11_passes 37 = .ok (.iadd, 1) := by decide +kernel
theorem dX11_passes_38 : decode cX11_passes 38 = .ok (.dup2, 1) := by decide +kernel
theorem dX11_passes_39 : decode cX11_passes 39 = .ok (.iaload, 1) := by decide +kernel
theorem dX11_passes_40 : decode cX11_passes 40 = .ok (.iconst 1, 1) := by decide +kernel
theorem dX11_passes_41 : decode cX11_passes 41 = .ok (.iadd, 1) := by decide +kernel
theorem dX11_passes_42 : decode cX11_passes 42 = .ok (.iastore, 1) := by decide +kernel
theorem dX11_passes_43 : decode cX11_passes 43 = .ok (.iinc 1 1, 3) := by decide +kernel
theorem dX11_passes_46 : decode cX11_passes 46 = .ok (.goto (-44), 3) := by decide +kernel
theorem dX11_passes_49 : decode cX11_passes 49 = .ok (.aload_n 0, 1) := by decide +kernel
theorem dX11_passes_50 : decode cX11_passes 50 = .ok (.getfield 71, 3) := by decide +kernel
theorem dX11_passes_53 : decode cX11_passes 53 = .ok (.bipush 66, 2) := by decide +kernel
theorem dX11_passes_55 : decode cX11_passes 55 = .ok (.dup2, 1) := by decide +kernel
theorem dX11_passes_56 : decode cX11_passes 56 = .ok (.iaload, 1) := by decide +kernel
theorem dX11_passes_57 : decode cX11_passes 57 = .ok (.iconst 1, 1) := by decide +kernel
theorem dX11_passes_58 : decode cX11_passes 58 = .ok (.iadd, 1) := by decide +kernel
theorem dX11_passes_59 : decode cX11_passes 59 = .ok (.iastore, 1) := by decide +kernel
theorem dX11_passes_60 : decode cX11_passes 60 = .ok (.aload_n 0, 1) := by decide +kernel
theorem dX11_passes_61 : decode cX11_passes 61 = .ok (.getfield 71, 3) := by decide +kernel
theorem dX11_passes_64 : decode cX11_passes 64 = .ok (.bipush 66, 2) := by decide +kernel
theorem dX11_passes_66 : decode cX11_passes 66 = .ok (.iaload, 1) := by decide +kernel
theorem dX11_passes_67 : decode cX11_passes 67 = .ok (.bipush 31, 2) := by decide +kernel
theorem dX11_passes_69 : decode cX11_passes 69 = .ok (.if_icmp .le 7, 3) := by decide +kernel
theorem dX11_passes_72 : decode cX11_passes 72 = .ok (.aload_n 0, 1) := by decide +kernel
theorem dX11_passes_73 : decode cX11_passes 73 = .ok (.invokevirtual 374, 3) := by decide +kernel
theorem dX11_passes_76 : decode cX11_passes 76 = .ok (.iconst 0, 1) := by decide +kernel
theorem dX11_passes_77 : decode cX11_passes 77 = .ok (.istore_n 1, 1) := by decide +kernel
theorem dX11_passes_78 : decode cX11_passes 78 = .ok (.iload_n 1, 1) := by decide +kernel
theorem dX11_passes_79 : decode cX11_passes 79 = .ok (.bipush 6, 2) := by decide +kernel
theorem dX11_passes_81 : decode cX11_passes 81 = .ok (.if_icmp .ge 19, 3) := by decide +kernel
theorem dX11_passes_84 : decode cX11_passes 84 = .ok (.aload_n 0, 1) := by decide +kernel
theorem dX11_passes_85 : decode cX11_passes 85 = .ok (.getfield 71, 3) := by decide +kernel
theorem dX11_passes_88 : decode cX11_passes 88 = .ok (.bipush 24, 2) := by decide +kernel
theorem dX11_passes_90 : decode cX11_passes 90 = .ok (.iload_n 1, 1) := by decide +kernel
theorem dX11_passes_91 : decode cX11_passes 91 = .ok (.iadd, 1) := by decide +kernel
theorem dX11_passes_92 : decode cX11_passes 92 = .ok (.iconst 0, 1) := by decide +kernel
theorem dX11_passes_93 : decode cX11_passes 93 = .ok (.iastore, 1) := by decide +kernel
theorem dX11_passes_94 : decode cX11_passes 94 = .ok (.iinc 1 1, 3) := by decide +kernel
theorem dX11_passes_97 : decode cX11_passes 97 = .ok (.goto (-19), 3) := by decide +kernel
theorem dX11_passes_100 : decode cX11_passes 100 = .ok (.return_, 1) := by decide +kernel
theorem dX11_isDone_0 : decode cX11_isDone 0 = .ok (.iload_n 1, 1) := by decide +kernel
theorem dX11_isDone_1 : decode cX11_isDone 1 = .ok (.ifCond .ne 10, 3) := by decide +kernel
theorem dX11_isDone_4 : decode cX11_isDone 4 = .ok (.aload_n 0, 1) := by decide +kernel
theorem dX11_isDone_5 : decode cX11_isDone 5 = .ok (.iload_n 2, 1) := by decide +kernel
theorem dX11_isDone_6 : decode cX11_isDone 6 = .ok (.iload_n 3, 1) := by decide +kernel
theorem dX11_isDone_7 : decode cX11_isDone 7 = .ok (.invokevirtual 377, 3) := by decide +kernel
theorem dX11_isDone_10 : decode cX11_isDone 10 = .ok (.ireturn, 1) := by decide +kernel
theorem dX11_isDone_11 : decode cX11_isDone 11 = .ok (.iload_n 1, 1) := by decide +kernel
theorem dX11_isDone_12 : decode cX11_isDone 12 = .ok (.iconst 1, 1) := by decide +kernel
theorem dX11_isDone_13 : decode cX11_isDone 13 = .ok (.if_icmp .ne 10, 3) := by decide +kernel
theorem dX11_isDone_16 : decode cX11_isDone 16 = .ok (.aload_n 0, 1) := by decide +kernel
theorem dX11_isDone_17 : decode cX11_isDone 17 = .ok (.iload_n 2, 1) := by decide +kernel
theorem dX11_isDone_18 : decode cX11_isDone 18 = .ok (.iload_n 3, 1) := by decide +kernel
theorem dX11_isDone_19 : decode cX11_isDone 19 = .ok (.invokevirtual 380, 3) := by decide +kernel
theorem dX11_isDone_22 : decode cX11_isDone 22 = .ok (.ireturn, 1) := by decide +kernel
theorem dX11_isDone_23 : decode cX11_isDone 23 = .ok (.iload_n 1, 1) := by decide +kernel
theorem dX11_isDone_24 : decode cX11_isDone 24 = .ok (.iconst 2, 1) := by decide +kernel
theorem dX11_isDone_25 : decode cX11_isDone 25 = .ok (.if_icmp .ne 12, 3) := by decide +kernel
theorem dX11_isDone_28 : decode cX11_isDone 28 = .ok (.aload_n 0, 1) := by decide +kernel
theorem dX11_isDone_29 : decode cX11_isDone 29 = .ok (.iload_n 2, 1) := by decide +kernel
theorem dX11_isDone_30 : decode cX11_isDone 30 = .ok (.iload_n 3, 1) := by decide +kernel
theorem dX11_isDone_31 : decode cX11_isDone 31 = .ok (.iload 4, 2) := by decide +kernel
theorem dX11_isDone_33 : decode cX11_isDone 33 = .ok (.invokevirtual 383, 3) := by decide +kernel
theorem dX11_isDone_36 : decode cX11_isDone 36 = .ok (.ireturn, 1) := by decide +kernel
theorem dX11_isDone_37 : decode cX11_isDone 37 = .ok (.aload_n 0, 1) := by decide +kernel
theorem dX11_isDone_38 : decode cX11_isDone 38 = .ok (.getfield 71, 3) := by decide +kernel
theorem dX11_isDone_41 : decode cX11_isDone 41 = .ok (.bipush 67, 2) := by decide +kernel
theorem dX11_isDone_43 : decode cX11_isDone 43 = .ok (.iaload, 1) := by decide +kernel
theorem dX11_isDone_44 : decode cX11_isDone 44 = .ok (.bipush 40, 2) := by decide +kernel
theorem dX11_isDone_46 : decode cX11_isDone 46 = .ok (.if_icmp .ne 5, 3) := by decide +kernel
theorem dX11_isDone_49 : decode cX11_isDone 49 = .ok (.iconst 0, 1) := by decide +kernel
theorem dX11_isDone_50 : decode cX11_isDone 50 = .ok (.ireturn, 1) := by decide +kernel
theorem dX11_isDone_51 : decode cX11_isDone 51 = .ok (.aload_n 0, 1) := by decide +kernel
theorem dX11_isDone_52 : decode cX11_isDone 52 = .ok (.invokevirtual 387, 3) := by decide +kernel
theorem dX11_isDone_55 : decode cX11_isDone 55 = .ok (.iconst 1, 1) := by decide +kernel
theorem dX11_isDone_56 : decode cX11_isDone 56 = .ok (.ireturn, 1) := by decide +kernel
theorem dX11_book_0 : decode cX11_book 0 = .ok (.aload_n 0, 1) := by decide +kernel
theorem dX11_book_1 : decode cX11_book 1 = .ok (.iconst 0, 1) := by decide +kernel
theorem dX11_book_2 : decode cX11_book 2 = .ok (.putfield 3, 3) := by decide +kernel
theorem dX11_book_5 : decode cX11_book 5 = .ok (.aload_n 0, 1) := by decide +kernel
theorem dX11_book_6 : decode cX11_book 6 = .ok (.iload_n 1, 1) := by decide +kernel
theorem dX11_book_7 : decode cX11_book 7 = .ok (.ifCond .lt 21, 3) := by decide +kernel
theorem dX11_book_10 : decode cX11_book 10 = .ok (.iload_n 1, 1) := by decide +kernel
theorem dX11_book_11 : decode cX11_book 11 = .ok (.aload_n 0, 1) := by decide +kernel
theorem dX11_book_12 : decode cX11_book 12 = .ok (.getfield 111, 3) := by decide +kernel
theorem dX11_book_15 : decode cX11_book 15 = .ok (.if_icmp .gt 13, 3) := by decide +kernel
theorem dX11_book_18 : decode cX11_book 18 = .ok (.iload_n 1, 1) := by decide +kernel
theorem dX11_book_19 : decode cX11_book 19 = .ok (.bipush 60, 2) := by decide +kernel
theorem dX11_book_21 : decode cX11_book 21 = .ok (.if_icmp .gt 7, 3) := by decide +kernel
theorem dX11_book_24 : decode cX11_book 24 = .ok (.iconst 1, 1) := by decide +kernel
theorem dX11_book_25 : decode cX11_book 25 = .ok (.goto 4, 3) := by decide +kernel
theorem dX11_book_28 : decode cX11_book 28 = .ok (.iconst 0, 1) := by decide +kernel
theorem dX11_book_29 : decode cX11_book 29 = .ok (.iconst 1, 1) := by decide +kernel
theorem dX11_book_30 : decode cX11_book 30 = .ok (.iconst 1, 1) := by decide +kernel
theorem dX11_book_31 : decode cX11_book 31 = .ok (.invokevirtual 213, 3) := by decide +kernel
theorem dX11_book_34 : decode cX11_book 34 = .ok (.ifCond .ne 5, 3) := by decide +kernel
theorem dX11_book_37 : decode cX11_book 37 = .ok (.iconst 0, 1) := by decide +kernel
theorem dX11_book_38 : decode cX11_book 38 = .ok (.ireturn, 1) := by decide +kernel
theorem dX11_book_39 : decode cX11_book 39 = .ok (.aload_n 0, 1) := by decide +kernel
theorem dX11_book_40 : decode cX11_book 40 = .ok (.iload_n 1, 1) := by decide +kernel
theorem dX11_book_41 : decode cX11_book 41 = .ok (.invokevirtual 217, 3) := by decide +kernel
theorem dX11_book_44 : decode cX11_book 44 = .ok (.iconst 0, 1) := by decide +kernel
theorem dX11_book_45 : decode cX11_book 45 = .ok (.istore_n 2, 1) := by decide +kernel
theorem dX11_book_46 : decode cX11_book 46 = .ok (.iload_n 2, 1) := by decide +kernel
theorem dX11_book_47 : decode cX11_book 47 = .ok (.bipush 8, 2) := by decide +kernel
theorem dX11_book_49 : decode cX11_book 49 = .ok (.if_icmp .ge 16, 3) := by decide +kernel
theorem dX11_book_52 : decode cX11_book 52 = .ok (.aload_n 0, 1) := by decide +kernel
theorem dX11_book_53 : decode cX11_book 53 = .ok (.getfield 77, 3) := by decide +kernel
theorem dX11_book_56 : decode cX11_book 56 = .ok (.iload_n 2, 1) := by decide +kernel
theorem dX11_book_57 : decode cX11_book 57 = .ok (.iconst (-1), 1) := by decide +kernel
theorem dX11_book_58 : decode cX11_book 58 = .ok (.iastore, 1) := by decide +kernel
theorem dX11_book_59 : decode cX11_book 59 = .ok (.iinc 2 1, 3) := by decide +kernel
theorem dX11_book_62 : decode cX11_book 62 = .ok (.goto (-16), 3) := by decide +kernel
theorem dX11_book_65 : decode cX11_book 65 = .ok (.iconst 0, 1) := by decide +kernel
theorem dX11_book_66 : decode cX11_book 66 = .ok (.istore_n 2, 1) := by decide +kernel
theorem dX11_book_67 : decode cX11_book 67 = .ok (.aload_n 0, 1) := by decide +kernel
theorem dX11_book_68 : decode cX11_book 68 = .ok (.invokevirtual 143, 3) := by decide +kernel
theorem dX11_book_71 : decode cX11_book 71 = .ok (.ifCond .eq 97, 3) := by decide +kernel
theorem dX11_book_74 : decode cX11_book 74 = .ok (.aload_n 0, 1) := by decide +kernel
theorem dX11_book_75 : decode cX11_book 75 = .ok (.invokevirtual 221, 3) := by decide +kernel
theorem dX11_book_78 : decode cX11_book 78 = .ok (.ifCond .eq 90, 3) := by decide +kernel
theorem dX11_book_81 : decode cX11_book 81 = .ok (.aload_n 0, 1) := by decide +kernel
theorem dX11_book_82 : decode cX11_book 82 = .ok (.invokevirtual 126, 3) := by decide +kernel
theorem dX11_book_85 : decode cX11_book 85 = .ok (.pop, 1) := by decide +kernel
theorem dX11_book_86 : decode cX11_book 86 = .ok (.aload_n 0, 1) := by decide +kernel
theorem dX11_book_87 : decode cX11_book 87 = .ok (.getfield 120, 3) := by decide +kernel
theorem dX11_book_90 : decode cX11_book 90 = .ok (.istore_n 3, 1) := by decide +kernel
theorem dX11_book_91 : decode cX11_book 91 = .ok (.aload_n 0, 1) := by decide +kernel
theorem dX11_book_92 : decode cX11_book 92 = .ok (.iconst 0, 1) := by decide +kernel
theorem dX11_book_93 : decode cX11_book 93 = .ok (.aload_n 0, 1) := by decide +kernel
theorem dX11_book_94 : decode cX11_book 94 = .ok (.getfield 166, 3) := by decide +kernel
theorem dX11_book_97 : decode cX11_book 97 = .ok (.iconst 1, 1) := by decide +kernel
theorem dX11_book_98 : decode cX11_book 98 = .ok (.isub, 1) := by decide +kernel
theorem dX11_book_99 : decode cX11_book 99 = .ok (.invokevirtual 194, 3) := by decide +kernel
theorem dX11_book_102 : decode cX11_book 102 = .ok (.istore 4, 2) := by decide +kernel
theorem dX11_book_104 : decode cX11_book 104 = .ok (.aload_n 0, 1) := by decide +kernel
theorem dX11_book_105 : decode cX11_book 105 = .ok (.invokevirtual 143, 3) := by decide +kernel
theorem dX11_book_108 : decode cX11_book 108 = .ok (.ifCond .eq 20, 3) := by decide +kernel
theorem dX11_book_111 : decode cX11_book 111 = .ok (.aload_n 0, 1) := by decide +kernel
theorem dX11_book_112 : decode cX11_book 112 = .ok (.getfield 77, 3) := by decide +kernel
theorem dX11_book_115 : decode cX11_book 115 = .ok (.iload 4, 2) := by decide +kernel
theorem dX11_book_117 : decode cX11_book 117 = .ok (.iaload, 1) := by decide +kernel
theorem dX11_book_118 : decode cX11_book 118 = .ok (.iconst (-1), 1) := by decide +kernel
theorem dX11_book_119 : decode cX11_book 119 = .ok (.if_icmp .eq 9, 3) := by decide +kernel
theorem dX11_book_122 : decode cX11_book 122 = .ok (.aload_n 0, 1) := by decide +kernel
theorem dX11_book_123 : decode cX11_book 123 = .ok (.iconst 2, 1) := by decide +kernel
theorem dX11_book_124 : decode cX11_book 124 = .ok (.iload_n 3, 1) := by decide +kernel
theorem dX11_book_125 : decode cX11_book 125 = .ok (.invokevirtual 150, 3) := by decide +kernel
theorem dX11_book_128 : decode cX11_book 128 = .ok (.aload_n 0, 1) := by decide +kernel
theorem dX11_book_129 : decode cX11_book 129 = .ok (.iconst 0, 1) := by decide +kernel
theorem dX11_book_130 : decode cX11_book 130 = .ok (.bipush 6, 2) := by decide +kernel
theorem dX11_book_132 : decode cX11_book 132 = .ok (.invokevirtual 194, 3) := by decide +kernel
theorem dX11_book_135 : decode cX11_book 135 = .ok (.istore 5, 2) := by decide +kernel
theorem dX11_book_137 : decode cX11_book 137 = .ok (.aload_n 0, 1) := by decide +kernel
theorem dX11_book_138 : decode cX11_book 138 = .ok (.bipush 59, 2) := by decide +kernel
theorem dX11_book_140 : decode cX11_book 140 = .ok (.invokevirtual 239, 3) := by decide +kernel
theorem dX11_book_143 : decode cX11_book 143 = .ok (.aload_n 0, 1) := by decide +kernel
theorem dX11_book_144 : decode cX11_book 144 = .ok (.invokevirtual 143, 3) := by decide +kernel
theorem dX11_book_147 : decode cX11_book 147 = .ok (.ifCond .ne 6, 3) := by decide +kernel
theorem dX11_book_150 : decode cX11_book 150 = .ok (.goto 18, 3) := by decide +kernel
theorem dX11_book_153 : decode cX11_book 153 = .ok (.aload_n 0, 1) := by decide +kernel
theorem dX11_book_154 : decode cX11_book 154 = .ok (.getfield 77, 3) := by decide +kernel
theorem dX11_book_157 : decode cX11_book 157 = .ok (.iload 4, 2) := by decide +kernel
theorem dX11_book_159 : decode cX11_book 159 = .ok (.iload 5, 2) := by decide +kernel
theorem dX11_book_161 : decode cX11_book 161 = .ok (.iastore, 1) := by decide +kernel
theorem dX11_book_162 : decode cX11_book 162 = .ok (.iinc 2 1, 3) := by decide +kernel
theorem dX11_book_165 : decode cX11_book 165 = .ok (.goto (-98), 3) := by decide +kernel
theorem dX11_book_168 : decode cX11_book 168 = .ok (.aload_n 0, 1) := by decide +kernel
theorem dX11_book_169 : decode cX11_book 169 = .ok (.iload_n 2, 1) := by decide +kernel
theorem dX11_book_170 : decode cX11_book 170 = .ok (.invokevirtual 242, 3) := by decide +kernel
theorem dX11_book_173 : decode cX11_book 173 = .ok (.istore_n 3, 1) := by decide +kernel
theorem dX11_book_174 : decode cX11_book 174 = .ok (.aload_n 0, 1) := by decide +kernel
theorem dX11_book_175 : decode cX11_book 175 = .ok (.getfield 114, 3) := by decide +kernel
theorem dX11_book_178 : decode cX11_book 178 = .ok (.iconst (-1), 1) := by decide +kernel
theorem dX11_book_179 : decode cX11_book 179 = .ok (.if_icmp .eq 5, 3) := by decide +kernel
theorem dX11_book_182 : decode cX11_book 182 = .ok (.iload_n 3, 1) := by decide +kernel
theorem dX11_book_183 : decode cX11_book 183 = .ok (.ireturn, 1) := by decide +kernel
theorem dX11_book_184 : decode cX11_book 184 = .ok (.aload_n 0, 1) := by decide +kernel
theorem dX11_book_185 : decode cX11_book 185 = .ok (.iload_n 2, 1) := by decide +kernel
theorem dX11_book_186 : decode cX11_book 186 = .ok (.putfield 182, 3) := by decide +kernel
theorem dX11_book_189 : decode cX11_book 189 = .ok (.aload_n 0, 1) := by decide +kernel
theorem dX11_book_190 : decode cX11_book 190 = .ok (.aload_n 0, 1) := by decide +kernel
theorem dX11_book_191 : decode cX11_book 191 = .ok (.getfield 77, 3) := by decide +kernel
theorem dX11_book_194 : decode cX11_book 194 = .ok (.aload_n 0, 1) := by decide +kernel
theorem dX11_book_195 : decode cX11_book 195 = .ok (.getfield 80, 3) := by decide +kernel
theorem dX11_book_198 : decode cX11_book 198 = .ok (.bipush 8, 2) := by decide +kernel
theorem dX11_book_200 : decode cX11_book 200 = .ok (.invokevirtual 175, 3) := by decide +kernel
theorem dX11_book_203 : decode cX11_book 203 = .ok (.iload_n 3, 1) := by decide +kernel
theorem dX11_book_204 : decode cX11_book 204 = .ok (.ireturn, 1) := by decide +kernel
theorem dX11_undo_0 : decode cX11_undo 0 = .ok (.aload_n 0, 1) := by decide +kernel
theorem dX11_undo_1 : decode cX11_undo 1 = .ok (.iconst 0, 1) := by decide +kernel
theorem dX11_undo_2 : decode cX11_undo 2 = .ok (.putfield 3, 3) := by decide +kernel
theorem dX11_undo_5 : decode cX11_undo 5 = .ok (.aload_n 0, 1) := by decide +kernel
theorem dX11_undo_6 : decode cX11_undo 6 = .ok (.getfield 185, 3) := by decide +kernel
theorem dX11_undo_9 : decode cX11_undo 9 = .ok (.ifCond .ne 5, 3) := by decide +kernel
theorem dX11_undo_12 : decode cX11_undo 12 = .ok (.iconst (-1), 1) := by decide +kernel
theorem dX11_undo_13 : decode cX11_undo 13 = .ok (.ireturn, 1) := by decide +kernel
theorem dX11_undo_14 : decode cX11_undo 14 = .ok (.aload_n 0, 1) := by decide +kernel
theorem dX11_undo_15 : decode cX11_undo 15 = .ok (.dup, 1) := by decide +kernel
theorem dX11_undo_16 : decode cX11_undo 16 = .ok (.getfield 185, 3) := by decide +kernel
theorem dX11_undo_19 : decode cX11_undo 19 = .ok (.iconst 1, 1) := by decide +kernel
theorem dX11_undo_20 : decode cX11_undo 20 = .ok (.isub, 1) := by decide +kernel
theorem dX11_undo_21 : decode cX11_undo 21 = .ok (.putfield 185, 3) := by decide +kernel
theorem dX11_undo_24 : decode cX11_undo 24 = .ok (.iconst 0, 1) := by decide +kernel
theorem dX11_undo_25 : decode cX11_undo 25 = .ok (.istore_n 1, 1) := by decide +kernel
theorem dX11_undo_26 : decode cX11_undo 26 = .ok (.iload_n 1, 1) := by decide +kernel
theorem dX11_undo_27 : decode cX11_undo 27 = .ok (.bipush 68, 2) := by decide +kernel
theorem dX11_undo_29 : decode cX11_undo 29 = .ok (.if_icmp .ge 29, 3) := by decide +kernel
theorem dX11_undo_32 : decode cX11_undo 32 = .ok (.aload_n 0, 1) := by decide +kernel
theorem dX11_undo_33 : decode cX11_undo 33 = .ok (.getfield 68, 3) := by decide +kernel
theorem dX11_undo_36 : decode cX11_undo 36 = .ok (.iload_n 1, 1) := by decide +kernel
theorem dX11_undo_37 : decode cX11_undo 37 = .ok (.aload_n 0, 1) := by decide +kernel
theorem dX11_undo_38 : decode cX11_undo 38 = .ok (.getfield 74, 3) := by decide +kernel
theorem dX11_undo_41 : decode cX11_undo 41 = .ok (.bipush 68, 2) := by decide +kernel
theorem dX11_undo_43 : decode cX11_undo 43 = .ok (.aload_n 0, 1) := by decide +kernel
theorem dX11_undo_44 : decode cX11_undo 44 = .ok (.getfield 185, 3) := by decide +kernel
theorem dX11_undo_47 : decode cX11_undo 47 = .ok (.imul, 1) := by decide +kernel
theorem dX11_undo_48 : decode cX11_undo 48 = .ok (.iload_n 1, 1) := by decide +kernel
theorem dX11_undo_49 : decode cX11_undo 49 = .ok (.iadd, 1) := by decide +kernel
theorem dX11_undo_50 : decode cX11_undo 50 = .ok (.iaload, 1) := by decide +kernel
theorem dX11_undo_51 : decode cX11_undo 51 = .ok (.iastore, 1) := by decide +kernel
theorem dX11_undo_52 : decode cX11_undo 52 = .ok (.iinc 1 1, 3) := by decide +kernel
theorem dX11_undo_55 : decode cX11_undo 55 = .ok (.goto (-29), 3) := by decide +kernel
theorem dX11_undo_58 : decode cX11_undo 58 = .ok (.aload_n 0, 1) := by decide +kernel
theorem dX11_undo_59 : decode cX11_undo 59 = .ok (.iconst 0, 1) := by decide +kernel
theorem dX11_undo_60 : decode cX11_undo 60 = .ok (.putfield 191, 3) := by decide +kernel
theorem dX11_undo_63 : decode cX11_undo 63 = .ok (.aload_n 0, 1) := by decide +kernel
theorem dX11_undo_64 : decode cX11_undo 64 = .ok (.getfield 185, 3) := by decide +kernel
theorem dX11_undo_67 : decode cX11_undo 67 = .ok (.ireturn, 1) := by decide +kernel
theorem dX11_caughtNow_0 : decode cX11_caughtNow 0 = .ok (.iconst 0, 1) := by decide +kernel
theorem dX11_caughtNow_1 : decode cX11_caughtNow 1 = .ok (.istore_n 1, 1) := by decide +kernel
theorem dX11_caughtNow_2 : decode cX11_caughtNow 2 = .ok (.iconst 0, 1) := by decide +kernel
theorem dX11_caughtNow_3 : decode cX11_caughtNow 3 = .ok (.istore_n 2, 1) := by decide +kernel
theorem dX11_caughtNow_4 : decode cX11_caughtNow 4 = .ok (.iload_n 2, 1) := by decide +kernel
theorem dX11_caughtNow_5 : decode cX11_caughtNow 5 = .ok (.aload_n 0, 1) := by decide +kernel
theorem dX11_caughtNow_6 : decode cX11_caughtNow 6 = .ok (.getfield 169, 3) := by decide +kernel
theorem dX11_caughtNow_9 : decode cX11_caughtNow 9 = .ok (.if_icmp .ge 27, 3) := by decide +kernel
theorem dX11_caughtNow_12 : decode cX11_caughtNow 12 = .ok (.iload_n 1, 1) := by decide +kernel
theorem dX11_caughtNow_13 : decode cX11_caughtNow 13 = .ok (.aload_n 0, 1) := by decide +kernel
theorem dX11_caughtNow_14 : decode cX11_caughtNow 14 = .ok (.iload_n 2, 1) := by decide +kernel
theorem dX11_caughtNow_15 : decode cX11_caughtNow 15 = .ok (.invokevirtual 340, 3) := by decide +kernel
theorem dX11_caughtNow_18 : decode cX11_caughtNow 18 = .ok (.ifCond .eq 9, 3) := by decide +kernel
theorem dX11_caughtNow_21 : decode cX11_caughtNow 21 = .ok (.iconst 1, 1) := by decide +kernel
theorem dX11_caughtNow_22 : decode cX11_caughtNow 22 = .ok (.iload_n 2, 1) := by decide +kernel
theorem dX11_caughtNow_23 : decode cX11_caughtNow 23 = .ok (.ishl, 1) := by decide +kernel
theorem dX11_caughtNow_24 : decode cX11_caughtNow 24 = .ok (.goto 4, 3) := by decide +kernel
theorem dX11_caughtNow_27 : decode cX11_caughtNow 27 = .ok (.iconst 0, 1) := by decide +kernel
theorem dX11_caughtNow_28 : decode cX11_caughtNow 28 = .ok (.ior, 1) := by decide +kernel
theorem dX11_caughtNow_29 : decode cX11_caughtNow 29 = .ok (.istore_n 1, 1) := by decide +kernel
theorem dX11_caughtNow_30 : decode cX11_caughtNow 30 = .ok (.iinc 2 1, 3) := by decide +kernel
theorem dX11_caughtNow_33 : decode cX11_caughtNow 33 = .ok (.goto (-29), 3) := by decide +kernel
theorem dX11_caughtNow_36 : decode cX11_caughtNow 36 = .ok (.iload_n 1, 1) := by decide +kernel
theorem dX11_caughtNow_37 : decode cX11_caughtNow 37 = .ok (.ireturn, 1) := by decide +kernel
theorem dX11_debtsNow_0 : decode cX11_debtsNow 0 = .ok (.iconst 0, 1) := by decide +kernel
theorem dX11_debtsNow_1 : decode cX11_debtsNow 1 = .ok (.istore_n 1, 1) := by decide +kernel
theorem dX11_debtsNow_2 : decode cX11_debtsNow 2 = .ok (.iconst 0, 1) := by decide +kernel
theorem dX11_debtsNow_3 : decode cX11_debtsNow 3 = .ok (.istore_n 2, 1) := by decide +kernel
theorem dX11_debtsNow_4 : decode cX11_debtsNow 4 = .ok (.iload_n 2, 1) := by decide +kernel
theorem dX11_debtsNow_5 : decode cX11_debtsNow 5 = .ok (.bipush 36, 2) := by decide +kernel
theorem dX11_debtsNow_7 : decode cX11_debtsNow 7 = .ok (.if_icmp .ge 21, 3) := by decide +kernel
theorem dX11_debtsNow_10 : decode cX11_debtsNow 10 = .ok (.iload_n 1, 1) := by decide +kernel
theorem dX11_debtsNow_11 : decode cX11_debtsNow 11 = .ok (.aload_n 0, 1) := by decide +kernel
theorem dX11_debtsNow_12 : decode cX11_debtsNow 12 = .ok (.getfield 71, 3) := by decide +kernel
theorem dX11_debtsNow_15 : decode cX11_debtsNow 15 = .ok (.bipush 30, 2) := by decide +kernel
theorem dX11_debtsNow_17 : decode cX11_debtsNow 17 = .ok (.iload_n 2, 1) := by decide +kernel
theorem dX11_debtsNow_18 : decode cX11_debtsNow 18 = .ok (.iadd, 1) := by decide +kernel
theorem dX11_debtsNow_19 : decode cX11_debtsNow 19 = .ok (.iaload, 1) := by decide +kernel
theorem dX11_debtsNow_20 : decode cX11_debtsNow 20 = .ok (.iadd, 1) := by decide +kernel
theorem dX11_debtsNow_21 : decode cX11_debtsNow 21 = .ok (.istore_n 1, 1) := by decide +kernel
theorem dX11_debtsNow_22 : decode cX11_debtsNow 22 = .ok (.iinc 2 1, 3) := by decide +kernel
theorem dX11_debtsNow_25 : decode cX11_debtsNow 25 = .ok (.goto (-21), 3) := by decide +kernel
theorem dX11_debtsNow_28 : decode cX11_debtsNow 28 = .ok (.iload_n 1, 1) := by decide +kernel
theorem dX11_debtsNow_29 : decode cX11_debtsNow 29 = .ok (.ireturn, 1) := by decide +kernel
theorem dX11_bitsTold_0 : decode cX11_bitsTold 0 = .ok (.iconst 0, 1) := by decide +kernel
theorem dX11_bitsTold_1 : decode cX11_bitsTold 1 = .ok (.istore_n 2, 1) := by decide +kernel
theorem dX11_bitsTold_2 : decode cX11_bitsTold 2 = .ok (.iconst 0, 1) := by decide +kernel
theorem dX11_bitsTold_3 : decode cX11_bitsTold 3 = .ok (.istore_n 3, 1) := by decide +kernel
theorem dX11_bitsTold_4 : decode cX11_bitsTold 4 = .ok (.iload_n 3, 1) := by decide +kernel
theorem dX11_bitsTold_5 : decode cX11_bitsTold 5 = .ok (.aload_n 0, 1) := by decide +kernel
theorem dX11_bitsTold_6 : decode cX11_bitsTold 6 = .ok (.getfield 169, 3) := by decide +kernel
theorem dX11_bitsTold_9 : decode cX11_bitsTold 9 = .ok (.if_icmp .ge 49, 3) := by decide +kernel
theorem dX11_bitsTold_12 : decode cX11_bitsTold 12 = .ok (.iload_n 2, 1) := by decide +kernel
theorem dX11_bitsTold_13 : decode cX11_bitsTold 13 = .ok (.iload_n 1, 1) := by decide +kernel
theorem dX11_bitsTold_14 : decode cX11_bitsTold 14 = .ok (.bipush 6, 2) := by decide +kernel
theorem dX11_bitsTold_16 : decode cX11_bitsTold 16 = .ok (.if_icmp .ne 19, 3) := by decide +kernel
theorem dX11_bitsTold_19 : decode cX11_bitsTold 19 = .ok (.aload_n 0, 1) := by decide +kernel
theorem dX11_bitsTold_20 : decode cX11_bitsTold 20 = .ok (.getfield 71, 3) := by decide +kernel
theorem dX11_bitsTold_23 : decode cX11_bitsTold 23 = .ok (.bipush 24, 2) := by decide +kernel
theorem dX11_bitsTold_25 : decode cX11_bitsTold 25 = .ok (.iload_n 3, 1) := by decide +kernel
theorem dX11_bitsTold_26 : decode cX11_bitsTold 26 = .ok (.iadd, 1) := by decide +kernel
theorem dX11_bitsTold_27 : decode cX11_bitsTold 27 = .ok (.iaload, 1) := by decide +kernel
theorem dX11_bitsTold_28 : decode cX11_bitsTold 28 = .ok (.iconst 1, 1) := by decide +kernel
theorem dX11_bitsTold_29 : decode cX11_bitsTold 29 = .ok (.if_icmp .ne 20, 3) := by decide +kernel
theorem dX11_bitsTold_32 : decode cX11_bitsTold 32 = .ok (.goto 11, 3) := by decide +kernel
theorem dX11_bitsTold_35 : decode cX11_bitsTold 35 = .ok (.aload_n 0, 1) := by decide +kernel
theorem dX11_bitsTold_36 : decode cX11_bitsTold 36 = .ok (.iload_n 3, 1) := by decide +kernel
theorem dX11_bitsTold_37 : decode cX11_bitsTold 37 = .ok (.invokevirtual 371, 3) := by decide +kernel
theorem dX11_bitsTold_40 : decode cX11_bitsTold 40 = .ok (.ifCond .eq 9, 3) := by decide +kernel
theorem dX11_bitsTold_43 : decode cX11_bitsTold 43 = .ok (.iconst 1, 1) := by decide +kernel
theorem dX11_bitsTold_44 : decode cX11_bitsTold 44 = .ok (.iload_n 3, 1) := by decide +kernel
theorem dX11_bitsTold_45 : decode cX11_bitsTold 45 = .ok (.ishl, 1) := by decide +kernel
theorem dX11_bitsTold_46 : decode cX11_bitsTold 46 = .ok (.goto 4, 3) := by decide +kernel
theorem dX11_bitsTold_49 : decode cX11_bitsTold 49 = .ok (.iconst 0, 1) := by decide +kernel
theorem dX11_bitsTold_50 : decode cX11_bitsTold 50 = .ok (.ior, 1) := by decide +kernel
theorem dX11_bitsTold_51 : decode cX11_bitsTold 51 = .ok (.istore_n 2, 1) := by decide +kernel
theorem dX11_bitsTold_52 : decode cX11_bitsTold 52 = .ok (.iinc 3 1, 3) := by decide +kernel
theorem dX11_bitsTold_55 : decode cX11_bitsTold 55 = .ok (.goto (-51), 3) := by decide +kernel
theorem dX11_bitsTold_58 : decode cX11_bitsTold 58 = .ok (.iload_n 2, 1) := by decide +kernel
theorem dX11_bitsTold_59 : decode cX11_bitsTold 59 = .ok (.ireturn, 1) := by decide +kernel
theorem dX11_safeForms_0 : decode cX11_safeForms 0 = .ok (.iconst 0, 1) := by decide +kernel
theorem dX11_safeForms_1 : decode cX11_safeForms 1 = .ok (.istore_n 1, 1) := by decide +kernel
theorem dX11_safeForms_2 : decode cX11_safeForms 2 = .ok (.iconst 0, 1) := by decide +kernel
theorem dX11_safeForms_3 : decode cX11_safeForms 3 = .ok (.istore_n 2, 1) := by decide +kernel
theorem dX11_safeForms_4 : decode cX11_safeForms 4 = .ok (.iload_n 2, 1) := by decide +kernel
theorem dX11_safeForms_5 : decode cX11_safeForms 5 = .ok (.aload_n 0, 1) := by decide +kernel
theorem dX11_safeForms_6 : decode cX11_safeForms 6 = .ok (.getfield 166, 3) := by decide +kernel
theorem dX11_safeForms_9 : decode cX11_safeForms 9 = .ok (.if_icmp .ge 27, 3) := by decide +kernel
theorem dX11_safeForms_12 : decode cX11_safeForms 12 = .ok (.iload_n 1, 1) := by decide +kernel
theorem dX11_safeForms_13 : decode cX11_safeForms 13 = .ok (.aload_n 0, 1) := by decide +kernel
theorem dX11_safeForms_14 : decode cX11_safeForms 14 = .ok (.iload_n 2, 1) := by decide +kernel
theorem dX11_safeForms_15 : decode cX11_safeForms 15 = .ok (.invokevirtual 368, 3) := by decide +kernel
theorem dX11_safeForms_18 : decode cX11_safeForms 18 = .ok (.ifCond .eq 9, 3) := by decide +kernel
theorem dX11_safeForms_21 : decode cX11_safeForms 21 = .ok (.iconst 1, 1) := by decide +kernel
theorem dX11_safeForms_22 : decode cX11_safeForms 22 = .ok (.iload_n 2, 1) := by decide +kernel
theorem dX11_safeForms_23 : decode cX11_safeForms 23 = .ok (.ishl, 1) := by decide +kernel
theorem dX11_safeForms_24 : decode cX11_safeForms 24 = .ok (.goto 4, 3) := by decide +kernel
theorem dX11_safeForms_27 : decode cX11_safeForms 27 = .ok (.iconst 0, 1) := by decide +kernel
theorem dX11_safeForms_28 : decode cX11_safeForms 28 = .ok (.ior, 1) := by decide +kernel
theorem dX11_safeForms_29 : decode cX11_safeForms 29 = .ok (.istore_n 1, 1) := by decide +kernel
theorem dX11_safeForms_30 : decode cX11_safeForms 30 = .ok (.iinc 2 1, 3) := by decide +kernel
theorem dX11_safeForms_33 : decode cX11_safeForms 33 = .ok (.goto (-29), 3) := by decide +kernel
theorem dX11_safeForms_36 : decode cX11_safeForms 36 = .ok (.iload_n 1, 1) := by decide +kernel
theorem dX11_safeForms_37 : decode cX11_safeForms 37 = .ok (.ireturn, 1) := by decide +kernel
theorem dX11_told_0 : decode cX11_told 0 = .ok (.aload_n 0, 1) := by decide +kernel
theorem dX11_told_1 : decode cX11_told 1 = .ok (.iconst 0, 1) := by decide +kernel
theorem dX11_told_2 : decode cX11_told 2 = .ok (.putfield 3, 3) := by decide +kernel
theorem dX11_told_5 : decode cX11_told 5 = .ok (.aload_n 0, 1) := by decide +kernel
theorem dX11_told_6 : decode cX11_told 6 = .ok (.iload_n 1, 1) := by decide +kernel
theorem dX11_told_7 : decode cX11_told 7 = .ok (.iconst 0, 1) := by decide +kernel
theorem dX11_told_8 : decode cX11_told 8 = .ok (.bipush 11, 2) := by decide +kernel
theorem dX11_told_10 : decode cX11_told 10 = .ok (.invokestatic 390, 3) := by decide +kernel
theorem dX11_told_13 : decode cX11_told 13 = .ok (.iconst 1, 1) := by decide +kernel
theorem dX11_told_14 : decode cX11_told 14 = .ok (.iconst 1, 1) := by decide +kernel
theorem dX11_told_15 : decode cX11_told 15 = .ok (.invokevirtual 213, 3) := by decide +kernel
theorem dX11_told_18 : decode cX11_told 18 = .ok (.ifCond .ne 5, 3) := by decide +kernel
theorem dX11_told_21 : decode cX11_told 21 = .ok (.iconst 0, 1) := by decide +kernel
theorem dX11_told_22 : decode cX11_told 22 = .ok (.ireturn, 1) := by decide +kernel
theorem dX11_told_23 : decode cX11_told 23 = .ok (.aload_n 0, 1) := by decide +kernel
theorem dX11_told_24 : decode cX11_told 24 = .ok (.invokevirtual 316, 3) := by decide +kernel
theorem dX11_told_27 : decode cX11_told 27 = .ok (.iload_n 1, 1) := by decide +kernel
theorem dX11_told_28 : decode cX11_told 28 = .ok (.iconst 5, 1) := by decide +kernel
theorem dX11_told_29 : decode cX11_told 29 = .ok (.if_icmp .ge 56, 3) := by decide +kernel
theorem dX11_told_32 : decode cX11_told 32 = .ok (.iload_n 1, 1) := by decide +kernel
theorem dX11_told_33 : decode cX11_told 33 = .ok (.ifCond .ne 10, 3) := by decide +kernel
theorem dX11_told_36 : decode cX11_told 36 = .ok (.aload_n 0, 1) := by decide +kernel
theorem dX11_told_37 : decode cX11_told 37 = .ok (.getfield 166, 3) := by decide +kernel
theorem dX11_told_40 : decode cX11_told 40 = .ok (.goto 44, 3) := by decide +kernel
theorem dX11_told_43 : decode cX11_told 43 = .ok (.iload_n 1, 1) := by decide +kernel
theorem dX11_told_44 : decode cX11_told 44 = .ok (.iconst 1, 1) := by decide +kernel
theorem dX11_told_45 : decode cX11_told 45 = .ok (.if_icmp .ne 10, 3) := by decide +kernel
theorem dX11_told_48 : decode cX11_told 48 = .ok (.aload_n 0, 1) := by decide +kernel
theorem dX11_told_49 : decode cX11_told 49 = .ok (.getfield 169, 3) := by decide +kernel
theorem dX11_told_52 : decode cX11_told 52 = .ok (.goto 32, 3) := by decide +kernel
theorem dX11_told_55 : decode cX11_told 55 = .ok (.iload_n 1, 1) := by decide +kernel
theorem dX11_told_56 : decode cX11_told 56 = .ok (.iconst 2, 1) := by decide +kernel
theorem dX11_told_57 : decode cX11_told 57 = .ok (.if_icmp .ne 10, 3) := by decide +kernel
theorem dX11_told_60 : decode cX11_told 60 = .ok (.aload_n 0, 1) := by decide +kernel
theorem dX11_told_61 : decode cX11_told 61 = .ok (.getfield 172, 3) := by decide +kernel
theorem dX11_told_64 : decode cX11_told 64 = .ok (.goto 20, 3) := by decide +kernel
theorem dX11_told_67 : decode cX11_told 67 = .ok (.aload_n 0, 1) := by decide +kernel
theorem dX11_told_68 : decode cX11_told 68 = .ok (.getfield 71, 3) := by decide +kernel
theorem dX11_told_71 : decode cX11_told 71 = .ok (.iload_n 1, 1) := by decide +kernel
theorem dX11_told_72 : decode cX11_told 72 = .ok (.iconst 3, 1) := by decide +kernel
theorem dX11_told_73 : decode cX11_told 73 = .ok (.if_icmp .ne 8, 3) := by decide +kernel
theorem dX11_told_76 : decode cX11_told 76 = .ok (.bipush 66, 2) := by decide +kernel
theorem dX11_told_78 : decode cX11_told 78 = .ok (.goto 5, 3) := by decide +kernel
theorem dX11_told_81 : decode cX11_told 81 = .ok (.bipush 67, 2) := by decide +kernel
theorem dX11_told_83 : decode cX11_told 83 = .ok (.iaload, 1) := by decide +kernel
theorem dX11_told_84 : decode cX11_told 84 = .ok (.ireturn, 1) := by decide +kernel
theorem dX11_told_85 : decode cX11_told 85 = .ok (.iload_n 1, 1) := by decide +kernel
theorem dX11_told_86 : decode cX11_told 86 = .ok (.bipush 6, 2) := by decide +kernel
theorem dX11_told_88 : decode cX11_told 88 = .ok (.if_icmp .eq 9, 3) := by decide +kernel
theorem dX11_told_91 : decode cX11_told 91 = .ok (.iload_n 1, 1) := by decide +kernel
theorem dX11_told_92 : decode cX11_told 92 = .ok (.bipush 11, 2) := by decide +kernel
theorem dX11_told_94 : decode cX11_told 94 = .ok (.if_icmp .ne 9, 3) := by decide +kernel
theorem dX11_told_97 : decode cX11_told 97 = .ok (.aload_n 0, 1) := by decide +kernel
theorem dX11_told_98 : decode cX11_told 98 = .ok (.iload_n 1, 1) := by decide +kernel
theorem dX11_told_99 : decode cX11_told 99 = .ok (.invokevirtual 393, 3) := by decide +kernel
theorem dX11_told_102 : decode cX11_told 102 = .ok (.ireturn, 1) := by decide +kernel
theorem dX11_told_103 : decode cX11_told 103 = .ok (.iload_n 1, 1) := by decide +kernel
theorem dX11_told_104 : decode cX11_told 104 = .ok (.iconst 5, 1) := by decide +kernel
theorem dX11_told_105 : decode cX11_told 105 = .ok (.if_icmp .ne 10, 3) := by decide +kernel
theorem dX11_told_108 : decode cX11_told 108 = .ok (.aload_n 0, 1) := by decide +kernel
theorem dX11_told_109 : decode cX11_told 109 = .ok (.invokevirtual 396, 3) := by decide +kernel
theorem dX11_told_112 : decode cX11_told 112 = .ok (.goto 46, 3) := by decide +kernel
theorem dX11_told_115 : decode cX11_told 115 = .ok (.iload_n 1, 1) := by decide +kernel
theorem dX11_told_116 : decode cX11_told 116 = .ok (.bipush 7, 2) := by decide +kernel
theorem dX11_told_118 : decode cX11_told 118 = .ok (.if_icmp .ne 10, 3) := by decide +kernel
theorem dX11_told_121 : decode cX11_told 121 = .ok (.aload_n 0, 1) := by decide +kernel
theorem dX11_told_122 : decode cX11_told 122 = .ok (.invokevirtual 399, 3) := by decide +kernel
theorem dX11_told_125 : decode cX11_told 125 = .ok (.goto 33, 3) := by decide +kernel
theorem dX11_told_128 : decode cX11_told 128 = .ok (.iload_n 1, 1) := by decide +kernel
theorem dX11_told_129 : decode cX11_told 129 = .ok (.bipush 8, 2) := by decide +kernel
theorem dX11_told_131 : decode cX11_told 131 = .ok (.if_icmp .ne 10, 3) := by decide +kernel
theorem dX11_told_134 : decode cX11_told 134 = .ok (.aload_n 0, 1) := by decide +kernel
theorem dX11_told_135 : decode cX11_told 135 = .ok (.invokevirtual 402, 3) := by decide +kernel
theorem dX11_told_138 : decode cX11_told 138 = .ok (.goto 20, 3) := by decide +kernel
theorem dX11_told_141 : decode cX11_told 141 = .ok (.iload_n 1, 1) := by decide +kernel
theorem dX11_told_142 : decode cX11_told 142 = .ok (.bipush 9, 2) := by decide +kernel
theorem dX11_told_144 : decode cX11_told 144 = .ok (.if_icmp .ne 10, 3) := by decide +kernel
theorem dX11_told_147 : decode cX11_told 147 = .ok (.aload_n 0, 1) := by decide +kernel
theorem dX11_told_148 : decode cX11_told 148 = .ok (.getfield 182, 3) := by decide +kernel
theorem dX11_told_151 : decode cX11_told 151 = .ok (.goto 7, 3) := by decide +kernel
theorem dX11_told_154 : decode cX11_told 154 = .ok (.aload_n 0, 1) := by decide +kernel
theorem dX11_told_155 : decode cX11_told 155 = .ok (.getfield 191, 3) := by decide +kernel
theorem dX11_told_158 : decode cX11_told 158 = .ok (.ireturn, 1) := by decide +kernel
theorem dX11_isForm_0 : decode cX11_isForm 0 = .ok (.aload_n 0, 1) := by decide +kernel
theorem dX11_isForm_1 : decode cX11_isForm 1 = .ok (.iload_n 1, 1) := by decide +kernel
theorem dX11_isForm_2 : decode cX11_isForm 2 = .ok (.iconst 0, 1) := by decide +kernel
theorem dX11_isForm_3 : decode cX11_isForm 3 = .ok (.aload_n 0, 1) := by decide +kernel
theorem dX11_isForm_4 : decode cX11_isForm 4 = .ok (.getfield 166, 3) := by decide +kernel
theorem dX11_isForm_7 : decode cX11_isForm 7 = .ok (.iconst 1, 1) := by decide +kernel
theorem dX11_isForm_8 : decode cX11_isForm 8 = .ok (.isub, 1) := by decide +kernel
theorem dX11_isForm_9 : decode cX11_isForm 9 = .ok (.invokestatic 390, 3) := by decide +kernel
theorem dX11_isForm_12 : decode cX11_isForm 12 = .ok (.iload_n 2, 1) := by decide +kernel
theorem dX11_isForm_13 : decode cX11_isForm 13 = .ok (.iconst 0, 1) := by decide +kernel
theorem dX11_isForm_14 : decode cX11_isForm 14 = .ok (.invokevirtual 213, 3) := by decide +kernel
theorem dX11_isForm_17 : decode cX11_isForm 17 = .ok (.ireturn, 1) := by decide +kernel
theorem dX11_isHare_0 : decode cX11_isHare 0 = .ok (.aload_n 0, 1) := by decide +kernel
theorem dX11_isHare_1 : decode cX11_isHare 1 = .ok (.iload_n 1, 1) := by decide +kernel
theorem dX11_isHare_2 : decode cX11_isHare 2 = .ok (.iconst 0, 1) := by decide +kernel
theorem dX11_isHare_3 : decode cX11_isHare 3 = .ok (.aload_n 0, 1) := by decide +kernel
theorem dX11_isHare_4 : decode cX11_isHare 4 = .ok (.getfield 169, 3) := by decide +kernel
theorem dX11_isHare_7 : decode cX11_isHare 7 = .ok (.iconst 1, 1) := by decide +kernel
theorem dX11_isHare_8 : decode cX11_isHare 8 = .ok (.isub, 1) := by decide +kernel
theorem dX11_isHare_9 : decode cX11_isHare 9 = .ok (.invokestatic 390, 3) := by decide +kernel
theorem dX11_isHare_12 : decode cX11_isHare 12 = .ok (.iload_n 2, 1) := by decide +kernel
theorem dX11_isHare_13 : decode cX11_isHare 13 = .ok (.iconst 0, 1) := by decide +kernel
theorem dX11_isHare_14 : decode cX11_isHare 14 = .ok (.invokevirtual 213, 3) := by decide +kernel
theorem dX11_isHare_17 : decode cX11_isHare 17 = .ok (.ireturn, 1) := by decide +kernel
theorem dX11_form_0 : decode cX11_form 0 = .ok (.aload_n 0, 1) := by decide +kernel
theorem dX11_form_1 : decode cX11_form 1 = .ok (.iconst 0, 1) := by decide +kernel
theorem dX11_form_2 : decode cX11_form 2 = .ok (.putfield 3, 3) := by decide +kernel
theorem dX11_form_5 : decode cX11_form 5 = .ok (.aload_n 0, 1) := by decide +kernel
theorem dX11_form_6 : decode cX11_form 6 = .ok (.iload_n 1, 1) := by decide +kernel
theorem dX11_form_7 : decode cX11_form 7 = .ok (.iconst 1, 1) := by decide +kernel
theorem dX11_form_8 : decode cX11_form 8 = .ok (.invokevirtual 405, 3) := by decide +kernel
theorem dX11_form_11 : decode cX11_form 11 = .ok (.ifCond .eq 18, 3) := by decide +kernel
theorem dX11_form_14 : decode cX11_form 14 = .ok (.aload_n 0, 1) := by decide +kernel
theorem dX11_form_15 : decode cX11_form 15 = .ok (.iload_n 2, 1) := by decide +kernel
theorem dX11_form_16 : decode cX11_form 16 = .ok (.iconst 0, 1) := by decide +kernel
theorem dX11_form_17 : decode cX11_form 17 = .ok (.iconst 3, 1) := by decide +kernel
theorem dX11_form_18 : decode cX11_form 18 = .ok (.invokestatic 390, 3) := by decide +kernel
theorem dX11_form_21 : decode cX11_form 21 = .ok (.iconst 2, 1) := by decide +kernel
theorem dX11_form_22 : decode cX11_form 22 = .ok (.iconst 1, 1) := by decide +kernel
theorem dX11_form_23 : decode cX11_form 23 = .ok (.invokevirtual 213, 3) := by decide +kernel
theorem dX11_form_26 : decode cX11_form 26 = .ok (.ifCond .ne 5, 3) := by decide +kernel
theorem dX11_form_29 : decode cX11_form 29 = .ok (.iconst 0, 1) := by decide +kernel
theorem dX11_form_30 : decode cX11_form 30 = .ok (.ireturn, 1) := by decide +kernel
theorem dX11_form_31 : decode cX11_form 31 = .ok (.aload_n 0, 1) := by decide +kernel
theorem dX11_form_32 : decode cX11_form 32 = .ok (.invokevirtual 316, 3) := by decide +kernel
theorem dX11_form_35 : decode cX11_form 35 = .ok (.iload_n 2, 1) := by decide +kernel
theorem dX11_form_36 : decode cX11_form 36 = .ok (.iconst 2, 1) := by decide +kernel
theorem dX11_form_37 : decode cX11_form 37 = .ok (.if_icmp .ge 16, 3) := by decide +kernel
theorem dX11_form_40 : decode cX11_form 40 = .ok (.aload_n 0, 1) := by decide +kernel
theorem dX11_form_41 : decode cX11_form 41 = .ok (.getfield 35, 3) := by decide +kernel
theorem dX11_form_44 : decode cX11_form 44 = .ok (.iconst 2, 1) := by decide +kernel
theorem dX11_form_45 : decode cX11_form 45 = .ok (.iload_n 1, 1) := by decide +kernel
theorem dX11_form_46 : decode cX11_form 46 = .ok (.imul, 1) := by decide +kernel
theorem dX11_form_47 : decode cX11_form 47 = .ok (.iload_n 2, 1) := by decide +kernel
theorem dX11_form_48 : decode cX11_form 48 = .ok (.iadd, 1) := by decide +kernel
theorem dX11_form_49 : decode cX11_form 49 = .ok (.iaload, 1) := by decide +kernel
theorem dX11_form_50 : decode cX11_form 50 = .ok (.goto 29, 3) := by decide +kernel
theorem dX11_form_53 : decode cX11_form 53 = .ok (.iload_n 2, 1) := by decide +kernel
theorem dX11_form_54 : decode cX11_form 54 = .ok (.iconst 2, 1) := by decide +kernel
theorem dX11_form_55 : decode cX11_form 55 = .ok (.if_icmp .ne 19, 3) := by decide +kernel
theorem dX11_form_58 : decode cX11_form 58 = .ok (.aload_n 0, 1) := by decide +kernel
theorem dX11_form_59 : decode cX11_form 59 = .ok (.iload_n 1, 1) := by decide +kernel
theorem dX11_form_60 : decode cX11_form 60 = .ok (.invokevirtual 368, 3) := by decide +kernel
theorem dX11_form_63 : decode cX11_form 63 = .ok (.ifCond .eq 7, 3) := by decide +kernel
theorem dX11_form_66 : decode cX11_form 66 = .ok (.iconst 1, 1) := by decide +kernel
theorem dX11_form_67 : decode cX11_form 67 = .ok (.goto 12, 3) := by decide +kernel
theorem dX11_form_70 : decode cX11_form 70 = .ok (.iconst 0, 1) := by decide +kernel
theorem dX11_form_71 : decode cX11_form 71 = .ok (.goto 8, 3) := by decide +kernel
theorem dX11_form_74 : decode cX11_form 74 = .ok (.aload_n 0, 1) := by decide +kernel
theorem dX11_form_75 : decode cX11_form 75 = .ok (.iload_n 1, 1) := by decide +kernel
theorem dX11_form_76 : decode cX11_form 76 = .ok (.invokevirtual 348, 3) := by decide +kernel
theorem dX11_form_79 : decode cX11_form 79 = .ok (.ireturn, 1) := by decide +kernel
theorem dX11_hare_0 : decode cX11_hare 0 = .ok (.aload_n 0, 1) := by decide +kernel
theorem dX11_hare_1 : decode cX11_hare 1 = .ok (.iconst 0, 1) := by decide +kernel
theorem dX11_hare_2 : decode cX11_hare 2 = .ok (.putfield 3, 3) := by decide +kernel
theorem dX11_hare_5 : decode cX11_hare 5 = .ok (.aload_n 0, 1) := by decide +kernel
theorem dX11_hare_6 : decode cX11_hare 6 = .ok (.iload_n 1, 1) := by decide +kernel
theorem dX11_hare_7 : decode cX11_hare 7 = .ok (.iconst 1, 1) := by decide +kernel
theorem dX11_hare_8 : decode cX11_hare 8 = .ok (.invokevirtual 408, 3) := by decide +kernel
theorem dX11_hare_11 : decode cX11_hare 11 = .ok (.ifCond .eq 19, 3) := by decide +kernel
theorem dX11_hare_14 : decode cX11_hare 14 = .ok (.aload_n 0, 1) := by decide +kernel
theorem dX11_hare_15 : decode cX11_hare 15 = .ok (.iload_n 2, 1) := by decide +kernel
theorem dX11_hare_16 : decode cX11_hare 16 = .ok (.iconst 0, 1) := by decide +kernel
theorem dX11_hare_17 : decode cX11_hare 17 = .ok (.bipush 7, 2) := by decide +kernel
theorem dX11_hare_19 : decode cX11_hare 19 = .ok (.invokestatic 390, 3) := by decide +kernel
theorem dX11_hare_22 : decode cX11_hare 22 = .ok (.iconst 2, 1) := by decide +kernel
theorem dX11_hare_23 : decode cX11_hare 23 = .ok (.iconst 1, 1) := by decide +kernel
theorem dX11_hare_24 : decode cX11_hare 24 = .ok (.invokevirtual 213, 3) := by decide +kernel
theorem dX11_hare_27 : decode cX11_hare 27 = .ok (.ifCond .ne 5, 3) := by decide +kernel
theorem dX11_hare_30 : decode cX11_hare 30 = .ok (.iconst 0, 1) := by decide +kernel
theorem dX11_hare_31 : decode cX11_hare 31 = .ok (.ireturn, 1) := by decide +kernel
theorem dX11_hare_32 : decode cX11_hare 32 = .ok (.aload_n 0, 1) := by decide +kernel
theorem dX11_hare_33 : decode cX11_hare 33 = .ok (.invokevirtual 316, 3) := by decide +kernel
theorem dX11_hare_36 : decode cX11_hare 36 = .ok (.iload_n 2, 1) := by decide +kernel
theorem dX11_hare_37 : decode cX11_hare 37 = .ok (.iconst 5, 1) := by decide +kernel
theorem dX11_hare_38 : decode cX11_hare 38 = .ok (.if_icmp .ge 59, 3) := by decide +kernel
theorem dX11_hare_41 : decode cX11_hare 41 = .ok (.iload_n 2, 1) := by decide +kernel
theorem dX11_hare_42 : decode cX11_hare 42 = .ok (.iconst 2, 1) := by decide +kernel
theorem dX11_hare_43 : decode cX11_hare 43 = .ok (.if_icmp .ne 16, 3) := by decide +kernel
theorem dX11_hare_46 : decode cX11_hare 46 = .ok (.aload_n 0, 1) := by decide +kernel
theorem dX11_hare_47 : decode cX11_hare 47 = .ok (.getfield 38, 3) := by decide +kernel
theorem dX11_hare_50 : decode cX11_hare 50 = .ok (.iconst 2, 1) := by decide +kernel
theorem dX11_hare_51 : decode cX11_hare 51 = .ok (.iload_n 1, 1) := by decide +kernel
theorem dX11_hare_52 : decode cX11_hare 52 = .ok (.imul, 1) := by decide +kernel
theorem dX11_hare_53 : decode cX11_hare 53 = .ok (.iconst 1, 1) := by decide +kernel
theorem dX11_hare_54 : decode cX11_hare 54 = .ok (.iadd, 1) := by decide +kernel
theorem dX11_hare_55 : decode cX11_hare 55 = .ok (.iaload, 1) := by decide +kernel
theorem dX11_hare_56 : decode cX11_hare 56 = .ok (.goto 40, 3) := by decide +kernel
theorem dX11_hare_59 : decode cX11_hare 59 = .ok (.aload_n 0, 1) := by decide +kernel
theorem dX11_hare_60 : decode cX11_hare 60 = .ok (.getfield 71, 3) := by decide +kernel
theorem dX11_hare_63 : decode cX11_hare 63 = .ok (.iload_n 2, 1) := by decide +kernel
theorem dX11_hare_64 : decode cX11_hare 64 = .ok (.ifCond .ne 7, 3) := by decide +kernel
theorem dX11_hare_67 : decode cX11_hare 67 = .ok (.iconst 0, 1) := by decide +kernel
theorem dX11_hare_68 : decode cX11_hare 68 = .ok (.goto 25, 3) := by decide +kernel
theorem dX11_hare_71 : decode cX11_hare 71 = .ok (.iload_n 2, 1) := by decide +kernel
theorem dX11_hare_72 : decode cX11_hare 72 = .ok (.iconst 1, 1) := by decide +kernel
theorem dX11_hare_73 : decode cX11_hare 73 = .ok (.if_icmp .ne 8, 3) := by decide +kernel
theorem dX11_hare_76 : decode cX11_hare 76 = .ok (.bipush 6, 2) := by decide +kernel
theorem dX11_hare_78 : decode cX11_hare 78 = .ok (.goto 15, 3) := by decide +kernel
theorem dX11_hare_81 : decode cX11_hare 81 = .ok (.iload_n 2, 1) := by decide +kernel
theorem dX11_hare_82 : decode cX11_hare 82 = .ok (.iconst 3, 1) := by decide +kernel
theorem dX11_hare_83 : decode cX11_hare 83 = .ok (.if_icmp .ne 8, 3) := by decide +kernel
theorem dX11_hare_86 : decode cX11_hare 86 = .ok (.bipush 12, 2) := by decide +kernel
theorem dX11_hare_88 : decode cX11_hare 88 = .ok (.goto 5, 3) := by decide +kernel
theorem dX11_hare_91 : decode cX11_hare 91 = .ok (.bipush 18, 2) := by decide +kernel
theorem dX11_hare_93 : decode cX11_hare 93 = .ok (.iload_n 1, 1) := by decide +kernel
theorem dX11_hare_94 : decode cX11_hare 94 = .ok (.iadd, 1) := by decide +kernel
theorem dX11_hare_95 : decode cX11_hare 95 = .ok (.iaload, 1) := by decide +kernel
theorem dX11_hare_96 : decode cX11_hare 96 = .ok (.ireturn, 1) := by decide +kernel
theorem dX11_hare_97 : decode cX11_hare 97 = .ok (.iload_n 2, 1) := by decide +kernel
theorem dX11_hare_98 : decode cX11_hare 98 = .ok (.iconst 5, 1) := by decide +kernel
theorem dX11_hare_99 : decode cX11_hare 99 = .ok (.if_icmp .ne 11, 3) := by decide +kernel
theorem dX11_hare_102 : decode cX11_hare 102 = .ok (.aload_n 0, 1) := by decide +kernel
theorem dX11_hare_103 : decode cX11_hare 103 = .ok (.iload_n 1, 1) := by decide +kernel
theorem dX11_hare_104 : decode cX11_hare 104 = .ok (.invokevirtual 343, 3) := by decide +kernel
theorem dX11_hare_107 : decode cX11_hare 107 = .ok (.goto 22, 3) := by decide +kernel
theorem dX11_hare_110 : decode cX11_hare 110 = .ok (.iload_n 2, 1) := by decide +kernel
theorem dX11_hare_111 : decode cX11_hare 111 = .ok (.bipush 6, 2) := by decide +kernel
theorem dX11_hare_113 : decode cX11_hare 113 = .ok (.if_icmp .ne 11, 3) := by decide +kernel
theorem dX11_hare_116 : decode cX11_hare 116 = .ok (.aload_n 0, 1) := by decide +kernel
theorem dX11_hare_117 : decode cX11_hare 117 = .ok (.iload_n 1, 1) := by decide +kernel
theorem dX11_hare_118 : decode cX11_hare 118 = .ok (.invokevirtual 345, 3) := by decide +kernel
theorem dX11_hare_121 : decode cX11_hare 121 = .ok (.goto 8, 3) := by decide +kernel
theorem dX11_hare_124 : decode cX11_hare 124 = .ok (.aload_n 0, 1) := by decide +kernel
theorem dX11_hare_125 : decode cX11_hare 125 = .ok (.iload_n 1, 1) := by decide +kernel
theorem dX11_hare_126 : decode cX11_hare 126 = .ok (.invokevirtual 361, 3) := by decide +kernel
theorem dX11_hare_129 : decode cX11_hare 129 = .ok (.ireturn, 1) := by decide +kernel
theorem dX11_fox_0 : decode cX11_fox 0 = .ok (.aload_n 0, 1) := by decide +kernel
theorem dX11_fox_1 : decode cX11_fox 1 = .ok (.iconst 0, 1) := by decide +kernel
theorem dX11_fox_2 : decode cX11_fox 2 = .ok (.putfield 3, 3) := by decide +kernel
theorem dX11_fox_5 : decode cX11_fox 5 = .ok (.aload_n 0, 1) := by decide +kernel
theorem dX11_fox_6 : decode cX11_fox 6 = .ok (.iload_n 1, 1) := by decide +kernel
theorem dX11_fox_7 : decode cX11_fox 7 = .ok (.iconst 0, 1) := by decide +kernel
theorem dX11_fox_8 : decode cX11_fox 8 = .ok (.aload_n 0, 1) := by decide +kernel
theorem dX11_fox_9 : decode cX11_fox 9 = .ok (.getfield 172, 3) := by decide +kernel
theorem dX11_fox_12 : decode cX11_fox 12 = .ok (.iconst 1, 1) := by decide +kernel
theorem dX11_fox_13 : decode cX11_fox 13 = .ok (.isub, 1) := by decide +kernel
theorem dX11_fox_14 : decode cX11_fox 14 = .ok (.invokestatic 390, 3) := by decide +kernel
theorem dX11_fox_17 : decode cX11_fox 17 = .ok (.iconst 1, 1) := by decide +kernel
theorem dX11_fox_18 : decode cX11_fox 18 = .ok (.iconst 0, 1) := by decide +kernel
theorem dX11_fox_19 : decode cX11_fox 19 = .ok (.invokevirtual 213, 3) := by decide +kernel
theorem dX11_fox_22 : decode cX11_fox 22 = .ok (.ifCond .eq 18, 3) := by decide +kernel
theorem dX11_fox_25 : decode cX11_fox 25 = .ok (.aload_n 0, 1) := by decide +kernel
theorem dX11_fox_26 : decode cX11_fox 26 = .ok (.iload_n 2, 1) := by decide +kernel
theorem dX11_fox_27 : decode cX11_fox 27 = .ok (.iconst 0, 1) := by decide +kernel
theorem dX11_fox_28 : decode cX11_fox 28 = .ok (.iconst 1, 1) := by decide +kernel
theorem dX11_fox_29 : decode cX11_fox 29 = .ok (.invokestatic 390, 3) := by decide +kernel
theorem dX11_fox_32 : decode cX11_fox 32 = .ok (.iconst 2, 1) := by decide +kernel
theorem dX11_fox_33 : decode cX11_fox 33 = .ok (.iconst 1, 1) := by decide +kernel
theorem dX11_fox_34 : decode cX11_fox 34 = .ok (.invokevirtual 213, 3) := by decide +kernel
theorem dX11_fox_37 : decode cX11_fox 37 = .ok (.ifCond .ne 5, 3) := by decide +kernel
theorem dX11_fox_40 : decode cX11_fox 40 = .ok (.iconst 0, 1) := by decide +kernel
theorem dX11_fox_41 : decode cX11_fox 41 = .ok (.ireturn, 1) := by decide +kernel
theorem dX11_fox_42 : decode cX11_fox 42 = .ok (.aload_n 0, 1) := by decide +kernel
theorem dX11_fox_43 : decode cX11_fox 43 = .ok (.getfield 41, 3) := by decide +kernel
theorem dX11_fox_46 : decode cX11_fox 46 = .ok (.iconst 2, 1) := by decide +kernel
theorem dX11_fox_47 : decode cX11_fox 47 = .ok (.iload_n 1, 1) := by decide +kernel
theorem dX11_fox_48 : decode cX11_fox 48 = .ok (.imul, 1) := by decide +kernel
theorem dX11_fox_49 : decode cX11_fox 49 = .ok (.iload_n 2, 1) := by decide +kernel
theorem dX11_fox_50 : decode cX11_fox 50 = .ok (.iadd, 1) := by decide +kernel
theorem dX11_fox_51 : decode cX11_fox 51 = .ok (.iaload, 1) := by decide +kernel
theorem dX11_fox_52 : decode cX11_fox 52 = .ok (.ireturn, 1) := by decide +kernel
theorem dX11_debt_0 : decode cX11_debt 0 = .ok (.aload_n 0, 1) := by decide +kernel
theorem dX11_debt_1 : decode cX11_debt 1 = .ok (.iconst 0, 1) := by decide +kernel
theorem dX11_debt_2 : decode cX11_debt 2 = .ok (.putfield 3, 3) := by decide +kernel
theorem dX11_debt_5 : decode cX11_debt 5 = .ok (.aload_n 0, 1) := by decide +kernel
theorem dX11_debt_6 : decode cX11_debt 6 = .ok (.iload_n 1, 1) := by decide +kernel
theorem dX11_debt_7 : decode cX11_debt 7 = .ok (.iconst 1, 1) := by decide +kernel
theorem dX11_debt_8 : decode cX11_debt 8 = .ok (.invokevirtual 408, 3) := by decide +kernel
theorem dX11_debt_11 : decode cX11_debt 11 = .ok (.ifCond .eq 29, 3) := by decide +kernel
theorem dX11_debt_14 : decode cX11_debt 14 = .ok (.aload_n 0, 1) := by decide +kernel
theorem dX11_debt_15 : decode cX11_debt 15 = .ok (.iload_n 2, 1) := by decide +kernel
theorem dX11_debt_16 : decode cX11_debt 16 = .ok (.iconst 1, 1) := by decide +kernel
theorem dX11_debt_17 : decode cX11_debt 17 = .ok (.invokevirtual 408, 3) := by decide +kernel
theorem dX11_debt_20 : decode cX11_debt 20 = .ok (.ifCond .eq 20, 3) := by decide +kernel
theorem dX11_debt_23 : decode cX11_debt 23 = .ok (.aload_n 0, 1) := by decide +kernel
theorem dX11_debt_24 : decode cX11_debt 24 = .ok (.getfield 68, 3) := by decide +kernel
theorem dX11_debt_27 : decode cX11_debt 27 = .ok (.bipush 30, 2) := by decide +kernel
theorem dX11_debt_29 : decode cX11_debt 29 = .ok (.bipush 6, 2) := by decide +kernel
theorem dX11_debt_31 : decode cX11_debt 31 = .ok (.iload_n 1, 1) := by decide +kernel
theorem dX11_debt_32 : decode cX11_debt 32 = .ok (.imul, 1) := by decide +kernel
theorem dX11_debt_33 : decode cX11_debt 33 = .ok (.iadd, 1) := by decide +kernel
theorem dX11_debt_34 : decode cX11_debt 34 = .ok (.iload_n 2, 1) := by decide +kernel
theorem dX11_debt_35 : decode cX11_debt 35 = .ok (.iadd, 1) := by decide +kernel
theorem dX11_debt_36 : decode cX11_debt 36 = .ok (.iaload, 1) := by decide +kernel
theorem dX11_debt_37 : decode cX11_debt 37 = .ok (.goto 4, 3) := by decide +kernel
theorem dX11_debt_40 : decode cX11_debt 40 = .ok (.iconst 0, 1) := by decide +kernel
theorem dX11_debt_41 : decode cX11_debt 41 = .ok (.ireturn, 1) := by decide +kernel
theorem dX11_far_0 : decode cX11_far 0 = .ok (.aload_n 0, 1) := by decide +kernel
theorem dX11_far_1 : decode cX11_far 1 = .ok (.iconst 0, 1) := by decide +kernel
theorem dX11_far_2 : decode cX11_far 2 = .ok (.putfield 3, 3) := by decide +kernel
theorem dX11_far_5 : decode cX11_far 5 = .ok (.aload_n 0, 1) := by decide +kernel
theorem dX11_far_6 : decode cX11_far 6 = .ok (.iload_n 1, 1) := by decide +kernel
theorem dX11_far_7 : decode cX11_far 7 = .ok (.iconst 1, 1) := by decide +kernel
theorem dX11_far_8 : decode cX11_far 8 = .ok (.invokevirtual 405, 3) := by decide +kernel
theorem dX11_far_11 : decode cX11_far 11 = .ok (.ifCond .eq 21, 3) := by decide +kernel
theorem dX11_far_14 : decode cX11_far 14 = .ok (.aload_n 0, 1) := by decide +kernel
theorem dX11_far_15 : decode cX11_far 15 = .ok (.iload_n 2, 1) := by decide +kernel
theorem dX11_far_16 : decode cX11_far 16 = .ok (.iconst 1, 1) := by decide +kernel
theorem dX11_far_17 : decode cX11_far 17 = .ok (.invokevirtual 405, 3) := by decide +kernel
theorem dX11_far_20 : decode cX11_far 20 = .ok (.ifCond .eq 12, 3) := by decide +kernel
theorem dX11_far_23 : decode cX11_far 23 = .ok (.aload_n 0, 1) := by decide +kernel
theorem dX11_far_24 : decode cX11_far 24 = .ok (.iload_n 1, 1) := by decide +kernel
theorem dX11_far_25 : decode cX11_far 25 = .ok (.iload_n 2, 1) := by decide +kernel
theorem dX11_far_26 : decode cX11_far 26 = .ok (.invokevirtual 358, 3) := by decide +kernel
theorem dX11_far_29 : decode cX11_far 29 = .ok (.goto 4, 3) := by decide +kernel
theorem dX11_far_32 : decode cX11_far 32 = .ok (.iconst 0, 1) := by decide +kernel
theorem dX11_far_33 : decode cX11_far 33 = .ok (.ireturn, 1) := by decide +kernel
theorem dX11_would_0 : decode cX11_would 0 = .ok (.aload_n 0, 1) := by decide +kernel
theorem dX11_would_1 : decode cX11_would 1 = .ok (.iconst 0, 1) := by decide +kernel
theorem dX11_would_2 : decode cX11_would 2 = .ok (.putfield 3, 3) := by decide +kernel
theorem dX11_would_5 : decode cX11_would 5 = .ok (.aload_n 0, 1) := by decide +kernel
theorem dX11_would_6 : decode cX11_would 6 = .ok (.iload_n 1, 1) := by decide +kernel
theorem dX11_would_7 : decode cX11_would 7 = .ok (.iconst 0, 1) := by decide +kernel
theorem dX11_would_8 : decode cX11_would 8 = .ok (.bipush 9, 2) := by decide +kernel
theorem dX11_would_10 : decode cX11_would 10 = .ok (.invokestatic 390, 3) := by decide +kernel
theorem dX11_would_13 : decode cX11_would 13 = .ok (.ifCond .eq 84, 3) := by decide +kernel
theorem dX11_would_16 : decode cX11_would 16 = .ok (.iload_n 2, 1) := by decide +kernel
theorem dX11_would_17 : decode cX11_would 17 = .ok (.iconst 0, 1) := by decide +kernel
theorem dX11_would_18 : decode cX11_would 18 = .ok (.sipush 999, 3) := by decide +kernel
theorem dX11_would_21 : decode cX11_would 21 = .ok (.invokestatic 390, 3) := by decide +kernel
theorem dX11_would_24 : decode cX11_would 24 = .ok (.ifCond .eq 73, 3) := by decide +kernel
theorem dX11_would_27 : decode cX11_would 27 = .ok (.iload_n 3, 1) := by decide +kernel
theorem dX11_would_28 : decode cX11_would 28 = .ok (.iconst 0, 1) := by decide +kernel
theorem dX11_would_29 : decode cX11_would 29 = .ok (.sipush 999, 3) := by decide +kernel
theorem dX11_would_32 : decode cX11_would 32 = .ok (.invokestatic 390, 3) := by decide +kernel
theorem dX11_would_35 : decode cX11_would 35 = .ok (.ifCond .eq 62, 3) := by decide +kernel
theorem dX11_would_38 : decode cX11_would 38 = .ok (.iload 4, 2) := by decide +kernel
theorem dX11_would_40 : decode cX11_would 40 = .ok (.iconst 0, 1) := by decide +kernel
theorem dX11_would_41 : decode cX11_would 41 = .ok (.sipush 999, 3) := by decide +kernel
theorem dX11_would_44 : decode cX11_would 44 = .ok (.invokestatic 390, 3) := by decide +kernel
theorem dX11_would_47 : decode cX11_would 47 = .ok (.ifCond .eq 50, 3) := by decide +kernel
theorem dX11_would_50 : decode cX11_would 50 = .ok (.iload 5, 2) := by decide +kernel
theorem dX11_would_52 : decode cX11_would 52 = .ok (.iconst 0, 1) := by decide +kernel
theorem dX11_would_53 : decode cX11_would 53 = .ok (.iconst 5, 1) := by decide +kernel
theorem dX11_would_54 : decode cX11_would 54 = .ok (.invokestatic 390, 3) := by decide +kernel
theorem dX11_would_57 : decode cX11_would 57 = .ok (.ifCond .eq 40, 3) := by decide +kernel
theorem dX11_would_60 : decode cX11_would 60 = .ok (.iload 6, 2) := by decide +kernel
theorem dX11_would_62 : decode cX11_would 62 = .ok (.iconst 1, 1) := by decide +kernel
theorem dX11_would_63 : decode cX11_would 63 = .ok (.bipush 31, 2) := by decide +kernel
theorem dX11_would_65 : decode cX11_would 65 = .ok (.invokestatic 390, 3) := by decide +kernel
theorem dX11_would_68 : decode cX11_would 68 = .ok (.ifCond .eq 29, 3) := by decide +kernel
theorem dX11_would_71 : decode cX11_would 71 = .ok (.iload 7, 2) := by decide +kernel
theorem dX11_would_73 : decode cX11_would 73 = .ok (.iconst 0, 1) := by decide +kernel
theorem dX11_would_74 : decode cX11_would 74 = .ok (.iconst 5, 1) := by decide +kernel
theorem dX11_would_75 : decode cX11_would 75 = .ok (.invokestatic 390, 3) := by decide +kernel
theorem dX11_would_78 : decode cX11_would 78 = .ok (.ifCond .eq 19, 3) := by decide +kernel
theorem dX11_would_81 : decode cX11_would 81 = .ok (.iload 8, 2) := by decide +kernel
theorem dX11_would_83 : decode cX11_would 83 = .ok (.iconst 0, 1) := by decide +kernel
theorem dX11_would_84 : decode cX11_would 84 = .ok (.sipush 999, 3) := by decide +kernel
theorem dX11_would_87 : decode cX11_would 87 = .ok (.invokestatic 390, 3) := by decide +kernel
theorem dX11_would_90 : decode cX11_would 90 = .ok (.ifCond .eq 7, 3) := by decide +kernel
theorem dX11_would_93 : decode cX11_would 93 = .ok (.iconst 1, 1) := by decide +kernel
theorem dX11_would_94 : decode cX11_would 94 = .ok (.goto 4, 3) := by decide +kernel
theorem dX11_would_97 : decode cX11_would 97 = .ok (.iconst 0, 1) := by decide +kernel
theorem dX11_would_98 : decode cX11_would 98 = .ok (.iconst 1, 1) := by decide +kernel
theorem dX11_would_99 : decode cX11_would 99 = .ok (.iconst 1, 1) := by decide +kernel
theorem dX11_would_100 : decode cX11_would 100 = .ok (.invokevirtual 213, 3) := by decide +kernel
theorem dX11_would_103 : decode cX11_would 103 = .ok (.ifCond .ne 5, 3) := by decide +kernel
theorem dX11_would_106 : decode cX11_would 106 = .ok (.iconst 0, 1) := by decide +kernel
theorem dX11_would_107 : decode cX11_would 107 = .ok (.ireturn, 1) := by decide +kernel
theorem dX11_would_108 : decode cX11_would 108 = .ok (.aload_n 0, 1) := by decide +kernel
theorem dX11_would_109 : decode cX11_would 109 = .ok (.iload_n 1, 1) := by decide +kernel
theorem dX11_would_110 : decode cX11_would 110 = .ok (.iload_n 2, 1) := by decide +kernel
theorem dX11_would_111 : decode cX11_would 111 = .ok (.iload_n 3, 1) := by decide +kernel
theorem dX11_would_112 : decode cX11_would 112 = .ok (.iload 4, 2) := by decide +kernel
theorem dX11_would_114 : decode cX11_would 114 = .ok (.iload 5, 2) := by decide +kernel
theorem dX11_would_116 : decode cX11_would 116 = .ok (.iload 6, 2) := by decide +kernel
theorem dX11_would_118 : decode cX11_would 118 = .ok (.iload 7, 2) := by decide +kernel
theorem dX11_would_120 : decode cX11_would 120 = .ok (.iload 8, 2) := by decide +kernel
theorem dX11_would_122 : decode cX11_would 122 = .ok (.invokevirtual 354, 3) := by decide +kernel
theorem dX11_would_125 : decode cX11_would 125 = .ok (.ireturn, 1) := by decide +kernel
theorem dX11_can_0 : decode cX11_can 0 = .ok (.aload_n 0, 1) := by decide +kernel
theorem dX11_can_1 : decode cX11_can 1 = .ok (.iconst 0, 1) := by decide +kernel
theorem dX11_can_2 : decode cX11_can 2 = .ok (.putfield 3, 3) := by decide +kernel
theorem dX11_can_5 : decode cX11_can 5 = .ok (.aload_n 0, 1) := by decide +kernel
theorem dX11_can_6 : decode cX11_can 6 = .ok (.iload_n 1, 1) := by decide +kernel
theorem dX11_can_7 : decode cX11_can 7 = .ok (.iconst 1, 1) := by decide +kernel
theorem dX11_can_8 : decode cX11_can 8 = .ok (.invokevirtual 408, 3) := by decide +kernel
theorem dX11_can_11 : decode cX11_can 11 = .ok (.ifCond .eq 12, 3) := by decide +kernel
theorem dX11_can_14 : decode cX11_can 14 = .ok (.aload_n 0, 1) := by decide +kernel
theorem dX11_can_15 : decode cX11_can 15 = .ok (.iload_n 2, 1) := by decide +kernel
theorem dX11_can_16 : decode cX11_can 16 = .ok (.iconst 1, 1) := by decide +kernel
theorem dX11_can_17 : decode cX11_can 17 = .ok (.invokevirtual 405, 3) := by decide +kernel
theorem dX11_can_20 : decode cX11_can 20 = .ok (.ifCond .ne 5, 3) := by decide +kernel
theorem dX11_can_23 : decode cX11_can 23 = .ok (.iconst 0, 1) := by decide +kernel
theorem dX11_can_24 : decode cX11_can 24 = .ok (.ireturn, 1) := by decide +kernel
theorem dX11_can_25 : decode cX11_can 25 = .ok (.aload_n 0, 1) := by decide +kernel
theorem dX11_can_26 : decode cX11_can 26 = .ok (.invokevirtual 316, 3) := by decide +kernel
theorem dX11_can_29 : decode cX11_can 29 = .ok (.aload_n 0, 1) := by decide +kernel
theorem dX11_can_30 : decode cX11_can 30 = .ok (.iload_n 1, 1) := by decide +kernel
theorem dX11_can_31 : decode cX11_can 31 = .ok (.iload_n 2, 1) := by decide +kernel
theorem dX11_can_32 : decode cX11_can 32 = .ok (.invokevirtual 364, 3) := by decide +kernel
theorem dX11_can_35 : decode cX11_can 35 = .ok (.ireturn, 1) := by decide +kernel
theorem dX11_rangeOf_0 : decode cX11_rangeOf 0 = .ok (.iconst 0, 1) := by decide +kernel
theorem dX11_rangeOf_1 : decode cX11_rangeOf 1 = .ok (.istore_n 2, 1) := by decide +kernel
theorem dX11_rangeOf_2 : decode cX11_rangeOf 2 = .ok (.iconst 0, 1) := by decide +kernel
theorem dX11_rangeOf_3 : decode cX11_rangeOf 3 = .ok (.istore_n 3, 1) := by decide +kernel
theorem dX11_rangeOf_4 : decode cX11_rangeOf 4 = .ok (.iload_n 3, 1) := by decide +kernel
theorem dX11_rangeOf_5 : decode cX11_rangeOf 5 = .ok (.aload_n 0, 1) := by decide +kernel
theorem dX11_rangeOf_6 : decode cX11_rangeOf 6 = .ok (.getfield 166, 3) := by decide +kernel
theorem dX11_rangeOf_9 : decode cX11_rangeOf 9 = .ok (.if_icmp .ge 28, 3) := by decide +kernel
theorem dX11_rangeOf_12 : decode cX11_rangeOf 12 = .ok (.iload_n 2, 1) := by decide +kernel
theorem dX11_rangeOf_13 : decode cX11_rangeOf 13 = .ok (.aload_n 0, 1) := by decide +kernel
theorem dX11_rangeOf_14 : decode cX11_rangeOf 14 = .ok (.iload_n 1, 1) := by decide +kernel
theorem dX11_rangeOf_15 : decode cX11_rangeOf 15 = .ok (.iload_n 3, 1) := by decide +kernel
theorem dX11_rangeOf_16 : decode cX11_rangeOf 16 = .ok (.invokevirtual 364, 3) := by decide +kernel
theorem dX11_rangeOf_19 : decode cX11_rangeOf 19 = .ok (.ifCond .eq 9, 3) := by decide +kernel
theorem dX11_rangeOf_22 : decode cX11_rangeOf 22 = .ok (.iconst 1, 1) := by decide +kernel
theorem dX11_rangeOf_23 : decode cX11_rangeOf 23 = .ok (.iload_n 3, 1) := by decide +kernel
theorem dX11_rangeOf_24 : decode cX11_rangeOf 24 = .ok (.ishl, 1) := by decide +kernel
theorem dX11_rangeOf_25 : decode cX11_rangeOf 25 = .ok (.goto 4, 3) := by decide +kernel
theorem dX11_rangeOf_28 : decode cX11_rangeOf 28 = .ok (.iconst 0, 1) := by decide +kernel
theorem dX11_rangeOf_29 : decode cX11_rangeOf 29 = .ok (.ior, 1) := by decide +kernel
theorem dX11_rangeOf_30 : decode cX11_rangeOf 30 = .ok (.istore_n 2, 1) := by decide +kernel
theorem dX11_rangeOf_31 : decode cX11_rangeOf 31 = .ok (.iinc 3 1, 3) := by decide +kernel
theorem dX11_rangeOf_34 : decode cX11_rangeOf 34 = .ok (.goto (-30), 3) := by decide +kernel
theorem dX11_rangeOf_37 : decode cX11_rangeOf 37 = .ok (.iload_n 2, 1) := by decide +kernel
theorem dX11_rangeOf_38 : decode cX11_rangeOf 38 = .ok (.ireturn, 1) := by decide +kernel
theorem dX11_range_0 : decode cX11_range 0 = .ok (.aload_n 0, 1) := by decide +kernel
theorem dX11_range_1 : decode cX11_range 1 = .ok (.iconst 0, 1) := by decide +kernel
theorem dX11_range_2 : decode cX11_range 2 = .ok (.putfield 3, 3) := by decide +kernel
theorem dX11_range_5 : decode cX11_range 5 = .ok (.aload_n 0, 1) := by decide +kernel
theorem dX11_range_6 : decode cX11_range 6 = .ok (.iload_n 1, 1) := by decide +kernel
theorem dX11_range_7 : decode cX11_range 7 = .ok (.iconst 1, 1) := by decide +kernel
theorem dX11_range_8 : decode cX11_range 8 = .ok (.invokevirtual 408, 3) := by decide +kernel
theorem dX11_range_11 : decode cX11_range 11 = .ok (.ifCond .ne 5, 3) := by decide +kernel
theorem dX11_range_14 : decode cX11_range 14 = .ok (.iconst 0, 1) := by decide +kernel
theorem dX11_range_15 : decode cX11_range 15 = .ok (.ireturn, 1) := by decide +kernel
theorem dX11_range_16 : decode cX11_range 16 = .ok (.aload_n 0, 1) := by decide +kernel
theorem dX11_range_17 : decode cX11_range 17 = .ok (.invokevirtual 316, 3) := by decide +kernel
theorem dX11_range_20 : decode cX11_range 20 = .ok (.aload_n 0, 1) := by decide +kernel
theorem dX11_range_21 : decode cX11_range 21 = .ok (.iload_n 1, 1) := by decide +kernel
theorem dX11_range_22 : decode cX11_range 22 = .ok (.invokevirtual 411, 3) := by decide +kernel
theorem dX11_range_25 : decode cX11_range 25 = .ok (.ireturn, 1) := by decide +kernel
theorem dX11_ahead_0 : decode cX11_ahead 0 = .ok (.aload_n 0, 1) := by decide +kernel
theorem dX11_ahead_1 : decode cX11_ahead 1 = .ok (.iconst 0, 1) := by decide +kernel
theorem dX11_ahead_2 : decode cX11_ahead 2 = .ok (.putfield 3, 3) := by decide +kernel
theorem dX11_ahead_5 : decode cX11_ahead 5 = .ok (.aload_n 0, 1) := by decide +kernel
theorem dX11_ahead_6 : decode cX11_ahead 6 = .ok (.iload_n 1, 1) := by decide +kernel
theorem dX11_ahead_7 : decode cX11_ahead 7 = .ok (.iconst 0, 1) := by decide +kernel
theorem dX11_ahead_8 : decode cX11_ahead 8 = .ok (.bipush 99, 2) := by decide +kernel
theorem dX11_ahead_10 : decode cX11_ahead 10 = .ok (.invokestatic 390, 3) := by decide +kernel
theorem dX11_ahead_13 : decode cX11_ahead 13 = .ok (.ifCond .eq 16, 3) := by decide +kernel
theorem dX11_ahead_16 : decode cX11_ahead 16 = .ok (.iload_n 2, 1) := by decide +kernel
theorem dX11_ahead_17 : decode cX11_ahead 17 = .ok (.iconst 0, 1) := by decide +kernel
theorem dX11_ahead_18 : decode cX11_ahead 18 = .ok (.iconst 2, 1) := by decide +kernel
theorem dX11_ahead_19 : decode cX11_ahead 19 = .ok (.invokestatic 390, 3) := by decide +kernel
theorem dX11_ahead_22 : decode cX11_ahead 22 = .ok (.ifCond .eq 7, 3) := by decide +kernel
theorem dX11_ahead_25 : decode cX11_ahead 25 = .ok (.iconst 1, 1) := by decide +kernel
theorem dX11_ahead_26 : decode cX11_ahead 26 = .ok (.goto 4, 3) := by decide +kernel
theorem dX11_ahead_29 : decode cX11_ahead 29 = .ok (.iconst 0, 1) := by decide +kernel
theorem dX11_ahead_30 : decode cX11_ahead 30 = .ok (.iconst 1, 1) := by decide +kernel
theorem dX11_ahead_31 : decode cX11_ahead 31 = .ok (.iconst 1, 1) := by decide +kernel
theorem dX11_ahead_32 : decode cX11_ahead 32 = .ok (.invokevirtual 213, 3) := by decide +kernel
theorem dX11_ahead_35 : decode cX11_ahead 35 = .ok (.ifCond .ne 5, 3) := by decide +kernel
theorem dX11_ahead_38 : decode cX11_ahead 38 = .ok (.iconst 0, 1) := by decide +kernel
theorem dX11_ahead_39 : decode cX11_ahead 39 = .ok (.ireturn, 1) := by decide +kernel
theorem dX11_ahead_40 : decode cX11_ahead 40 = .ok (.aload_n 0, 1) := by decide +kernel
theorem dX11_ahead_41 : decode cX11_ahead 41 = .ok (.invokevirtual 316, 3) := by decide +kernel
theorem dX11_ahead_44 : decode cX11_ahead 44 = .ok (.iconst 0, 1) := by decide +kernel
theorem dX11_ahead_45 : decode cX11_ahead 45 = .ok (.istore_n 3, 1) := by decide +kernel
theorem dX11_ahead_46 : decode cX11_ahead 46 = .ok (.iload_n 3, 1) := by decide +kernel
theorem dX11_ahead_47 : decode cX11_ahead 47 = .ok (.iload_n 1, 1) := by decide +kernel
theorem dX11_ahead_48 : decode cX11_ahead 48 = .ok (.if_icmp .ge 13, 3) := by decide +kernel
theorem dX11_ahead_51 : decode cX11_ahead 51 = .ok (.aload_n 0, 1) := by decide +kernel
theorem dX11_ahead_52 : decode cX11_ahead 52 = .ok (.invokevirtual 387, 3) := by decide +kernel
theorem dX11_ahead_55 : decode cX11_ahead 55 = .ok (.iinc 3 1, 3) := by decide +kernel
theorem dX11_ahead_58 : decode cX11_ahead 58 = .ok (.goto (-12), 3) := by decide +kernel
theorem dX11_ahead_61 : decode cX11_ahead 61 = .ok (.iload_n 2, 1) := by decide +kernel
theorem dX11_ahead_62 : decode cX11_ahead 62 = .ok (.ifCond .ne 13, 3) := by decide +kernel
theorem dX11_ahead_65 : decode cX11_ahead 65 = .ok (.aload_n 0, 1) := by decide +kernel
theorem dX11_ahead_66 : decode cX11_ahead 66 = .ok (.getfield 71, 3) := by decide +kernel
theorem dX11_ahead_69 : decode cX11_ahead 69 = .ok (.bipush 66, 2) := by decide +kernel
theorem dX11_ahead_71 : decode cX11_ahead 71 = .ok (.iaload, 1) := by decide +kernel
theorem dX11_ahead_72 : decode cX11_ahead 72 = .ok (.goto 19, 3) := by decide +kernel
theorem dX11_ahead_75 : decode cX11_ahead 75 = .ok (.iload_n 2, 1) := by decide +kernel
theorem dX11_ahead_76 : decode cX11_ahead 76 = .ok (.iconst 1, 1) := by decide +kernel
theorem dX11_ahead_77 : decode cX11_ahead 77 = .ok (.if_icmp .ne 10, 3) := by decide +kernel
theorem dX11_ahead_80 : decode cX11_ahead 80 = .ok (.aload_n 0, 1) := by decide +kernel
theorem dX11_ahead_81 : decode cX11_ahead 81 = .ok (.invokevirtual 396, 3) := by decide +kernel
theorem dX11_ahead_84 : decode cX11_ahead 84 = .ok (.goto 7, 3) := by decide +kernel
theorem dX11_ahead_87 : decode cX11_ahead 87 = .ok (.aload_n 0, 1) := by decide +kernel
theorem dX11_ahead_88 : decode cX11_ahead 88 = .ok (.invokevirtual 402, 3) := by decide +kernel
theorem dX11_ahead_91 : decode cX11_ahead 91 = .ok (.ireturn, 1) := by decide +kernel
theorem dX11_hops_0 : decode cX11_hops 0 = .ok (.aload_n 0, 1) := by decide +kernel
theorem dX11_hops_1 : decode cX11_hops 1 = .ok (.iconst 0, 1) := by decide +kernel
theorem dX11_hops_2 : decode cX11_hops 2 = .ok (.putfield 3, 3) := by decide +kernel
theorem dX11_hops_5 : decode cX11_hops 5 = .ok (.aload_n 0, 1) := by decide +kernel
theorem dX11_hops_6 : decode cX11_hops 6 = .ok (.iload_n 1, 1) := by decide +kernel
theorem dX11_hops_7 : decode cX11_hops 7 = .ok (.iconst 1, 1) := by decide +kernel
theorem dX11_hops_8 : decode cX11_hops 8 = .ok (.invokevirtual 408, 3) := by decide +kernel
theorem dX11_hops_11 : decode cX11_hops 11 = .ok (.ifCond .eq 12, 3) := by decide +kernel
theorem dX11_hops_14 : decode cX11_hops 14 = .ok (.aload_n 0, 1) := by decide +kernel
theorem dX11_hops_15 : decode cX11_hops 15 = .ok (.iload_n 2, 1) := by decide +kernel
theorem dX11_hops_16 : decode cX11_hops 16 = .ok (.iconst 1, 1) := by decide +kernel
theorem dX11_hops_17 : decode cX11_hops 17 = .ok (.invokevirtual 405, 3) := by decide +kernel
theorem dX11_hops_20 : decode cX11_hops 20 = .ok (.ifCond .ne 5, 3) := by decide +kernel
theorem dX11_hops_23 : decode cX11_hops 23 = .ok (.iconst 0, 1) := by decide +kernel
theorem dX11_hops_24 : decode cX11_hops 24 = .ok (.ireturn, 1) := by decide +kernel
theorem dX11_hops_25 : decode cX11_hops 25 = .ok (.aload_n 0, 1) := by decide +kernel
theorem dX11_hops_26 : decode cX11_hops 26 = .ok (.invokevirtual 316, 3) := by decide +kernel
theorem dX11_hops_29 : decode cX11_hops 29 = .ok (.aload_n 0, 1) := by decide +kernel
theorem dX11_hops_30 : decode cX11_hops 30 = .ok (.iload_n 1, 1) := by decide +kernel
theorem dX11_hops_31 : decode cX11_hops 31 = .ok (.invokevirtual 340, 3) := by decide +kernel
theorem dX11_hops_34 : decode cX11_hops 34 = .ok (.ifCond .eq 5, 3) := by decide +kernel
theorem dX11_hops_37 : decode cX11_hops 37 = .ok (.iconst (-1), 1) := by decide +kernel
theorem dX11_hops_38 : decode cX11_hops 38 = .ok (.ireturn, 1) := by decide +kernel
theorem dX11_hops_39 : decode cX11_hops 39 = .ok (.aload_n 0, 1) := by decide +kernel
theorem dX11_hops_40 : decode cX11_hops 40 = .ok (.iload_n 1, 1) := by decide +kernel
theorem dX11_hops_41 : decode cX11_hops 41 = .ok (.invokevirtual 361, 3) := by decide +kernel
theorem dX11_hops_44 : decode cX11_hops 44 = .ok (.istore_n 3, 1) := by decide +kernel
theorem dX11_hops_45 : decode cX11_hops 45 = .ok (.iconst 1, 1) := by decide +kernel
theorem dX11_hops_46 : decode cX11_hops 46 = .ok (.aload_n 0, 1) := by decide +kernel
theorem dX11_hops_47 : decode cX11_hops 47 = .ok (.getfield 71, 3) := by decide +kernel
theorem dX11_hops_50 : decode cX11_hops 50 = .ok (.iconst 0, 1) := by decide +kernel
theorem dX11_hops_51 : decode cX11_hops 51 = .ok (.iload_n 1, 1) := by decide +kernel
theorem dX11_hops_52 : decode cX11_hops 52 = .ok (.iadd, 1) := by decide +kernel
theorem dX11_hops_53 : decode cX11_hops 53 = .ok (.iaload, 1) := by decide +kernel
theorem dX11_hops_54 : decode cX11_hops 54 = .ok (.ishl, 1) := by decide +kernel
theorem dX11_hops_55 : decode cX11_hops 55 = .ok (.istore 4, 2) := by decide +kernel
theorem dX11_hops_57 : decode cX11_hops 57 = .ok (.iconst 0, 1) := by decide +kernel
theorem dX11_hops_58 : decode cX11_hops 58 = .ok (.istore 5, 2) := by decide +kernel
theorem dX11_hops_60 : decode cX11_hops 60 = .ok (.iload 5, 2) := by decide +kernel
theorem dX11_hops_62 : decode cX11_hops 62 = .ok (.bipush 8, 2) := by decide +kernel
theorem dX11_hops_64 : decode cX11_hops 64 = .ok (.if_icmp .ge 98, 3) := by decide +kernel
theorem dX11_hops_67 : decode cX11_hops 67 = .ok (.iload 4, 2) := by decide +kernel
theorem dX11_hops_69 : decode cX11_hops 69 = .ok (.iload_n 2, 1) := by decide +kernel
theorem dX11_hops_70 : decode cX11_hops 70 = .ok (.ishr, 1) := by decide +kernel
theorem dX11_hops_71 : decode cX11_hops 71 = .ok (.iconst 1, 1) := by decide +kernel
theorem dX11_hops_72 : decode cX11_hops 72 = .ok (.iand, 1) := by decide +kernel
theorem dX11_hops_73 : decode cX11_hops 73 = .ok (.iconst 1, 1) := by decide +kernel
theorem dX11_hops_74 : decode cX11_hops 74 = .ok (.if_icmp .ne 6, 3) := by decide +kernel
theorem dX11_hops_77 : decode cX11_hops 77 = .ok (.iload 5, 2) := by decide +kernel
theorem dX11_hops_79 : decode cX11_hops 79 = .ok (.ireturn, 1) := by decide +kernel
theorem dX11_hops_80 : decode cX11_hops 80 = .ok (.iload 4, 2) := by decide +kernel
theorem dX11_hops_82 : decode cX11_hops 82 = .ok (.istore 6, 2) := by decide +kernel
theorem dX11_hops_84 : decode cX11_hops 84 = .ok (.iconst 0, 1) := by decide +kernel
theorem dX11_hops_85 : decode cX11_hops 85 = .ok (.istore 7, 2) := by decide +kernel
theorem dX11_hops_87 : decode cX11_hops 87 = .ok (.iload 7, 2) := by decide +kernel
theorem dX11_hops_89 : decode cX11_hops 89 = .ok (.aload_n 0, 1) := by decide +kernel
theorem dX11_hops_90 : decode cX11_hops 90 = .ok (.getfield 166, 3) := by decide +kernel
theorem dX11_hops_93 : decode cX11_hops 93 = .ok (.if_icmp .ge 59, 3) := by decide +kernel
theorem dX11_hops_96 : decode cX11_hops 96 = .ok (.iconst 0, 1) := by decide +kernel
theorem dX11_hops_97 : decode cX11_hops 97 = .ok (.istore 8, 2) := by decide +kernel
theorem dX11_hops_99 : decode cX11_hops 99 = .ok (.iload 8, 2) := by decide +kernel
theorem dX11_hops_101 : decode cX11_hops 101 = .ok (.aload_n 0, 1) := by decide +kernel
theorem dX11_hops_102 : decode cX11_hops 102 = .ok (.getfield 166, 3) := by decide +kernel
theorem dX11_hops_105 : decode cX11_hops 105 = .ok (.if_icmp .ge 41, 3) := by decide +kernel
theorem dX11_hops_108 : decode cX11_hops 108 = .ok (.iload 4, 2) := by decide +kernel
theorem dX11_hops_110 : decode cX11_hops 110 = .ok (.iload 7, 2) := by decide +kernel
theorem dX11_hops_112 : decode cX11_hops 112 = .ok (.ishr, 1) := by decide +kernel
theorem dX11_hops_113 : decode cX11_hops 113 = .ok (.iconst 1, 1) := by decide +kernel
theorem dX11_hops_114 : decode cX11_hops 114 = .ok (.iand, 1) := by decide +kernel
theorem dX11_hops_115 : decode cX11_hops 115 = .ok (.iconst 1, 1) := by decide +kernel
theorem dX11_hops_116 : decode cX11_hops 116 = .ok (.if_icmp .ne 24, 3) := by decide +kernel
theorem dX11_hops_119 : decode cX11_hops 119 = .ok (.aload_n 0, 1) := by decide +kernel
theorem dX11_hops_120 : decode cX11_hops 120 = .ok (.iload 7, 2) := by decide +kernel
theorem dX11_hops_122 : decode cX11_hops 122 = .ok (.iload 8, 2) := by decide +kernel
theorem dX11_hops_124 : decode cX11_hops 124 = .ok (.invokevirtual 358, 3) := by decide +kernel
theorem dX11_hops_127 : decode cX11_hops 127 = .ok (.iload_n 3, 1) := by decide +kernel
theorem dX11_hops_128 : decode cX11_hops 128 = .ok (.if_icmp .gt 12, 3) := by decide +kernel
theorem dX11_hops_131 : decode cX11_hops 131 = .ok (.iload 6, 2) := by decide +kernel
theorem dX11_hops_133 : decode cX11_hops 133 = .ok (.iconst 1, 1) := by decide +kernel
theorem dX11_hops_134 : decode cX11_hops 134 = .ok (.iload 8, 2) := by decide +kernel
theorem dX11_hops_136 : decode cX11_hops 136 = .ok (.ishl, 1) := by decide +kernel
theorem dX11_hops_137 : decode cX11_hops 137 = .ok (.ior, 1) := by decide +kernel
theorem dX11_hops_138 : decode cX11_hops 138 = .ok (.istore 6, 2) := by decide +kernel
theorem dX11_hops_140 : decode cX11_hops 140 = .ok (.iinc 8 1, 3) := by decide +kernel
theorem dX11_hops_143 : decode cX11_hops 143 = .ok (.goto (-44), 3) := by decide +kernel
theorem dX11_hops_146 : decode cX11_hops 146 = .ok (.iinc 7 1, 3) := by decide +kernel
theorem dX11_hops_149 : decode cX11_hops 149 = .ok (.goto (-62), 3) := by decide +kernel
theorem dX11_hops_152 : decode cX11_hops 152 = .ok (.iload 6, 2) := by decide +kernel
theorem dX11_hops_154 : decode cX11_hops 154 = .ok (.istore 4, 2) := by decide +kernel
theorem dX11_hops_156 : decode cX11_hops 156 = .ok (.iinc 5 1, 3) := by decide +kernel
theorem dX11_hops_159 : decode cX11_hops 159 = .ok (.goto (-99), 3) := by decide +kernel
theorem dX11_hops_162 : decode cX11_hops 162 = .ok (.iconst (-1), 1) := by decide +kernel
theorem dX11_hops_163 : decode cX11_hops 163 = .ok (.ireturn, 1) := by decide +kernel
theorem dX11_findSeats_0 : decode cX11_findSeats 0 = .ok (.aload_n 0, 1) := by decide +kernel
theorem dX11_findSeats_1 : decode cX11_findSeats 1 = .ok (.invokevirtual 316, 3) := by decide +kernel
theorem dX11_findSeats_4 : decode cX11_findSeats 4 = .ok (.iconst 0, 1) := by decide +kernel
theorem dX11_findSeats_5 : decode cX11_findSeats 5 = .ok (.istore_n 1, 1) := by decide +kernel
theorem dX11_findSeats_6 : decode cX11_findSeats 6 = .ok (.iload_n 1, 1) := by decide +kernel
theorem dX11_findSeats_7 : decode cX11_findSeats 7 = .ok (.aload_n 0, 1) := by decide +kernel
theorem dX11_findSeats_8 : decode cX11_findSeats 8 = .ok (.getfield 169, 3) := by decide +kernel
theorem dX11_findSeats_11 : decode cX11_findSeats 11 = .ok (.if_icmp .ge 48, 3) := by decide +kernel
theorem dX11_findSeats_14 : decode cX11_findSeats 14 = .ok (.aload_n 0, 1) := by decide +kernel
theorem dX11_findSeats_15 : decode cX11_findSeats 15 = .ok (.getfield 89, 3) := by decide +kernel
theorem dX11_findSeats_18 : decode cX11_findSeats 18 = .ok (.iload_n 1, 1) := by decide +kernel
theorem dX11_findSeats_19 : decode cX11_findSeats 19 = .ok (.aload_n 0, 1) := by decide +kernel
theorem dX11_findSeats_20 : decode cX11_findSeats 20 = .ok (.iload_n 1, 1) := by decide +kernel
theorem dX11_findSeats_21 : decode cX11_findSeats 21 = .ok (.invokevirtual 340, 3) := by decide +kernel
theorem dX11_findSeats_24 : decode cX11_findSeats 24 = .ok (.ifCond .eq 7, 3) := by decide +kernel
theorem dX11_findSeats_27 : decode cX11_findSeats 27 = .ok (.iconst 0, 1) := by decide +kernel
theorem dX11_findSeats_28 : decode cX11_findSeats 28 = .ok (.goto 24, 3) := by decide +kernel
theorem dX11_findSeats_31 : decode cX11_findSeats 31 = .ok (.aload_n 0, 1) := by decide +kernel
theorem dX11_findSeats_32 : decode cX11_findSeats 32 = .ok (.iload_n 1, 1) := by decide +kernel
theorem dX11_findSeats_33 : decode cX11_findSeats 33 = .ok (.invokevirtual 411, 3) := by decide +kernel
theorem dX11_findSeats_36 : decode cX11_findSeats 36 = .ok (.iconst 1, 1) := by decide +kernel
theorem dX11_findSeats_37 : decode cX11_findSeats 37 = .ok (.aload_n 0, 1) := by decide +kernel
theorem dX11_findSeats_38 : decode cX11_findSeats 38 = .ok (.getfield 71, 3) := by decide +kernel
theorem dX11_findSeats_41 : decode cX11_findSeats 41 = .ok (.iconst 0, 1) := by decide +kernel
theorem dX11_findSeats_42 : decode cX11_findSeats 42 = .ok (.iload_n 1, 1) := by decide +kernel
theorem dX11_findSeats_43 : decode cX11_findSeats 43 = .ok (.iadd, 1) := by decide +kernel
theorem dX11_findSeats_44 : decode cX11_findSeats 44 = .ok (.iaload, 1) := by decide +kernel
theorem dX11_findSeats_45 : decode cX11_findSeats 45 = .ok (.ishl, 1) := by decide +kernel
theorem dX11_findSeats_46 : decode cX11_findSeats 46 = .ok (.ior, 1) := by decide +kernel
theorem dX11_findSeats_47 : decode cX11_findSeats 47 = .ok (.aload_n 0, 1) := by decide +kernel
theorem dX11_findSeats_48 : decode cX11_findSeats 48 = .ok (.invokevirtual 399, 3) := by decide +kernel
theorem dX11_findSeats_51 : decode cX11_findSeats 51 = .ok (.iand, 1) := by decide +kernel
theorem dX11_findSeats_52 : decode cX11_findSeats 52 = .ok (.iastore, 1) := by decide +kernel
theorem dX11_findSeats_53 : decode cX11_findSeats 53 = .ok (.iinc 1 1, 3) := by decide +kernel
theorem dX11_findSeats_56 : decode cX11_findSeats 56 = .ok (.goto (-50), 3) := by decide +kernel
theorem dX11_findSeats_59 : decode cX11_findSeats 59 = .ok (.iconst 0, 1) := by decide +kernel
theorem dX11_findSeats_60 : decode cX11_findSeats 60 = .ok (.istore_n 1, 1) := by decide +kernel
theorem dX11_findSeats_61 : decode cX11_findSeats 61 = .ok (.iload_n 1, 1) := by decide +kernel
theorem dX11_findSeats_62 : decode cX11_findSeats 62 = .ok (.iconst 1, 1) := by decide +kernel
theorem dX11_findSeats_63 : decode cX11_findSeats 63 = .ok (.aload_n 0, 1) := by decide +kernel
theorem dX11_findSeats_64 : decode cX11_findSeats 64 = .ok (.getfield 166, 3) := by decide +kernel
theorem dX11_findSeats_67 : decode cX11_findSeats 67 = .ok (.ishl, 1) := by decide +kernel
theorem dX11_findSeats_68 : decode cX11_findSeats 68 = .ok (.if_icmp .ge 24, 3) := by decide +kernel
theorem dX11_findSeats_71 : decode cX11_findSeats 71 = .ok (.aload_n 0, 1) := by decide +kernel
theorem dX11_findSeats_72 : decode cX11_findSeats 72 = .ok (.getfield 83, 3) := by decide +kernel
theorem dX11_findSeats_75 : decode cX11_findSeats 75 = .ok (.aload_n 0, 1) := by decide +kernel
theorem dX11_findSeats_76 : decode cX11_findSeats 76 = .ok (.getfield 169, 3) := by decide +kernel
theorem dX11_findSeats_79 : decode cX11_findSeats 79 = .ok (.bipush 8, 2) := by decide +kernel
theorem dX11_findSeats_81 : decode cX11_findSeats 81 = .ok (.ishl, 1) := by decide +kernel
theorem dX11_findSeats_82 : decode cX11_findSeats 82 = .ok (.iload_n 1, 1) := by decide +kernel
theorem dX11_findSeats_83 : decode cX11_findSeats 83 = .ok (.ior, 1) := by decide +kernel
theorem dX11_findSeats_84 : decode cX11_findSeats 84 = .ok (.iconst 0, 1) := by decide +kernel
theorem dX11_findSeats_85 : decode cX11_findSeats 85 = .ok (.iastore, 1) := by decide +kernel
theorem dX11_findSeats_86 : decode cX11_findSeats 86 = .ok (.iinc 1 1, 3) := by decide +kernel
theorem dX11_findSeats_89 : decode cX11_findSeats 89 = .ok (.goto (-28), 3) := by decide +kernel
theorem dX11_findSeats_92 : decode cX11_findSeats 92 = .ok (.aload_n 0, 1) := by decide +kernel
theorem dX11_findSeats_93 : decode cX11_findSeats 93 = .ok (.getfield 169, 3) := by decide +kernel
theorem dX11_findSeats_96 : decode cX11_findSeats 96 = .ok (.iconst 1, 1) := by decide +kernel
theorem dX11_findSeats_97 : decode cX11_findSeats 97 = .ok (.isub, 1) := by decide +kernel
theorem dX11_findSeats_98 : decode cX11_findSeats 98 = .ok (.istore_n 1, 1) := by decide +kernel
theorem dX11_findSeats_99 : decode cX11_findSeats 99 = .ok (.iload_n 1, 1) := by decide +kernel
theorem dX11_findSeats_100 : decode cX11_findSeats 100 = .ok (.ifCond .lt 139, 3) := by decide +kernel
theorem dX11_findSeats_103 : decode cX11_findSeats 103 = .ok (.iconst 0, 1) := by decide +kernel
theorem dX11_findSeats_104 : decode cX11_findSeats 104 = .ok (.istore_n 2, 1) := by decide +kernel
theorem dX11_findSeats_105 : decode cX11_findSeats 105 = .ok (.iload_n 2, 1) := by decide +kernel
theorem dX11_findSeats_106 : decode cX11_findSeats 106 = .ok (.iconst 1, 1) := by decide +kernel
theorem dX11_findSeats_107 : decode cX11_findSeats 107 = .ok (.aload_n 0, 1) := by decide +kernel
theorem dX11_findSeats_108 : decode cX11_findSeats 108 = .ok (.getfield 166, 3) := by decide +kernel
theorem dX11_findSeats_111 : decode cX11_findSeats 111 = .ok (.ishl, 1) := by decide +kernel
theorem dX11_findSeats_112 : decode cX11_findSeats 112 = .ok (.if_icmp .ge 121, 3) := by decide +kernel
theorem dX11_findSeats_115 : decode cX11_findSeats 115 = .ok (.aload_n 0, 1) := by decide +kernel
theorem dX11_findSeats_116 : decode cX11_findSeats 116 = .ok (.getfield 83, 3) := by decide +kernel
theorem dX11_findSeats_119 : decode cX11_findSeats 119 = .ok (.iload_n 1, 1) := by decide +kernel
theorem dX11_findSeats_120 : decode cX11_findSeats 120 = .ok (.iconst 1, 1) := by decide +kernel
theorem dX11_findSeats_121 : decode cX11_findSeats 121 = .ok (.iadd, 1) := by decide +kernel
theorem dX11_findSeats_122 : decode cX11_findSeats 122 = .ok (.bipush 8, 2) := by decide +kernel
theorem dX11_findSeats_124 : decode cX11_findSeats 124 = .ok (.ishl, 1) := by decide +kernel
theorem dX11_findSeats_125 : decode cX11_findSeats 125 = .ok (.iload_n 2, 1) := by decide +kernel
theorem dX11_findSeats_126 : decode cX11_findSeats 126 = .ok (.ior, 1) := by decide +kernel
theorem dX11_findSeats_127 : decode cX11_findSeats 127 = .ok (.iaload, 1) := by decide +kernel
theorem dX11_findSeats_128 : decode cX11_findSeats 128 = .ok (.istore_n 3, 1) := by decide +kernel
theorem dX11_findSeats_129 : decode cX11_findSeats 129 = .ok (.iconst 0, 1) := by decide +kernel
theorem dX11_findSeats_130 : decode cX11_findSeats 130 = .ok (.istore 4, 2) := by decide +kernel
theorem dX11_findSeats_132 : decode cX11_findSeats 132 = .ok (.iload 4, 2) := by decide +kernel
theorem dX11_findSeats_134 : decode cX11_findSeats 134 = .ok (.aload_n 0, 1) := by decide +kernel
theorem dX11_findSeats_135 : decode cX11_findSeats 135 = .ok (.getfield 166, 3) := by decide +kernel
theorem dX11_findSeats_138 : decode cX11_findSeats 138 = .ok (.if_icmp .ge 77, 3) := by decide +kernel
theorem dX11_findSeats_141 : decode cX11_findSeats 141 = .ok (.aload_n 0, 1) := by decide +kernel
theorem dX11_findSeats_142 : decode cX11_findSeats 142 = .ok (.getfield 89, 3) := by decide +kernel
theorem dX11_findSeats_145 : decode cX11_findSeats 145 = .ok (.iload_n 1, 1) := by decide +kernel
theorem dX11_findSeats_146 : decode cX11_findSeats 146 = .ok (.iaload, 1) := by decide +kernel
theorem dX11_findSeats_147 : decode cX11_findSeats 147 = .ok (.iload_n 2, 1) := by decide +kernel
theorem dX11_findSeats_148 : decode cX11_findSeats 148 = .ok (.iconst (-1), 1) := by decide +kernel
theorem dX11_findSeats_149 : decode cX11_findSeats 149 = .ok (.ixor, 1) := by decide +kernel
theorem dX11_findSeats_150 : decode cX11_findSeats 150 = .ok (.iand, 1) := by decide +kernel
theorem dX11_findSeats_151 : decode cX11_findSeats 151 = .ok (.iload 4, 2) := by decide +kernel
theorem dX11_findSeats_153 : decode cX11_findSeats 153 = .ok (.ishr, 1) := by decide +kernel
theorem dX11_findSeats_154 : decode cX11_findSeats 154 = .ok (.iconst 1, 1) := by decide +kernel
theorem dX11_findSeats_155 : decode cX11_findSeats 155 = .ok (.iand, 1) := by decide +kernel
theorem dX11_findSeats_156 : decode cX11_findSeats 156 = .ok (.istore 5, 2) := by decide +kernel
theorem dX11_findSeats_158 : decode cX11_findSeats 158 = .ok (.iload 5, 2) := by decide +kernel
theorem dX11_findSeats_160 : decode cX11_findSeats 160 = .ok (.iconst 1, 1) := by decide +kernel
theorem dX11_findSeats_161 : decode cX11_findSeats 161 = .ok (.if_icmp .ne 48, 3) := by decide +kernel
theorem dX11_findSeats_164 : decode cX11_findSeats 164 = .ok (.iconst 1, 1) := by decide +kernel
theorem dX11_findSeats_165 : decode cX11_findSeats 165 = .ok (.aload_n 0, 1) := by decide +kernel
theorem dX11_findSeats_166 : decode cX11_findSeats 166 = .ok (.getfield 83, 3) := by decide +kernel
theorem dX11_findSeats_169 : decode cX11_findSeats 169 = .ok (.iload_n 1, 1) := by decide +kernel
theorem dX11_findSeats_170 : decode cX11_findSeats 170 = .ok (.iconst 1, 1) := by decide +kernel
theorem dX11_findSeats_171 : decode cX11_findSeats 171 = .ok (.iadd, 1) := by decide +kernel
theorem dX11_findSeats_172 : decode cX11_findSeats 172 = .ok (.bipush 8, 2) := by decide +kernel
theorem dX11_findSeats_174 : decode cX11_findSeats 174 = .ok (.ishl, 1) := by decide +kernel
theorem dX11_findSeats_175 : decode cX11_findSeats 175 = .ok (.iload_n 2, 1) := by decide +kernel
theorem dX11_findSeats_176 : decode cX11_findSeats 176 = .ok (.ior, 1) := by decide +kernel
theorem dX11_findSeats_177 : decode cX11_findSeats 177 = .ok (.iconst 1, 1) := by decide +kernel
theorem dX11_findSeats_178 : decode cX11_findSeats 178 = .ok (.iload 4, 2) := by decide +kernel
theorem dX11_findSeats_180 : decode cX11_findSeats 180 = .ok (.ishl, 1) := by decide +kernel
theorem dX11_findSeats_181 : decode cX11_findSeats 181 = .ok (.ior, 1) := by decide +kernel
theorem dX11_findSeats_182 : decode cX11_findSeats 182 = .ok (.iaload, 1) := by decide +kernel
theorem dX11_findSeats_183 : decode cX11_findSeats 183 = .ok (.iadd, 1) := by decide +kernel
theorem dX11_findSeats_184 : decode cX11_findSeats 184 = .ok (.iload_n 3, 1) := by decide +kernel
theorem dX11_findSeats_185 : decode cX11_findSeats 185 = .ok (.if_icmp .le 24, 3) := by decide +kernel
theorem dX11_findSeats_188 : decode cX11_findSeats 188 = .ok (.iconst 1, 1) := by decide +kernel
theorem dX11_findSeats_189 : decode cX11_findSeats 189 = .ok (.aload_n 0, 1) := by decide +kernel
theorem dX11_findSeats_190 : decode cX11_findSeats 190 = .ok (.getfield 83, 3) := by decide +kernel
theorem dX11_findSeats_193 : decode cX11_findSeats 193 = .ok (.iload_n 1, 1) := by decide +kernel
theorem dX11_findSeats_194 : decode cX11_findSeats 194 = .ok (.iconst 1, 1) := by decide +kernel
theorem dX11_findSeats_195 : decode cX11_findSeats 195 = .ok (.iadd, 1) := by decide +kernel
theorem dX11_findSeats_196 : decode cX11_findSeats 196 = .ok (.bipush 8, 2) := by decide +kernel
theorem dX11_findSeats_198 : decode cX11_findSeats 198 = .ok (.ishl, 1) := by decide +kernel
theorem dX11_findSeats_199 : decode cX11_findSeats 199 = .ok (.iload_n 2, 1) := by decide +kernel
theorem dX11_findSeats_200 : decode cX11_findSeats 200 = .ok (.ior, 1) := by decide +kernel
theorem dX11_findSeats_201 : decode cX11_findSeats 201 = .ok (.iconst 1, 1) := by decide +kernel
theorem dX11_findSeats_202 : decode cX11_findSeats 202 = .ok (.iload 4, 2) := by decide +kernel
theorem dX11_findSeats_204 : decode cX11_findSeats 204 = .ok (.ishl, 1) := by decide +kernel
theorem dX11_findSeats_205 : decode cX11_findSeats 205 = .ok (.ior, 1) := by decide +kernel
theorem dX11_findSeats_206 : decode cX11_findSeats 206 = .ok (.iaload, 1) := by decide +kernel
theorem dX11_findSeats_207 : decode cX11_findSeats 207 = .ok (.iadd, 1) := by decide +kernel
theorem dX11_findSeats_208 : decode cX11_findSeats 208 = .ok (.istore_n 3, 1) := by decide +kernel
theorem dX11_findSeats_209 : decode cX11_findSeats 209 = .ok (.iinc 4 1, 3) := by decide +kernel
theorem dX11_findSeats_212 : decode cX11_findSeats 212 = .ok (.goto (-80), 3) := by decide +kernel
theorem dX11_findSeats_215 : decode cX11_findSeats 215 = .ok (.aload_n 0, 1) := by decide +kernel
theorem dX11_findSeats_216 : decode cX11_findSeats 216 = .ok (.getfield 83, 3) := by decide +kernel
theorem dX11_findSeats_219 : decode cX11_findSeats 219 = .ok (.iload_n 1, 1) := by decide +kernel
theorem dX11_findSeats_220 : decode cX11_findSeats 220 = .ok (.bipush 8, 2) := by decide +kernel
theorem dX11_findSeats_222 : decode cX11_findSeats 222 = .ok (.ishl, 1) := by decide +kernel
theorem dX11_findSeats_223 : decode cX11_findSeats 223 = .ok (.iload_n 2, 1) := by decide +kernel
theorem dX11_findSeats_224 : decode cX11_findSeats 224 = .ok (.ior, 1) := by decide +kernel
theorem dX11_findSeats_225 : decode cX11_findSeats 225 = .ok (.iload_n 3, 1) := by decide +kernel
theorem dX11_findSeats_226 : decode cX11_findSeats 226 = .ok (.iastore, 1) := by decide +kernel
theorem dX11_findSeats_227 : decode cX11_findSeats 227 = .ok (.iinc 2 1, 3) := by decide +kernel
theorem dX11_findSeats_230 : decode cX11_findSeats 230 = .ok (.goto (-125), 3) := by decide +kernel
theorem dX11_findSeats_233 : decode cX11_findSeats 233 = .ok (.iinc 1 (-1), 3) := by decide +kernel
theorem dX11_findSeats_236 : decode cX11_findSeats 236 = .ok (.goto (-137), 3) := by decide +kernel
theorem dX11_findSeats_239 : decode cX11_findSeats 239 = .ok (.iconst 0, 1) := by decide +kernel
theorem dX11_findSeats_240 : decode cX11_findSeats 240 = .ok (.istore_n 1, 1) := by decide +kernel
theorem dX11_findSeats_241 : decode cX11_findSeats 241 = .ok (.iconst 0, 1) := by decide +kernel
theorem dX11_findSeats_242 : decode cX11_findSeats 242 = .ok (.istore_n 2, 1) := by decide +kernel
theorem dX11_findSeats_243 : decode cX11_findSeats 243 = .ok (.iload_n 2, 1) := by decide +kernel
theorem dX11_findSeats_244 : decode cX11_findSeats 244 = .ok (.aload_n 0, 1) := by decide +kernel
theorem dX11_findSeats_245 : decode cX11_findSeats 245 = .ok (.getfield 169, 3) := by decide +kernel
theorem dX11_findSeats_248 : decode cX11_findSeats 248 = .ok (.if_icmp .ge 112, 3) := by decide +kernel
theorem dX11_findSeats_251 : decode cX11_findSeats 251 = .ok (.aload_n 0, 1) := by decide +kernel
theorem dX11_findSeats_252 : decode cX11_findSeats 252 = .ok (.getfield 86, 3) := by decide +kernel
theorem dX11_findSeats_255 : decode cX11_findSeats 255 = .ok (.iload_n 2, 1) := by decide +kernel
theorem dX11_findSeats_256 : decode cX11_findSeats 256 = .ok (.iconst (-1), 1) := by decide +kernel
theorem dX11_findSeats_257 : decode cX11_findSeats 257 = .ok (.iastore, 1) := by decide +kernel
theorem dX11_findSeats_258 : decode cX11_findSeats 258 = .ok (.aload_n 0, 1) := by decide +kernel
theorem dX11_findSeats_259 : decode cX11_findSeats 259 = .ok (.getfield 166, 3) := by decide +kernel
theorem dX11_findSeats_262 : decode cX11_findSeats 262 = .ok (.iconst 1, 1) := by decide +kernel
theorem dX11_findSeats_263 : decode cX11_findSeats 263 = .ok (.isub, 1) := by decide +kernel
theorem dX11_findSeats_264 : decode cX11_findSeats 264 = .ok (.istore_n 3, 1) := by decide +kernel
theorem dX11_findSeats_265 : decode cX11_findSeats 265 = .ok (.iload_n 3, 1) := by decide +kernel
theorem dX11_findSeats_266 : decode cX11_findSeats 266 = .ok (.ifCond .lt 67, 3) := by decide +kernel
theorem dX11_findSeats_269 : decode cX11_findSeats 269 = .ok (.aload_n 0, 1) := by decide +kernel
theorem dX11_findSeats_270 : decode cX11_findSeats 270 = .ok (.getfield 89, 3) := by decide +kernel
theorem dX11_findSeats_273 : decode cX11_findSeats 273 = .ok (.iload_n 2, 1) := by decide +kernel
theorem dX11_findSeats_274 : decode cX11_findSeats 274 = .ok (.iaload, 1) := by decide +kernel
theorem dX11_findSeats_275 : decode cX11_findSeats 275 = .ok (.iload_n 1, 1) := by decide +kernel
theorem dX11_findSeats_276 : decode cX11_findSeats 276 = .ok (.iconst (-1), 1) := by decide +kernel
theorem dX11_findSeats_277 : decode cX11_findSeats 277 = .ok (.ixor, 1) := by decide +kernel
theorem dX11_findSeats_278 : decode cX11_findSeats 278 = .ok (.iand, 1) := by decide +kernel
theorem dX11_findSeats_279 : decode cX11_findSeats 279 = .ok (.iload_n 3, 1) := by decide +kernel
theorem dX11_findSeats_280 : decode cX11_findSeats 280 = .ok (.ishr, 1) := by decide +kernel
theorem dX11_findSeats_281 : decode cX11_findSeats 281 = .ok (.iconst 1, 1) := by decide +kernel
theorem dX11_findSeats_282 : decode cX11_findSeats 282 = .ok (.iand, 1) := by decide +kernel
theorem dX11_findSeats_283 : decode cX11_findSeats 283 = .ok (.iconst 1, 1) := by decide +kernel
theorem dX11_findSeats_284 : decode cX11_findSeats 284 = .ok (.if_icmp .ne 43, 3) := by decide +kernel
theorem dX11_findSeats_287 : decode cX11_findSeats 287 = .ok (.iconst 1, 1) := by decide +kernel
theorem dX11_findSeats_288 : decode cX11_findSeats 288 = .ok (.aload_n 0, 1) := by decide +kernel
theorem dX11_findSeats_289 : decode cX11_findSeats 289 = .ok (.getfield 83, 3) := by decide +kernel
theorem dX11_findSeats_292 : decode cX11_findSeats 292 = .ok (.iload_n 2, 1) := by decide +kernel
theorem dX11_findSeats_293 : decode cX11_findSeats 293 = .ok (.iconst 1, 1) := by decide +kernel
theorem dX11_findSeats_294 : decode cX11_findSeats 294 = .ok (.iadd, 1) := by decide +kernel
theorem dX11_findSeats_295 : decode cX11_findSeats 295 = .ok (.bipush 8, 2) := by decide +kernel
theorem dX11_findSeats_297 : decode cX11_findSeats 297 = .ok (.ishl, 1) := by decide +kernel
theorem dX11_findSeats_298 : decode cX11_findSeats 298 = .ok (.iload_n 1, 1) := by decide +kernel
theorem dX11_findSeats_299 : decode cX11_findSeats 299 = .ok (.ior, 1) := by decide +kernel
theorem dX11_findSeats_300 : decode cX11_findSeats 300 = .ok (.iconst 1, 1) := by decide +kernel
theorem dX11_findSeats_301 : decode cX11_findSeats 301 = .ok (.iload_n 3, 1) := by decide +kernel
theorem dX11_findSeats_302 : decode cX11_findSeats 302 = .ok (.ishl, 1) := by decide +kernel
theorem dX11_findSeats_303 : decode cX11_findSeats 303 = .ok (.ior, 1) := by decide +kernel
theorem dX11_findSeats_304 : decode cX11_findSeats 304 = .ok (.iaload, 1) := by decide +kernel
theorem dX11_findSeats_305 : decode cX11_findSeats 305 = .ok (.iadd, 1) := by decide +kernel
theorem dX11_findSeats_306 : decode cX11_findSeats 306 = .ok (.aload_n 0, 1) := by decide +kernel
theorem dX11_findSeats_307 : decode cX11_findSeats 307 = .ok (.getfield 83, 3) := by decide +kernel
theorem dX11_findSeats_310 : decode cX11_findSeats 310 = .ok (.iload_n 2, 1) := by decide +kernel
theorem dX11_findSeats_311 : decode cX11_findSeats 311 = .ok (.bipush 8, 2) := by decide +kernel
theorem dX11_findSeats_313 : decode cX11_findSeats 313 = .ok (.ishl, 1) := by decide +kernel
theorem dX11_findSeats_314 : decode cX11_findSeats 314 = .ok (.iload_n 1, 1) := by decide +kernel
theorem dX11_findSeats_315 : decode cX11_findSeats 315 = .ok (.ior, 1) := by decide +kernel
theorem dX11_findSeats_316 : decode cX11_findSeats 316 = .ok (.iaload, 1) := by decide +kernel
theorem dX11_findSeats_317 : decode cX11_findSeats 317 = .ok (.if_icmp .ne 10, 3) := by decide +kernel
theorem dX11_findSeats_320 : decode cX11_findSeats 320 = .ok (.aload_n 0, 1) := by decide +kernel
theorem dX11_findSeats_321 : decode cX11_findSeats 321 = .ok (.getfield 86, 3) := by decide +kernel
theorem dX11_findSeats_324 : decode cX11_findSeats 324 = .ok (.iload_n 2, 1) := by decide +kernel
theorem dX11_findSeats_325 : decode cX11_findSeats 325 = .ok (.iload_n 3, 1) := by decide +kernel
theorem dX11_findSeats_326 : decode cX11_findSeats 326 = .ok (.iastore, 1) := by decide +kernel
theorem dX11_findSeats_327 : decode cX11_findSeats 327 = .ok (.iinc 3 (-1), 3) := by decide +kernel
theorem dX11_findSeats_330 : decode cX11_findSeats 330 = .ok (.goto (-65), 3) := by decide +kernel
theorem dX11_findSeats_333 : decode cX11_findSeats 333 = .ok (.aload_n 0, 1) := by decide +kernel
theorem dX11_findSeats_334 : decode cX11_findSeats 334 = .ok (.getfield 86, 3) := by decide +kernel
theorem dX11_findSeats_337 : decode cX11_findSeats 337 = .ok (.iload_n 2, 1) := by decide +kernel
theorem dX11_findSeats_338 : decode cX11_findSeats 338 = .ok (.iaload, 1) := by decide +kernel
theorem dX11_findSeats_339 : decode cX11_findSeats 339 = .ok (.iconst (-1), 1) := by decide +kernel
theorem dX11_findSeats_340 : decode cX11_findSeats 340 = .ok (.if_icmp .eq 14, 3) := by decide +kernel
theorem dX11_findSeats_343 : decode cX11_findSeats 343 = .ok (.iload_n 1, 1) := by decide +kernel
theorem dX11_findSeats_344 : decode cX11_findSeats 344 = .ok (.iconst 1, 1) := by decide +kernel
