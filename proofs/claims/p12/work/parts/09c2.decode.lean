theorem dX10_look_43 : decode cX10_look 43 = .ok (.aload_n 0, 1) := by decide +kernel
theorem dX10_look_44 : decode cX10_look 44 = .ok (.getfield 93, 3) := by decide +kernel
theorem dX10_look_47 : decode cX10_look 47 = .ok (.getfield 352, 3) := by decide +kernel
theorem dX10_look_50 : decode cX10_look 50 = .ok (.ireturn, 1) := by decide +kernel
theorem dX10_watch_0 : decode cX10_watch 0 = .ok (.aload_n 0, 1) := by decide +kernel
theorem dX10_watch_1 : decode cX10_watch 1 = .ok (.iload_n 1, 1) := by decide +kernel
theorem dX10_watch_2 : decode cX10_watch 2 = .ok (.iconst 0, 1) := by decide +kernel
theorem dX10_watch_3 : decode cX10_watch 3 = .ok (.bipush 60, 2) := by decide +kernel
theorem dX10_watch_5 : decode cX10_watch 5 = .ok (.invokevirtual 180, 3) := by decide +kernel
theorem dX10_watch_8 : decode cX10_watch 8 = .ok (.aload_n 0, 1) := by decide +kernel
theorem dX10_watch_9 : decode cX10_watch 9 = .ok (.getfield 19, 3) := by decide +kernel
theorem dX10_watch_12 : decode cX10_watch 12 = .ok (.iload_n 1, 1) := by decide +kernel
theorem dX10_watch_13 : decode cX10_watch 13 = .ok (.invokevirtual 355, 3) := by decide +kernel
theorem dX10_watch_16 : decode cX10_watch 16 = .ok (.ireturn, 1) := by decide +kernel
theorem dX10_few_0 : decode cX10_few 0 = .ok (.aload_n 0, 1) := by decide +kernel
theorem dX10_few_1 : decode cX10_few 1 = .ok (.iload_n 1, 1) := by decide +kernel
theorem dX10_few_2 : decode cX10_few 2 = .ok (.iconst 0, 1) := by decide +kernel
theorem dX10_few_3 : decode cX10_few 3 = .ok (.bipush 12, 2) := by decide +kernel
theorem dX10_few_5 : decode cX10_few 5 = .ok (.invokevirtual 180, 3) := by decide +kernel
theorem dX10_few_8 : decode cX10_few 8 = .ok (.aload_n 0, 1) := by decide +kernel
theorem dX10_few_9 : decode cX10_few 9 = .ok (.iload_n 2, 1) := by decide +kernel
theorem dX10_few_10 : decode cX10_few 10 = .ok (.iconst 0, 1) := by decide +kernel
theorem dX10_few_11 : decode cX10_few 11 = .ok (.bipush 12, 2) := by decide +kernel
theorem dX10_few_13 : decode cX10_few 13 = .ok (.invokevirtual 180, 3) := by decide +kernel
theorem dX10_few_16 : decode cX10_few 16 = .ok (.aload_n 0, 1) := by decide +kernel
theorem dX10_few_17 : decode cX10_few 17 = .ok (.iload_n 3, 1) := by decide +kernel
theorem dX10_few_18 : decode cX10_few 18 = .ok (.iconst 0, 1) := by decide +kernel
theorem dX10_few_19 : decode cX10_few 19 = .ok (.bipush 16, 2) := by decide +kernel
theorem dX10_few_21 : decode cX10_few 21 = .ok (.invokevirtual 180, 3) := by decide +kernel
theorem dX10_few_24 : decode cX10_few 24 = .ok (.aload_n 0, 1) := by decide +kernel
theorem dX10_few_25 : decode cX10_few 25 = .ok (.iload 4, 2) := by decide +kernel
theorem dX10_few_27 : decode cX10_few 27 = .ok (.iconst 0, 1) := by decide +kernel
theorem dX10_few_28 : decode cX10_few 28 = .ok (.iconst 1, 1) := by decide +kernel
theorem dX10_few_29 : decode cX10_few 29 = .ok (.invokevirtual 180, 3) := by decide +kernel
theorem dX10_few_32 : decode cX10_few 32 = .ok (.lconst 0, 1) := by decide +kernel
theorem dX10_few_33 : decode cX10_few 33 = .ok (.lstore 5, 2) := by decide +kernel
theorem dX10_few_35 : decode cX10_few 35 = .ok (.iconst 0, 1) := by decide +kernel
theorem dX10_few_36 : decode cX10_few 36 = .ok (.istore 7, 2) := by decide +kernel
theorem dX10_few_38 : decode cX10_few 38 = .ok (.iload 7, 2) := by decide +kernel
theorem dX10_few_40 : decode cX10_few 40 = .ok (.iload_n 2, 1) := by decide +kernel
theorem dX10_few_41 : decode cX10_few 41 = .ok (.if_icmp .gt 45, 3) := by decide +kernel
theorem dX10_few_44 : decode cX10_few 44 = .ok (.iload 7, 2) := by decide +kernel
theorem dX10_few_46 : decode cX10_few 46 = .ok (.iload_n 1, 1) := by decide +kernel
theorem dX10_few_47 : decode cX10_few 47 = .ok (.if_icmp .gt 39, 3) := by decide +kernel
theorem dX10_few_50 : decode cX10_few 50 = .ok (.lload 5, 2) := by decide +kernel
theorem dX10_few_52 : decode cX10_few 52 = .ok (.iload_n 1, 1) := by decide +kernel
theorem dX10_few_53 : decode cX10_few 53 = .ok (.iload 7, 2) := by decide +kernel
theorem dX10_few_55 : decode cX10_few 55 = .ok (.invokestatic 358, 3) := by decide +kernel
theorem dX10_few_58 : decode cX10_few 58 = .ok (.iload_n 3, 1) := by decide +kernel
theorem dX10_few_59 : decode cX10_few 59 = .ok (.iload 7, 2) := by decide +kernel
theorem dX10_few_61 : decode cX10_few 61 = .ok (.invokestatic 362, 3) := by decide +kernel
theorem dX10_few_64 : decode cX10_few 64 = .ok (.lmul, 1) := by decide +kernel
theorem dX10_few_65 : decode cX10_few 65 = .ok (.bipush 16, 2) := by decide +kernel
theorem dX10_few_67 : decode cX10_few 67 = .ok (.iload_n 3, 1) := by decide +kernel
theorem dX10_few_68 : decode cX10_few 68 = .ok (.isub, 1) := by decide +kernel
theorem dX10_few_69 : decode cX10_few 69 = .ok (.iload_n 1, 1) := by decide +kernel
theorem dX10_few_70 : decode cX10_few 70 = .ok (.iload 7, 2) := by decide +kernel
theorem dX10_few_72 : decode cX10_few 72 = .ok (.isub, 1) := by decide +kernel
theorem dX10_few_73 : decode cX10_few 73 = .ok (.invokestatic 362, 3) := by decide +kernel
theorem dX10_few_76 : decode cX10_few 76 = .ok (.lmul, 1) := by decide +kernel
theorem dX10_few_77 : decode cX10_few 77 = .ok (.ladd, 1) := by decide +kernel
theorem dX10_few_78 : decode cX10_few 78 = .ok (.lstore 5, 2) := by decide +kernel
theorem dX10_few_80 : decode cX10_few 80 = .ok (.iinc 7 1, 3) := by decide +kernel
theorem dX10_few_83 : decode cX10_few 83 = .ok (.goto (-45), 3) := by decide +kernel
theorem dX10_few_86 : decode cX10_few 86 = .ok (.lconst 1, 1) := by decide +kernel
theorem dX10_few_87 : decode cX10_few 87 = .ok (.iconst 4, 1) := by decide +kernel
theorem dX10_few_88 : decode cX10_few 88 = .ok (.iload_n 1, 1) := by decide +kernel
theorem dX10_few_89 : decode cX10_few 89 = .ok (.imul, 1) := by decide +kernel
theorem dX10_few_90 : decode cX10_few 90 = .ok (.lshl, 1) := by decide +kernel
theorem dX10_few_91 : decode cX10_few 91 = .ok (.lstore 7, 2) := by decide +kernel
theorem dX10_few_93 : decode cX10_few 93 = .ok (.iconst 0, 1) := by decide +kernel
theorem dX10_few_94 : decode cX10_few 94 = .ok (.istore 9, 2) := by decide +kernel
theorem dX10_few_96 : decode cX10_few 96 = .ok (.iload 9, 2) := by decide +kernel
theorem dX10_few_98 : decode cX10_few 98 = .ok (.bipush 48, 2) := by decide +kernel
theorem dX10_few_100 : decode cX10_few 100 = .ok (.if_icmp .ge 39, 3) := by decide +kernel
theorem dX10_few_103 : decode cX10_few 103 = .ok (.lload 5, 2) := by decide +kernel
theorem dX10_few_105 : decode cX10_few 105 = .ok (.lconst 1, 1) := by decide +kernel
theorem dX10_few_106 : decode cX10_few 106 = .ok (.land, 1) := by decide +kernel
theorem dX10_few_107 : decode cX10_few 107 = .ok (.lconst 0, 1) := by decide +kernel
theorem dX10_few_108 : decode cX10_few 108 = .ok (.lcmp, 1) := by decide +kernel
theorem dX10_few_109 : decode cX10_few 109 = .ok (.ifCond .ne 30, 3) := by decide +kernel
theorem dX10_few_112 : decode cX10_few 112 = .ok (.lload 7, 2) := by decide +kernel
theorem dX10_few_114 : decode cX10_few 114 = .ok (.lconst 1, 1) := by decide +kernel
theorem dX10_few_115 : decode cX10_few 115 = .ok (.land, 1) := by decide +kernel
theorem dX10_few_116 : decode cX10_few 116 = .ok (.lconst 0, 1) := by decide +kernel
theorem dX10_few_117 : decode cX10_few 117 = .ok (.lcmp, 1) := by decide +kernel
theorem dX10_few_118 : decode cX10_few 118 = .ok (.ifCond .ne 21, 3) := by decide +kernel
theorem dX10_few_121 : decode cX10_few 121 = .ok (.lload 5, 2) := by decide +kernel
theorem dX10_few_123 : decode cX10_few 123 = .ok (.iconst 1, 1) := by decide +kernel
theorem dX10_few_124 : decode cX10_few 124 = .ok (.lshr, 1) := by decide +kernel
theorem dX10_few_125 : decode cX10_few 125 = .ok (.lstore 5, 2) := by decide +kernel
theorem dX10_few_127 : decode cX10_few 127 = .ok (.lload 7, 2) := by decide +kernel
theorem dX10_few_129 : decode cX10_few 129 = .ok (.iconst 1, 1) := by decide +kernel
theorem dX10_few_130 : decode cX10_few 130 = .ok (.lshr, 1) := by decide +kernel
theorem dX10_few_131 : decode cX10_few 131 = .ok (.lstore 7, 2) := by decide +kernel
theorem dX10_few_133 : decode cX10_few 133 = .ok (.iinc 9 1, 3) := by decide +kernel
theorem dX10_few_136 : decode cX10_few 136 = .ok (.goto (-40), 3) := by decide +kernel
theorem dX10_few_139 : decode cX10_few 139 = .ok (.iload 4, 2) := by decide +kernel
theorem dX10_few_141 : decode cX10_few 141 = .ok (.ifCond .ne 8, 3) := by decide +kernel
theorem dX10_few_144 : decode cX10_few 144 = .ok (.lload 5, 2) := by decide +kernel
theorem dX10_few_146 : decode cX10_few 146 = .ok (.goto 5, 3) := by decide +kernel
theorem dX10_few_149 : decode cX10_few 149 = .ok (.lload 7, 2) := by decide +kernel
theorem dX10_few_151 : decode cX10_few 151 = .ok (.lreturn, 1) := by decide +kernel
theorem dX10_road_0 : decode cX10_road 0 = .ok (.aload_n 0, 1) := by decide +kernel
theorem dX10_road_1 : decode cX10_road 1 = .ok (.iload_n 1, 1) := by decide +kernel
theorem dX10_road_2 : decode cX10_road 2 = .ok (.iconst 0, 1) := by decide +kernel
theorem dX10_road_3 : decode cX10_road 3 = .ok (.bipush 99, 2) := by decide +kernel
theorem dX10_road_5 : decode cX10_road 5 = .ok (.invokevirtual 180, 3) := by decide +kernel
theorem dX10_road_8 : decode cX10_road 8 = .ok (.aload_n 0, 1) := by decide +kernel
theorem dX10_road_9 : decode cX10_road 9 = .ok (.iload_n 2, 1) := by decide +kernel
theorem dX10_road_10 : decode cX10_road 10 = .ok (.iconst 0, 1) := by decide +kernel
theorem dX10_road_11 : decode cX10_road 11 = .ok (.bipush 99, 2) := by decide +kernel
theorem dX10_road_13 : decode cX10_road 13 = .ok (.invokevirtual 180, 3) := by decide +kernel
theorem dX10_road_16 : decode cX10_road 16 = .ok (.aload_n 0, 1) := by decide +kernel
theorem dX10_road_17 : decode cX10_road 17 = .ok (.iload_n 3, 1) := by decide +kernel
theorem dX10_road_18 : decode cX10_road 18 = .ok (.iconst 0, 1) := by decide +kernel
theorem dX10_road_19 : decode cX10_road 19 = .ok (.iconst 2, 1) := by decide +kernel
theorem dX10_road_20 : decode cX10_road 20 = .ok (.invokevirtual 180, 3) := by decide +kernel
theorem dX10_road_23 : decode cX10_road 23 = .ok (.iconst 0, 1) := by decide +kernel
theorem dX10_road_24 : decode cX10_road 24 = .ok (.istore 4, 2) := by decide +kernel
theorem dX10_road_26 : decode cX10_road 26 = .ok (.iconst (-1), 1) := by decide +kernel
theorem dX10_road_27 : decode cX10_road 27 = .ok (.istore 5, 2) := by decide +kernel
theorem dX10_road_29 : decode cX10_road 29 = .ok (.iconst 0, 1) := by decide +kernel
theorem dX10_road_30 : decode cX10_road 30 = .ok (.istore 6, 2) := by decide +kernel
theorem dX10_road_32 : decode cX10_road 32 = .ok (.iconst 0, 1) := by decide +kernel
theorem dX10_road_33 : decode cX10_road 33 = .ok (.istore 7, 2) := by decide +kernel
theorem dX10_road_35 : decode cX10_road 35 = .ok (.iload 7, 2) := by decide +kernel
theorem dX10_road_37 : decode cX10_road 37 = .ok (.iconst 4, 1) := by decide +kernel
theorem dX10_road_38 : decode cX10_road 38 = .ok (.if_icmp .ge 106, 3) := by decide +kernel
theorem dX10_road_41 : decode cX10_road 41 = .ok (.iload 7, 2) := by decide +kernel
theorem dX10_road_43 : decode cX10_road 43 = .ok (.iconst 2, 1) := by decide +kernel
theorem dX10_road_44 : decode cX10_road 44 = .ok (.idiv, 1) := by decide +kernel
theorem dX10_road_45 : decode cX10_road 45 = .ok (.istore 8, 2) := by decide +kernel
theorem dX10_road_47 : decode cX10_road 47 = .ok (.iload 7, 2) := by decide +kernel
theorem dX10_road_49 : decode cX10_road 49 = .ok (.iconst 2, 1) := by decide +kernel
theorem dX10_road_50 : decode cX10_road 50 = .ok (.irem, 1) := by decide +kernel
theorem dX10_road_51 : decode cX10_road 51 = .ok (.istore 9, 2) := by decide +kernel
theorem dX10_road_53 : decode cX10_road 53 = .ok (.iload_n 1, 1) := by decide +kernel
theorem dX10_road_54 : decode cX10_road 54 = .ok (.iload_n 2, 1) := by decide +kernel
theorem dX10_road_55 : decode cX10_road 55 = .ok (.iload 8, 2) := by decide +kernel
theorem dX10_road_57 : decode cX10_road 57 = .ok (.iload 9, 2) := by decide +kernel
theorem dX10_road_59 : decode cX10_road 59 = .ok (.invokestatic 365, 3) := by decide +kernel
theorem dX10_road_62 : decode cX10_road 62 = .ok (.iload_n 1, 1) := by decide +kernel
theorem dX10_road_63 : decode cX10_road 63 = .ok (.iload_n 2, 1) := by decide +kernel
theorem dX10_road_64 : decode cX10_road 64 = .ok (.iconst 1, 1) := by decide +kernel
theorem dX10_road_65 : decode cX10_road 65 = .ok (.iload 8, 2) := by decide +kernel
theorem dX10_road_67 : decode cX10_road 67 = .ok (.isub, 1) := by decide +kernel
theorem dX10_road_68 : decode cX10_road 68 = .ok (.iload 9, 2) := by decide +kernel
theorem dX10_road_70 : decode cX10_road 70 = .ok (.invokestatic 365, 3) := by decide +kernel
theorem dX10_road_73 : decode cX10_road 73 = .ok (.if_icmp .lt 65, 3) := by decide +kernel
theorem dX10_road_76 : decode cX10_road 76 = .ok (.iload_n 1, 1) := by decide +kernel
theorem dX10_road_77 : decode cX10_road 77 = .ok (.iload_n 2, 1) := by decide +kernel
theorem dX10_road_78 : decode cX10_road 78 = .ok (.iload 9, 2) := by decide +kernel
theorem dX10_road_80 : decode cX10_road 80 = .ok (.iload 8, 2) := by decide +kernel
theorem dX10_road_82 : decode cX10_road 82 = .ok (.invokestatic 365, 3) := by decide +kernel
theorem dX10_road_85 : decode cX10_road 85 = .ok (.iload_n 1, 1) := by decide +kernel
theorem dX10_road_86 : decode cX10_road 86 = .ok (.iload_n 2, 1) := by decide +kernel
theorem dX10_road_87 : decode cX10_road 87 = .ok (.iconst 1, 1) := by decide +kernel
theorem dX10_road_88 : decode cX10_road 88 = .ok (.iload 9, 2) := by decide +kernel
theorem dX10_road_90 : decode cX10_road 90 = .ok (.isub, 1) := by decide +kernel
theorem dX10_road_91 : decode cX10_road 91 = .ok (.iload 8, 2) := by decide +kernel
theorem dX10_road_93 : decode cX10_road 93 = .ok (.invokestatic 365, 3) := by decide +kernel
theorem dX10_road_96 : decode cX10_road 96 = .ok (.if_icmp .lt 42, 3) := by decide +kernel
theorem dX10_road_99 : decode cX10_road 99 = .ok (.iload 4, 2) := by decide +kernel
theorem dX10_road_101 : decode cX10_road 101 = .ok (.ifCond .ne 34, 3) := by decide +kernel
theorem dX10_road_104 : decode cX10_road 104 = .ok (.bipush 10, 2) := by decide +kernel
theorem dX10_road_106 : decode cX10_road 106 = .ok (.iload 8, 2) := by decide +kernel
theorem dX10_road_108 : decode cX10_road 108 = .ok (.imul, 1) := by decide +kernel
theorem dX10_road_109 : decode cX10_road 109 = .ok (.iload 9, 2) := by decide +kernel
theorem dX10_road_111 : decode cX10_road 111 = .ok (.iadd, 1) := by decide +kernel
theorem dX10_road_112 : decode cX10_road 112 = .ok (.istore 5, 2) := by decide +kernel
theorem dX10_road_114 : decode cX10_road 114 = .ok (.iload_n 1, 1) := by decide +kernel
theorem dX10_road_115 : decode cX10_road 115 = .ok (.iload_n 2, 1) := by decide +kernel
theorem dX10_road_116 : decode cX10_road 116 = .ok (.iload 8, 2) := by decide +kernel
theorem dX10_road_118 : decode cX10_road 118 = .ok (.iload 9, 2) := by decide +kernel
theorem dX10_road_120 : decode cX10_road 120 = .ok (.invokestatic 365, 3) := by decide +kernel
theorem dX10_road_123 : decode cX10_road 123 = .ok (.iload_n 1, 1) := by decide +kernel
theorem dX10_road_124 : decode cX10_road 124 = .ok (.iload_n 2, 1) := by decide +kernel
theorem dX10_road_125 : decode cX10_road 125 = .ok (.iload 9, 2) := by decide +kernel
theorem dX10_road_127 : decode cX10_road 127 = .ok (.iload 8, 2) := by decide +kernel
theorem dX10_road_129 : decode cX10_road 129 = .ok (.invokestatic 365, 3) := by decide +kernel
theorem dX10_road_132 : decode cX10_road 132 = .ok (.iadd, 1) := by decide +kernel
theorem dX10_road_133 : decode cX10_road 133 = .ok (.istore 6, 2) := by decide +kernel
theorem dX10_road_135 : decode cX10_road 135 = .ok (.iinc 4 1, 3) := by decide +kernel
theorem dX10_road_138 : decode cX10_road 138 = .ok (.iinc 7 1, 3) := by decide +kernel
theorem dX10_road_141 : decode cX10_road 141 = .ok (.goto (-106), 3) := by decide +kernel
theorem dX10_road_144 : decode cX10_road 144 = .ok (.iload_n 3, 1) := by decide +kernel
theorem dX10_road_145 : decode cX10_road 145 = .ok (.lookupswitch 33 #[(0, 27), (1, 30)], 27) := by decide +kernel
theorem dX10_road_172 : decode cX10_road 172 = .ok (.iload 4, 2) := by decide +kernel
theorem dX10_road_174 : decode cX10_road 174 = .ok (.ireturn, 1) := by decide +kernel
theorem dX10_road_175 : decode cX10_road 175 = .ok (.iload 5, 2) := by decide +kernel
theorem dX10_road_177 : decode cX10_road 177 = .ok (.ireturn, 1) := by decide +kernel
theorem dX10_road_178 : decode cX10_road 178 = .ok (.iload 6, 2) := by decide +kernel
theorem dX10_road_180 : decode cX10_road 180 = .ok (.ireturn, 1) := by decide +kernel
theorem dX10_clover_0 : decode cX10_clover 0 = .ok (.aload_n 0, 1) := by decide +kernel
theorem dX10_clover_1 : decode cX10_clover 1 = .ok (.iload_n 1, 1) := by decide +kernel
theorem dX10_clover_2 : decode cX10_clover 2 = .ok (.invokevirtual 227, 3) := by decide +kernel
theorem dX10_clover_5 : decode cX10_clover 5 = .ok (.aload_n 0, 1) := by decide +kernel
theorem dX10_clover_6 : decode cX10_clover 6 = .ok (.iload_n 2, 1) := by decide +kernel
theorem dX10_clover_7 : decode cX10_clover 7 = .ok (.iconst 0, 1) := by decide +kernel
theorem dX10_clover_8 : decode cX10_clover 8 = .ok (.iconst 1, 1) := by decide +kernel
theorem dX10_clover_9 : decode cX10_clover 9 = .ok (.aload_n 0, 1) := by decide +kernel
theorem dX10_clover_10 : decode cX10_clover 10 = .ok (.getfield 19, 3) := by decide +kernel
theorem dX10_clover_13 : decode cX10_clover 13 = .ok (.getfield 141, 3) := by decide +kernel
theorem dX10_clover_16 : decode cX10_clover 16 = .ok (.ishl, 1) := by decide +kernel
theorem dX10_clover_17 : decode cX10_clover 17 = .ok (.iconst 1, 1) := by decide +kernel
theorem dX10_clover_18 : decode cX10_clover 18 = .ok (.isub, 1) := by decide +kernel
theorem dX10_clover_19 : decode cX10_clover 19 = .ok (.invokevirtual 180, 3) := by decide +kernel
theorem dX10_clover_22 : decode cX10_clover 22 = .ok (.aload_n 0, 1) := by decide +kernel
theorem dX10_clover_23 : decode cX10_clover 23 = .ok (.iload_n 3, 1) := by decide +kernel
theorem dX10_clover_24 : decode cX10_clover 24 = .ok (.iconst 0, 1) := by decide +kernel
theorem dX10_clover_25 : decode cX10_clover 25 = .ok (.sipush 999, 3) := by decide +kernel
theorem dX10_clover_28 : decode cX10_clover 28 = .ok (.invokevirtual 180, 3) := by decide +kernel
theorem dX10_clover_31 : decode cX10_clover 31 = .ok (.iload_n 2, 1) := by decide +kernel
theorem dX10_clover_32 : decode cX10_clover 32 = .ok (.iload_n 1, 1) := by decide +kernel
theorem dX10_clover_33 : decode cX10_clover 33 = .ok (.invokestatic 332, 3) := by decide +kernel
theorem dX10_clover_36 : decode cX10_clover 36 = .ok (.ifCond .eq 16, 3) := by decide +kernel
theorem dX10_clover_39 : decode cX10_clover 39 = .ok (.aload_n 0, 1) := by decide +kernel
theorem dX10_clover_40 : decode cX10_clover 40 = .ok (.getfield 58, 3) := by decide +kernel
theorem dX10_clover_43 : decode cX10_clover 43 = .ok (.iload_n 1, 1) := by decide +kernel
theorem dX10_clover_44 : decode cX10_clover 44 = .ok (.iload_n 2, 1) := by decide +kernel
theorem dX10_clover_45 : decode cX10_clover 45 = .ok (.iload_n 3, 1) := by decide +kernel
theorem dX10_clover_46 : decode cX10_clover 46 = .ok (.invokevirtual 369, 3) := by decide +kernel
theorem dX10_clover_49 : decode cX10_clover 49 = .ok (.goto 4, 3) := by decide +kernel
theorem dX10_clover_52 : decode cX10_clover 52 = .ok (.iconst 0, 1) := by decide +kernel
theorem dX10_clover_53 : decode cX10_clover 53 = .ok (.ireturn, 1) := by decide +kernel
theorem dX10_strongest_0 : decode cX10_strongest 0 = .ok (.aload_n 0, 1) := by decide +kernel
theorem dX10_strongest_1 : decode cX10_strongest 1 = .ok (.iload_n 1, 1) := by decide +kernel
theorem dX10_strongest_2 : decode cX10_strongest 2 = .ok (.iconst 0, 1) := by decide +kernel
theorem dX10_strongest_3 : decode cX10_strongest 3 = .ok (.iconst 1, 1) := by decide +kernel
theorem dX10_strongest_4 : decode cX10_strongest 4 = .ok (.invokevirtual 180, 3) := by decide +kernel
theorem dX10_strongest_7 : decode cX10_strongest 7 = .ok (.iconst (-1), 1) := by decide +kernel
theorem dX10_strongest_8 : decode cX10_strongest 8 = .ok (.istore_n 2, 1) := by decide +kernel
theorem dX10_strongest_9 : decode cX10_strongest 9 = .ok (.iconst 0, 1) := by decide +kernel
theorem dX10_strongest_10 : decode cX10_strongest 10 = .ok (.istore_n 3, 1) := by decide +kernel
theorem dX10_strongest_11 : decode cX10_strongest 11 = .ok (.iload_n 3, 1) := by decide +kernel
theorem dX10_strongest_12 : decode cX10_strongest 12 = .ok (.aload_n 0, 1) := by decide +kernel
theorem dX10_strongest_13 : decode cX10_strongest 13 = .ok (.getfield 19, 3) := by decide +kernel
theorem dX10_strongest_16 : decode cX10_strongest 16 = .ok (.getfield 141, 3) := by decide +kernel
theorem dX10_strongest_19 : decode cX10_strongest 19 = .ok (.if_icmp .ge 46, 3) := by decide +kernel
theorem dX10_strongest_22 : decode cX10_strongest 22 = .ok (.aload_n 0, 1) := by decide +kernel
theorem dX10_strongest_23 : decode cX10_strongest 23 = .ok (.getfield 58, 3) := by decide +kernel
theorem dX10_strongest_26 : decode cX10_strongest 26 = .ok (.iload_n 3, 1) := by decide +kernel
theorem dX10_strongest_27 : decode cX10_strongest 27 = .ok (.invokevirtual 230, 3) := by decide +kernel
theorem dX10_strongest_30 : decode cX10_strongest 30 = .ok (.ifCond .ne 29, 3) := by decide +kernel
theorem dX10_strongest_33 : decode cX10_strongest 33 = .ok (.iload_n 2, 1) := by decide +kernel
theorem dX10_strongest_34 : decode cX10_strongest 34 = .ok (.iconst (-1), 1) := by decide +kernel
theorem dX10_strongest_35 : decode cX10_strongest 35 = .ok (.if_icmp .eq 22, 3) := by decide +kernel
theorem dX10_strongest_38 : decode cX10_strongest 38 = .ok (.aload_n 0, 1) := by decide +kernel
theorem dX10_strongest_39 : decode cX10_strongest 39 = .ok (.getfield 58, 3) := by decide +kernel
theorem dX10_strongest_42 : decode cX10_strongest 42 = .ok (.iload_n 3, 1) := by decide +kernel
theorem dX10_strongest_43 : decode cX10_strongest 43 = .ok (.invokevirtual 236, 3) := by decide +kernel
theorem dX10_strongest_46 : decode cX10_strongest 46 = .ok (.aload_n 0, 1) := by decide +kernel
theorem dX10_strongest_47 : decode cX10_strongest 47 = .ok (.getfield 58, 3) := by decide +kernel
theorem dX10_strongest_50 : decode cX10_strongest 50 = .ok (.iload_n 2, 1) := by decide +kernel
theorem dX10_strongest_51 : decode cX10_strongest 51 = .ok (.invokevirtual 236, 3) := by decide +kernel
theorem dX10_strongest_54 : decode cX10_strongest 54 = .ok (.if_icmp .le 5, 3) := by decide +kernel
theorem dX10_strongest_57 : decode cX10_strongest 57 = .ok (.iload_n 3, 1) := by decide +kernel
theorem dX10_strongest_58 : decode cX10_strongest 58 = .ok (.istore_n 2, 1) := by decide +kernel
theorem dX10_strongest_59 : decode cX10_strongest 59 = .ok (.iinc 3 1, 3) := by decide +kernel
theorem dX10_strongest_62 : decode cX10_strongest 62 = .ok (.goto (-51), 3) := by decide +kernel
theorem dX10_strongest_65 : decode cX10_strongest 65 = .ok (.iload_n 1, 1) := by decide +kernel
theorem dX10_strongest_66 : decode cX10_strongest 66 = .ok (.ifCond .eq 8, 3) := by decide +kernel
theorem dX10_strongest_69 : decode cX10_strongest 69 = .ok (.iload_n 2, 1) := by decide +kernel
theorem dX10_strongest_70 : decode cX10_strongest 70 = .ok (.iconst (-1), 1) := by decide +kernel
theorem dX10_strongest_71 : decode cX10_strongest 71 = .ok (.if_icmp .ne 7, 3) := by decide +kernel
theorem dX10_strongest_74 : decode cX10_strongest 74 = .ok (.iload_n 2, 1) := by decide +kernel
theorem dX10_strongest_75 : decode cX10_strongest 75 = .ok (.goto 11, 3) := by decide +kernel
theorem dX10_strongest_78 : decode cX10_strongest 78 = .ok (.aload_n 0, 1) := by decide +kernel
theorem dX10_strongest_79 : decode cX10_strongest 79 = .ok (.getfield 58, 3) := by decide +kernel
theorem dX10_strongest_82 : decode cX10_strongest 82 = .ok (.iload_n 2, 1) := by decide +kernel
theorem dX10_strongest_83 : decode cX10_strongest 83 = .ok (.invokevirtual 236, 3) := by decide +kernel
theorem dX10_strongest_86 : decode cX10_strongest 86 = .ok (.ireturn, 1) := by decide +kernel
theorem dX10_ties_0 : decode cX10_ties 0 = .ok (.aload_n 0, 1) := by decide +kernel
theorem dX10_ties_1 : decode cX10_ties 1 = .ok (.iload_n 1, 1) := by decide +kernel
theorem dX10_ties_2 : decode cX10_ties 2 = .ok (.invokevirtual 227, 3) := by decide +kernel
theorem dX10_ties_5 : decode cX10_ties 5 = .ok (.aload_n 0, 1) := by decide +kernel
theorem dX10_ties_6 : decode cX10_ties 6 = .ok (.iload_n 2, 1) := by decide +kernel
theorem dX10_ties_7 : decode cX10_ties 7 = .ok (.iconst 0, 1) := by decide +kernel
theorem dX10_ties_8 : decode cX10_ties 8 = .ok (.iconst 1, 1) := by decide +kernel
theorem dX10_ties_9 : decode cX10_ties 9 = .ok (.invokevirtual 180, 3) := by decide +kernel
theorem dX10_ties_12 : decode cX10_ties 12 = .ok (.iconst 0, 1) := by decide +kernel
theorem dX10_ties_13 : decode cX10_ties 13 = .ok (.istore_n 3, 1) := by decide +kernel
theorem dX10_ties_14 : decode cX10_ties 14 = .ok (.iconst 0, 1) := by decide +kernel
theorem dX10_ties_15 : decode cX10_ties 15 = .ok (.istore 4, 2) := by decide +kernel
theorem dX10_ties_17 : decode cX10_ties 17 = .ok (.iload 4, 2) := by decide +kernel
theorem dX10_ties_19 : decode cX10_ties 19 = .ok (.aload_n 0, 1) := by decide +kernel
theorem dX10_ties_20 : decode cX10_ties 20 = .ok (.getfield 19, 3) := by decide +kernel
theorem dX10_ties_23 : decode cX10_ties 23 = .ok (.getfield 141, 3) := by decide +kernel
theorem dX10_ties_26 : decode cX10_ties 26 = .ok (.if_icmp .ge 50, 3) := by decide +kernel
theorem dX10_ties_29 : decode cX10_ties 29 = .ok (.iload_n 2, 1) := by decide +kernel
theorem dX10_ties_30 : decode cX10_ties 30 = .ok (.ifCond .ne 16, 3) := by decide +kernel
theorem dX10_ties_33 : decode cX10_ties 33 = .ok (.aload_n 0, 1) := by decide +kernel
theorem dX10_ties_34 : decode cX10_ties 34 = .ok (.getfield 58, 3) := by decide +kernel
theorem dX10_ties_37 : decode cX10_ties 37 = .ok (.iload_n 1, 1) := by decide +kernel
theorem dX10_ties_38 : decode cX10_ties 38 = .ok (.iload 4, 2) := by decide +kernel
theorem dX10_ties_40 : decode cX10_ties 40 = .ok (.invokevirtual 277, 3) := by decide +kernel
theorem dX10_ties_43 : decode cX10_ties 43 = .ok (.goto 13, 3) := by decide +kernel
theorem dX10_ties_46 : decode cX10_ties 46 = .ok (.aload_n 0, 1) := by decide +kernel
theorem dX10_ties_47 : decode cX10_ties 47 = .ok (.getfield 58, 3) := by decide +kernel
theorem dX10_ties_50 : decode cX10_ties 50 = .ok (.iload 4, 2) := by decide +kernel
theorem dX10_ties_52 : decode cX10_ties 52 = .ok (.iload_n 1, 1) := by decide +kernel
theorem dX10_ties_53 : decode cX10_ties 53 = .ok (.invokevirtual 277, 3) := by decide +kernel
theorem dX10_ties_56 : decode cX10_ties 56 = .ok (.istore 5, 2) := by decide +kernel
theorem dX10_ties_58 : decode cX10_ties 58 = .ok (.iload 5, 2) := by decide +kernel
theorem dX10_ties_60 : decode cX10_ties 60 = .ok (.ifCond .le 10, 3) := by decide +kernel
theorem dX10_ties_63 : decode cX10_ties 63 = .ok (.iload_n 3, 1) := by decide +kernel
theorem dX10_ties_64 : decode cX10_ties 64 = .ok (.iconst 1, 1) := by decide +kernel
theorem dX10_ties_65 : decode cX10_ties 65 = .ok (.iload 4, 2) := by decide +kernel
theorem dX10_ties_67 : decode cX10_ties 67 = .ok (.ishl, 1) := by decide +kernel
theorem dX10_ties_68 : decode cX10_ties 68 = .ok (.ior, 1) := by decide +kernel
theorem dX10_ties_69 : decode cX10_ties 69 = .ok (.istore_n 3, 1) := by decide +kernel
theorem dX10_ties_70 : decode cX10_ties 70 = .ok (.iinc 4 1, 3) := by decide +kernel
theorem dX10_ties_73 : decode cX10_ties 73 = .ok (.goto (-56), 3) := by decide +kernel
theorem dX10_ties_76 : decode cX10_ties 76 = .ok (.iload_n 3, 1) := by decide +kernel
theorem dX10_ties_77 : decode cX10_ties 77 = .ok (.ireturn, 1) := by decide +kernel
theorem dX10_refuge_0 : decode cX10_refuge 0 = .ok (.aload_n 0, 1) := by decide +kernel
theorem dX10_refuge_1 : decode cX10_refuge 1 = .ok (.iload_n 1, 1) := by decide +kernel
theorem dX10_refuge_2 : decode cX10_refuge 2 = .ok (.invokevirtual 209, 3) := by decide +kernel
theorem dX10_refuge_5 : decode cX10_refuge 5 = .ok (.aload_n 0, 1) := by decide +kernel
theorem dX10_refuge_6 : decode cX10_refuge 6 = .ok (.iload_n 2, 1) := by decide +kernel
theorem dX10_refuge_7 : decode cX10_refuge 7 = .ok (.iconst 0, 1) := by decide +kernel
theorem dX10_refuge_8 : decode cX10_refuge 8 = .ok (.iconst 1, 1) := by decide +kernel
theorem dX10_refuge_9 : decode cX10_refuge 9 = .ok (.invokevirtual 180, 3) := by decide +kernel
theorem dX10_refuge_12 : decode cX10_refuge 12 = .ok (.iconst (-1), 1) := by decide +kernel
theorem dX10_refuge_13 : decode cX10_refuge 13 = .ok (.istore_n 3, 1) := by decide +kernel
theorem dX10_refuge_14 : decode cX10_refuge 14 = .ok (.iconst 0, 1) := by decide +kernel
theorem dX10_refuge_15 : decode cX10_refuge 15 = .ok (.istore 4, 2) := by decide +kernel
theorem dX10_refuge_17 : decode cX10_refuge 17 = .ok (.iload 4, 2) := by decide +kernel
theorem dX10_refuge_19 : decode cX10_refuge 19 = .ok (.aload_n 0, 1) := by decide +kernel
theorem dX10_refuge_20 : decode cX10_refuge 20 = .ok (.getfield 19, 3) := by decide +kernel
theorem dX10_refuge_23 : decode cX10_refuge 23 = .ok (.getfield 149, 3) := by decide +kernel
theorem dX10_refuge_26 : decode cX10_refuge 26 = .ok (.if_icmp .ge 51, 3) := by decide +kernel
theorem dX10_refuge_29 : decode cX10_refuge 29 = .ok (.aload_n 0, 1) := by decide +kernel
theorem dX10_refuge_30 : decode cX10_refuge 30 = .ok (.getfield 19, 3) := by decide +kernel
theorem dX10_refuge_33 : decode cX10_refuge 33 = .ok (.iload 4, 2) := by decide +kernel
theorem dX10_refuge_35 : decode cX10_refuge 35 = .ok (.invokevirtual 219, 3) := by decide +kernel
theorem dX10_refuge_38 : decode cX10_refuge 38 = .ok (.ifCond .eq 33, 3) := by decide +kernel
theorem dX10_refuge_41 : decode cX10_refuge 41 = .ok (.iload_n 3, 1) := by decide +kernel
theorem dX10_refuge_42 : decode cX10_refuge 42 = .ok (.iconst (-1), 1) := by decide +kernel
theorem dX10_refuge_43 : decode cX10_refuge 43 = .ok (.if_icmp .eq 25, 3) := by decide +kernel
theorem dX10_refuge_46 : decode cX10_refuge 46 = .ok (.aload_n 0, 1) := by decide +kernel
theorem dX10_refuge_47 : decode cX10_refuge 47 = .ok (.getfield 19, 3) := by decide +kernel
theorem dX10_refuge_50 : decode cX10_refuge 50 = .ok (.iload_n 1, 1) := by decide +kernel
theorem dX10_refuge_51 : decode cX10_refuge 51 = .ok (.iload 4, 2) := by decide +kernel
theorem dX10_refuge_53 : decode cX10_refuge 53 = .ok (.invokevirtual 281, 3) := by decide +kernel
theorem dX10_refuge_56 : decode cX10_refuge 56 = .ok (.aload_n 0, 1) := by decide +kernel
theorem dX10_refuge_57 : decode cX10_refuge 57 = .ok (.getfield 19, 3) := by decide +kernel
theorem dX10_refuge_60 : decode cX10_refuge 60 = .ok (.iload_n 1, 1) := by decide +kernel
theorem dX10_refuge_61 : decode cX10_refuge 61 = .ok (.iload_n 3, 1) := by decide +kernel
theorem dX10_refuge_62 : decode cX10_refuge 62 = .ok (.invokevirtual 281, 3) := by decide +kernel
theorem dX10_refuge_65 : decode cX10_refuge 65 = .ok (.if_icmp .ge 6, 3) := by decide +kernel
theorem dX10_refuge_68 : decode cX10_refuge 68 = .ok (.iload 4, 2) := by decide +kernel
theorem dX10_refuge_70 : decode cX10_refuge 70 = .ok (.istore_n 3, 1) := by decide +kernel
theorem dX10_refuge_71 : decode cX10_refuge 71 = .ok (.iinc 4 1, 3) := by decide +kernel
theorem dX10_refuge_74 : decode cX10_refuge 74 = .ok (.goto (-57), 3) := by decide +kernel
theorem dX10_refuge_77 : decode cX10_refuge 77 = .ok (.iload_n 2, 1) := by decide +kernel
theorem dX10_refuge_78 : decode cX10_refuge 78 = .ok (.ifCond .eq 8, 3) := by decide +kernel
theorem dX10_refuge_81 : decode cX10_refuge 81 = .ok (.iload_n 3, 1) := by decide +kernel
theorem dX10_refuge_82 : decode cX10_refuge 82 = .ok (.iconst (-1), 1) := by decide +kernel
theorem dX10_refuge_83 : decode cX10_refuge 83 = .ok (.if_icmp .ne 7, 3) := by decide +kernel
theorem dX10_refuge_86 : decode cX10_refuge 86 = .ok (.iload_n 3, 1) := by decide +kernel
theorem dX10_refuge_87 : decode cX10_refuge 87 = .ok (.goto 12, 3) := by decide +kernel
theorem dX10_refuge_90 : decode cX10_refuge 90 = .ok (.aload_n 0, 1) := by decide +kernel
theorem dX10_refuge_91 : decode cX10_refuge 91 = .ok (.getfield 19, 3) := by decide +kernel
theorem dX10_refuge_94 : decode cX10_refuge 94 = .ok (.iload_n 1, 1) := by decide +kernel
theorem dX10_refuge_95 : decode cX10_refuge 95 = .ok (.iload_n 3, 1) := by decide +kernel
theorem dX10_refuge_96 : decode cX10_refuge 96 = .ok (.invokevirtual 281, 3) := by decide +kernel
theorem dX10_refuge_99 : decode cX10_refuge 99 = .ok (.ireturn, 1) := by decide +kernel
theorem dX10_range_0 : decode cX10_range 0 = .ok (.aload_n 0, 1) := by decide +kernel
theorem dX10_range_1 : decode cX10_range 1 = .ok (.iload_n 1, 1) := by decide +kernel
theorem dX10_range_2 : decode cX10_range 2 = .ok (.invokevirtual 227, 3) := by decide +kernel
theorem dX10_range_5 : decode cX10_range 5 = .ok (.aload_n 0, 1) := by decide +kernel
theorem dX10_range_6 : decode cX10_range 6 = .ok (.getfield 58, 3) := by decide +kernel
theorem dX10_range_9 : decode cX10_range 9 = .ok (.iload_n 1, 1) := by decide +kernel
theorem dX10_range_10 : decode cX10_range 10 = .ok (.invokevirtual 372, 3) := by decide +kernel
theorem dX10_range_13 : decode cX10_range 13 = .ok (.ireturn, 1) := by decide +kernel
theorem dX10_march_0 : decode cX10_march 0 = .ok (.aload_n 0, 1) := by decide +kernel
theorem dX10_march_1 : decode cX10_march 1 = .ok (.iload_n 2, 1) := by decide +kernel
theorem dX10_march_2 : decode cX10_march 2 = .ok (.iconst 1, 1) := by decide +kernel
theorem dX10_march_3 : decode cX10_march 3 = .ok (.bipush 96, 2) := by decide +kernel
theorem dX10_march_5 : decode cX10_march 5 = .ok (.invokevirtual 180, 3) := by decide +kernel
theorem dX10_march_8 : decode cX10_march 8 = .ok (.aload_n 0, 1) := by decide +kernel
theorem dX10_march_9 : decode cX10_march 9 = .ok (.iload_n 3, 1) := by decide +kernel
theorem dX10_march_10 : decode cX10_march 10 = .ok (.iconst 0, 1) := by decide +kernel
theorem dX10_march_11 : decode cX10_march 11 = .ok (.iconst 3, 1) := by decide +kernel
theorem dX10_march_12 : decode cX10_march 12 = .ok (.invokevirtual 180, 3) := by decide +kernel
theorem dX10_march_15 : decode cX10_march 15 = .ok (.aload_n 0, 1) := by decide +kernel
theorem dX10_march_16 : decode cX10_march 16 = .ok (.getfield 62, 3) := by decide +kernel
theorem dX10_march_19 : decode cX10_march 19 = .ok (.aload_n 0, 1) := by decide +kernel
theorem dX10_march_20 : decode cX10_march 20 = .ok (.getfield 58, 3) := by decide +kernel
theorem dX10_march_23 : decode cX10_march 23 = .ok (.invokevirtual 297, 3) := by decide +kernel
theorem dX10_march_26 : decode cX10_march 26 = .ok (.aload_n 0, 1) := by decide +kernel
theorem dX10_march_27 : decode cX10_march 27 = .ok (.getfield 62, 3) := by decide +kernel
theorem dX10_march_30 : decode cX10_march 30 = .ok (.iload_n 1, 1) := by decide +kernel
theorem dX10_march_31 : decode cX10_march 31 = .ok (.iload_n 2, 1) := by decide +kernel
theorem dX10_march_32 : decode cX10_march 32 = .ok (.invokevirtual 375, 3) := by decide +kernel
theorem dX10_march_35 : decode cX10_march 35 = .ok (.istore 4, 2) := by decide +kernel
theorem dX10_march_37 : decode cX10_march 37 = .ok (.iload_n 3, 1) := by decide +kernel
theorem dX10_march_38 : decode cX10_march 38 = .ok (.tableswitch 45 0 2 #[26, 29, 37], 26) := by decide +kernel
theorem dX10_march_64 : decode cX10_march 64 = .ok (.iload 4, 2) := by decide +kernel
theorem dX10_march_66 : decode cX10_march 66 = .ok (.ireturn, 1) := by decide +kernel
theorem dX10_march_67 : decode cX10_march 67 = .ok (.aload_n 0, 1) := by decide +kernel
theorem dX10_march_68 : decode cX10_march 68 = .ok (.getfield 62, 3) := by decide +kernel
theorem dX10_march_71 : decode cX10_march 71 = .ok (.invokevirtual 194, 3) := by decide +kernel
theorem dX10_march_74 : decode cX10_march 74 = .ok (.ireturn, 1) := by decide +kernel
theorem dX10_march_75 : decode cX10_march 75 = .ok (.aload_n 0, 1) := by decide +kernel
theorem dX10_march_76 : decode cX10_march 76 = .ok (.getfield 62, 3) := by decide +kernel
theorem dX10_march_79 : decode cX10_march 79 = .ok (.invokevirtual 378, 3) := by decide +kernel
theorem dX10_march_82 : decode cX10_march 82 = .ok (.ireturn, 1) := by decide +kernel
theorem dX10_march_83 : decode cX10_march 83 = .ok (.aload_n 0, 1) := by decide +kernel
theorem dX10_march_84 : decode cX10_march 84 = .ok (.getfield 62, 3) := by decide +kernel
theorem dX10_march_87 : decode cX10_march 87 = .ok (.invokevirtual 187, 3) := by decide +kernel
theorem dX10_march_90 : decode cX10_march 90 = .ok (.ireturn, 1) := by decide +kernel
theorem dX10_span_0 : decode cX10_span 0 = .ok (.aload_n 0, 1) := by decide +kernel
theorem dX10_span_1 : decode cX10_span 1 = .ok (.iload_n 2, 1) := by decide +kernel
theorem dX10_span_2 : decode cX10_span 2 = .ok (.iconst 1, 1) := by decide +kernel
theorem dX10_span_3 : decode cX10_span 3 = .ok (.bipush 20, 2) := by decide +kernel
theorem dX10_span_5 : decode cX10_span 5 = .ok (.invokevirtual 180, 3) := by decide +kernel
theorem dX10_span_8 : decode cX10_span 8 = .ok (.aload_n 0, 1) := by decide +kernel
theorem dX10_span_9 : decode cX10_span 9 = .ok (.iload_n 3, 1) := by decide +kernel
theorem dX10_span_10 : decode cX10_span 10 = .ok (.iconst 1, 1) := by decide +kernel
theorem dX10_span_11 : decode cX10_span 11 = .ok (.bipush 96, 2) := by decide +kernel
theorem dX10_span_13 : decode cX10_span 13 = .ok (.invokevirtual 180, 3) := by decide +kernel
theorem dX10_span_16 : decode cX10_span 16 = .ok (.aload_n 0, 1) := by decide +kernel
theorem dX10_span_17 : decode cX10_span 17 = .ok (.iload 4, 2) := by decide +kernel
theorem dX10_span_19 : decode cX10_span 19 = .ok (.iconst 0, 1) := by decide +kernel
theorem dX10_span_20 : decode cX10_span 20 = .ok (.iconst 2, 1) := by decide +kernel
theorem dX10_span_21 : decode cX10_span 21 = .ok (.invokevirtual 180, 3) := by decide +kernel
theorem dX10_span_24 : decode cX10_span 24 = .ok (.aload_n 0, 1) := by decide +kernel
theorem dX10_span_25 : decode cX10_span 25 = .ok (.iload 5, 2) := by decide +kernel
theorem dX10_span_27 : decode cX10_span 27 = .ok (.iconst 0, 1) := by decide +kernel
theorem dX10_span_28 : decode cX10_span 28 = .ok (.aload_n 0, 1) := by decide +kernel
theorem dX10_span_29 : decode cX10_span 29 = .ok (.getfield 19, 3) := by decide +kernel
theorem dX10_span_32 : decode cX10_span 32 = .ok (.getfield 141, 3) := by decide +kernel
theorem dX10_span_35 : decode cX10_span 35 = .ok (.iconst 1, 1) := by decide +kernel
theorem dX10_span_36 : decode cX10_span 36 = .ok (.isub, 1) := by decide +kernel
theorem dX10_span_37 : decode cX10_span 37 = .ok (.invokevirtual 180, 3) := by decide +kernel
theorem dX10_span_40 : decode cX10_span 40 = .ok (.ldc_w 383, 3) := by decide +kernel
theorem dX10_span_43 : decode cX10_span 43 = .ok (.istore 6, 2) := by decide +kernel
theorem dX10_span_45 : decode cX10_span 45 = .ok (.iconst 0, 1) := by decide +kernel
theorem dX10_span_46 : decode cX10_span 46 = .ok (.istore 7, 2) := by decide +kernel
theorem dX10_span_48 : decode cX10_span 48 = .ok (.iconst 0, 1) := by decide +kernel
theorem dX10_span_49 : decode cX10_span 49 = .ok (.istore 8, 2) := by decide +kernel
theorem dX10_span_51 : decode cX10_span 51 = .ok (.iconst 0, 1) := by decide +kernel
theorem dX10_span_52 : decode cX10_span 52 = .ok (.istore 9, 2) := by decide +kernel
theorem dX10_span_54 : decode cX10_span 54 = .ok (.iload 9, 2) := by decide +kernel
theorem dX10_span_56 : decode cX10_span 56 = .ok (.iload_n 2, 1) := by decide +kernel
theorem dX10_span_57 : decode cX10_span 57 = .ok (.if_icmp .ge 74, 3) := by decide +kernel
theorem dX10_span_60 : decode cX10_span 60 = .ok (.aload_n 0, 1) := by decide +kernel
theorem dX10_span_61 : decode cX10_span 61 = .ok (.getfield 62, 3) := by decide +kernel
theorem dX10_span_64 : decode cX10_span 64 = .ok (.aload_n 0, 1) := by decide +kernel
theorem dX10_span_65 : decode cX10_span 65 = .ok (.getfield 58, 3) := by decide +kernel
theorem dX10_span_68 : decode cX10_span 68 = .ok (.invokevirtual 297, 3) := by decide +kernel
theorem dX10_span_71 : decode cX10_span 71 = .ok (.aload_n 0, 1) := by decide +kernel
theorem dX10_span_72 : decode cX10_span 72 = .ok (.getfield 62, 3) := by decide +kernel
theorem dX10_span_75 : decode cX10_span 75 = .ok (.iload_n 1, 1) := by decide +kernel
theorem dX10_span_76 : decode cX10_span 76 = .ok (.iload 9, 2) := by decide +kernel
theorem dX10_span_78 : decode cX10_span 78 = .ok (.iadd, 1) := by decide +kernel
theorem dX10_span_79 : decode cX10_span 79 = .ok (.iload_n 3, 1) := by decide +kernel
theorem dX10_span_80 : decode cX10_span 80 = .ok (.invokevirtual 375, 3) := by decide +kernel
theorem dX10_span_83 : decode cX10_span 83 = .ok (.istore 10, 2) := by decide +kernel
theorem dX10_span_85 : decode cX10_span 85 = .ok (.iload 6, 2) := by decide +kernel
theorem dX10_span_87 : decode cX10_span 87 = .ok (.iload 10, 2) := by decide +kernel
theorem dX10_span_89 : decode cX10_span 89 = .ok (.invokestatic 384, 3) := by decide +kernel
theorem dX10_span_92 : decode cX10_span 92 = .ok (.istore 6, 2) := by decide +kernel
theorem dX10_span_94 : decode cX10_span 94 = .ok (.iload 7, 2) := by decide +kernel
theorem dX10_span_96 : decode cX10_span 96 = .ok (.iload 10, 2) := by decide +kernel
theorem dX10_span_98 : decode cX10_span 98 = .ok (.invokestatic 389, 3) := by decide +kernel
theorem dX10_span_101 : decode cX10_span 101 = .ok (.istore 7, 2) := by decide +kernel
theorem dX10_span_103 : decode cX10_span 103 = .ok (.iload 8, 2) := by decide +kernel
theorem dX10_span_105 : decode cX10_span 105 = .ok (.aload_n 0, 1) := by decide +kernel
theorem dX10_span_106 : decode cX10_span 106 = .ok (.getfield 62, 3) := by decide +kernel
theorem dX10_span_109 : decode cX10_span 109 = .ok (.iload 5, 2) := by decide +kernel
theorem dX10_span_111 : decode cX10_span 111 = .ok (.invokevirtual 230, 3) := by decide +kernel
theorem dX10_span_114 : decode cX10_span 114 = .ok (.ifCond .eq 7, 3) := by decide +kernel
theorem dX10_span_117 : decode cX10_span 117 = .ok (.iconst 0, 1) := by decide +kernel
theorem dX10_span_118 : decode cX10_span 118 = .ok (.goto 4, 3) := by decide +kernel
theorem dX10_span_121 : decode cX10_span 121 = .ok (.iconst 1, 1) := by decide +kernel
theorem dX10_span_122 : decode cX10_span 122 = .ok (.iadd, 1) := by decide +kernel
theorem dX10_span_123 : decode cX10_span 123 = .ok (.istore 8, 2) := by decide +kernel
theorem dX10_span_125 : decode cX10_span 125 = .ok (.iinc 9 1, 3) := by decide +kernel
theorem dX10_span_128 : decode cX10_span 128 = .ok (.goto (-74), 3) := by decide +kernel
theorem dX10_span_131 : decode cX10_span 131 = .ok (.iload 4, 2) := by decide +kernel
theorem dX10_span_133 : decode cX10_span 133 = .ok (.lookupswitch 33 #[(0, 27), (1, 30)], 27) := by decide +kernel
theorem dX10_span_160 : decode cX10_span 160 = .ok (.iload 6, 2) := by decide +kernel
theorem dX10_span_162 : decode cX10_span 162 = .ok (.ireturn, 1) := by decide +kernel
theorem dX10_span_163 : decode cX10_span 163 = .ok (.iload 7, 2) := by decide +kernel
theorem dX10_span_165 : decode cX10_span 165 = .ok (.ireturn, 1) := by decide +kernel
theorem dX10_span_166 : decode cX10_span 166 = .ok (.iload 8, 2) := by decide +kernel
theorem dX10_span_168 : decode cX10_span 168 = .ok (.ireturn, 1) := by decide +kernel
theorem dX10_image_0 : decode cX10_image 0 = .ok (.aload_n 0, 1) := by decide +kernel
theorem dX10_image_1 : decode cX10_image 1 = .ok (.getfield 135, 3) := by decide +kernel
theorem dX10_image_4 : decode cX10_image 4 = .ok (.iconst 3, 1) := by decide +kernel
theorem dX10_image_5 : decode cX10_image 5 = .ok (.if_icmp .lt 5, 3) := by decide +kernel
theorem dX10_image_8 : decode cX10_image 8 = .ok (.iconst (-1), 1) := by decide +kernel
theorem dX10_image_9 : decode cX10_image 9 = .ok (.ireturn, 1) := by decide +kernel
theorem dX10_image_10 : decode cX10_image 10 = .ok (.aload_n 0, 1) := by decide +kernel
theorem dX10_image_11 : decode cX10_image 11 = .ok (.getfield 72, 3) := by decide +kernel
theorem dX10_image_14 : decode cX10_image 14 = .ok (.aload_n 0, 1) := by decide +kernel
theorem dX10_image_15 : decode cX10_image 15 = .ok (.getfield 135, 3) := by decide +kernel
theorem dX10_image_18 : decode cX10_image 18 = .ok (.aaload, 1) := by decide +kernel
theorem dX10_image_19 : decode cX10_image 19 = .ok (.aload_n 0, 1) := by decide +kernel
theorem dX10_image_20 : decode cX10_image 20 = .ok (.getfield 68, 3) := by decide +kernel
theorem dX10_image_23 : decode cX10_image 23 = .ok (.invokevirtual 392, 3) := by decide +kernel
theorem dX10_image_26 : decode cX10_image 26 = .ok (.aload_n 0, 1) := by decide +kernel
theorem dX10_image_27 : decode cX10_image 27 = .ok (.getfield 72, 3) := by decide +kernel
theorem dX10_image_30 : decode cX10_image 30 = .ok (.aload_n 0, 1) := by decide +kernel
theorem dX10_image_31 : decode cX10_image 31 = .ok (.getfield 135, 3) := by decide +kernel
theorem dX10_image_34 : decode cX10_image 34 = .ok (.aaload, 1) := by decide +kernel
theorem dX10_image_35 : decode cX10_image 35 = .ok (.aload_n 0, 1) := by decide +kernel
theorem dX10_image_36 : decode cX10_image 36 = .ok (.getfield 58, 3) := by decide +kernel
theorem dX10_image_39 : decode cX10_image 39 = .ok (.invokevirtual 155, 3) := by decide +kernel
theorem dX10_image_42 : decode cX10_image 42 = .ok (.aload_n 0, 1) := by decide +kernel
theorem dX10_image_43 : decode cX10_image 43 = .ok (.dup, 1) := by decide +kernel
theorem dX10_image_44 : decode cX10_image 44 = .ok (.getfield 135, 3) := by decide +kernel
theorem dX10_image_47 : decode cX10_image 47 = .ok (.iconst 1, 1) := by decide +kernel
theorem dX10_image_48 : decode cX10_image 48 = .ok (.iadd, 1) := by decide +kernel
theorem dX10_image_49 : decode cX10_image 49 = .ok (.putfield 135, 3) := by decide +kernel
theorem dX10_image_52 : decode cX10_image 52 = .ok (.aload_n 0, 1) := by decide +kernel
theorem dX10_image_53 : decode cX10_image 53 = .ok (.getfield 135, 3) := by decide +kernel
theorem dX10_image_56 : decode cX10_image 56 = .ok (.ireturn, 1) := by decide +kernel
theorem dX10_restore_0 : decode cX10_restore 0 = .ok (.aload_n 0, 1) := by decide +kernel
theorem dX10_restore_1 : decode cX10_restore 1 = .ok (.getfield 135, 3) := by decide +kernel
theorem dX10_restore_4 : decode cX10_restore 4 = .ok (.ifCond .ne 5, 3) := by decide +kernel
theorem dX10_restore_7 : decode cX10_restore 7 = .ok (.iconst (-1), 1) := by decide +kernel
theorem dX10_restore_8 : decode cX10_restore 8 = .ok (.ireturn, 1) := by decide +kernel
theorem dX10_restore_9 : decode cX10_restore 9 = .ok (.aload_n 0, 1) := by decide +kernel
theorem dX10_restore_10 : decode cX10_restore 10 = .ok (.dup, 1) := by decide +kernel
theorem dX10_restore_11 : decode cX10_restore 11 = .ok (.getfield 135, 3) := by decide +kernel
theorem dX10_restore_14 : decode cX10_restore 14 = .ok (.iconst 1, 1) := by decide +kernel
theorem dX10_restore_15 : decode cX10_restore 15 = .ok (.isub, 1) := by decide +kernel
theorem dX10_restore_16 : decode cX10_restore 16 = .ok (.putfield 135, 3) := by decide +kernel
theorem dX10_restore_19 : decode cX10_restore 19 = .ok (.aload_n 0, 1) := by decide +kernel
theorem dX10_restore_20 : decode cX10_restore 20 = .ok (.getfield 72, 3) := by decide +kernel
theorem dX10_restore_23 : decode cX10_restore 23 = .ok (.aload_n 0, 1) := by decide +kernel
theorem dX10_restore_24 : decode cX10_restore 24 = .ok (.getfield 135, 3) := by decide +kernel
theorem dX10_restore_27 : decode cX10_restore 27 = .ok (.aaload, 1) := by decide +kernel
theorem dX10_restore_28 : decode cX10_restore 28 = .ok (.aload_n 0, 1) := by decide +kernel
theorem dX10_restore_29 : decode cX10_restore 29 = .ok (.getfield 58, 3) := by decide +kernel
theorem dX10_restore_32 : decode cX10_restore 32 = .ok (.invokevirtual 177, 3) := by decide +kernel
theorem dX10_restore_35 : decode cX10_restore 35 = .ok (.aload_n 0, 1) := by decide +kernel
theorem dX10_restore_36 : decode cX10_restore 36 = .ok (.getfield 68, 3) := by decide +kernel
theorem dX10_restore_39 : decode cX10_restore 39 = .ok (.aload_n 0, 1) := by decide +kernel
theorem dX10_restore_40 : decode cX10_restore 40 = .ok (.getfield 72, 3) := by decide +kernel
theorem dX10_restore_43 : decode cX10_restore 43 = .ok (.aload_n 0, 1) := by decide +kernel
theorem dX10_restore_44 : decode cX10_restore 44 = .ok (.getfield 135, 3) := by decide +kernel
theorem dX10_restore_47 : decode cX10_restore 47 = .ok (.aaload, 1) := by decide +kernel
theorem dX10_restore_48 : decode cX10_restore 48 = .ok (.invokevirtual 392, 3) := by decide +kernel
theorem dX10_restore_51 : decode cX10_restore 51 = .ok (.aload_n 0, 1) := by decide +kernel
theorem dX10_restore_52 : decode cX10_restore 52 = .ok (.iconst 0, 1) := by decide +kernel
theorem dX10_restore_53 : decode cX10_restore 53 = .ok (.putfield 138, 3) := by decide +kernel
theorem dX10_restore_56 : decode cX10_restore 56 = .ok (.aload_n 0, 1) := by decide +kernel
theorem dX10_restore_57 : decode cX10_restore 57 = .ok (.getfield 135, 3) := by decide +kernel
theorem dX10_restore_60 : decode cX10_restore 60 = .ok (.ireturn, 1) := by decide +kernel
theorem dX10_status_0 : decode cX10_status 0 = .ok (.iload_n 1, 1) := by decide +kernel
theorem dX10_status_1 : decode cX10_status 1 = .ok (.lookupswitch 37 #[(0, 27), (1, 32)], 27) := by decide +kernel
theorem dX10_status_28 : decode cX10_status 28 = .ok (.aload_n 0, 1) := by decide +kernel
theorem dX10_status_29 : decode cX10_status 29 = .ok (.getfield 261, 3) := by decide +kernel
theorem dX10_status_32 : decode cX10_status 32 = .ok (.ireturn, 1) := by decide +kernel
theorem dX10_status_33 : decode cX10_status 33 = .ok (.aload_n 0, 1) := by decide +kernel
theorem dX10_status_34 : decode cX10_status 34 = .ok (.getfield 395, 3) := by decide +kernel
theorem dX10_status_37 : decode cX10_status 37 = .ok (.ireturn, 1) := by decide +kernel
theorem dX10_status_38 : decode cX10_status 38 = .ok (.iconst (-1), 1) := by decide +kernel
theorem dX10_status_39 : decode cX10_status 39 = .ok (.ireturn, 1) := by decide +kernel
theorem dX10_count_0 : decode cX10_count 0 = .ok (.iload_n 1, 1) := by decide +kernel
theorem dX10_count_1 : decode cX10_count 1 = .ok (.tableswitch 48 0 2 #[27, 32, 40], 27) := by decide +kernel
theorem dX10_count_28 : decode cX10_count 28 = .ok (.aload_n 0, 1) := by decide +kernel
theorem dX10_count_29 : decode cX10_count 29 = .ok (.getfield 135, 3) := by decide +kernel
theorem dX10_count_32 : decode cX10_count 32 = .ok (.ireturn, 1) := by decide +kernel
theorem dX10_count_33 : decode cX10_count 33 = .ok (.aload_n 0, 1) := by decide +kernel
theorem dX10_count_34 : decode cX10_count 34 = .ok (.getfield 10, 3) := by decide +kernel
theorem dX10_count_37 : decode cX10_count 37 = .ok (.getfield 105, 3) := by decide +kernel
theorem dX10_count_40 : decode cX10_count 40 = .ok (.ireturn, 1) := by decide +kernel
theorem dX10_count_41 : decode cX10_count 41 = .ok (.aload_n 0, 1) := by decide +kernel
theorem dX10_count_42 : decode cX10_count 42 = .ok (.getfield 68, 3) := by decide +kernel
theorem dX10_count_45 : decode cX10_count 45 = .ok (.getfield 132, 3) := by decide +kernel
theorem dX10_count_48 : decode cX10_count 48 = .ok (.ireturn, 1) := by decide +kernel
theorem dX10_count_49 : decode cX10_count 49 = .ok (.iconst (-1), 1) := by decide +kernel
theorem dX10_count_50 : decode cX10_count 50 = .ok (.ireturn, 1) := by decide +kernel
theorem dX10_openText_0 : decode cX10_openText 0 = .ok (.aload_n 0, 1) := by decide +kernel
theorem dX10_openText_1 : decode cX10_openText 1 = .ok (.iload_n 1, 1) := by decide +kernel
theorem dX10_openText_2 : decode cX10_openText 2 = .ok (.iconst 0, 1) := by decide +kernel
theorem dX10_openText_3 : decode cX10_openText 3 = .ok (.iload_n 2, 1) := by decide +kernel
theorem dX10_openText_4 : decode cX10_openText 4 = .ok (.aload_n 0, 1) := by decide +kernel
theorem dX10_openText_5 : decode cX10_openText 5 = .ok (.getfield 10, 3) := by decide +kernel
theorem dX10_openText_8 : decode cX10_openText 8 = .ok (.getfield 105, 3) := by decide +kernel
theorem dX10_openText_11 : decode cX10_openText 11 = .ok (.invokestatic 384, 3) := by decide +kernel
theorem dX10_openText_14 : decode cX10_openText 14 = .ok (.invokevirtual 180, 3) := by decide +kernel
theorem dX10_openText_17 : decode cX10_openText 17 = .ok (.aload_n 0, 1) := by decide +kernel
theorem dX10_openText_18 : decode cX10_openText 18 = .ok (.getfield 10, 3) := by decide +kernel
theorem dX10_openText_21 : decode cX10_openText 21 = .ok (.iload_n 1, 1) := by decide +kernel
theorem dX10_openText_22 : decode cX10_openText 22 = .ok (.invokevirtual 398, 3) := by decide +kernel
theorem dX10_openText_25 : decode cX10_openText 25 = .ok (.return_, 1) := by decide +kernel
theorem dX10_needForm_0 : decode cX10_needForm 0 = .ok (.iload_n 1, 1) := by decide +kernel
theorem dX10_needForm_1 : decode cX10_needForm 1 = .ok (.iconst 0, 1) := by decide +kernel
theorem dX10_needForm_2 : decode cX10_needForm 2 = .ok (.aload_n 0, 1) := by decide +kernel
theorem dX10_needForm_3 : decode cX10_needForm 3 = .ok (.getfield 19, 3) := by decide +kernel
theorem dX10_needForm_6 : decode cX10_needForm 6 = .ok (.getfield 149, 3) := by decide +kernel
theorem dX10_needForm_9 : decode cX10_needForm 9 = .ok (.iconst 1, 1) := by decide +kernel
theorem dX10_needForm_10 : decode cX10_needForm 10 = .ok (.isub, 1) := by decide +kernel
theorem dX10_needForm_11 : decode cX10_needForm 11 = .ok (.invokestatic 257, 3) := by decide +kernel
theorem dX10_needForm_14 : decode cX10_needForm 14 = .ok (.ifCond .ne 24, 3) := by decide +kernel
theorem dX10_needForm_17 : decode cX10_needForm 17 = .ok (.aload_n 0, 1) := by decide +kernel
theorem dX10_needForm_18 : decode cX10_needForm 18 = .ok (.dup, 1) := by decide +kernel
theorem dX10_needForm_19 : decode cX10_needForm 19 = .ok (.getfield 261, 3) := by decide +kernel
theorem dX10_needForm_22 : decode cX10_needForm 22 = .ok (.iconst 1, 1) := by decide +kernel
theorem dX10_needForm_23 : decode cX10_needForm 23 = .ok (.iadd, 1) := by decide +kernel
theorem dX10_needForm_24 : decode cX10_needForm 24 = .ok (.putfield 261, 3) := by decide +kernel
theorem dX10_needForm_27 : decode cX10_needForm 27 = .ok (.new 264, 3) := by decide +kernel
theorem dX10_needForm_30 : decode cX10_needForm 30 = .ok (.dup, 1) := by decide +kernel
theorem dX10_needForm_31 : decode cX10_needForm 31 = .ok (.ldc_w 401, 3) := by decide +kernel
theorem dX10_needForm_34 : decode cX10_needForm 34 = .ok (.invokespecial 268, 3) := by decide +kernel
theorem dX10_needForm_37 : decode cX10_needForm 37 = .ok (.athrow, 1) := by decide +kernel
theorem dX10_needForm_38 : decode cX10_needForm 38 = .ok (.return_, 1) := by decide +kernel
theorem dX10_needHare_0 : decode cX10_needHare 0 = .ok (.iload_n 1, 1) := by decide +kernel
theorem dX10_needHare_1 : decode cX10_needHare 1 = .ok (.iconst 0, 1) := by decide +kernel
theorem dX10_needHare_2 : decode cX10_needHare 2 = .ok (.aload_n 0, 1) := by decide +kernel
theorem dX10_needHare_3 : decode cX10_needHare 3 = .ok (.getfield 19, 3) := by decide +kernel
theorem dX10_needHare_6 : decode cX10_needHare 6 = .ok (.getfield 141, 3) := by decide +kernel
theorem dX10_needHare_9 : decode cX10_needHare 9 = .ok (.iconst 1, 1) := by decide +kernel
theorem dX10_needHare_10 : decode cX10_needHare 10 = .ok (.isub, 1) := by decide +kernel
theorem dX10_needHare_11 : decode cX10_needHare 11 = .ok (.invokestatic 257, 3) := by decide +kernel
theorem dX10_needHare_14 : decode cX10_needHare 14 = .ok (.ifCond .ne 24, 3) := by decide +kernel
theorem dX10_needHare_17 : decode cX10_needHare 17 = .ok (.aload_n 0, 1) := by decide +kernel
theorem dX10_needHare_18 : decode cX10_needHare 18 = .ok (.dup, 1) := by decide +kernel
theorem dX10_needHare_19 : decode cX10_needHare 19 = .ok (.getfield 261, 3) := by decide +kernel
theorem dX10_needHare_22 : decode cX10_needHare 22 = .ok (.iconst 1, 1) := by decide +kernel
theorem dX10_needHare_23 : decode cX10_needHare 23 = .ok (.iadd, 1) := by decide +kernel
theorem dX10_needHare_24 : decode cX10_needHare 24 = .ok (.putfield 261, 3) := by decide +kernel
theorem dX10_needHare_27 : decode cX10_needHare 27 = .ok (.new 264, 3) := by decide +kernel
theorem dX10_needHare_30 : decode cX10_needHare 30 = .ok (.dup, 1) := by decide +kernel
theorem dX10_needHare_31 : decode cX10_needHare 31 = .ok (.ldc_w 403, 3) := by decide +kernel
theorem dX10_needHare_34 : decode cX10_needHare 34 = .ok (.invokespecial 268, 3) := by decide +kernel
theorem dX10_needHare_37 : decode cX10_needHare 37 = .ok (.athrow, 1) := by decide +kernel
theorem dX10_needHare_38 : decode cX10_needHare 38 = .ok (.return_, 1) := by decide +kernel
theorem dX10_needWithin_0 : decode cX10_needWithin 0 = .ok (.aload_n 0, 1) := by decide +kernel
theorem dX10_needWithin_1 : decode cX10_needWithin 1 = .ok (.iload_n 1, 1) := by decide +kernel
theorem dX10_needWithin_2 : decode cX10_needWithin 2 = .ok (.iload_n 2, 1) := by decide +kernel
theorem dX10_needWithin_3 : decode cX10_needWithin 3 = .ok (.iload_n 3, 1) := by decide +kernel
theorem dX10_needWithin_4 : decode cX10_needWithin 4 = .ok (.invokestatic 257, 3) := by decide +kernel
theorem dX10_needWithin_7 : decode cX10_needWithin 7 = .ok (.invokevirtual 322, 3) := by decide +kernel
theorem dX10_needWithin_10 : decode cX10_needWithin 10 = .ok (.return_, 1) := by decide +kernel
theorem dX10_needLegal_0 : decode cX10_needLegal 0 = .ok (.iload_n 1, 1) := by decide +kernel
theorem dX10_needLegal_1 : decode cX10_needLegal 1 = .ok (.ifCond .ne 24, 3) := by decide +kernel
theorem dX10_needLegal_4 : decode cX10_needLegal 4 = .ok (.aload_n 0, 1) := by decide +kernel
theorem dX10_needLegal_5 : decode cX10_needLegal 5 = .ok (.dup, 1) := by decide +kernel
theorem dX10_needLegal_6 : decode cX10_needLegal 6 = .ok (.getfield 395, 3) := by decide +kernel
theorem dX10_needLegal_9 : decode cX10_needLegal 9 = .ok (.iconst 1, 1) := by decide +kernel
theorem dX10_needLegal_10 : decode cX10_needLegal 10 = .ok (.iadd, 1) := by decide +kernel
theorem dX10_needLegal_11 : decode cX10_needLegal 11 = .ok (.putfield 395, 3) := by decide +kernel
theorem dX10_needLegal_14 : decode cX10_needLegal 14 = .ok (.new 405, 3) := by decide +kernel
theorem dX10_needLegal_17 : decode cX10_needLegal 17 = .ok (.dup, 1) := by decide +kernel
theorem dX10_needLegal_18 : decode cX10_needLegal 18 = .ok (.ldc_w 407, 3) := by decide +kernel
theorem dX10_needLegal_21 : decode cX10_needLegal 21 = .ok (.invokespecial 409, 3) := by decide +kernel
theorem dX10_needLegal_24 : decode cX10_needLegal 24 = .ok (.athrow, 1) := by decide +kernel
theorem dX10_needLegal_25 : decode cX10_needLegal 25 = .ok (.return_, 1) := by decide +kernel
theorem dX10_ordersWon_0 : decode cX10_ordersWon 0 = .ok (.iload 4, 2) := by decide +kernel
theorem dX10_ordersWon_2 : decode cX10_ordersWon 2 = .ok (.ifCond .ne 14, 3) := by decide +kernel
theorem dX10_ordersWon_5 : decode cX10_ordersWon 5 = .ok (.iload_n 2, 1) := by decide +kernel
theorem dX10_ordersWon_6 : decode cX10_ordersWon 6 = .ok (.iload_n 1, 1) := by decide +kernel
theorem dX10_ordersWon_7 : decode cX10_ordersWon 7 = .ok (.if_icmp .ne 7, 3) := by decide +kernel
theorem dX10_ordersWon_10 : decode cX10_ordersWon 10 = .ok (.iconst 1, 1) := by decide +kernel
theorem dX10_ordersWon_11 : decode cX10_ordersWon 11 = .ok (.goto 4, 3) := by decide +kernel
theorem dX10_ordersWon_14 : decode cX10_ordersWon 14 = .ok (.iconst 0, 1) := by decide +kernel
theorem dX10_ordersWon_15 : decode cX10_ordersWon 15 = .ok (.ireturn, 1) := by decide +kernel
theorem dX10_ordersWon_16 : decode cX10_ordersWon 16 = .ok (.iconst 0, 1) := by decide +kernel
theorem dX10_ordersWon_17 : decode cX10_ordersWon 17 = .ok (.istore 5, 2) := by decide +kernel
theorem dX10_ordersWon_19 : decode cX10_ordersWon 19 = .ok (.iconst 0, 1) := by decide +kernel
theorem dX10_ordersWon_20 : decode cX10_ordersWon 20 = .ok (.istore 6, 2) := by decide +kernel
theorem dX10_ordersWon_22 : decode cX10_ordersWon 22 = .ok (.iload 6, 2) := by decide +kernel
theorem dX10_ordersWon_24 : decode cX10_ordersWon 24 = .ok (.bipush 6, 2) := by decide +kernel
theorem dX10_ordersWon_26 : decode cX10_ordersWon 26 = .ok (.if_icmp .ge 93, 3) := by decide +kernel
theorem dX10_ordersWon_29 : decode cX10_ordersWon 29 = .ok (.iload 4, 2) := by decide +kernel
theorem dX10_ordersWon_31 : decode cX10_ordersWon 31 = .ok (.iload 6, 2) := by decide +kernel
theorem dX10_ordersWon_33 : decode cX10_ordersWon 33 = .ok (.invokestatic 332, 3) := by decide +kernel
theorem dX10_ordersWon_36 : decode cX10_ordersWon 36 = .ok (.ifCond .eq 77, 3) := by decide +kernel
theorem dX10_ordersWon_39 : decode cX10_ordersWon 39 = .ok (.aload_n 0, 1) := by decide +kernel
theorem dX10_ordersWon_40 : decode cX10_ordersWon 40 = .ok (.iload 6, 2) := by decide +kernel
theorem dX10_ordersWon_42 : decode cX10_ordersWon 42 = .ok (.invokevirtual 236, 3) := by decide +kernel
theorem dX10_ordersWon_45 : decode cX10_ordersWon 45 = .ok (.istore 7, 2) := by decide +kernel
theorem dX10_ordersWon_47 : decode cX10_ordersWon 47 = .ok (.iload_n 3, 1) := by decide +kernel
theorem dX10_ordersWon_48 : decode cX10_ordersWon 48 = .ok (.iload 7, 2) := by decide +kernel
theorem dX10_ordersWon_50 : decode cX10_ordersWon 50 = .ok (.if_icmp .lt 7, 3) := by decide +kernel
theorem dX10_ordersWon_53 : decode cX10_ordersWon 53 = .ok (.iconst 1, 1) := by decide +kernel
theorem dX10_ordersWon_54 : decode cX10_ordersWon 54 = .ok (.goto 4, 3) := by decide +kernel
theorem dX10_ordersWon_57 : decode cX10_ordersWon 57 = .ok (.iconst 0, 1) := by decide +kernel
theorem dX10_ordersWon_58 : decode cX10_ordersWon 58 = .ok (.istore 8, 2) := by decide +kernel
theorem dX10_ordersWon_60 : decode cX10_ordersWon 60 = .ok (.iload 8, 2) := by decide +kernel
theorem dX10_ordersWon_62 : decode cX10_ordersWon 62 = .ok (.ifCond .eq 7, 3) := by decide +kernel
theorem dX10_ordersWon_65 : decode cX10_ordersWon 65 = .ok (.iload_n 2, 1) := by decide +kernel
theorem dX10_ordersWon_66 : decode cX10_ordersWon 66 = .ok (.goto 5, 3) := by decide +kernel
theorem dX10_ordersWon_69 : decode cX10_ordersWon 69 = .ok (.iload 6, 2) := by decide +kernel
theorem dX10_ordersWon_71 : decode cX10_ordersWon 71 = .ok (.istore 9, 2) := by decide +kernel
theorem dX10_ordersWon_73 : decode cX10_ordersWon 73 = .ok (.iconst 0, 1) := by decide +kernel
theorem dX10_ordersWon_74 : decode cX10_ordersWon 74 = .ok (.iload 8, 2) := by decide +kernel
theorem dX10_ordersWon_76 : decode cX10_ordersWon 76 = .ok (.ifCond .eq 7, 3) := by decide +kernel
theorem dX10_ordersWon_79 : decode cX10_ordersWon 79 = .ok (.iload_n 3, 1) := by decide +kernel
theorem dX10_ordersWon_80 : decode cX10_ordersWon 80 = .ok (.goto 5, 3) := by decide +kernel
theorem dX10_ordersWon_83 : decode cX10_ordersWon 83 = .ok (.iload 7, 2) := by decide +kernel
theorem dX10_ordersWon_85 : decode cX10_ordersWon 85 = .ok (.iconst 1, 1) := by decide +kernel
theorem dX10_ordersWon_86 : decode cX10_ordersWon 86 = .ok (.isub, 1) := by decide +kernel
theorem dX10_ordersWon_87 : decode cX10_ordersWon 87 = .ok (.invokestatic 389, 3) := by decide +kernel
theorem dX10_ordersWon_90 : decode cX10_ordersWon 90 = .ok (.istore 10, 2) := by decide +kernel
theorem dX10_ordersWon_92 : decode cX10_ordersWon 92 = .ok (.iload 5, 2) := by decide +kernel
theorem dX10_ordersWon_94 : decode cX10_ordersWon 94 = .ok (.aload_n 0, 1) := by decide +kernel
theorem dX10_ordersWon_95 : decode cX10_ordersWon 95 = .ok (.iload_n 1, 1) := by decide +kernel
theorem dX10_ordersWon_96 : decode cX10_ordersWon 96 = .ok (.iload 9, 2) := by decide +kernel
theorem dX10_ordersWon_98 : decode cX10_ordersWon 98 = .ok (.iload 10, 2) := by decide +kernel
theorem dX10_ordersWon_100 : decode cX10_ordersWon 100 = .ok (.iload 4, 2) := by decide +kernel
theorem dX10_ordersWon_102 : decode cX10_ordersWon 102 = .ok (.iconst 1, 1) := by decide +kernel
theorem dX10_ordersWon_103 : decode cX10_ordersWon 103 = .ok (.iload 6, 2) := by decide +kernel
theorem dX10_ordersWon_105 : decode cX10_ordersWon 105 = .ok (.ishl, 1) := by decide +kernel
theorem dX10_ordersWon_106 : decode cX10_ordersWon 106 = .ok (.ixor, 1) := by decide +kernel
theorem dX10_ordersWon_107 : decode cX10_ordersWon 107 = .ok (.invokestatic 335, 3) := by decide +kernel
theorem dX10_ordersWon_110 : decode cX10_ordersWon 110 = .ok (.iadd, 1) := by decide +kernel
theorem dX10_ordersWon_111 : decode cX10_ordersWon 111 = .ok (.istore 5, 2) := by decide +kernel
theorem dX10_ordersWon_113 : decode cX10_ordersWon 113 = .ok (.iinc 6 1, 3) := by decide +kernel
theorem dX10_ordersWon_116 : decode cX10_ordersWon 116 = .ok (.goto (-94), 3) := by decide +kernel
theorem dX10_ordersWon_119 : decode cX10_ordersWon 119 = .ok (.iload 5, 2) := by decide +kernel
theorem dX10_ordersWon_121 : decode cX10_ordersWon 121 = .ok (.ireturn, 1) := by decide +kernel
theorem dX10_gain_0 : decode cX10_gain 0 = .ok (.iload_n 2, 1) := by decide +kernel
theorem dX10_gain_1 : decode cX10_gain 1 = .ok (.iconst 1, 1) := by decide +kernel
theorem dX10_gain_2 : decode cX10_gain 2 = .ok (.if_icmp .ne 14, 3) := by decide +kernel
theorem dX10_gain_5 : decode cX10_gain 5 = .ok (.iload_n 3, 1) := by decide +kernel
theorem dX10_gain_6 : decode cX10_gain 6 = .ok (.iconst 1, 1) := by decide +kernel
theorem dX10_gain_7 : decode cX10_gain 7 = .ok (.if_icmp .ne 7, 3) := by decide +kernel
theorem dX10_gain_10 : decode cX10_gain 10 = .ok (.iload_n 0, 1) := by decide +kernel
theorem dX10_gain_11 : decode cX10_gain 11 = .ok (.goto 4, 3) := by decide +kernel
theorem dX10_gain_14 : decode cX10_gain 14 = .ok (.iconst 0, 1) := by decide +kernel
theorem dX10_gain_15 : decode cX10_gain 15 = .ok (.ireturn, 1) := by decide +kernel
theorem dX10_gain_16 : decode cX10_gain 16 = .ok (.iload_n 3, 1) := by decide +kernel
theorem dX10_gain_17 : decode cX10_gain 17 = .ok (.iconst 1, 1) := by decide +kernel
theorem dX10_gain_18 : decode cX10_gain 18 = .ok (.if_icmp .ne 9, 3) := by decide +kernel
theorem dX10_gain_21 : decode cX10_gain 21 = .ok (.iload_n 0, 1) := by decide +kernel
theorem dX10_gain_22 : decode cX10_gain 22 = .ok (.iload_n 1, 1) := by decide +kernel
theorem dX10_gain_23 : decode cX10_gain 23 = .ok (.iadd, 1) := by decide +kernel
theorem dX10_gain_24 : decode cX10_gain 24 = .ok (.goto 5, 3) := by decide +kernel
theorem dX10_gain_27 : decode cX10_gain 27 = .ok (.iload_n 1, 1) := by decide +kernel
theorem dX10_gain_28 : decode cX10_gain 28 = .ok (.ineg, 1) := by decide +kernel
theorem dX10_gain_29 : decode cX10_gain 29 = .ok (.ireturn, 1) := by decide +kernel
theorem dX10_choices_0 : decode cX10_choices 0 = .ok (.lconst 1, 1) := by decide +kernel
theorem dX10_choices_1 : decode cX10_choices 1 = .ok (.lstore_n 2, 1) := by decide +kernel
theorem dX10_choices_2 : decode cX10_choices 2 = .ok (.iconst 1, 1) := by decide +kernel
theorem dX10_choices_3 : decode cX10_choices 3 = .ok (.istore 4, 2) := by decide +kernel
theorem dX10_choices_5 : decode cX10_choices 5 = .ok (.iload 4, 2) := by decide +kernel
theorem dX10_choices_7 : decode cX10_choices 7 = .ok (.iload_n 1, 1) := by decide +kernel
theorem dX10_choices_8 : decode cX10_choices 8 = .ok (.if_icmp .gt 23, 3) := by decide +kernel
theorem dX10_choices_11 : decode cX10_choices 11 = .ok (.lload_n 2, 1) := by decide +kernel
theorem dX10_choices_12 : decode cX10_choices 12 = .ok (.iload_n 0, 1) := by decide +kernel
theorem dX10_choices_13 : decode cX10_choices 13 = .ok (.iload 4, 2) := by decide +kernel
theorem dX10_choices_15 : decode cX10_choices 15 = .ok (.isub, 1) := by decide +kernel
theorem dX10_choices_16 : decode cX10_choices 16 = .ok (.iconst 1, 1) := by decide +kernel
theorem dX10_choices_17 : decode cX10_choices 17 = .ok (.iadd, 1) := by decide +kernel
theorem dX10_choices_18 : decode cX10_choices 18 = .ok (.i2l, 1) := by decide +kernel
theorem dX10_choices_19 : decode cX10_choices 19 = .ok (.lmul, 1) := by decide +kernel
theorem dX10_choices_20 : decode cX10_choices 20 = .ok (.iload 4, 2) := by decide +kernel
theorem dX10_choices_22 : decode cX10_choices 22 = .ok (.i2l, 1) := by decide +kernel
theorem dX10_choices_23 : decode cX10_choices 23 = .ok (.ldiv, 1) := by decide +kernel
theorem dX10_choices_24 : decode cX10_choices 24 = .ok (.lstore_n 2, 1) := by decide +kernel
theorem dX10_choices_25 : decode cX10_choices 25 = .ok (.iinc 4 1, 3) := by decide +kernel
theorem dX10_choices_28 : decode cX10_choices 28 = .ok (.goto (-23), 3) := by decide +kernel
theorem dX10_choices_31 : decode cX10_choices 31 = .ok (.lload_n 2, 1) := by decide +kernel
theorem dX10_choices_32 : decode cX10_choices 32 = .ok (.lreturn, 1) := by decide +kernel
theorem dX10_power_0 : decode cX10_power 0 = .ok (.lconst 1, 1) := by decide +kernel
theorem dX10_power_1 : decode cX10_power 1 = .ok (.lstore_n 2, 1) := by decide +kernel
theorem dX10_power_2 : decode cX10_power 2 = .ok (.iconst 0, 1) := by decide +kernel
theorem dX10_power_3 : decode cX10_power 3 = .ok (.istore 4, 2) := by decide +kernel
theorem dX10_power_5 : decode cX10_power 5 = .ok (.iload 4, 2) := by decide +kernel
theorem dX10_power_7 : decode cX10_power 7 = .ok (.iload_n 1, 1) := by decide +kernel
theorem dX10_power_8 : decode cX10_power 8 = .ok (.if_icmp .ge 14, 3) := by decide +kernel
theorem dX10_power_11 : decode cX10_power 11 = .ok (.lload_n 2, 1) := by decide +kernel
theorem dX10_power_12 : decode cX10_power 12 = .ok (.iload_n 0, 1) := by decide +kernel
theorem dX10_power_13 : decode cX10_power 13 = .ok (.i2l, 1) := by decide +kernel
theorem dX10_power_14 : decode cX10_power 14 = .ok (.lmul, 1) := by decide +kernel
theorem dX10_power_15 : decode cX10_power 15 = .ok (.lstore_n 2, 1) := by decide +kernel
theorem dX10_power_16 : decode cX10_power 16 = .ok (.iinc 4 1, 3) := by decide +kernel
theorem dX10_power_19 : decode cX10_power 19 = .ok (.goto (-14), 3) := by decide +kernel
theorem dX10_power_22 : decode cX10_power 22 = .ok (.lload_n 2, 1) := by decide +kernel
theorem dX10_power_23 : decode cX10_power 23 = .ok (.lreturn, 1) := by decide +kernel
theorem dX10_within_0 : decode cX10_within 0 = .ok (.iload_n 0, 1) := by decide +kernel
theorem dX10_within_1 : decode cX10_within 1 = .ok (.iload_n 1, 1) := by decide +kernel
theorem dX10_within_2 : decode cX10_within 2 = .ok (.if_icmp .lt 12, 3) := by decide +kernel
theorem dX10_within_5 : decode cX10_within 5 = .ok (.iload_n 0, 1) := by decide +kernel
theorem dX10_within_6 : decode cX10_within 6 = .ok (.iload_n 2, 1) := by decide +kernel
theorem dX10_within_7 : decode cX10_within 7 = .ok (.if_icmp .gt 7, 3) := by decide +kernel
theorem dX10_within_10 : decode cX10_within 10 = .ok (.iconst 1, 1) := by decide +kernel
theorem dX10_within_11 : decode cX10_within 11 = .ok (.goto 4, 3) := by decide +kernel
theorem dX10_within_14 : decode cX10_within 14 = .ok (.iconst 0, 1) := by decide +kernel
theorem dX10_within_15 : decode cX10_within 15 = .ok (.ireturn, 1) := by decide +kernel
theorem dX10_holds_0 : decode cX10_holds 0 = .ok (.iload_n 0, 1) := by decide +kernel
theorem dX10_holds_1 : decode cX10_holds 1 = .ok (.iload_n 1, 1) := by decide +kernel
theorem dX10_holds_2 : decode cX10_holds 2 = .ok (.ishr, 1) := by decide +kernel
theorem dX10_holds_3 : decode cX10_holds 3 = .ok (.iconst 1, 1) := by decide +kernel
theorem dX10_holds_4 : decode cX10_holds 4 = .ok (.iand, 1) := by decide +kernel
theorem dX10_holds_5 : decode cX10_holds 5 = .ok (.iconst 1, 1) := by decide +kernel
theorem dX10_holds_6 : decode cX10_holds 6 = .ok (.if_icmp .ne 7, 3) := by decide +kernel
theorem dX10_holds_9 : decode cX10_holds 9 = .ok (.iconst 1, 1) := by decide +kernel
theorem dX10_holds_10 : decode cX10_holds 10 = .ok (.goto 4, 3) := by decide +kernel
theorem dX10_holds_13 : decode cX10_holds 13 = .ok (.iconst 0, 1) := by decide +kernel
theorem dX10_holds_14 : decode cX10_holds 14 = .ok (.ireturn, 1) := by decide +kernel
theorem dX11_thrown_0 : decode cX11_thrown 0 = .ok (.aload_n 0, 1) := by decide +kernel
theorem dX11_thrown_1 : decode cX11_thrown 1 = .ok (.getfield 3, 3) := by decide +kernel
theorem dX11_thrown_4 : decode cX11_thrown 4 = .ok (.ireturn, 1) := by decide +kernel
theorem dX11_may_0 : decode cX11_may 0 = .ok (.iload_n 1, 1) := by decide +kernel
theorem dX11_may_1 : decode cX11_may 1 = .ok (.ifCond .ne 25, 3) := by decide +kernel
theorem dX11_may_4 : decode cX11_may 4 = .ok (.aload_n 0, 1) := by decide +kernel
theorem dX11_may_5 : decode cX11_may 5 = .ok (.getfield 3, 3) := by decide +kernel
theorem dX11_may_8 : decode cX11_may 8 = .ok (.ifCond .ne 18, 3) := by decide +kernel
theorem dX11_may_11 : decode cX11_may 11 = .ok (.aload_n 0, 1) := by decide +kernel
theorem dX11_may_12 : decode cX11_may 12 = .ok (.iload_n 2, 1) := by decide +kernel
theorem dX11_may_13 : decode cX11_may 13 = .ok (.putfield 3, 3) := by decide +kernel
theorem dX11_may_16 : decode cX11_may 16 = .ok (.aload_n 0, 1) := by decide +kernel
theorem dX11_may_17 : decode cX11_may 17 = .ok (.getfield 7, 3) := by decide +kernel
theorem dX11_may_20 : decode cX11_may 20 = .ok (.iload_n 3, 1) := by decide +kernel
theorem dX11_may_21 : decode cX11_may 21 = .ok (.dup2, 1) := by decide +kernel
theorem dX11_may_22 : decode cX11_may 22 = .ok (.iaload, 1) := by decide +kernel
theorem dX11_may_23 : decode cX11_may 23 = .ok (.iconst 1, 1) := by decide +kernel
theorem dX11_may_24 : decode cX11_may 24 = .ok (.iadd, 1) := by decide +kernel
theorem dX11_may_25 : decode cX11_may 25 = .ok (.iastore, 1) := by decide +kernel
theorem dX11_may_26 : decode cX11_may 26 = .ok (.aload_n 0, 1) := by decide +kernel
theorem dX11_may_27 : decode cX11_may 27 = .ok (.getfield 3, 3) := by decide +kernel
theorem dX11_may_30 : decode cX11_may 30 = .ok (.ifCond .ne 7, 3) := by decide +kernel
theorem dX11_may_33 : decode cX11_may 33 = .ok (.iconst 1, 1) := by decide +kernel
theorem dX11_may_34 : decode cX11_may 34 = .ok (.goto 4, 3) := by decide +kernel
theorem dX11_may_37 : decode cX11_may 37 = .ok (.iconst 0, 1) := by decide +kernel
theorem dX11_may_38 : decode cX11_may 38 = .ok (.ireturn, 1) := by decide +kernel
theorem dX11_within_0 : decode cX11_within 0 = .ok (.iload_n 0, 1) := by decide +kernel
theorem dX11_within_1 : decode cX11_within 1 = .ok (.iload_n 1, 1) := by decide +kernel
theorem dX11_within_2 : decode cX11_within 2 = .ok (.if_icmp .lt 12, 3) := by decide +kernel
theorem dX11_within_5 : decode cX11_within 5 = .ok (.iload_n 0, 1) := by decide +kernel
theorem dX11_within_6 : decode cX11_within 6 = .ok (.iload_n 2, 1) := by decide +kernel
theorem dX11_within_7 : decode cX11_within 7 = .ok (.if_icmp .gt 7, 3) := by decide +kernel
theorem dX11_within_10 : decode cX11_within 10 = .ok (.iconst 1, 1) := by decide +kernel
theorem dX11_within_11 : decode cX11_within 11 = .ok (.goto 4, 3) := by decide +kernel
theorem dX11_within_14 : decode cX11_within 14 = .ok (.iconst 0, 1) := by decide +kernel
theorem dX11_within_15 : decode cX11_within 15 = .ok (.ireturn, 1) := by decide +kernel
theorem dX11_init_0 : decode cX11_init 0 = .ok (.aload_n 0, 1) := by decide +kernel
theorem dX11_init_1 : decode cX11_init 1 = .ok (.invokespecial 11, 3) := by decide +kernel
theorem dX11_init_4 : decode cX11_init 4 = .ok (.aload_n 0, 1) := by decide +kernel
theorem dX11_init_5 : decode cX11_init 5 = .ok (.iconst 2, 1) := by decide +kernel
theorem dX11_init_6 : decode cX11_init 6 = .ok (.newarray .int, 2) := by decide +kernel
theorem dX11_init_8 : decode cX11_init 8 = .ok (.putfield 7, 3) := by decide +kernel
theorem dX11_init_11 : decode cX11_init 11 = .ok (.aload_n 0, 1) := by decide +kernel
theorem dX11_init_12 : decode cX11_init 12 = .ok (.iconst (-1), 1) := by decide +kernel
theorem dX11_init_13 : decode cX11_init 13 = .ok (.putfield 17, 3) := by decide +kernel
theorem dX11_init_16 : decode cX11_init 16 = .ok (.aload_n 0, 1) := by decide +kernel
theorem dX11_init_17 : decode cX11_init 17 = .ok (.sipush 600, 3) := by decide +kernel
theorem dX11_init_20 : decode cX11_init 20 = .ok (.newarray .int, 2) := by decide +kernel
theorem dX11_init_22 : decode cX11_init 22 = .ok (.putfield 20, 3) := by decide +kernel
theorem dX11_init_25 : decode cX11_init 25 = .ok (.aload_n 0, 1) := by decide +kernel
theorem dX11_init_26 : decode cX11_init 26 = .ok (.bipush 16, 2) := by decide +kernel
theorem dX11_init_28 : decode cX11_init 28 = .ok (.newarray .int, 2) := by decide +kernel
theorem dX11_init_30 : decode cX11_init 30 = .ok (.putfield 23, 3) := by decide +kernel
theorem dX11_init_33 : decode cX11_init 33 = .ok (.aload_n 0, 1) := by decide +kernel
theorem dX11_init_34 : decode cX11_init 34 = .ok (.bipush 12, 2) := by decide +kernel
theorem dX11_init_36 : decode cX11_init 36 = .ok (.newarray .int, 2) := by decide +kernel
theorem dX11_init_38 : decode cX11_init 38 = .ok (.putfield 26, 3) := by decide +kernel
theorem dX11_init_41 : decode cX11_init 41 = .ok (.aload_n 0, 1) := by decide +kernel
theorem dX11_init_42 : decode cX11_init 42 = .ok (.bipush 8, 2) := by decide +kernel
theorem dX11_init_44 : decode cX11_init 44 = .ok (.newarray .int, 2) := by decide +kernel
theorem dX11_init_46 : decode cX11_init 46 = .ok (.putfield 29, 3) := by decide +kernel
theorem dX11_init_49 : decode cX11_init 49 = .ok (.aload_n 0, 1) := by decide +kernel
theorem dX11_init_50 : decode cX11_init 50 = .ok (.bipush 36, 2) := by decide +kernel
theorem dX11_init_52 : decode cX11_init 52 = .ok (.newarray .int, 2) := by decide +kernel
theorem dX11_init_54 : decode cX11_init 54 = .ok (.putfield 32, 3) := by decide +kernel
theorem dX11_init_57 : decode cX11_init 57 = .ok (.aload_n 0, 1) := by decide +kernel
theorem dX11_init_58 : decode cX11_init 58 = .ok (.bipush 16, 2) := by decide +kernel
theorem dX11_init_60 : decode cX11_init 60 = .ok (.newarray .int, 2) := by decide +kernel
theorem dX11_init_62 : decode cX11_init 62 = .ok (.putfield 35, 3) := by decide +kernel
theorem dX11_init_65 : decode cX11_init 65 = .ok (.aload_n 0, 1) := by decide +kernel
theorem dX11_init_66 : decode cX11_init 66 = .ok (.bipush 12, 2) := by decide +kernel
theorem dX11_init_68 : decode cX11_init 68 = .ok (.newarray .int, 2) := by decide +kernel
theorem dX11_init_70 : decode cX11_init 70 = .ok (.putfield 38, 3) := by decide +kernel
theorem dX11_init_73 : decode cX11_init 73 = .ok (.aload_n 0, 1) := by decide +kernel
theorem dX11_init_74 : decode cX11_init 74 = .ok (.bipush 8, 2) := by decide +kernel
theorem dX11_init_76 : decode cX11_init 76 = .ok (.newarray .int, 2) := by decide +kernel
theorem dX11_init_78 : decode cX11_init 78 = .ok (.putfield 41, 3) := by decide +kernel
theorem dX11_init_81 : decode cX11_init 81 = .ok (.aload_n 0, 1) := by decide +kernel
theorem dX11_init_82 : decode cX11_init 82 = .ok (.sipush 150, 3) := by decide +kernel
theorem dX11_init_85 : decode cX11_init 85 = .ok (.newarray .int, 2) := by decide +kernel
theorem dX11_init_87 : decode cX11_init 87 = .ok (.putfield 44, 3) := by decide +kernel
theorem dX11_init_90 : decode cX11_init 90 = .ok (.aload_n 0, 1) := by decide +kernel
theorem dX11_init_91 : decode cX11_init 91 = .ok (.sipush 150, 3) := by decide +kernel
theorem dX11_init_94 : decode cX11_init 94 = .ok (.newarray .int, 2) := by decide +kernel
theorem dX11_init_96 : decode cX11_init 96 = .ok (.putfield 47, 3) := by decide +kernel
theorem dX11_init_99 : decode cX11_init 99 = .ok (.aload_n 0, 1) := by decide +kernel
theorem dX11_init_100 : decode cX11_init 100 = .ok (.sipush 150, 3) := by decide +kernel
theorem dX11_init_103 : decode cX11_init 103 = .ok (.newarray .int, 2) := by decide +kernel
theorem dX11_init_105 : decode cX11_init 105 = .ok (.putfield 50, 3) := by decide +kernel
theorem dX11_init_108 : decode cX11_init 108 = .ok (.aload_n 0, 1) := by decide +kernel
theorem dX11_init_109 : decode cX11_init 109 = .ok (.sipush 150, 3) := by decide +kernel
theorem dX11_init_112 : decode cX11_init 112 = .ok (.newarray .int, 2) := by decide +kernel
theorem dX11_init_114 : decode cX11_init 114 = .ok (.putfield 53, 3) := by decide +kernel
theorem dX11_init_117 : decode cX11_init 117 = .ok (.aload_n 0, 1) := by decide +kernel
theorem dX11_init_118 : decode cX11_init 118 = .ok (.sipush 150, 3) := by decide +kernel
theorem dX11_init_121 : decode cX11_init 121 = .ok (.newarray .int, 2) := by decide +kernel
theorem dX11_init_123 : decode cX11_init 123 = .ok (.putfield 56, 3) := by decide +kernel
theorem dX11_init_126 : decode cX11_init 126 = .ok (.aload_n 0, 1) := by decide +kernel
theorem dX11_init_127 : decode cX11_init 127 = .ok (.bipush 8, 2) := by decide +kernel
theorem dX11_init_129 : decode cX11_init 129 = .ok (.newarray .int, 2) := by decide +kernel
theorem dX11_init_131 : decode cX11_init 131 = .ok (.putfield 59, 3) := by decide +kernel
theorem dX11_init_134 : decode cX11_init 134 = .ok (.aload_n 0, 1) := by decide +kernel
theorem dX11_init_135 : decode cX11_init 135 = .ok (.sipush 200, 3) := by decide +kernel
theorem dX11_init_138 : decode cX11_init 138 = .ok (.newarray .int, 2) := by decide +kernel
theorem dX11_init_140 : decode cX11_init 140 = .ok (.putfield 62, 3) := by decide +kernel
theorem dX11_init_143 : decode cX11_init 143 = .ok (.aload_n 0, 1) := by decide +kernel
theorem dX11_init_144 : decode cX11_init 144 = .ok (.sipush 200, 3) := by decide +kernel
theorem dX11_init_147 : decode cX11_init 147 = .ok (.newarray .int, 2) := by decide +kernel
theorem dX11_init_149 : decode cX11_init 149 = .ok (.putfield 65, 3) := by decide +kernel
theorem dX11_init_152 : decode cX11_init 152 = .ok (.aload_n 0, 1) := by decide +kernel
theorem dX11_init_153 : decode cX11_init 153 = .ok (.bipush 68, 2) := by decide +kernel
theorem dX11_init_155 : decode cX11_init 155 = .ok (.newarray .int, 2) := by decide +kernel
theorem dX11_init_157 : decode cX11_init 157 = .ok (.putfield 68, 3) := by decide +kernel
theorem dX11_init_160 : decode cX11_init 160 = .ok (.aload_n 0, 1) := by decide +kernel
theorem dX11_init_161 : decode cX11_init 161 = .ok (.bipush 68, 2) := by decide +kernel
theorem dX11_init_163 : decode cX11_init 163 = .ok (.newarray .int, 2) := by decide +kernel
theorem dX11_init_165 : decode cX11_init 165 = .ok (.putfield 71, 3) := by decide +kernel
theorem dX11_init_168 : decode cX11_init 168 = .ok (.aload_n 0, 1) := by decide +kernel
theorem dX11_init_169 : decode cX11_init 169 = .ok (.sipush 1088, 3) := by decide +kernel
theorem dX11_init_172 : decode cX11_init 172 = .ok (.newarray .int, 2) := by decide +kernel
theorem dX11_init_174 : decode cX11_init 174 = .ok (.putfield 74, 3) := by decide +kernel
theorem dX11_init_177 : decode cX11_init 177 = .ok (.aload_n 0, 1) := by decide +kernel
theorem dX11_init_178 : decode cX11_init 178 = .ok (.bipush 8, 2) := by decide +kernel
theorem dX11_init_180 : decode cX11_init 180 = .ok (.newarray .int, 2) := by decide +kernel
theorem dX11_init_182 : decode cX11_init 182 = .ok (.putfield 77, 3) := by decide +kernel
theorem dX11_init_185 : decode cX11_init 185 = .ok (.aload_n 0, 1) := by decide +kernel
theorem dX11_init_186 : decode cX11_init 186 = .ok (.bipush 8, 2) := by decide +kernel
theorem dX11_init_188 : decode cX11_init 188 = .ok (.newarray .int, 2) := by decide +kernel
theorem dX11_init_190 : decode cX11_init 190 = .ok (.putfield 80, 3) := by decide +kernel
theorem dX11_init_193 : decode cX11_init 193 = .ok (.aload_n 0, 1) := by decide +kernel
theorem dX11_init_194 : decode cX11_init 194 = .ok (.sipush 1792, 3) := by decide +kernel
theorem dX11_init_197 : decode cX11_init 197 = .ok (.newarray .int, 2) := by decide +kernel
theorem dX11_init_199 : decode cX11_init 199 = .ok (.putfield 83, 3) := by decide +kernel
theorem dX11_init_202 : decode cX11_init 202 = .ok (.aload_n 0, 1) := by decide +kernel
theorem dX11_init_203 : decode cX11_init 203 = .ok (.bipush 6, 2) := by decide +kernel
theorem dX11_init_205 : decode cX11_init 205 = .ok (.newarray .int, 2) := by decide +kernel
theorem dX11_init_207 : decode cX11_init 207 = .ok (.putfield 86, 3) := by decide +kernel
theorem dX11_init_210 : decode cX11_init 210 = .ok (.aload_n 0, 1) := by decide +kernel
theorem dX11_init_211 : decode cX11_init 211 = .ok (.bipush 6, 2) := by decide +kernel
theorem dX11_init_213 : decode cX11_init 213 = .ok (.newarray .int, 2) := by decide +kernel
theorem dX11_init_215 : decode cX11_init 215 = .ok (.putfield 89, 3) := by decide +kernel
theorem dX11_init_218 : decode cX11_init 218 = .ok (.aload_n 0, 1) := by decide +kernel
theorem dX11_init_219 : decode cX11_init 219 = .ok (.sipush 2048, 3) := by decide +kernel
theorem dX11_init_222 : decode cX11_init 222 = .ok (.newarray .int, 2) := by decide +kernel
theorem dX11_init_224 : decode cX11_init 224 = .ok (.putfield 92, 3) := by decide +kernel
theorem dX11_init_227 : decode cX11_init 227 = .ok (.aload_n 0, 1) := by decide +kernel
theorem dX11_init_228 : decode cX11_init 228 = .ok (.bipush 7, 2) := by decide +kernel
theorem dX11_init_230 : decode cX11_init 230 = .ok (.newarray .int, 2) := by decide +kernel
theorem dX11_init_232 : decode cX11_init 232 = .ok (.putfield 95, 3) := by decide +kernel
theorem dX11_init_235 : decode cX11_init 235 = .ok (.aload_n 0, 1) := by decide +kernel
theorem dX11_init_236 : decode cX11_init 236 = .ok (.bipush 14, 2) := by decide +kernel
theorem dX11_init_238 : decode cX11_init 238 = .ok (.newarray .long, 2) := by decide +kernel
theorem dX11_init_240 : decode cX11_init 240 = .ok (.putfield 98, 3) := by decide +kernel
theorem dX11_init_243 : decode cX11_init 243 = .ok (.aload_n 0, 1) := by decide +kernel
theorem dX11_init_244 : decode cX11_init 244 = .ok (.sipush 3471, 3) := by decide +kernel
theorem dX11_init_247 : decode cX11_init 247 = .ok (.newarray .int, 2) := by decide +kernel
theorem dX11_init_249 : decode cX11_init 249 = .ok (.putfield 102, 3) := by decide +kernel
theorem dX11_init_252 : decode cX11_init 252 = .ok (.aload_n 0, 1) := by decide +kernel
theorem dX11_init_253 : decode cX11_init 253 = .ok (.invokevirtual 105, 3) := by decide +kernel
theorem dX11_init_256 : decode cX11_init 256 = .ok (.aload_n 0, 1) := by decide +kernel
theorem dX11_init_257 : decode cX11_init 257 = .ok (.invokevirtual 108, 3) := by decide +kernel
theorem dX11_init_260 : decode cX11_init 260 = .ok (.return_, 1) := by decide +kernel
theorem dX11_feed_0 : decode cX11_feed 0 = .ok (.aload_n 0, 1) := by decide +kernel
theorem dX11_feed_1 : decode cX11_feed 1 = .ok (.iconst 0, 1) := by decide +kernel
theorem dX11_feed_2 : decode cX11_feed 2 = .ok (.putfield 3, 3) := by decide +kernel
theorem dX11_feed_5 : decode cX11_feed 5 = .ok (.aload_n 0, 1) := by decide +kernel
theorem dX11_feed_6 : decode cX11_feed 6 = .ok (.getfield 111, 3) := by decide +kernel
theorem dX11_feed_9 : decode cX11_feed 9 = .ok (.bipush 20, 2) := by decide +kernel
theorem dX11_feed_11 : decode cX11_feed 11 = .ok (.iadd, 1) := by decide +kernel
theorem dX11_feed_12 : decode cX11_feed 12 = .ok (.sipush 600, 3) := by decide +kernel
theorem dX11_feed_15 : decode cX11_feed 15 = .ok (.if_icmp .le 5, 3) := by decide +kernel
theorem dX11_feed_18 : decode cX11_feed 18 = .ok (.iconst (-1), 1) := by decide +kernel
theorem dX11_feed_19 : decode cX11_feed 19 = .ok (.ireturn, 1) := by decide +kernel
theorem dX11_feed_20 : decode cX11_feed 20 = .ok (.iconst 0, 1) := by decide +kernel
theorem dX11_feed_21 : decode cX11_feed 21 = .ok (.istore 6, 2) := by decide +kernel
theorem dX11_feed_23 : decode cX11_feed 23 = .ok (.iload 6, 2) := by decide +kernel
theorem dX11_feed_25 : decode cX11_feed 25 = .ok (.bipush 20, 2) := by decide +kernel
theorem dX11_feed_27 : decode cX11_feed 27 = .ok (.if_icmp .ge 93, 3) := by decide +kernel
theorem dX11_feed_30 : decode cX11_feed 30 = .ok (.iload 6, 2) := by decide +kernel
theorem dX11_feed_32 : decode cX11_feed 32 = .ok (.iconst 4, 1) := by decide +kernel
theorem dX11_feed_33 : decode cX11_feed 33 = .ok (.if_icmp .ge 7, 3) := by decide +kernel
theorem dX11_feed_36 : decode cX11_feed 36 = .ok (.iload_n 1, 1) := by decide +kernel
theorem dX11_feed_37 : decode cX11_feed 37 = .ok (.goto 39, 3) := by decide +kernel
theorem dX11_feed_40 : decode cX11_feed 40 = .ok (.iload 6, 2) := by decide +kernel
theorem dX11_feed_42 : decode cX11_feed 42 = .ok (.bipush 8, 2) := by decide +kernel
theorem dX11_feed_44 : decode cX11_feed 44 = .ok (.if_icmp .ge 7, 3) := by decide +kernel
theorem dX11_feed_47 : decode cX11_feed 47 = .ok (.iload_n 2, 1) := by decide +kernel
theorem dX11_feed_48 : decode cX11_feed 48 = .ok (.goto 28, 3) := by decide +kernel
theorem dX11_feed_51 : decode cX11_feed 51 = .ok (.iload 6, 2) := by decide +kernel
theorem dX11_feed_53 : decode cX11_feed 53 = .ok (.bipush 12, 2) := by decide +kernel
theorem dX11_feed_55 : decode cX11_feed 55 = .ok (.if_icmp .ge 7, 3) := by decide +kernel
theorem dX11_feed_58 : decode cX11_feed 58 = .ok (.iload_n 3, 1) := by decide +kernel
theorem dX11_feed_59 : decode cX11_feed 59 = .ok (.goto 17, 3) := by decide +kernel
theorem dX11_feed_62 : decode cX11_feed 62 = .ok (.iload 6, 2) := by decide +kernel
theorem dX11_feed_64 : decode cX11_feed 64 = .ok (.bipush 16, 2) := by decide +kernel
theorem dX11_feed_66 : decode cX11_feed 66 = .ok (.if_icmp .ge 8, 3) := by decide +kernel
theorem dX11_feed_69 : decode cX11_feed 69 = .ok (.iload 4, 2) := by decide +kernel
theorem dX11_feed_71 : decode cX11_feed 71 = .ok (.goto 5, 3) := by decide +kernel
theorem dX11_feed_74 : decode cX11_feed 74 = .ok (.iload 5, 2) := by decide +kernel
theorem dX11_feed_76 : decode cX11_feed 76 = .ok (.istore 7, 2) := by decide +kernel
theorem dX11_feed_78 : decode cX11_feed 78 = .ok (.aload_n 0, 1) := by decide +kernel
theorem dX11_feed_79 : decode cX11_feed 79 = .ok (.getfield 20, 3) := by decide +kernel
theorem dX11_feed_82 : decode cX11_feed 82 = .ok (.aload_n 0, 1) := by decide +kernel
theorem dX11_feed_83 : decode cX11_feed 83 = .ok (.getfield 111, 3) := by decide +kernel
theorem dX11_feed_86 : decode cX11_feed 86 = .ok (.iload 7, 2) := by decide +kernel
theorem dX11_feed_88 : decode cX11_feed 88 = .ok (.bipush 24, 2) := by decide +kernel
theorem dX11_feed_90 : decode cX11_feed 90 = .ok (.bipush 8, 2) := by decide +kernel
theorem dX11_feed_92 : decode cX11_feed 92 = .ok (.iload 6, 2) := by decide +kernel
theorem dX11_feed_94 : decode cX11_feed 94 = .ok (.iconst 4, 1) := by decide +kernel
theorem dX11_feed_95 : decode cX11_feed 95 = .ok (.irem, 1) := by decide +kernel
theorem dX11_feed_96 : decode cX11_feed 96 = .ok (.imul, 1) := by decide +kernel
theorem dX11_feed_97 : decode cX11_feed 97 = .ok (.isub, 1) := by decide +kernel
theorem dX11_feed_98 : decode cX11_feed 98 = .ok (.ishr, 1) := by decide +kernel
theorem dX11_feed_99 : decode cX11_feed 99 = .ok (.sipush 255, 3) := by decide +kernel
theorem dX11_feed_102 : decode cX11_feed 102 = .ok (.iand, 1) := by decide +kernel
theorem dX11_feed_103 : decode cX11_feed 103 = .ok (.iastore, 1) := by decide +kernel
theorem dX11_feed_104 : decode cX11_feed 104 = .ok (.aload_n 0, 1) := by decide +kernel
theorem dX11_feed_105 : decode cX11_feed 105 = .ok (.dup, 1) := by decide +kernel
theorem dX11_feed_106 : decode cX11_feed 106 = .ok (.getfield 111, 3) := by decide +kernel
theorem dX11_feed_109 : decode cX11_feed 109 = .ok (.iconst 1, 1) := by decide +kernel
theorem dX11_feed_110 : decode cX11_feed 110 = .ok (.iadd, 1) := by decide +kernel
theorem dX11_feed_111 : decode cX11_feed 111 = .ok (.putfield 111, 3) := by decide +kernel
theorem dX11_feed_114 : decode cX11_feed 114 = .ok (.iinc 6 1, 3) := by decide +kernel
theorem dX11_feed_117 : decode cX11_feed 117 = .ok (.goto (-94), 3) := by decide +kernel
theorem dX11_feed_120 : decode cX11_feed 120 = .ok (.aload_n 0, 1) := by decide +kernel
theorem dX11_feed_121 : decode cX11_feed 121 = .ok (.getfield 111, 3) := by decide +kernel
theorem dX11_feed_124 : decode cX11_feed 124 = .ok (.ireturn, 1) := by decide +kernel
theorem dX11_fine_0 : decode cX11_fine 0 = .ok (.aload_n 0, 1) := by decide +kernel
theorem dX11_fine_1 : decode cX11_fine 1 = .ok (.getfield 114, 3) := by decide +kernel
theorem dX11_fine_4 : decode cX11_fine 4 = .ok (.iconst (-1), 1) := by decide +kernel
theorem dX11_fine_5 : decode cX11_fine 5 = .ok (.if_icmp .ne 7, 3) := by decide +kernel
theorem dX11_fine_8 : decode cX11_fine 8 = .ok (.iconst 1, 1) := by decide +kernel
theorem dX11_fine_9 : decode cX11_fine 9 = .ok (.goto 4, 3) := by decide +kernel
theorem dX11_fine_12 : decode cX11_fine 12 = .ok (.iconst 0, 1) := by decide +kernel
theorem dX11_fine_13 : decode cX11_fine 13 = .ok (.ireturn, 1) := by decide +kernel
theorem dX11_wrong_0 : decode cX11_wrong 0 = .ok (.aload_n 0, 1) := by decide +kernel
theorem dX11_wrong_1 : decode cX11_wrong 1 = .ok (.getfield 114, 3) := by decide +kernel
theorem dX11_wrong_4 : decode cX11_wrong 4 = .ok (.iconst (-1), 1) := by decide +kernel
theorem dX11_wrong_5 : decode cX11_wrong 5 = .ok (.if_icmp .eq 4, 3) := by decide +kernel
theorem dX11_wrong_8 : decode cX11_wrong 8 = .ok (.return_, 1) := by decide +kernel
theorem dX11_wrong_9 : decode cX11_wrong 9 = .ok (.aload_n 0, 1) := by decide +kernel
theorem dX11_wrong_10 : decode cX11_wrong 10 = .ok (.iload_n 2, 1) := by decide +kernel
theorem dX11_wrong_11 : decode cX11_wrong 11 = .ok (.putfield 114, 3) := by decide +kernel
theorem dX11_wrong_14 : decode cX11_wrong 14 = .ok (.aload_n 0, 1) := by decide +kernel
theorem dX11_wrong_15 : decode cX11_wrong 15 = .ok (.iload_n 1, 1) := by decide +kernel
theorem dX11_wrong_16 : decode cX11_wrong 16 = .ok (.putfield 117, 3) := by decide +kernel
theorem dX11_wrong_19 : decode cX11_wrong 19 = .ok (.return_, 1) := by decide +kernel
theorem dX11_here_0 : decode cX11_here 0 = .ok (.aload_n 0, 1) := by decide +kernel
theorem dX11_here_1 : decode cX11_here 1 = .ok (.getfield 120, 3) := by decide +kernel
theorem dX11_here_4 : decode cX11_here 4 = .ok (.aload_n 0, 1) := by decide +kernel
theorem dX11_here_5 : decode cX11_here 5 = .ok (.getfield 123, 3) := by decide +kernel
theorem dX11_here_8 : decode cX11_here 8 = .ok (.if_icmp .ge 30, 3) := by decide +kernel
theorem dX11_here_11 : decode cX11_here 11 = .ok (.aload_n 0, 1) := by decide +kernel
theorem dX11_here_12 : decode cX11_here 12 = .ok (.getfield 20, 3) := by decide +kernel
theorem dX11_here_15 : decode cX11_here 15 = .ok (.aload_n 0, 1) := by decide +kernel
theorem dX11_here_16 : decode cX11_here 16 = .ok (.getfield 120, 3) := by decide +kernel
theorem dX11_here_19 : decode cX11_here 19 = .ok (.iaload, 1) := by decide +kernel
theorem dX11_here_20 : decode cX11_here 20 = .ok (.bipush 32, 2) := by decide +kernel
theorem dX11_here_22 : decode cX11_here 22 = .ok (.if_icmp .ne 16, 3) := by decide +kernel
theorem dX11_here_25 : decode cX11_here 25 = .ok (.aload_n 0, 1) := by decide +kernel
theorem dX11_here_26 : decode cX11_here 26 = .ok (.dup, 1) := by decide +kernel
theorem dX11_here_27 : decode cX11_here 27 = .ok (.getfield 120, 3) := by decide +kernel
theorem dX11_here_30 : decode cX11_here 30 = .ok (.iconst 1, 1) := by decide +kernel
theorem dX11_here_31 : decode cX11_here 31 = .ok (.iadd, 1) := by decide +kernel
theorem dX11_here_32 : decode cX11_here 32 = .ok (.putfield 120, 3) := by decide +kernel
theorem dX11_here_35 : decode cX11_here 35 = .ok (.goto (-35), 3) := by decide +kernel
theorem dX11_here_38 : decode cX11_here 38 = .ok (.aload_n 0, 1) := by decide +kernel
theorem dX11_here_39 : decode cX11_here 39 = .ok (.getfield 120, 3) := by decide +kernel
theorem dX11_here_42 : decode cX11_here 42 = .ok (.aload_n 0, 1) := by decide +kernel
theorem dX11_here_43 : decode cX11_here 43 = .ok (.getfield 123, 3) := by decide +kernel
theorem dX11_here_46 : decode cX11_here 46 = .ok (.if_icmp .ge 15, 3) := by decide +kernel
theorem dX11_here_49 : decode cX11_here 49 = .ok (.aload_n 0, 1) := by decide +kernel
theorem dX11_here_50 : decode cX11_here 50 = .ok (.getfield 20, 3) := by decide +kernel
theorem dX11_here_53 : decode cX11_here 53 = .ok (.aload_n 0, 1) := by decide +kernel
theorem dX11_here_54 : decode cX11_here 54 = .ok (.getfield 120, 3) := by decide +kernel
theorem dX11_here_57 : decode cX11_here 57 = .ok (.iaload, 1) := by decide +kernel
theorem dX11_here_58 : decode cX11_here 58 = .ok (.goto 4, 3) := by decide +kernel
theorem dX11_here_61 : decode cX11_here 61 = .ok (.iconst 0, 1) := by decide +kernel
theorem dX11_here_62 : decode cX11_here 62 = .ok (.ireturn, 1) := by decide +kernel
theorem dX11_isSmall_0 : decode cX11_isSmall 0 = .ok (.iload_n 0, 1) := by decide +kernel
theorem dX11_isSmall_1 : decode cX11_isSmall 1 = .ok (.bipush 97, 2) := by decide +kernel
theorem dX11_isSmall_3 : decode cX11_isSmall 3 = .ok (.if_icmp .lt 13, 3) := by decide +kernel
theorem dX11_isSmall_6 : decode cX11_isSmall 6 = .ok (.iload_n 0, 1) := by decide +kernel
theorem dX11_isSmall_7 : decode cX11_isSmall 7 = .ok (.bipush 122, 2) := by decide +kernel
theorem dX11_isSmall_9 : decode cX11_isSmall 9 = .ok (.if_icmp .gt 7, 3) := by decide +kernel
theorem dX11_isSmall_12 : decode cX11_isSmall 12 = .ok (.iconst 1, 1) := by decide +kernel
theorem dX11_isSmall_13 : decode cX11_isSmall 13 = .ok (.goto 4, 3) := by decide +kernel
theorem dX11_isSmall_16 : decode cX11_isSmall 16 = .ok (.iconst 0, 1) := by decide +kernel
theorem dX11_isSmall_17 : decode cX11_isSmall 17 = .ok (.ireturn, 1) := by decide +kernel
theorem dX11_isDigit_0 : decode cX11_isDigit 0 = .ok (.iload_n 0, 1) := by decide +kernel
theorem dX11_isDigit_1 : decode cX11_isDigit 1 = .ok (.bipush 48, 2) := by decide +kernel
theorem dX11_isDigit_3 : decode cX11_isDigit 3 = .ok (.if_icmp .lt 13, 3) := by decide +kernel
theorem dX11_isDigit_6 : decode cX11_isDigit 6 = .ok (.iload_n 0, 1) := by decide +kernel
theorem dX11_isDigit_7 : decode cX11_isDigit 7 = .ok (.bipush 57, 2) := by decide +kernel
theorem dX11_isDigit_9 : decode cX11_isDigit 9 = .ok (.if_icmp .gt 7, 3) := by decide +kernel
theorem dX11_isDigit_12 : decode cX11_isDigit 12 = .ok (.iconst 1, 1) := by decide +kernel
theorem dX11_isDigit_13 : decode cX11_isDigit 13 = .ok (.goto 4, 3) := by decide +kernel
theorem dX11_isDigit_16 : decode cX11_isDigit 16 = .ok (.iconst 0, 1) := by decide +kernel
theorem dX11_isDigit_17 : decode cX11_isDigit 17 = .ok (.ireturn, 1) := by decide +kernel
theorem dX11_word_0 : decode cX11_word 0 = .ok (.aload_n 0, 1) := by decide +kernel
theorem dX11_word_1 : decode cX11_word 1 = .ok (.invokevirtual 126, 3) := by decide +kernel
theorem dX11_word_4 : decode cX11_word 4 = .ok (.pop, 1) := by decide +kernel
theorem dX11_word_5 : decode cX11_word 5 = .ok (.iconst 0, 1) := by decide +kernel
theorem dX11_word_6 : decode cX11_word 6 = .ok (.istore_n 1, 1) := by decide +kernel
theorem dX11_word_7 : decode cX11_word 7 = .ok (.iconst 0, 1) := by decide +kernel
theorem dX11_word_8 : decode cX11_word 8 = .ok (.istore_n 2, 1) := by decide +kernel
theorem dX11_word_9 : decode cX11_word 9 = .ok (.aload_n 0, 1) := by decide +kernel
theorem dX11_word_10 : decode cX11_word 10 = .ok (.getfield 120, 3) := by decide +kernel
theorem dX11_word_13 : decode cX11_word 13 = .ok (.istore_n 3, 1) := by decide +kernel
theorem dX11_word_14 : decode cX11_word 14 = .ok (.iload_n 3, 1) := by decide +kernel
theorem dX11_word_15 : decode cX11_word 15 = .ok (.aload_n 0, 1) := by decide +kernel
theorem dX11_word_16 : decode cX11_word 16 = .ok (.getfield 123, 3) := by decide +kernel
theorem dX11_word_19 : decode cX11_word 19 = .ok (.if_icmp .ge 48, 3) := by decide +kernel
theorem dX11_word_22 : decode cX11_word 22 = .ok (.aload_n 0, 1) := by decide +kernel
theorem dX11_word_23 : decode cX11_word 23 = .ok (.getfield 20, 3) := by decide +kernel
theorem dX11_word_26 : decode cX11_word 26 = .ok (.iload_n 3, 1) := by decide +kernel
theorem dX11_word_27 : decode cX11_word 27 = .ok (.iaload, 1) := by decide +kernel
theorem dX11_word_28 : decode cX11_word 28 = .ok (.invokestatic 130, 3) := by decide +kernel
theorem dX11_word_31 : decode cX11_word 31 = .ok (.ifCond .eq 36, 3) := by decide +kernel
theorem dX11_word_34 : decode cX11_word 34 = .ok (.iload_n 2, 1) := by decide +kernel
theorem dX11_word_35 : decode cX11_word 35 = .ok (.bipush 6, 2) := by decide +kernel
theorem dX11_word_37 : decode cX11_word 37 = .ok (.if_icmp .ge 19, 3) := by decide +kernel
theorem dX11_word_40 : decode cX11_word 40 = .ok (.iload_n 1, 1) := by decide +kernel
theorem dX11_word_41 : decode cX11_word 41 = .ok (.iconst 5, 1) := by decide +kernel
theorem dX11_word_42 : decode cX11_word 42 = .ok (.ishl, 1) := by decide +kernel
theorem dX11_word_43 : decode cX11_word 43 = .ok (.aload_n 0, 1) := by decide +kernel
theorem dX11_word_44 : decode cX11_word 44 = .ok (.getfield 20, 3) := by decide +kernel
theorem dX11_word_47 : decode cX11_word 47 = .ok (.iload_n 3, 1) := by decide +kernel
theorem dX11_word_48 : decode cX11_word 48 = .ok (.iaload, 1) := by decide +kernel
theorem dX11_word_49 : decode cX11_word 49 = .ok (.bipush 96, 2) := by decide +kernel
theorem dX11_word_51 : decode cX11_word 51 = .ok (.isub, 1) := by decide +kernel
theorem dX11_word_52 : decode cX11_word 52 = .ok (.ior, 1) := by decide +kernel
theorem dX11_word_53 : decode cX11_word 53 = .ok (.goto 4, 3) := by decide +kernel
theorem dX11_word_56 : decode cX11_word 56 = .ok (.iconst 0, 1) := by decide +kernel
theorem dX11_word_57 : decode cX11_word 57 = .ok (.istore_n 1, 1) := by decide +kernel
theorem dX11_word_58 : decode cX11_word 58 = .ok (.iinc 2 1, 3) := by decide +kernel
theorem dX11_word_61 : decode cX11_word 61 = .ok (.iinc 3 1, 3) := by decide +kernel
theorem dX11_word_64 : decode cX11_word 64 = .ok (.goto (-50), 3) := by decide +kernel
theorem dX11_word_67 : decode cX11_word 67 = .ok (.iload_n 2, 1) := by decide +kernel
theorem dX11_word_68 : decode cX11_word 68 = .ok (.bipush 6, 2) := by decide +kernel
theorem dX11_word_70 : decode cX11_word 70 = .ok (.if_icmp .le 7, 3) := by decide +kernel
theorem dX11_word_73 : decode cX11_word 73 = .ok (.iconst 0, 1) := by decide +kernel
theorem dX11_word_74 : decode cX11_word 74 = .ok (.goto 4, 3) := by decide +kernel
theorem dX11_word_77 : decode cX11_word 77 = .ok (.iload_n 1, 1) := by decide +kernel
theorem dX11_word_78 : decode cX11_word 78 = .ok (.ireturn, 1) := by decide +kernel
theorem dX11_of_0 : decode cX11_of 0 = .ok (.iconst 0, 1) := by decide +kernel
theorem dX11_of_1 : decode cX11_of 1 = .ok (.istore_n 1, 1) := by decide +kernel
theorem dX11_of_2 : decode cX11_of 2 = .ok (.iconst 0, 1) := by decide +kernel
theorem dX11_of_3 : decode cX11_of 3 = .ok (.istore_n 2, 1) := by decide +kernel
theorem dX11_of_4 : decode cX11_of 4 = .ok (.iload_n 2, 1) := by decide +kernel
theorem dX11_of_5 : decode cX11_of 5 = .ok (.aload_n 0, 1) := by decide +kernel
theorem dX11_of_6 : decode cX11_of 6 = .ok (.invokevirtual 134, 3) := by decide +kernel
theorem dX11_of_9 : decode cX11_of 9 = .ok (.if_icmp .ge 22, 3) := by decide +kernel
theorem dX11_of_12 : decode cX11_of 12 = .ok (.iload_n 1, 1) := by decide +kernel
theorem dX11_of_13 : decode cX11_of 13 = .ok (.iconst 5, 1) := by decide +kernel
theorem dX11_of_14 : decode cX11_of 14 = .ok (.ishl, 1) := by decide +kernel
theorem dX11_of_15 : decode cX11_of 15 = .ok (.aload_n 0, 1) := by decide +kernel
theorem dX11_of_16 : decode cX11_of 16 = .ok (.iload_n 2, 1) := by decide +kernel
theorem dX11_of_17 : decode cX11_of 17 = .ok (.invokevirtual 139, 3) := by decide +kernel
theorem dX11_of_20 : decode cX11_of 20 = .ok (.bipush 96, 2) := by decide +kernel
theorem dX11_of_22 : decode cX11_of 22 = .ok (.isub, 1) := by decide +kernel
theorem dX11_of_23 : decode cX11_of 23 = .ok (.ior, 1) := by decide +kernel
theorem dX11_of_24 : decode cX11_of 24 = .ok (.istore_n 1, 1) := by decide +kernel
theorem dX11_of_25 : decode cX11_of 25 = .ok (.iinc 2 1, 3) := by decide +kernel
theorem dX11_of_28 : decode cX11_of 28 = .ok (.goto (-24), 3) := by decide +kernel
theorem dX11_of_31 : decode cX11_of 31 = .ok (.iload_n 1, 1) := by decide +kernel
theorem dX11_of_32 : decode cX11_of 32 = .ok (.ireturn, 1) := by decide +kernel
theorem dX11_pass_0 : decode cX11_pass 0 = .ok (.aload_n 0, 1) := by decide +kernel
theorem dX11_pass_1 : decode cX11_pass 1 = .ok (.getfield 120, 3) := by decide +kernel
theorem dX11_pass_4 : decode cX11_pass 4 = .ok (.aload_n 0, 1) := by decide +kernel
theorem dX11_pass_5 : decode cX11_pass 5 = .ok (.getfield 123, 3) := by decide +kernel
theorem dX11_pass_8 : decode cX11_pass 8 = .ok (.if_icmp .ge 31, 3) := by decide +kernel
theorem dX11_pass_11 : decode cX11_pass 11 = .ok (.aload_n 0, 1) := by decide +kernel
theorem dX11_pass_12 : decode cX11_pass 12 = .ok (.getfield 20, 3) := by decide +kernel
theorem dX11_pass_15 : decode cX11_pass 15 = .ok (.aload_n 0, 1) := by decide +kernel
theorem dX11_pass_16 : decode cX11_pass 16 = .ok (.getfield 120, 3) := by decide +kernel
theorem dX11_pass_19 : decode cX11_pass 19 = .ok (.iaload, 1) := by decide +kernel
theorem dX11_pass_20 : decode cX11_pass 20 = .ok (.invokestatic 130, 3) := by decide +kernel
theorem dX11_pass_23 : decode cX11_pass 23 = .ok (.ifCond .eq 16, 3) := by decide +kernel
theorem dX11_pass_26 : decode cX11_pass 26 = .ok (.aload_n 0, 1) := by decide +kernel
theorem dX11_pass_27 : decode cX11_pass 27 = .ok (.dup, 1) := by decide +kernel
theorem dX11_pass_28 : decode cX11_pass 28 = .ok (.getfield 120, 3) := by decide +kernel
theorem dX11_pass_31 : decode cX11_pass 31 = .ok (.iconst 1, 1) := by decide +kernel
theorem dX11_pass_32 : decode cX11_pass 32 = .ok (.iadd, 1) := by decide +kernel
theorem dX11_pass_33 : decode cX11_pass 33 = .ok (.putfield 120, 3) := by decide +kernel
theorem dX11_pass_36 : decode cX11_pass 36 = .ok (.goto (-36), 3) := by decide +kernel
theorem dX11_pass_39 : decode cX11_pass 39 = .ok (.return_, 1) := by decide +kernel
theorem dX11_readNumber_0 : decode cX11_readNumber 0 = .ok (.aload_n 0, 1) := by decide +kernel
theorem dX11_readNumber_1 : decode cX11_readNumber 1 = .ok (.invokevirtual 143, 3) := by decide +kernel
theorem dX11_readNumber_4 : decode cX11_readNumber 4 = .ok (.ifCond .ne 5, 3) := by decide +kernel
theorem dX11_readNumber_7 : decode cX11_readNumber 7 = .ok (.iconst 0, 1) := by decide +kernel
theorem dX11_readNumber_8 : decode cX11_readNumber 8 = .ok (.ireturn, 1) := by decide +kernel
theorem dX11_readNumber_9 : decode cX11_readNumber 9 = .ok (.aload_n 0, 1) := by decide +kernel
theorem dX11_readNumber_10 : decode cX11_readNumber 10 = .ok (.invokevirtual 126, 3) := by decide +kernel
theorem dX11_readNumber_13 : decode cX11_readNumber 13 = .ok (.istore_n 3, 1) := by decide +kernel
theorem dX11_readNumber_14 : decode cX11_readNumber 14 = .ok (.aload_n 0, 1) := by decide +kernel
theorem dX11_readNumber_15 : decode cX11_readNumber 15 = .ok (.getfield 120, 3) := by decide +kernel
theorem dX11_readNumber_18 : decode cX11_readNumber 18 = .ok (.istore 4, 2) := by decide +kernel
theorem dX11_readNumber_20 : decode cX11_readNumber 20 = .ok (.iconst 0, 1) := by decide +kernel
theorem dX11_readNumber_21 : decode cX11_readNumber 21 = .ok (.istore 5, 2) := by decide +kernel
theorem dX11_readNumber_23 : decode cX11_readNumber 23 = .ok (.iload_n 3, 1) := by decide +kernel
theorem dX11_readNumber_24 : decode cX11_readNumber 24 = .ok (.invokestatic 147, 3) := by decide +kernel
theorem dX11_readNumber_27 : decode cX11_readNumber 27 = .ok (.ifCond .ne 14, 3) := by decide +kernel
theorem dX11_readNumber_30 : decode cX11_readNumber 30 = .ok (.aload_n 0, 1) := by decide +kernel
theorem dX11_readNumber_31 : decode cX11_readNumber 31 = .ok (.iconst 1, 1) := by decide +kernel
theorem dX11_readNumber_32 : decode cX11_readNumber 32 = .ok (.aload_n 0, 1) := by decide +kernel
theorem dX11_readNumber_33 : decode cX11_readNumber 33 = .ok (.getfield 120, 3) := by decide +kernel
theorem dX11_readNumber_36 : decode cX11_readNumber 36 = .ok (.invokevirtual 150, 3) := by decide +kernel
theorem dX11_readNumber_39 : decode cX11_readNumber 39 = .ok (.iconst 0, 1) := by decide +kernel
theorem dX11_readNumber_40 : decode cX11_readNumber 40 = .ok (.ireturn, 1) := by decide +kernel
theorem dX11_readNumber_41 : decode cX11_readNumber 41 = .ok (.aload_n 0, 1) := by decide +kernel
theorem dX11_readNumber_42 : decode cX11_readNumber 42 = .ok (.getfield 120, 3) := by decide +kernel
theorem dX11_readNumber_45 : decode cX11_readNumber 45 = .ok (.aload_n 0, 1) := by decide +kernel
theorem dX11_readNumber_46 : decode cX11_readNumber 46 = .ok (.getfield 123, 3) := by decide +kernel
theorem dX11_readNumber_49 : decode cX11_readNumber 49 = .ok (.if_icmp .ge 65, 3) := by decide +kernel
theorem dX11_readNumber_52 : decode cX11_readNumber 52 = .ok (.aload_n 0, 1) := by decide +kernel
theorem dX11_readNumber_53 : decode cX11_readNumber 53 = .ok (.getfield 20, 3) := by decide +kernel
theorem dX11_readNumber_56 : decode cX11_readNumber 56 = .ok (.aload_n 0, 1) := by decide +kernel
theorem dX11_readNumber_57 : decode cX11_readNumber 57 = .ok (.getfield 120, 3) := by decide +kernel
theorem dX11_readNumber_60 : decode cX11_readNumber 60 = .ok (.iaload, 1) := by decide +kernel
theorem dX11_readNumber_61 : decode cX11_readNumber 61 = .ok (.invokestatic 147, 3) := by decide +kernel
theorem dX11_readNumber_64 : decode cX11_readNumber 64 = .ok (.ifCond .eq 50, 3) := by decide +kernel
theorem dX11_readNumber_67 : decode cX11_readNumber 67 = .ok (.iload 5, 2) := by decide +kernel
theorem dX11_readNumber_69 : decode cX11_readNumber 69 = .ok (.sipush 9999, 3) := by decide +kernel
theorem dX11_readNumber_72 : decode cX11_readNumber 72 = .ok (.if_icmp .le 9, 3) := by decide +kernel
theorem dX11_readNumber_75 : decode cX11_readNumber 75 = .ok (.sipush 10000, 3) := by decide +kernel
theorem dX11_readNumber_78 : decode cX11_readNumber 78 = .ok (.goto 21, 3) := by decide +kernel
theorem dX11_readNumber_81 : decode cX11_readNumber 81 = .ok (.bipush 10, 2) := by decide +kernel
theorem dX11_readNumber_83 : decode cX11_readNumber 83 = .ok (.iload 5, 2) := by decide +kernel
theorem dX11_readNumber_85 : decode cX11_readNumber 85 = .ok (.imul, 1) := by decide +kernel
theorem dX11_readNumber_86 : decode cX11_readNumber 86 = .ok (.aload_n 0, 1) := by decide +kernel
theorem dX11_readNumber_87 : decode cX11_readNumber 87 = .ok (.getfield 20, 3) := by decide +kernel
theorem dX11_readNumber_90 : decode cX11_readNumber 90 = .ok (.aload_n 0, 1) := by decide +kernel
theorem dX11_readNumber_91 : decode cX11_readNumber 91 = .ok (.getfield 120, 3) := by decide +kernel
theorem dX11_readNumber_94 : decode cX11_readNumber 94 = .ok (.iaload, 1) := by decide +kernel
theorem dX11_readNumber_95 : decode cX11_readNumber 95 = .ok (.iadd, 1) := by decide +kernel
theorem dX11_readNumber_96 : decode cX11_readNumber 96 = .ok (.bipush 48, 2) := by decide +kernel
theorem dX11_readNumber_98 : decode cX11_readNumber 98 = .ok (.isub, 1) := by decide +kernel
theorem dX11_readNumber_99 : decode cX11_readNumber 99 = .ok (.istore 5, 2) := by decide +kernel
theorem dX11_readNumber_101 : decode cX11_readNumber 101 = .ok (.aload_n 0, 1) := by decide +kernel
theorem dX11_readNumber_102 : decode cX11_readNumber 102 = .ok (.dup, 1) := by decide +kernel
theorem dX11_readNumber_103 : decode cX11_readNumber 103 = .ok (.getfield 120, 3) := by decide +kernel
theorem dX11_readNumber_106 : decode cX11_readNumber 106 = .ok (.iconst 1, 1) := by decide +kernel
theorem dX11_readNumber_107 : decode cX11_readNumber 107 = .ok (.iadd, 1) := by decide +kernel
theorem dX11_readNumber_108 : decode cX11_readNumber 108 = .ok (.putfield 120, 3) := by decide +kernel
theorem dX11_readNumber_111 : decode cX11_readNumber 111 = .ok (.goto (-70), 3) := by decide +kernel
theorem dX11_readNumber_114 : decode cX11_readNumber 114 = .ok (.iload 5, 2) := by decide +kernel
theorem dX11_readNumber_116 : decode cX11_readNumber 116 = .ok (.iload_n 1, 1) := by decide +kernel
theorem dX11_readNumber_117 : decode cX11_readNumber 117 = .ok (.if_icmp .lt 9, 3) := by decide +kernel
theorem dX11_readNumber_120 : decode cX11_readNumber 120 = .ok (.iload 5, 2) := by decide +kernel
theorem dX11_readNumber_122 : decode cX11_readNumber 122 = .ok (.iload_n 2, 1) := by decide +kernel
theorem dX11_readNumber_123 : decode cX11_readNumber 123 = .ok (.if_icmp .le 12, 3) := by decide +kernel
theorem dX11_readNumber_126 : decode cX11_readNumber 126 = .ok (.aload_n 0, 1) := by decide +kernel
theorem dX11_readNumber_127 : decode cX11_readNumber 127 = .ok (.iconst 2, 1) := by decide +kernel
theorem dX11_readNumber_128 : decode cX11_readNumber 128 = .ok (.iload 4, 2) := by decide +kernel
theorem dX11_readNumber_130 : decode cX11_readNumber 130 = .ok (.invokevirtual 150, 3) := by decide +kernel
theorem dX11_readNumber_133 : decode cX11_readNumber 133 = .ok (.iconst 0, 1) := by decide +kernel
theorem dX11_readNumber_134 : decode cX11_readNumber 134 = .ok (.ireturn, 1) := by decide +kernel
theorem dX11_readNumber_135 : decode cX11_readNumber 135 = .ok (.iload 5, 2) := by decide +kernel
theorem dX11_readNumber_137 : decode cX11_readNumber 137 = .ok (.ireturn, 1) := by decide +kernel
theorem dX11_sign_0 : decode cX11_sign 0 = .ok (.aload_n 0, 1) := by decide +kernel
theorem dX11_sign_1 : decode cX11_sign 1 = .ok (.invokevirtual 143, 3) := by decide +kernel
theorem dX11_sign_4 : decode cX11_sign 4 = .ok (.ifCond .eq 20, 3) := by decide +kernel
theorem dX11_sign_7 : decode cX11_sign 7 = .ok (.aload_n 0, 1) := by decide +kernel
theorem dX11_sign_8 : decode cX11_sign 8 = .ok (.invokevirtual 126, 3) := by decide +kernel
theorem dX11_sign_11 : decode cX11_sign 11 = .ok (.iload_n 1, 1) := by decide +kernel
theorem dX11_sign_12 : decode cX11_sign 12 = .ok (.if_icmp .eq 12, 3) := by decide +kernel
theorem dX11_sign_15 : decode cX11_sign 15 = .ok (.aload_n 0, 1) := by decide +kernel
theorem dX11_sign_16 : decode cX11_sign 16 = .ok (.iconst 1, 1) := by decide +kernel
theorem dX11_sign_17 : decode cX11_sign 17 = .ok (.aload_n 0, 1) := by decide +kernel
theorem dX11_sign_18 : decode cX11_sign 18 = .ok (.getfield 120, 3) := by decide +kernel
theorem dX11_sign_21 : decode cX11_sign 21 = .ok (.invokevirtual 150, 3) := by decide +kernel
theorem dX11_sign_24 : decode cX11_sign 24 = .ok (.aload_n 0, 1) := by decide +kernel
theorem dX11_sign_25 : decode cX11_sign 25 = .ok (.invokevirtual 143, 3) := by decide +kernel
theorem dX11_sign_28 : decode cX11_sign 28 = .ok (.ifCond .eq 13, 3) := by decide +kernel
theorem dX11_sign_31 : decode cX11_sign 31 = .ok (.aload_n 0, 1) := by decide +kernel
theorem dX11_sign_32 : decode cX11_sign 32 = .ok (.dup, 1) := by decide +kernel
theorem dX11_sign_33 : decode cX11_sign 33 = .ok (.getfield 120, 3) := by decide +kernel
theorem dX11_sign_36 : decode cX11_sign 36 = .ok (.iconst 1, 1) := by decide +kernel
theorem dX11_sign_37 : decode cX11_sign 37 = .ok (.iadd, 1) := by decide +kernel
theorem dX11_sign_38 : decode cX11_sign 38 = .ok (.putfield 120, 3) := by decide +kernel
theorem dX11_sign_41 : decode cX11_sign 41 = .ok (.return_, 1) := by decide +kernel
theorem dX11_isMore_0 : decode cX11_isMore 0 = .ok (.aload_n 0, 1) := by decide +kernel
theorem dX11_isMore_1 : decode cX11_isMore 1 = .ok (.invokevirtual 126, 3) := by decide +kernel
theorem dX11_isMore_4 : decode cX11_isMore 4 = .ok (.pop, 1) := by decide +kernel
theorem dX11_isMore_5 : decode cX11_isMore 5 = .ok (.aload_n 0, 1) := by decide +kernel
theorem dX11_isMore_6 : decode cX11_isMore 6 = .ok (.getfield 120, 3) := by decide +kernel
theorem dX11_isMore_9 : decode cX11_isMore 9 = .ok (.aload_n 0, 1) := by decide +kernel
theorem dX11_isMore_10 : decode cX11_isMore 10 = .ok (.getfield 123, 3) := by decide +kernel
theorem dX11_isMore_13 : decode cX11_isMore 13 = .ok (.if_icmp .ge 7, 3) := by decide +kernel
theorem dX11_isMore_16 : decode cX11_isMore 16 = .ok (.iconst 1, 1) := by decide +kernel
theorem dX11_isMore_17 : decode cX11_isMore 17 = .ok (.goto 4, 3) := by decide +kernel
theorem dX11_isMore_20 : decode cX11_isMore 20 = .ok (.iconst 0, 1) := by decide +kernel
theorem dX11_isMore_21 : decode cX11_isMore 21 = .ok (.ireturn, 1) := by decide +kernel
theorem dX11_begins_0 : decode cX11_begins 0 = .ok (.aload_n 0, 1) := by decide +kernel
theorem dX11_begins_1 : decode cX11_begins 1 = .ok (.iconst 0, 1) := by decide +kernel
theorem dX11_begins_2 : decode cX11_begins 2 = .ok (.putfield 111, 3) := by decide +kernel
theorem dX11_begins_5 : decode cX11_begins 5 = .ok (.aload_n 0, 1) := by decide +kernel
theorem dX11_begins_6 : decode cX11_begins 6 = .ok (.iconst (-1), 1) := by decide +kernel
theorem dX11_begins_7 : decode cX11_begins 7 = .ok (.putfield 17, 3) := by decide +kernel
theorem dX11_begins_10 : decode cX11_begins 10 = .ok (.aload_n 0, 1) := by decide +kernel
theorem dX11_begins_11 : decode cX11_begins 11 = .ok (.iload_n 1, 1) := by decide +kernel
theorem dX11_begins_12 : decode cX11_begins 12 = .ok (.putfield 123, 3) := by decide +kernel
theorem dX11_begins_15 : decode cX11_begins 15 = .ok (.aload_n 0, 1) := by decide +kernel
theorem dX11_begins_16 : decode cX11_begins 16 = .ok (.iconst 0, 1) := by decide +kernel
theorem dX11_begins_17 : decode cX11_begins 17 = .ok (.putfield 120, 3) := by decide +kernel
theorem dX11_begins_20 : decode cX11_begins 20 = .ok (.aload_n 0, 1) := by decide +kernel
theorem dX11_begins_21 : decode cX11_begins 21 = .ok (.iconst (-1), 1) := by decide +kernel
theorem dX11_begins_22 : decode cX11_begins 22 = .ok (.putfield 114, 3) := by decide +kernel
theorem dX11_begins_25 : decode cX11_begins 25 = .ok (.aload_n 0, 1) := by decide +kernel
theorem dX11_begins_26 : decode cX11_begins 26 = .ok (.iconst 0, 1) := by decide +kernel
theorem dX11_begins_27 : decode cX11_begins 27 = .ok (.putfield 154, 3) := by decide +kernel
theorem dX11_begins_30 : decode cX11_begins 30 = .ok (.return_, 1) := by decide +kernel
theorem dX11_result_0 : decode cX11_result 0 = .ok (.aload_n 0, 1) := by decide +kernel
theorem dX11_result_1 : decode cX11_result 1 = .ok (.aload_n 0, 1) := by decide +kernel
theorem dX11_result_2 : decode cX11_result 2 = .ok (.getfield 114, 3) := by decide +kernel
theorem dX11_result_5 : decode cX11_result 5 = .ok (.putfield 17, 3) := by decide +kernel
theorem dX11_result_8 : decode cX11_result 8 = .ok (.aload_n 0, 1) := by decide +kernel
theorem dX11_result_9 : decode cX11_result 9 = .ok (.invokevirtual 143, 3) := by decide +kernel
theorem dX11_result_12 : decode cX11_result 12 = .ok (.ifCond .eq 7, 3) := by decide +kernel
theorem dX11_result_15 : decode cX11_result 15 = .ok (.iload_n 1, 1) := by decide +kernel
theorem dX11_result_16 : decode cX11_result 16 = .ok (.goto 10, 3) := by decide +kernel
theorem dX11_result_19 : decode cX11_result 19 = .ok (.aload_n 0, 1) := by decide +kernel
theorem dX11_result_20 : decode cX11_result 20 = .ok (.getfield 117, 3) := by decide +kernel
theorem dX11_result_23 : decode cX11_result 23 = .ok (.bipush 10, 2) := by decide +kernel
theorem dX11_result_25 : decode cX11_result 25 = .ok (.isub, 1) := by decide +kernel
theorem dX11_result_26 : decode cX11_result 26 = .ok (.ireturn, 1) := by decide +kernel
theorem dX11_fault_0 : decode cX11_fault 0 = .ok (.aload_n 0, 1) := by decide +kernel
theorem dX11_fault_1 : decode cX11_fault 1 = .ok (.iconst 0, 1) := by decide +kernel
theorem dX11_fault_2 : decode cX11_fault 2 = .ok (.putfield 3, 3) := by decide +kernel
theorem dX11_fault_5 : decode cX11_fault 5 = .ok (.aload_n 0, 1) := by decide +kernel
theorem dX11_fault_6 : decode cX11_fault 6 = .ok (.getfield 17, 3) := by decide +kernel
theorem dX11_fault_9 : decode cX11_fault 9 = .ok (.ireturn, 1) := by decide +kernel
theorem dX11_copies_0 : decode cX11_copies 0 = .ok (.iconst 0, 1) := by decide +kernel
theorem dX11_copies_1 : decode cX11_copies 1 = .ok (.istore 4, 2) := by decide +kernel
theorem dX11_copies_3 : decode cX11_copies 3 = .ok (.iload 4, 2) := by decide +kernel
theorem dX11_copies_5 : decode cX11_copies 5 = .ok (.iload_n 3, 1) := by decide +kernel
theorem dX11_copies_6 : decode cX11_copies 6 = .ok (.if_icmp .ge 17, 3) := by decide +kernel
theorem dX11_copies_9 : decode cX11_copies 9 = .ok (.aload_n 2, 1) := by decide +kernel
theorem dX11_copies_10 : decode cX11_copies 10 = .ok (.iload 4, 2) := by decide +kernel
theorem dX11_copies_12 : decode cX11_copies 12 = .ok (.aload_n 1, 1) := by decide +kernel
theorem dX11_copies_13 : decode cX11_copies 13 = .ok (.iload 4, 2) := by decide +kernel
theorem dX11_copies_15 : decode cX11_copies 15 = .ok (.iaload, 1) := by decide +kernel
theorem dX11_copies_16 : decode cX11_copies 16 = .ok (.iastore, 1) := by decide +kernel
theorem dX11_copies_17 : decode cX11_copies 17 = .ok (.iinc 4 1, 3) := by decide +kernel
theorem dX11_copies_20 : decode cX11_copies 20 = .ok (.goto (-17), 3) := by decide +kernel
theorem dX11_copies_23 : decode cX11_copies 23 = .ok (.return_, 1) := by decide +kernel
theorem dX11_clears_0 : decode cX11_clears 0 = .ok (.aload_n 0, 1) := by decide +kernel
theorem dX11_clears_1 : decode cX11_clears 1 = .ok (.iconst 0, 1) := by decide +kernel
theorem dX11_clears_2 : decode cX11_clears 2 = .ok (.putfield 157, 3) := by decide +kernel
theorem dX11_clears_5 : decode cX11_clears 5 = .ok (.aload_n 0, 1) := by decide +kernel
theorem dX11_clears_6 : decode cX11_clears 6 = .ok (.iconst 0, 1) := by decide +kernel
theorem dX11_clears_7 : decode cX11_clears 7 = .ok (.putfield 160, 3) := by decide +kernel
theorem dX11_clears_10 : decode cX11_clears 10 = .ok (.aload_n 0, 1) := by decide +kernel
theorem dX11_clears_11 : decode cX11_clears 11 = .ok (.iconst 0, 1) := by decide +kernel
theorem dX11_clears_12 : decode cX11_clears 12 = .ok (.putfield 163, 3) := by decide +kernel
theorem dX11_clears_15 : decode cX11_clears 15 = .ok (.iconst 0, 1) := by decide +kernel
theorem dX11_clears_16 : decode cX11_clears 16 = .ok (.istore_n 1, 1) := by decide +kernel
theorem dX11_clears_17 : decode cX11_clears 17 = .ok (.iload_n 1, 1) := by decide +kernel
theorem dX11_clears_18 : decode cX11_clears 18 = .ok (.bipush 36, 2) := by decide +kernel
theorem dX11_clears_20 : decode cX11_clears 20 = .ok (.if_icmp .ge 16, 3) := by decide +kernel
theorem dX11_clears_23 : decode cX11_clears 23 = .ok (.aload_n 0, 1) := by decide +kernel
theorem dX11_clears_24 : decode cX11_clears 24 = .ok (.getfield 32, 3) := by decide +kernel
theorem dX11_clears_27 : decode cX11_clears 27 = .ok (.iload_n 1, 1) := by decide +kernel
theorem dX11_clears_28 : decode cX11_clears 28 = .ok (.iconst 0, 1) := by decide +kernel
theorem dX11_clears_29 : decode cX11_clears 29 = .ok (.iastore, 1) := by decide +kernel
theorem dX11_clears_30 : decode cX11_clears 30 = .ok (.iinc 1 1, 3) := by decide +kernel
theorem dX11_clears_33 : decode cX11_clears 33 = .ok (.goto (-16), 3) := by decide +kernel
theorem dX11_clears_36 : decode cX11_clears 36 = .ok (.return_, 1) := by decide +kernel
theorem dX11_sets_0 : decode cX11_sets 0 = .ok (.aload_n 0, 1) := by decide +kernel
theorem dX11_sets_1 : decode cX11_sets 1 = .ok (.aload_n 0, 1) := by decide +kernel
theorem dX11_sets_2 : decode cX11_sets 2 = .ok (.getfield 157, 3) := by decide +kernel
theorem dX11_sets_5 : decode cX11_sets 5 = .ok (.putfield 166, 3) := by decide +kernel
theorem dX11_sets_8 : decode cX11_sets 8 = .ok (.aload_n 0, 1) := by decide +kernel
theorem dX11_sets_9 : decode cX11_sets 9 = .ok (.aload_n 0, 1) := by decide +kernel
theorem dX11_sets_10 : decode cX11_sets 10 = .ok (.getfield 160, 3) := by decide +kernel
theorem dX11_sets_13 : decode cX11_sets 13 = .ok (.putfield 169, 3) := by decide +kernel
theorem dX11_sets_16 : decode cX11_sets 16 = .ok (.aload_n 0, 1) := by decide +kernel
theorem dX11_sets_17 : decode cX11_sets 17 = .ok (.aload_n 0, 1) := by decide +kernel
theorem dX11_sets_18 : decode cX11_sets 18 = .ok (.getfield 163, 3) := by decide +kernel
theorem dX11_sets_21 : decode cX11_sets 21 = .ok (.putfield 172, 3) := by decide +kernel
theorem dX11_sets_24 : decode cX11_sets 24 = .ok (.aload_n 0, 1) := by decide +kernel
theorem dX11_sets_25 : decode cX11_sets 25 = .ok (.aload_n 0, 1) := by decide +kernel
theorem dX11_sets_26 : decode cX11_sets 26 = .ok (.getfield 23, 3) := by decide +kernel
theorem dX11_sets_29 : decode cX11_sets 29 = .ok (.aload_n 0, 1) := by decide +kernel
theorem dX11_sets_30 : decode cX11_sets 30 = .ok (.getfield 35, 3) := by decide +kernel
theorem dX11_sets_33 : decode cX11_sets 33 = .ok (.bipush 16, 2) := by decide +kernel
theorem dX11_sets_35 : decode cX11_sets 35 = .ok (.invokevirtual 175, 3) := by decide +kernel
theorem dX11_sets_38 : decode cX11_sets 38 = .ok (.aload_n 0, 1) := by decide +kernel
theorem dX11_sets_39 : decode cX11_sets 39 = .ok (.aload_n 0, 1) := by decide +kernel
theorem dX11_sets_40 : decode cX11_sets 40 = .ok (.getfield 26, 3) := by decide +kernel
theorem dX11_sets_43 : decode cX11_sets 43 = .ok (.aload_n 0, 1) := by decide +kernel
theorem dX11_sets_44 : decode cX11_sets 44 = .ok (.getfield 38, 3) := by decide +kernel
theorem dX11_sets_47 : decode cX11_sets 47 = .ok (.bipush 12, 2) := by decide +kernel
theorem dX11_sets_49 : decode cX11_sets 49 = .ok (.invokevirtual 175, 3) := by decide +kernel
theorem dX11_sets_52 : decode cX11_sets 52 = .ok (.aload_n 0, 1) := by decide +kernel
theorem dX11_sets_53 : decode cX11_sets 53 = .ok (.aload_n 0, 1) := by decide +kernel
theorem dX11_sets_54 : decode cX11_sets 54 = .ok (.getfield 29, 3) := by decide +kernel
theorem dX11_sets_57 : decode cX11_sets 57 = .ok (.aload_n 0, 1) := by decide +kernel
theorem dX11_sets_58 : decode cX11_sets 58 = .ok (.getfield 41, 3) := by decide +kernel
theorem dX11_sets_61 : decode cX11_sets 61 = .ok (.bipush 8, 2) := by decide +kernel
theorem dX11_sets_63 : decode cX11_sets 63 = .ok (.invokevirtual 175, 3) := by decide +kernel
theorem dX11_sets_66 : decode cX11_sets 66 = .ok (.aload_n 0, 1) := by decide +kernel
theorem dX11_sets_67 : decode cX11_sets 67 = .ok (.iconst 0, 1) := by decide +kernel
theorem dX11_sets_68 : decode cX11_sets 68 = .ok (.putfield 179, 3) := by decide +kernel
theorem dX11_sets_71 : decode cX11_sets 71 = .ok (.aload_n 0, 1) := by decide +kernel
theorem dX11_sets_72 : decode cX11_sets 72 = .ok (.iconst 0, 1) := by decide +kernel
theorem dX11_sets_73 : decode cX11_sets 73 = .ok (.putfield 182, 3) := by decide +kernel
theorem dX11_sets_76 : decode cX11_sets 76 = .ok (.aload_n 0, 1) := by decide +kernel
theorem dX11_sets_77 : decode cX11_sets 77 = .ok (.iconst 0, 1) := by decide +kernel
theorem dX11_sets_78 : decode cX11_sets 78 = .ok (.putfield 185, 3) := by decide +kernel
theorem dX11_sets_81 : decode cX11_sets 81 = .ok (.aload_n 0, 1) := by decide +kernel
theorem dX11_sets_82 : decode cX11_sets 82 = .ok (.iconst 0, 1) := by decide +kernel
theorem dX11_sets_83 : decode cX11_sets 83 = .ok (.putfield 188, 3) := by decide +kernel
theorem dX11_sets_86 : decode cX11_sets 86 = .ok (.aload_n 0, 1) := by decide +kernel
theorem dX11_sets_87 : decode cX11_sets 87 = .ok (.iconst 0, 1) := by decide +kernel
theorem dX11_sets_88 : decode cX11_sets 88 = .ok (.putfield 191, 3) := by decide +kernel
theorem dX11_sets_91 : decode cX11_sets 91 = .ok (.iconst 0, 1) := by decide +kernel
theorem dX11_sets_92 : decode cX11_sets 92 = .ok (.istore_n 1, 1) := by decide +kernel
theorem dX11_sets_93 : decode cX11_sets 93 = .ok (.iload_n 1, 1) := by decide +kernel
theorem dX11_sets_94 : decode cX11_sets 94 = .ok (.bipush 8, 2) := by decide +kernel
theorem dX11_sets_96 : decode cX11_sets 96 = .ok (.if_icmp .ge 16, 3) := by decide +kernel
theorem dX11_sets_99 : decode cX11_sets 99 = .ok (.aload_n 0, 1) := by decide +kernel
theorem dX11_sets_100 : decode cX11_sets 100 = .ok (.getfield 80, 3) := by decide +kernel
theorem dX11_sets_103 : decode cX11_sets 103 = .ok (.iload_n 1, 1) := by decide +kernel
theorem dX11_sets_104 : decode cX11_sets 104 = .ok (.iconst (-1), 1) := by decide +kernel
theorem dX11_sets_105 : decode cX11_sets 105 = .ok (.iastore, 1) := by decide +kernel
theorem dX11_sets_106 : decode cX11_sets 106 = .ok (.iinc 1 1, 3) := by decide +kernel
theorem dX11_sets_109 : decode cX11_sets 109 = .ok (.goto (-16), 3) := by decide +kernel
theorem dX11_sets_112 : decode cX11_sets 112 = .ok (.iconst 0, 1) := by decide +kernel
theorem dX11_sets_113 : decode cX11_sets 113 = .ok (.istore_n 1, 1) := by decide +kernel
theorem dX11_sets_114 : decode cX11_sets 114 = .ok (.iload_n 1, 1) := by decide +kernel
theorem dX11_sets_115 : decode cX11_sets 115 = .ok (.bipush 68, 2) := by decide +kernel
theorem dX11_sets_117 : decode cX11_sets 117 = .ok (.if_icmp .ge 16, 3) := by decide +kernel
theorem dX11_sets_120 : decode cX11_sets 120 = .ok (.aload_n 0, 1) := by decide +kernel
theorem dX11_sets_121 : decode cX11_sets 121 = .ok (.getfield 68, 3) := by decide +kernel
theorem dX11_sets_124 : decode cX11_sets 124 = .ok (.iload_n 1, 1) := by decide +kernel
theorem dX11_sets_125 : decode cX11_sets 125 = .ok (.iconst 0, 1) := by decide +kernel
theorem dX11_sets_126 : decode cX11_sets 126 = .ok (.iastore, 1) := by decide +kernel
theorem dX11_sets_127 : decode cX11_sets 127 = .ok (.iinc 1 1, 3) := by decide +kernel
theorem dX11_sets_130 : decode cX11_sets 130 = .ok (.goto (-16), 3) := by decide +kernel
theorem dX11_sets_133 : decode cX11_sets 133 = .ok (.iconst 0, 1) := by decide +kernel
theorem dX11_sets_134 : decode cX11_sets 134 = .ok (.istore_n 1, 1) := by decide +kernel
theorem dX11_sets_135 : decode cX11_sets 135 = .ok (.iload_n 1, 1) := by decide +kernel
theorem dX11_sets_136 : decode cX11_sets 136 = .ok (.aload_n 0, 1) := by decide +kernel
theorem dX11_sets_137 : decode cX11_sets 137 = .ok (.getfield 169, 3) := by decide +kernel
theorem dX11_sets_140 : decode cX11_sets 140 = .ok (.if_icmp .ge 44, 3) := by decide +kernel
theorem dX11_sets_143 : decode cX11_sets 143 = .ok (.aload_n 0, 1) := by decide +kernel
theorem dX11_sets_144 : decode cX11_sets 144 = .ok (.getfield 68, 3) := by decide +kernel
theorem dX11_sets_147 : decode cX11_sets 147 = .ok (.iconst 0, 1) := by decide +kernel
theorem dX11_sets_148 : decode cX11_sets 148 = .ok (.iload_n 1, 1) := by decide +kernel
theorem dX11_sets_149 : decode cX11_sets 149 = .ok (.iadd, 1) := by decide +kernel
theorem dX11_sets_150 : decode cX11_sets 150 = .ok (.aload_n 0, 1) := by decide +kernel
theorem dX11_sets_151 : decode cX11_sets 151 = .ok (.getfield 38, 3) := by decide +kernel
theorem dX11_sets_154 : decode cX11_sets 154 = .ok (.iconst 2, 1) := by decide +kernel
theorem dX11_sets_155 : decode cX11_sets 155 = .ok (.iload_n 1, 1) := by decide +kernel
theorem dX11_sets_156 : decode cX11_sets 156 = .ok (.imul, 1) := by decide +kernel
theorem dX11_sets_157 : decode cX11_sets 157 = .ok (.iaload, 1) := by decide +kernel
theorem dX11_sets_158 : decode cX11_sets 158 = .ok (.iastore, 1) := by decide +kernel
theorem dX11_sets_159 : decode cX11_sets 159 = .ok (.aload_n 0, 1) := by decide +kernel
theorem dX11_sets_160 : decode cX11_sets 160 = .ok (.getfield 68, 3) := by decide +kernel
theorem dX11_sets_163 : decode cX11_sets 163 = .ok (.bipush 6, 2) := by decide +kernel
theorem dX11_sets_165 : decode cX11_sets 165 = .ok (.iload_n 1, 1) := by decide +kernel
theorem dX11_sets_166 : decode cX11_sets 166 = .ok (.iadd, 1) := by decide +kernel
theorem dX11_sets_167 : decode cX11_sets 167 = .ok (.aload_n 0, 1) := by decide +kernel
theorem dX11_sets_168 : decode cX11_sets 168 = .ok (.getfield 38, 3) := by decide +kernel
theorem dX11_sets_171 : decode cX11_sets 171 = .ok (.iconst 2, 1) := by decide +kernel
theorem dX11_sets_172 : decode cX11_sets 172 = .ok (.iload_n 1, 1) := by decide +kernel
theorem dX11_sets_173 : decode cX11_sets 173 = .ok (.imul, 1) := by decide +kernel
theorem dX11_sets_174 : decode cX11_sets 174 = .ok (.iconst 1, 1) := by decide +kernel
theorem dX11_sets_175 : decode cX11_sets 175 = .ok (.iadd, 1) := by decide +kernel
theorem dX11_sets_176 : decode cX11_sets 176 = .ok (.iaload, 1) := by decide +kernel
theorem dX11_sets_177 : decode cX11_sets 177 = .ok (.iastore, 1) := by decide +kernel
theorem dX11_sets_178 : decode cX11_sets 178 = .ok (.iinc 1 1, 3) := by decide +kernel
theorem dX11_sets_181 : decode cX11_sets 181 = .ok (.goto (-46), 3) := by decide +kernel
theorem dX11_sets_184 : decode cX11_sets 184 = .ok (.iconst 0, 1) := by decide +kernel
theorem dX11_sets_185 : decode cX11_sets 185 = .ok (.istore_n 1, 1) := by decide +kernel
theorem dX11_sets_186 : decode cX11_sets 186 = .ok (.iload_n 1, 1) := by decide +kernel
theorem dX11_sets_187 : decode cX11_sets 187 = .ok (.bipush 36, 2) := by decide +kernel
theorem dX11_sets_189 : decode cX11_sets 189 = .ok (.if_icmp .ge 24, 3) := by decide +kernel
theorem dX11_sets_192 : decode cX11_sets 192 = .ok (.aload_n 0, 1) := by decide +kernel
theorem dX11_sets_193 : decode cX11_sets 193 = .ok (.getfield 68, 3) := by decide +kernel
theorem dX11_sets_196 : decode cX11_sets 196 = .ok (.bipush 30, 2) := by decide +kernel
theorem dX11_sets_198 : decode cX11_sets 198 = .ok (.iload_n 1, 1) := by decide +kernel
theorem dX11_sets_199 : decode cX11_sets 199 = .ok (.iadd, 1) := by decide +kernel
theorem dX11_sets_200 : decode cX11_sets 200 = .ok (.aload_n 0, 1) := by decide +kernel
theorem dX11_sets_201 : decode cX11_sets 201 = .ok (.getfield 32, 3) := by decide +kernel
theorem dX11_sets_204 : decode cX11_sets 204 = .ok (.iload_n 1, 1) := by decide +kernel
theorem dX11_sets_205 : decode cX11_sets 205 = .ok (.iaload, 1) := by decide +kernel
theorem dX11_sets_206 : decode cX11_sets 206 = .ok (.iastore, 1) := by decide +kernel
theorem dX11_sets_207 : decode cX11_sets 207 = .ok (.iinc 1 1, 3) := by decide +kernel
theorem dX11_sets_210 : decode cX11_sets 210 = .ok (.goto (-24), 3) := by decide +kernel
theorem dX11_sets_213 : decode cX11_sets 213 = .ok (.aload_n 0, 1) := by decide +kernel
theorem dX11_sets_214 : decode cX11_sets 214 = .ok (.getfield 68, 3) := by decide +kernel
theorem dX11_sets_217 : decode cX11_sets 217 = .ok (.bipush 66, 2) := by decide +kernel
theorem dX11_sets_219 : decode cX11_sets 219 = .ok (.iconst 1, 1) := by decide +kernel
theorem dX11_sets_220 : decode cX11_sets 220 = .ok (.iastore, 1) := by decide +kernel
theorem dX11_sets_221 : decode cX11_sets 221 = .ok (.return_, 1) := by decide +kernel
theorem dX11_readHare_0 : decode cX11_readHare 0 = .ok (.aload_n 0, 1) := by decide +kernel
theorem dX11_readHare_1 : decode cX11_readHare 1 = .ok (.iconst 0, 1) := by decide +kernel
theorem dX11_readHare_2 : decode cX11_readHare 2 = .ok (.aload_n 0, 1) := by decide +kernel
theorem dX11_readHare_3 : decode cX11_readHare 3 = .ok (.getfield 160, 3) := by decide +kernel
theorem dX11_readHare_6 : decode cX11_readHare 6 = .ok (.iconst 1, 1) := by decide +kernel
theorem dX11_readHare_7 : decode cX11_readHare 7 = .ok (.isub, 1) := by decide +kernel
theorem dX11_readHare_8 : decode cX11_readHare 8 = .ok (.invokevirtual 194, 3) := by decide +kernel
theorem dX11_readHare_11 : decode cX11_readHare 11 = .ok (.ireturn, 1) := by decide +kernel
theorem dX11_readDebt_0 : decode cX11_readDebt 0 = .ok (.aload_n 0, 1) := by decide +kernel
theorem dX11_readDebt_1 : decode cX11_readDebt 1 = .ok (.invokevirtual 198, 3) := by decide +kernel
theorem dX11_readDebt_4 : decode cX11_readDebt 4 = .ok (.istore_n 1, 1) := by decide +kernel
theorem dX11_readDebt_5 : decode cX11_readDebt 5 = .ok (.aload_n 0, 1) := by decide +kernel
theorem dX11_readDebt_6 : decode cX11_readDebt 6 = .ok (.invokevirtual 126, 3) := by decide +kernel
theorem dX11_readDebt_9 : decode cX11_readDebt 9 = .ok (.pop, 1) := by decide +kernel
theorem dX11_readDebt_10 : decode cX11_readDebt 10 = .ok (.aload_n 0, 1) := by decide +kernel
theorem dX11_readDebt_11 : decode cX11_readDebt 11 = .ok (.getfield 120, 3) := by decide +kernel
theorem dX11_readDebt_14 : decode cX11_readDebt 14 = .ok (.istore_n 2, 1) := by decide +kernel
theorem dX11_readDebt_15 : decode cX11_readDebt 15 = .ok (.aload_n 0, 1) := by decide +kernel
theorem dX11_readDebt_16 : decode cX11_readDebt 16 = .ok (.invokevirtual 198, 3) := by decide +kernel
theorem dX11_readDebt_19 : decode cX11_readDebt 19 = .ok (.istore_n 3, 1) := by decide +kernel
theorem dX11_readDebt_20 : decode cX11_readDebt 20 = .ok (.aload_n 0, 1) := by decide +kernel
theorem dX11_readDebt_21 : decode cX11_readDebt 21 = .ok (.invokevirtual 143, 3) := by decide +kernel
theorem dX11_readDebt_24 : decode cX11_readDebt 24 = .ok (.ifCond .eq 14, 3) := by decide +kernel
theorem dX11_readDebt_27 : decode cX11_readDebt 27 = .ok (.iload_n 1, 1) := by decide +kernel
theorem dX11_readDebt_28 : decode cX11_readDebt 28 = .ok (.iload_n 3, 1) := by decide +kernel
theorem dX11_readDebt_29 : decode cX11_readDebt 29 = .ok (.if_icmp .ne 9, 3) := by decide +kernel
theorem dX11_readDebt_32 : decode cX11_readDebt 32 = .ok (.aload_n 0, 1) := by decide +kernel
theorem dX11_readDebt_33 : decode cX11_readDebt 33 = .ok (.iconst 2, 1) := by decide +kernel
theorem dX11_readDebt_34 : decode cX11_readDebt 34 = .ok (.iload_n 2, 1) := by decide +kernel
theorem dX11_readDebt_35 : decode cX11_readDebt 35 = .ok (.invokevirtual 150, 3) := by decide +kernel
theorem dX11_readDebt_38 : decode cX11_readDebt 38 = .ok (.aload_n 0, 1) := by decide +kernel
theorem dX11_readDebt_39 : decode cX11_readDebt 39 = .ok (.iconst 0, 1) := by decide +kernel
theorem dX11_readDebt_40 : decode cX11_readDebt 40 = .ok (.bipush 99, 2) := by decide +kernel
theorem dX11_readDebt_42 : decode cX11_readDebt 42 = .ok (.invokevirtual 194, 3) := by decide +kernel
theorem dX11_readDebt_45 : decode cX11_readDebt 45 = .ok (.istore 4, 2) := by decide +kernel
theorem dX11_readDebt_47 : decode cX11_readDebt 47 = .ok (.aload_n 0, 1) := by decide +kernel
theorem dX11_readDebt_48 : decode cX11_readDebt 48 = .ok (.invokevirtual 143, 3) := by decide +kernel
theorem dX11_readDebt_51 : decode cX11_readDebt 51 = .ok (.ifCond .eq 16, 3) := by decide +kernel
theorem dX11_readDebt_54 : decode cX11_readDebt 54 = .ok (.aload_n 0, 1) := by decide +kernel
theorem dX11_readDebt_55 : decode cX11_readDebt 55 = .ok (.getfield 32, 3) := by decide +kernel
theorem dX11_readDebt_58 : decode cX11_readDebt 58 = .ok (.bipush 6, 2) := by decide +kernel
theorem dX11_readDebt_60 : decode cX11_readDebt 60 = .ok (.iload_n 1, 1) := by decide +kernel
theorem dX11_readDebt_61 : decode cX11_readDebt 61 = .ok (.imul, 1) := by decide +kernel
theorem dX11_readDebt_62 : decode cX11_readDebt 62 = .ok (.iload_n 3, 1) := by decide +kernel
theorem dX11_readDebt_63 : decode cX11_readDebt 63 = .ok (.iadd, 1) := by decide +kernel
theorem dX11_readDebt_64 : decode cX11_readDebt 64 = .ok (.iload 4, 2) := by decide +kernel
theorem dX11_readDebt_66 : decode cX11_readDebt 66 = .ok (.iastore, 1) := by decide +kernel
theorem dX11_readDebt_67 : decode cX11_readDebt 67 = .ok (.return_, 1) := by decide +kernel
theorem dX11_isRow_0 : decode cX11_isRow 0 = .ok (.iload_n 0, 1) := by decide +kernel
theorem dX11_isRow_1 : decode cX11_isRow 1 = .ok (.ldc 201, 2) := by decide +kernel
theorem dX11_isRow_3 : decode cX11_isRow 3 = .ok (.invokestatic 202, 3) := by decide +kernel
theorem dX11_isRow_6 : decode cX11_isRow 6 = .ok (.if_icmp .eq 30, 3) := by decide +kernel
theorem dX11_isRow_9 : decode cX11_isRow 9 = .ok (.iload_n 0, 1) := by decide +kernel
theorem dX11_isRow_10 : decode cX11_isRow 10 = .ok (.ldc 206, 2) := by decide +kernel
theorem dX11_isRow_12 : decode cX11_isRow 12 = .ok (.invokestatic 202, 3) := by decide +kernel
theorem dX11_isRow_15 : decode cX11_isRow 15 = .ok (.if_icmp .eq 21, 3) := by decide +kernel
theorem dX11_isRow_18 : decode cX11_isRow 18 = .ok (.iload_n 0, 1) := by decide +kernel
theorem dX11_isRow_19 : decode cX11_isRow 19 = .ok (.ldc 207, 2) := by decide +kernel
theorem dX11_isRow_21 : decode cX11_isRow 21 = .ok (.invokestatic 202, 3) := by decide +kernel
theorem dX11_isRow_24 : decode cX11_isRow 24 = .ok (.if_icmp .eq 12, 3) := by decide +kernel
theorem dX11_isRow_27 : decode cX11_isRow 27 = .ok (.iload_n 0, 1) := by decide +kernel
theorem dX11_isRow_28 : decode cX11_isRow 28 = .ok (.ldc 208, 2) := by decide +kernel
theorem dX11_isRow_30 : decode cX11_isRow 30 = .ok (.invokestatic 202, 3) := by decide +kernel
theorem dX11_isRow_33 : decode cX11_isRow 33 = .ok (.if_icmp .ne 7, 3) := by decide +kernel
theorem dX11_isRow_36 : decode cX11_isRow 36 = .ok (.iconst 1, 1) := by decide +kernel
theorem dX11_isRow_37 : decode cX11_isRow 37 = .ok (.goto 4, 3) := by decide +kernel
theorem dX11_isRow_40 : decode cX11_isRow 40 = .ok (.iconst 0, 1) := by decide +kernel
theorem dX11_isRow_41 : decode cX11_isRow 41 = .ok (.ireturn, 1) := by decide +kernel
theorem dX11_isFull_0 : decode cX11_isFull 0 = .ok (.iload_n 1, 1) := by decide +kernel
theorem dX11_isFull_1 : decode cX11_isFull 1 = .ok (.ldc 201, 2) := by decide +kernel
theorem dX11_isFull_3 : decode cX11_isFull 3 = .ok (.invokestatic 202, 3) := by decide +kernel
theorem dX11_isFull_6 : decode cX11_isFull 6 = .ok (.if_icmp .ne 20, 3) := by decide +kernel
theorem dX11_isFull_9 : decode cX11_isFull 9 = .ok (.aload_n 0, 1) := by decide +kernel
theorem dX11_isFull_10 : decode cX11_isFull 10 = .ok (.getfield 157, 3) := by decide +kernel
theorem dX11_isFull_13 : decode cX11_isFull 13 = .ok (.bipush 8, 2) := by decide +kernel
theorem dX11_isFull_15 : decode cX11_isFull 15 = .ok (.if_icmp .ne 7, 3) := by decide +kernel
theorem dX11_isFull_18 : decode cX11_isFull 18 = .ok (.iconst 1, 1) := by decide +kernel
theorem dX11_isFull_19 : decode cX11_isFull 19 = .ok (.goto 55, 3) := by decide +kernel
theorem dX11_isFull_22 : decode cX11_isFull 22 = .ok (.iconst 0, 1) := by decide +kernel
theorem dX11_isFull_23 : decode cX11_isFull 23 = .ok (.goto 51, 3) := by decide +kernel
theorem dX11_isFull_26 : decode cX11_isFull 26 = .ok (.iload_n 1, 1) := by decide +kernel
theorem dX11_isFull_27 : decode cX11_isFull 27 = .ok (.ldc 206, 2) := by decide +kernel
theorem dX11_isFull_29 : decode cX11_isFull 29 = .ok (.invokestatic 202, 3) := by decide +kernel
theorem dX11_isFull_32 : decode cX11_isFull 32 = .ok (.if_icmp .ne 20, 3) := by decide +kernel
theorem dX11_isFull_35 : decode cX11_isFull 35 = .ok (.aload_n 0, 1) := by decide +kernel
theorem dX11_isFull_36 : decode cX11_isFull 36 = .ok (.getfield 160, 3) := by decide +kernel
theorem dX11_isFull_39 : decode cX11_isFull 39 = .ok (.bipush 6, 2) := by decide +kernel
theorem dX11_isFull_41 : decode cX11_isFull 41 = .ok (.if_icmp .ne 7, 3) := by decide +kernel
theorem dX11_isFull_44 : decode cX11_isFull 44 = .ok (.iconst 1, 1) := by decide +kernel
theorem dX11_isFull_45 : decode cX11_isFull 45 = .ok (.goto 29, 3) := by decide +kernel
theorem dX11_isFull_48 : decode cX11_isFull 48 = .ok (.iconst 0, 1) := by decide +kernel
theorem dX11_isFull_49 : decode cX11_isFull 49 = .ok (.goto 25, 3) := by decide +kernel
theorem dX11_isFull_52 : decode cX11_isFull 52 = .ok (.iload_n 1, 1) := by decide +kernel
theorem dX11_isFull_53 : decode cX11_isFull 53 = .ok (.ldc 207, 2) := by decide +kernel
theorem dX11_isFull_55 : decode cX11_isFull 55 = .ok (.invokestatic 202, 3) := by decide +kernel
theorem dX11_isFull_58 : decode cX11_isFull 58 = .ok (.if_icmp .ne 15, 3) := by decide +kernel
theorem dX11_isFull_61 : decode cX11_isFull 61 = .ok (.aload_n 0, 1) := by decide +kernel
theorem dX11_isFull_62 : decode cX11_isFull 62 = .ok (.getfield 163, 3) := by decide +kernel
theorem dX11_isFull_65 : decode cX11_isFull 65 = .ok (.iconst 4, 1) := by decide +kernel
theorem dX11_isFull_66 : decode cX11_isFull 66 = .ok (.if_icmp .ne 7, 3) := by decide +kernel
theorem dX11_isFull_69 : decode cX11_isFull 69 = .ok (.iconst 1, 1) := by decide +kernel
theorem dX11_isFull_70 : decode cX11_isFull 70 = .ok (.goto 4, 3) := by decide +kernel
theorem dX11_isFull_73 : decode cX11_isFull 73 = .ok (.iconst 0, 1) := by decide +kernel
theorem dX11_isFull_74 : decode cX11_isFull 74 = .ok (.ireturn, 1) := by decide +kernel
theorem dX11_readRow_0 : decode cX11_readRow 0 = .ok (.iload_n 1, 1) := by decide +kernel
theorem dX11_readRow_1 : decode cX11_readRow 1 = .ok (.ldc 201, 2) := by decide +kernel
theorem dX11_readRow_3 : decode cX11_readRow 3 = .ok (.invokestatic 202, 3) := by decide +kernel
theorem dX11_readRow_6 : decode cX11_readRow 6 = .ok (.if_icmp .ne 54, 3) := by decide +kernel
theorem dX11_readRow_9 : decode cX11_readRow 9 = .ok (.aload_n 0, 1) := by decide +kernel
theorem dX11_readRow_10 : decode cX11_readRow 10 = .ok (.getfield 23, 3) := by decide +kernel
theorem dX11_readRow_13 : decode cX11_readRow 13 = .ok (.iconst 2, 1) := by decide +kernel
theorem dX11_readRow_14 : decode cX11_readRow 14 = .ok (.aload_n 0, 1) := by decide +kernel
theorem dX11_readRow_15 : decode cX11_readRow 15 = .ok (.getfield 157, 3) := by decide +kernel
theorem dX11_readRow_18 : decode cX11_readRow 18 = .ok (.imul, 1) := by decide +kernel
theorem dX11_readRow_19 : decode cX11_readRow 19 = .ok (.aload_n 0, 1) := by decide +kernel
theorem dX11_readRow_20 : decode cX11_readRow 20 = .ok (.iconst 0, 1) := by decide +kernel
theorem dX11_readRow_21 : decode cX11_readRow 21 = .ok (.bipush 30, 2) := by decide +kernel
theorem dX11_readRow_23 : decode cX11_readRow 23 = .ok (.invokevirtual 194, 3) := by decide +kernel
theorem dX11_readRow_26 : decode cX11_readRow 26 = .ok (.iastore, 1) := by decide +kernel
theorem dX11_readRow_27 : decode cX11_readRow 27 = .ok (.aload_n 0, 1) := by decide +kernel
theorem dX11_readRow_28 : decode cX11_readRow 28 = .ok (.getfield 23, 3) := by decide +kernel
theorem dX11_readRow_31 : decode cX11_readRow 31 = .ok (.iconst 2, 1) := by decide +kernel
theorem dX11_readRow_32 : decode cX11_readRow 32 = .ok (.aload_n 0, 1) := by decide +kernel
theorem dX11_readRow_33 : decode cX11_readRow 33 = .ok (.getfield 157, 3) := by decide +kernel
theorem dX11_readRow_36 : decode cX11_readRow 36 = .ok (.imul, 1) := by decide +kernel
theorem dX11_readRow_37 : decode cX11_readRow 37 = .ok (.iconst 1, 1) := by decide +kernel
theorem dX11_readRow_38 : decode cX11_readRow 38 = .ok (.iadd, 1) := by decide +kernel
theorem dX11_readRow_39 : decode cX11_readRow 39 = .ok (.aload_n 0, 1) := by decide +kernel
theorem dX11_readRow_40 : decode cX11_readRow 40 = .ok (.iconst 0, 1) := by decide +kernel
theorem dX11_readRow_41 : decode cX11_readRow 41 = .ok (.bipush 30, 2) := by decide +kernel
theorem dX11_readRow_43 : decode cX11_readRow 43 = .ok (.invokevirtual 194, 3) := by decide +kernel
theorem dX11_readRow_46 : decode cX11_readRow 46 = .ok (.iastore, 1) := by decide +kernel
theorem dX11_readRow_47 : decode cX11_readRow 47 = .ok (.aload_n 0, 1) := by decide +kernel
theorem dX11_readRow_48 : decode cX11_readRow 48 = .ok (.dup, 1) := by decide +kernel
theorem dX11_readRow_49 : decode cX11_readRow 49 = .ok (.getfield 157, 3) := by decide +kernel
theorem dX11_readRow_52 : decode cX11_readRow 52 = .ok (.iconst 1, 1) := by decide +kernel
theorem dX11_readRow_53 : decode cX11_readRow 53 = .ok (.iadd, 1) := by decide +kernel
theorem dX11_readRow_54 : decode cX11_readRow 54 = .ok (.putfield 157, 3) := by decide +kernel
theorem dX11_readRow_57 : decode cX11_readRow 57 = .ok (.goto 131, 3) := by decide +kernel
theorem dX11_readRow_60 : decode cX11_readRow 60 = .ok (.iload_n 1, 1) := by decide +kernel
theorem dX11_readRow_61 : decode cX11_readRow 61 = .ok (.ldc 206, 2) := by decide +kernel
theorem dX11_readRow_63 : decode cX11_readRow 63 = .ok (.invokestatic 202, 3) := by decide +kernel
theorem dX11_readRow_66 : decode cX11_readRow 66 = .ok (.if_icmp .ne 58, 3) := by decide +kernel
theorem dX11_readRow_69 : decode cX11_readRow 69 = .ok (.aload_n 0, 1) := by decide +kernel
theorem dX11_readRow_70 : decode cX11_readRow 70 = .ok (.getfield 26, 3) := by decide +kernel
theorem dX11_readRow_73 : decode cX11_readRow 73 = .ok (.iconst 2, 1) := by decide +kernel
theorem dX11_readRow_74 : decode cX11_readRow 74 = .ok (.aload_n 0, 1) := by decide +kernel
theorem dX11_readRow_75 : decode cX11_readRow 75 = .ok (.getfield 160, 3) := by decide +kernel
theorem dX11_readRow_78 : decode cX11_readRow 78 = .ok (.imul, 1) := by decide +kernel
theorem dX11_readRow_79 : decode cX11_readRow 79 = .ok (.aload_n 0, 1) := by decide +kernel
theorem dX11_readRow_80 : decode cX11_readRow 80 = .ok (.iconst 0, 1) := by decide +kernel
theorem dX11_readRow_81 : decode cX11_readRow 81 = .ok (.aload_n 0, 1) := by decide +kernel
theorem dX11_readRow_82 : decode cX11_readRow 82 = .ok (.getfield 157, 3) := by decide +kernel
theorem dX11_readRow_85 : decode cX11_readRow 85 = .ok (.iconst 1, 1) := by decide +kernel
theorem dX11_readRow_86 : decode cX11_readRow 86 = .ok (.isub, 1) := by decide +kernel
theorem dX11_readRow_87 : decode cX11_readRow 87 = .ok (.invokevirtual 194, 3) := by decide +kernel
theorem dX11_readRow_90 : decode cX11_readRow 90 = .ok (.iastore, 1) := by decide +kernel
theorem dX11_readRow_91 : decode cX11_readRow 91 = .ok (.aload_n 0, 1) := by decide +kernel
theorem dX11_readRow_92 : decode cX11_readRow 92 = .ok (.getfield 26, 3) := by decide +kernel
theorem dX11_readRow_95 : decode cX11_readRow 95 = .ok (.iconst 2, 1) := by decide +kernel
theorem dX11_readRow_96 : decode cX11_readRow 96 = .ok (.aload_n 0, 1) := by decide +kernel
theorem dX11_readRow_97 : decode cX11_readRow 97 = .ok (.getfield 160, 3) := by decide +kernel
theorem dX11_readRow_100 : decode cX11_readRow 100 = .ok (.imul, 1) := by decide +kernel
theorem dX11_readRow_101 : decode cX11_readRow 101 = .ok (.iconst 1, 1) := by decide +kernel
theorem dX11_readRow_102 : decode cX11_readRow 102 = .ok (.iadd, 1) := by decide +kernel
theorem dX11_readRow_103 : decode cX11_readRow 103 = .ok (.aload_n 0, 1) := by decide +kernel
theorem dX11_readRow_104 : decode cX11_readRow 104 = .ok (.iconst 1, 1) := by decide +kernel
theorem dX11_readRow_105 : decode cX11_readRow 105 = .ok (.bipush 9, 2) := by decide +kernel
theorem dX11_readRow_107 : decode cX11_readRow 107 = .ok (.invokevirtual 194, 3) := by decide +kernel
theorem dX11_readRow_110 : decode cX11_readRow 110 = .ok (.iastore, 1) := by decide +kernel
theorem dX11_readRow_111 : decode cX11_readRow 111 = .ok (.aload_n 0, 1) := by decide +kernel
theorem dX11_readRow_112 : decode cX11_readRow 112 = .ok (.dup, 1) := by decide +kernel
theorem dX11_readRow_113 : decode cX11_readRow 113 = .ok (.getfield 160, 3) := by decide +kernel
theorem dX11_readRow_116 : decode cX11_readRow 116 = .ok (.iconst 1, 1) := by decide +kernel
theorem dX11_readRow_117 : decode cX11_readRow 117 = .ok (.iadd, 1) := by decide +kernel
theorem dX11_readRow_118 : decode cX11_readRow 118 = .ok (.putfield 160, 3) := by decide +kernel
theorem dX11_readRow_121 : decode cX11_readRow 121 = .ok (.goto 67, 3) := by decide +kernel
theorem dX11_readRow_124 : decode cX11_readRow 124 = .ok (.iload_n 1, 1) := by decide +kernel
theorem dX11_readRow_125 : decode cX11_readRow 125 = .ok (.ldc 207, 2) := by decide +kernel
theorem dX11_readRow_127 : decode cX11_readRow 127 = .ok (.invokestatic 202, 3) := by decide +kernel
theorem dX11_readRow_130 : decode cX11_readRow 130 = .ok (.if_icmp .ne 54, 3) := by decide +kernel
theorem dX11_readRow_133 : decode cX11_readRow 133 = .ok (.aload_n 0, 1) := by decide +kernel
theorem dX11_readRow_134 : decode cX11_readRow 134 = .ok (.getfield 29, 3) := by decide +kernel
theorem dX11_readRow_137 : decode cX11_readRow 137 = .ok (.iconst 2, 1) := by decide +kernel
theorem dX11_readRow_138 : decode cX11_readRow 138 = .ok (.aload_n 0, 1) := by decide +kernel
theorem dX11_readRow_139 : decode cX11_readRow 139 = .ok (.getfield 163, 3) := by decide +kernel
theorem dX11_readRow_142 : decode cX11_readRow 142 = .ok (.imul, 1) := by decide +kernel
theorem dX11_readRow_143 : decode cX11_readRow 143 = .ok (.aload_n 0, 1) := by decide +kernel
theorem dX11_readRow_144 : decode cX11_readRow 144 = .ok (.iconst 0, 1) := by decide +kernel
theorem dX11_readRow_145 : decode cX11_readRow 145 = .ok (.bipush 30, 2) := by decide +kernel
theorem dX11_readRow_147 : decode cX11_readRow 147 = .ok (.invokevirtual 194, 3) := by decide +kernel
theorem dX11_readRow_150 : decode cX11_readRow 150 = .ok (.iastore, 1) := by decide +kernel
theorem dX11_readRow_151 : decode cX11_readRow 151 = .ok (.aload_n 0, 1) := by decide +kernel
theorem dX11_readRow_152 : decode cX11_readRow 152 = .ok (.getfield 29, 3) := by decide +kernel
theorem dX11_readRow_155 : decode cX11_readRow 155 = .ok (.iconst 2, 1) := by decide +kernel
theorem dX11_readRow_156 : decode cX11_readRow 156 = .ok (.aload_n 0, 1) := by decide +kernel
theorem dX11_readRow_157 : decode cX11_readRow 157 = .ok (.getfield 163, 3) := by decide +kernel
theorem dX11_readRow_160 : decode cX11_readRow 160 = .ok (.imul, 1) := by decide +kernel
theorem dX11_readRow_161 : decode cX11_readRow 161 = .ok (.iconst 1, 1) := by decide +kernel
theorem dX11_readRow_162 : decode cX11_readRow 162 = .ok (.iadd, 1) := by decide +kernel
theorem dX11_readRow_163 : decode cX11_readRow 163 = .ok (.aload_n 0, 1) := by decide +kernel
theorem dX11_readRow_164 : decode cX11_readRow 164 = .ok (.iconst 0, 1) := by decide +kernel
theorem dX11_readRow_165 : decode cX11_readRow 165 = .ok (.bipush 30, 2) := by decide +kernel
theorem dX11_readRow_167 : decode cX11_readRow 167 = .ok (.invokevirtual 194, 3) := by decide +kernel
theorem dX11_readRow_170 : decode cX11_readRow 170 = .ok (.iastore, 1) := by decide +kernel
theorem dX11_readRow_171 : decode cX11_readRow 171 = .ok (.aload_n 0, 1) := by decide +kernel
theorem dX11_readRow_172 : decode cX11_readRow 172 = .ok (.dup, 1) := by decide +kernel
theorem dX11_readRow_173 : decode cX11_readRow 173 = .ok (.getfield 163, 3) := by decide +kernel
theorem dX11_readRow_176 : decode cX11_readRow 176 = .ok (.iconst 1, 1) := by decide +kernel
theorem dX11_readRow_177 : decode cX11_readRow 177 = .ok (.iadd, 1) := by decide +kernel
theorem dX11_readRow_178 : decode cX11_readRow 178 = .ok (.putfield 163, 3) := by decide +kernel
theorem dX11_readRow_181 : decode cX11_readRow 181 = .ok (.goto 7, 3) := by decide +kernel
theorem dX11_readRow_184 : decode cX11_readRow 184 = .ok (.aload_n 0, 1) := by decide +kernel
theorem dX11_readRow_185 : decode cX11_readRow 185 = .ok (.invokevirtual 210, 3) := by decide +kernel
theorem dX11_readRow_188 : decode cX11_readRow 188 = .ok (.return_, 1) := by decide +kernel
theorem dX11_down_0 : decode cX11_down 0 = .ok (.aload_n 0, 1) := by decide +kernel
theorem dX11_down_1 : decode cX11_down 1 = .ok (.iconst 0, 1) := by decide +kernel
theorem dX11_down_2 : decode cX11_down 2 = .ok (.putfield 3, 3) := by decide +kernel
theorem dX11_down_5 : decode cX11_down 5 = .ok (.aload_n 0, 1) := by decide +kernel
theorem dX11_down_6 : decode cX11_down 6 = .ok (.iload_n 1, 1) := by decide +kernel
theorem dX11_down_7 : decode cX11_down 7 = .ok (.ifCond .lt 15, 3) := by decide +kernel
theorem dX11_down_10 : decode cX11_down 10 = .ok (.iload_n 1, 1) := by decide +kernel
theorem dX11_down_11 : decode cX11_down 11 = .ok (.aload_n 0, 1) := by decide +kernel
theorem dX11_down_12 : decode cX11_down 12 = .ok (.getfield 111, 3) := by decide +kernel
theorem dX11_down_15 : decode cX11_down 15 = .ok (.if_icmp .gt 7, 3) := by decide +kernel
theorem dX11_down_18 : decode cX11_down 18 = .ok (.iconst 1, 1) := by decide +kernel
theorem dX11_down_19 : decode cX11_down 19 = .ok (.goto 4, 3) := by decide +kernel
theorem dX11_down_22 : decode cX11_down 22 = .ok (.iconst 0, 1) := by decide +kernel
theorem dX11_down_23 : decode cX11_down 23 = .ok (.iconst 1, 1) := by decide +kernel
theorem dX11_down_24 : decode cX11_down 24 = .ok (.iconst 1, 1) := by decide +kernel
theorem dX11_down_25 : decode cX11_down 25 = .ok (.invokevirtual 213, 3) := by decide +kernel
theorem dX11_down_28 : decode cX11_down 28 = .ok (.ifCond .ne 5, 3) := by decide +kernel
theorem dX11_down_31 : decode cX11_down 31 = .ok (.iconst 0, 1) := by decide +kernel
theorem dX11_down_32 : decode cX11_down 32 = .ok (.ireturn, 1) := by decide +kernel
theorem dX11_down_33 : decode cX11_down 33 = .ok (.aload_n 0, 1) := by decide +kernel
theorem dX11_down_34 : decode cX11_down 34 = .ok (.iload_n 1, 1) := by decide +kernel
theorem dX11_down_35 : decode cX11_down 35 = .ok (.invokevirtual 217, 3) := by decide +kernel
theorem dX11_down_38 : decode cX11_down 38 = .ok (.aload_n 0, 1) := by decide +kernel
theorem dX11_down_39 : decode cX11_down 39 = .ok (.invokevirtual 105, 3) := by decide +kernel
theorem dX11_down_42 : decode cX11_down 42 = .ok (.iconst 0, 1) := by decide +kernel
theorem dX11_down_43 : decode cX11_down 43 = .ok (.istore_n 2, 1) := by decide +kernel
theorem dX11_down_44 : decode cX11_down 44 = .ok (.aload_n 0, 1) := by decide +kernel
theorem dX11_down_45 : decode cX11_down 45 = .ok (.invokevirtual 143, 3) := by decide +kernel
theorem dX11_down_48 : decode cX11_down 48 = .ok (.ifCond .eq 88, 3) := by decide +kernel
theorem dX11_down_51 : decode cX11_down 51 = .ok (.aload_n 0, 1) := by decide +kernel
theorem dX11_down_52 : decode cX11_down 52 = .ok (.invokevirtual 221, 3) := by decide +kernel
theorem dX11_down_55 : decode cX11_down 55 = .ok (.ifCond .eq 81, 3) := by decide +kernel
theorem dX11_down_58 : decode cX11_down 58 = .ok (.aload_n 0, 1) := by decide +kernel
theorem dX11_down_59 : decode cX11_down 59 = .ok (.invokevirtual 224, 3) := by decide +kernel
theorem dX11_down_62 : decode cX11_down 62 = .ok (.istore_n 3, 1) := by decide +kernel
theorem dX11_down_63 : decode cX11_down 63 = .ok (.iload_n 3, 1) := by decide +kernel
theorem dX11_down_64 : decode cX11_down 64 = .ok (.invokestatic 227, 3) := by decide +kernel
theorem dX11_down_67 : decode cX11_down 67 = .ok (.ifCond .ne 15, 3) := by decide +kernel
theorem dX11_down_70 : decode cX11_down 70 = .ok (.aload_n 0, 1) := by decide +kernel
theorem dX11_down_71 : decode cX11_down 71 = .ok (.iconst 1, 1) := by decide +kernel
theorem dX11_down_72 : decode cX11_down 72 = .ok (.aload_n 0, 1) := by decide +kernel
theorem dX11_down_73 : decode cX11_down 73 = .ok (.getfield 120, 3) := by decide +kernel
theorem dX11_down_76 : decode cX11_down 76 = .ok (.invokevirtual 150, 3) := by decide +kernel
theorem dX11_down_79 : decode cX11_down 79 = .ok (.goto 26, 3) := by decide +kernel
theorem dX11_down_82 : decode cX11_down 82 = .ok (.iload_n 2, 1) := by decide +kernel
theorem dX11_down_83 : decode cX11_down 83 = .ok (.bipush 60, 2) := by decide +kernel
theorem dX11_down_85 : decode cX11_down 85 = .ok (.if_icmp .eq 11, 3) := by decide +kernel
theorem dX11_down_88 : decode cX11_down 88 = .ok (.aload_n 0, 1) := by decide +kernel
theorem dX11_down_89 : decode cX11_down 89 = .ok (.iload_n 3, 1) := by decide +kernel
theorem dX11_down_90 : decode cX11_down 90 = .ok (.invokevirtual 230, 3) := by decide +kernel
theorem dX11_down_93 : decode cX11_down 93 = .ok (.ifCond .eq 12, 3) := by decide +kernel
theorem dX11_down_96 : decode cX11_down 96 = .ok (.aload_n 0, 1) := by decide +kernel
theorem dX11_down_97 : decode cX11_down 97 = .ok (.iconst 3, 1) := by decide +kernel
theorem dX11_down_98 : decode cX11_down 98 = .ok (.aload_n 0, 1) := by decide +kernel
theorem dX11_down_99 : decode cX11_down 99 = .ok (.getfield 120, 3) := by decide +kernel
theorem dX11_down_102 : decode cX11_down 102 = .ok (.invokevirtual 150, 3) := by decide +kernel
theorem dX11_down_105 : decode cX11_down 105 = .ok (.aload_n 0, 1) := by decide +kernel
theorem dX11_down_106 : decode cX11_down 106 = .ok (.invokevirtual 143, 3) := by decide +kernel
theorem dX11_down_109 : decode cX11_down 109 = .ok (.ifCond .ne 6, 3) := by decide +kernel
theorem dX11_down_112 : decode cX11_down 112 = .ok (.goto 24, 3) := by decide +kernel
theorem dX11_down_115 : decode cX11_down 115 = .ok (.aload_n 0, 1) := by decide +kernel
theorem dX11_down_116 : decode cX11_down 116 = .ok (.invokevirtual 233, 3) := by decide +kernel
theorem dX11_down_119 : decode cX11_down 119 = .ok (.aload_n 0, 1) := by decide +kernel
theorem dX11_down_120 : decode cX11_down 120 = .ok (.iload_n 3, 1) := by decide +kernel
theorem dX11_down_121 : decode cX11_down 121 = .ok (.invokevirtual 236, 3) := by decide +kernel
theorem dX11_down_124 : decode cX11_down 124 = .ok (.aload_n 0, 1) := by decide +kernel
theorem dX11_down_125 : decode cX11_down 125 = .ok (.bipush 59, 2) := by decide +kernel
theorem dX11_down_127 : decode cX11_down 127 = .ok (.invokevirtual 239, 3) := by decide +kernel
theorem dX11_down_130 : decode cX11_down 130 = .ok (.iinc 2 1, 3) := by decide +kernel
theorem dX11_down_133 : decode cX11_down 133 = .ok (.goto (-89), 3) := by decide +kernel
theorem dX11_down_136 : decode cX11_down 136 = .ok (.aload_n 0, 1) := by decide +kernel
theorem dX11_down_137 : decode cX11_down 137 = .ok (.aload_n 0, 1) := by decide +kernel
theorem dX11_down_138 : decode cX11_down 138 = .ok (.getfield 160, 3) := by decide +kernel
theorem dX11_down_141 : decode cX11_down 141 = .ok (.invokevirtual 242, 3) := by decide +kernel
theorem dX11_down_144 : decode cX11_down 144 = .ok (.istore_n 3, 1) := by decide +kernel
theorem dX11_down_145 : decode cX11_down 145 = .ok (.aload_n 0, 1) := by decide +kernel
theorem dX11_down_146 : decode cX11_down 146 = .ok (.getfield 114, 3) := by decide +kernel
theorem dX11_down_149 : decode cX11_down 149 = .ok (.iconst (-1), 1) := by decide +kernel
theorem dX11_down_150 : decode cX11_down 150 = .ok (.if_icmp .ne 7, 3) := by decide +kernel
theorem dX11_down_153 : decode cX11_down 153 = .ok (.aload_n 0, 1) := by decide +kernel
theorem dX11_down_154 : decode cX11_down 154 = .ok (.invokevirtual 108, 3) := by decide +kernel
theorem dX11_down_157 : decode cX11_down 157 = .ok (.iload_n 3, 1) := by decide +kernel
theorem dX11_down_158 : decode cX11_down 158 = .ok (.ireturn, 1) := by decide +kernel
theorem dX11_emit_0 : decode cX11_emit 0 = .ok (.aload_n 0, 1) := by decide +kernel
theorem dX11_emit_1 : decode cX11_emit 1 = .ok (.invokevirtual 143, 3) := by decide +kernel
theorem dX11_emit_4 : decode cX11_emit 4 = .ok (.ifCond .ne 4, 3) := by decide +kernel
theorem dX11_emit_7 : decode cX11_emit 7 = .ok (.return_, 1) := by decide +kernel
theorem dX11_emit_8 : decode cX11_emit 8 = .ok (.aload_n 0, 1) := by decide +kernel
theorem dX11_emit_9 : decode cX11_emit 9 = .ok (.getfield 44, 3) := by decide +kernel
theorem dX11_emit_12 : decode cX11_emit 12 = .ok (.aload_n 0, 1) := by decide +kernel
theorem dX11_emit_13 : decode cX11_emit 13 = .ok (.getfield 246, 3) := by decide +kernel
theorem dX11_emit_16 : decode cX11_emit 16 = .ok (.iload_n 1, 1) := by decide +kernel
theorem dX11_emit_17 : decode cX11_emit 17 = .ok (.iastore, 1) := by decide +kernel
theorem dX11_emit_18 : decode cX11_emit 18 = .ok (.aload_n 0, 1) := by decide +kernel
theorem dX11_emit_19 : decode cX11_emit 19 = .ok (.getfield 47, 3) := by decide +kernel
theorem dX11_emit_22 : decode cX11_emit 22 = .ok (.aload_n 0, 1) := by decide +kernel
theorem dX11_emit_23 : decode cX11_emit 23 = .ok (.getfield 246, 3) := by decide +kernel
theorem dX11_emit_26 : decode cX11_emit 26 = .ok (.iload_n 2, 1) := by decide +kernel
theorem dX11_emit_27 : decode cX11_emit 27 = .ok (.iastore, 1) := by decide +kernel
theorem dX11_emit_28 : decode cX11_emit 28 = .ok (.aload_n 0, 1) := by decide +kernel
theorem dX11_emit_29 : decode cX11_emit 29 = .ok (.dup, 1) := by decide +kernel
theorem dX11_emit_30 : decode cX11_emit 30 = .ok (.getfield 246, 3) := by decide +kernel
theorem dX11_emit_33 : decode cX11_emit 33 = .ok (.iconst 1, 1) := by decide +kernel
theorem dX11_emit_34 : decode cX11_emit 34 = .ok (.iadd, 1) := by decide +kernel
theorem dX11_emit_35 : decode cX11_emit 35 = .ok (.putfield 246, 3) := by decide +kernel
theorem dX11_emit_38 : decode cX11_emit 38 = .ok (.return_, 1) := by decide +kernel
theorem dX11_opensOne_0 : decode cX11_opensOne 0 = .ok (.aload_n 0, 1) := by decide +kernel
theorem dX11_opensOne_1 : decode cX11_opensOne 1 = .ok (.invokevirtual 143, 3) := by decide +kernel
theorem dX11_opensOne_4 : decode cX11_opensOne 4 = .ok (.ifCond .eq 21, 3) := by decide +kernel
theorem dX11_opensOne_7 : decode cX11_opensOne 7 = .ok (.aload_n 0, 1) := by decide +kernel
theorem dX11_opensOne_8 : decode cX11_opensOne 8 = .ok (.getfield 154, 3) := by decide +kernel
theorem dX11_opensOne_11 : decode cX11_opensOne 11 = .ok (.bipush 6, 2) := by decide +kernel
theorem dX11_opensOne_13 : decode cX11_opensOne 13 = .ok (.if_icmp .ne 12, 3) := by decide +kernel
theorem dX11_opensOne_16 : decode cX11_opensOne 16 = .ok (.aload_n 0, 1) := by decide +kernel
theorem dX11_opensOne_17 : decode cX11_opensOne 17 = .ok (.iconst 3, 1) := by decide +kernel
theorem dX11_opensOne_18 : decode cX11_opensOne 18 = .ok (.aload_n 0, 1) := by decide +kernel
theorem dX11_opensOne_19 : decode cX11_opensOne 19 = .ok (.getfield 120, 3) := by decide +kernel
theorem dX11_opensOne_22 : decode cX11_opensOne 22 = .ok (.invokevirtual 150, 3) := by decide +kernel
theorem dX11_opensOne_25 : decode cX11_opensOne 25 = .ok (.aload_n 0, 1) := by decide +kernel
theorem dX11_opensOne_26 : decode cX11_opensOne 26 = .ok (.invokevirtual 143, 3) := by decide +kernel
theorem dX11_opensOne_29 : decode cX11_opensOne 29 = .ok (.ifCond .eq 13, 3) := by decide +kernel
theorem dX11_opensOne_32 : decode cX11_opensOne 32 = .ok (.aload_n 0, 1) := by decide +kernel
theorem dX11_opensOne_33 : decode cX11_opensOne 33 = .ok (.dup, 1) := by decide +kernel
theorem dX11_opensOne_34 : decode cX11_opensOne 34 = .ok (.getfield 120, 3) := by decide +kernel
theorem dX11_opensOne_37 : decode cX11_opensOne 37 = .ok (.iload_n 1, 1) := by decide +kernel
theorem dX11_opensOne_38 : decode cX11_opensOne 38 = .ok (.iadd, 1) := by decide +kernel
theorem dX11_opensOne_39 : decode cX11_opensOne 39 = .ok (.putfield 120, 3) := by decide +kernel
theorem dX11_opensOne_42 : decode cX11_opensOne 42 = .ok (.aload_n 0, 1) := by decide +kernel
theorem dX11_opensOne_43 : decode cX11_opensOne 43 = .ok (.dup, 1) := by decide +kernel
theorem dX11_opensOne_44 : decode cX11_opensOne 44 = .ok (.getfield 154, 3) := by decide +kernel
theorem dX11_opensOne_47 : decode cX11_opensOne 47 = .ok (.iconst 1, 1) := by decide +kernel
theorem dX11_opensOne_48 : decode cX11_opensOne 48 = .ok (.iadd, 1) := by decide +kernel
theorem dX11_opensOne_49 : decode cX11_opensOne 49 = .ok (.putfield 154, 3) := by decide +kernel
theorem dX11_opensOne_52 : decode cX11_opensOne 52 = .ok (.return_, 1) := by decide +kernel
theorem dX11_readSum_0 : decode cX11_readSum 0 = .ok (.aload_n 0, 1) := by decide +kernel
theorem dX11_readSum_1 : decode cX11_readSum 1 = .ok (.invokevirtual 249, 3) := by decide +kernel
theorem dX11_readSum_4 : decode cX11_readSum 4 = .ok (.aload_n 0, 1) := by decide +kernel
theorem dX11_readSum_5 : decode cX11_readSum 5 = .ok (.invokevirtual 143, 3) := by decide +kernel
theorem dX11_readSum_8 : decode cX11_readSum 8 = .ok (.ifCond .eq 59, 3) := by decide +kernel
theorem dX11_readSum_11 : decode cX11_readSum 11 = .ok (.aload_n 0, 1) := by decide +kernel
theorem dX11_readSum_12 : decode cX11_readSum 12 = .ok (.invokevirtual 126, 3) := by decide +kernel
theorem dX11_readSum_15 : decode cX11_readSum 15 = .ok (.bipush 43, 2) := by decide +kernel
theorem dX11_readSum_17 : decode cX11_readSum 17 = .ok (.if_icmp .eq 12, 3) := by decide +kernel
theorem dX11_readSum_20 : decode cX11_readSum 20 = .ok (.aload_n 0, 1) := by decide +kernel
theorem dX11_readSum_21 : decode cX11_readSum 21 = .ok (.invokevirtual 126, 3) := by decide +kernel
theorem dX11_readSum_24 : decode cX11_readSum 24 = .ok (.bipush 45, 2) := by decide +kernel
theorem dX11_readSum_26 : decode cX11_readSum 26 = .ok (.if_icmp .ne 41, 3) := by decide +kernel
theorem dX11_readSum_29 : decode cX11_readSum 29 = .ok (.aload_n 0, 1) := by decide +kernel
theorem dX11_readSum_30 : decode cX11_readSum 30 = .ok (.invokevirtual 126, 3) := by decide +kernel
theorem dX11_readSum_33 : decode cX11_readSum 33 = .ok (.bipush 43, 2) := by decide +kernel
theorem dX11_readSum_35 : decode cX11_readSum 35 = .ok (.if_icmp .ne 7, 3) := by decide +kernel
theorem dX11_readSum_38 : decode cX11_readSum 38 = .ok (.iconst 2, 1) := by decide +kernel
theorem dX11_readSum_39 : decode cX11_readSum 39 = .ok (.goto 4, 3) := by decide +kernel
theorem dX11_readSum_42 : decode cX11_readSum 42 = .ok (.iconst 3, 1) := by decide +kernel
theorem dX11_readSum_43 : decode cX11_readSum 43 = .ok (.istore_n 1, 1) := by decide +kernel
theorem dX11_readSum_44 : decode cX11_readSum 44 = .ok (.aload_n 0, 1) := by decide +kernel
theorem dX11_readSum_45 : decode cX11_readSum 45 = .ok (.dup, 1) := by decide +kernel
theorem dX11_readSum_46 : decode cX11_readSum 46 = .ok (.getfield 120, 3) := by decide +kernel
theorem dX11_readSum_49 : decode cX11_readSum 49 = .ok (.iconst 1, 1) := by decide +kernel
theorem dX11_readSum_50 : decode cX11_readSum 50 = .ok (.iadd, 1) := by decide +kernel
theorem dX11_readSum_51 : decode cX11_readSum 51 = .ok (.putfield 120, 3) := by decide +kernel
theorem dX11_readSum_54 : decode cX11_readSum 54 = .ok (.aload_n 0, 1) := by decide +kernel
theorem dX11_readSum_55 : decode cX11_readSum 55 = .ok (.invokevirtual 249, 3) := by decide +kernel
theorem dX11_readSum_58 : decode cX11_readSum 58 = .ok (.aload_n 0, 1) := by decide +kernel
theorem dX11_readSum_59 : decode cX11_readSum 59 = .ok (.iload_n 1, 1) := by decide +kernel
theorem dX11_readSum_60 : decode cX11_readSum 60 = .ok (.iconst 0, 1) := by decide +kernel
theorem dX11_readSum_61 : decode cX11_readSum 61 = .ok (.invokevirtual 252, 3) := by decide +kernel
theorem dX11_readSum_64 : decode cX11_readSum 64 = .ok (.goto (-60), 3) := by decide +kernel
theorem dX11_readSum_67 : decode cX11_readSum 67 = .ok (.return_, 1) := by decide +kernel
theorem dX11_readProduct_0 : decode cX11_readProduct 0 = .ok (.aload_n 0, 1) := by decide +kernel
theorem dX11_readProduct_1 : decode cX11_readProduct 1 = .ok (.invokevirtual 255, 3) := by decide +kernel
theorem dX11_readProduct_4 : decode cX11_readProduct 4 = .ok (.aload_n 0, 1) := by decide +kernel
theorem dX11_readProduct_5 : decode cX11_readProduct 5 = .ok (.invokevirtual 143, 3) := by decide +kernel
theorem dX11_readProduct_8 : decode cX11_readProduct 8 = .ok (.ifCond .eq 82, 3) := by decide +kernel
theorem dX11_readProduct_11 : decode cX11_readProduct 11 = .ok (.aload_n 0, 1) := by decide +kernel
theorem dX11_readProduct_12 : decode cX11_readProduct 12 = .ok (.invokevirtual 126, 3) := by decide +kernel
theorem dX11_readProduct_15 : decode cX11_readProduct 15 = .ok (.bipush 42, 2) := by decide +kernel
theorem dX11_readProduct_17 : decode cX11_readProduct 17 = .ok (.if_icmp .eq 21, 3) := by decide +kernel
theorem dX11_readProduct_20 : decode cX11_readProduct 20 = .ok (.aload_n 0, 1) := by decide +kernel
theorem dX11_readProduct_21 : decode cX11_readProduct 21 = .ok (.invokevirtual 126, 3) := by decide +kernel
theorem dX11_readProduct_24 : decode cX11_readProduct 24 = .ok (.bipush 47, 2) := by decide +kernel
theorem dX11_readProduct_26 : decode cX11_readProduct 26 = .ok (.if_icmp .eq 12, 3) := by decide +kernel
theorem dX11_readProduct_29 : decode cX11_readProduct 29 = .ok (.aload_n 0, 1) := by decide +kernel
theorem dX11_readProduct_30 : decode cX11_readProduct 30 = .ok (.invokevirtual 126, 3) := by decide +kernel
theorem dX11_readProduct_33 : decode cX11_readProduct 33 = .ok (.bipush 37, 2) := by decide +kernel
theorem dX11_readProduct_35 : decode cX11_readProduct 35 = .ok (.if_icmp .ne 55, 3) := by decide +kernel
theorem dX11_readProduct_38 : decode cX11_readProduct 38 = .ok (.aload_n 0, 1) := by decide +kernel
theorem dX11_readProduct_39 : decode cX11_readProduct 39 = .ok (.invokevirtual 126, 3) := by decide +kernel
theorem dX11_readProduct_42 : decode cX11_readProduct 42 = .ok (.bipush 42, 2) := by decide +kernel
theorem dX11_readProduct_44 : decode cX11_readProduct 44 = .ok (.if_icmp .ne 7, 3) := by decide +kernel
theorem dX11_readProduct_47 : decode cX11_readProduct 47 = .ok (.iconst 4, 1) := by decide +kernel
theorem dX11_readProduct_48 : decode cX11_readProduct 48 = .ok (.goto 18, 3) := by decide +kernel
theorem dX11_readProduct_51 : decode cX11_readProduct 51 = .ok (.aload_n 0, 1) := by decide +kernel
theorem dX11_readProduct_52 : decode cX11_readProduct 52 = .ok (.invokevirtual 126, 3) := by decide +kernel
theorem dX11_readProduct_55 : decode cX11_readProduct 55 = .ok (.bipush 47, 2) := by decide +kernel
theorem dX11_readProduct_57 : decode cX11_readProduct 57 = .ok (.if_icmp .ne 7, 3) := by decide +kernel
theorem dX11_readProduct_60 : decode cX11_readProduct 60 = .ok (.iconst 5, 1) := by decide +kernel
theorem dX11_readProduct_61 : decode cX11_readProduct 61 = .ok (.goto 5, 3) := by decide +kernel
theorem dX11_readProduct_64 : decode cX11_readProduct 64 = .ok (.bipush 8, 2) := by decide +kernel
theorem dX11_readProduct_66 : decode cX11_readProduct 66 = .ok (.istore_n 1, 1) := by decide +kernel
theorem dX11_readProduct_67 : decode cX11_readProduct 67 = .ok (.aload_n 0, 1) := by decide +kernel
theorem dX11_readProduct_68 : decode cX11_readProduct 68 = .ok (.dup, 1) := by decide +kernel
theorem dX11_readProduct_69 : decode cX11_readProduct 69 = .ok (.getfield 120, 3) := by decide +kernel
theorem dX11_readProduct_72 : decode cX11_readProduct 72 = .ok (.iconst 1, 1) := by decide +kernel
theorem dX11_readProduct_73 : decode cX11_readProduct 73 = .ok (.iadd, 1) := by decide +kernel
theorem dX11_readProduct_74 : decode cX11_readProduct 74 = .ok (.putfield 120, 3) := by decide +kernel
theorem dX11_readProduct_77 : decode cX11_readProduct 77 = .ok (.aload_n 0, 1) := by decide +kernel
theorem dX11_readProduct_78 : decode cX11_readProduct 78 = .ok (.invokevirtual 255, 3) := by decide +kernel
theorem dX11_readProduct_81 : decode cX11_readProduct 81 = .ok (.aload_n 0, 1) := by decide +kernel
theorem dX11_readProduct_82 : decode cX11_readProduct 82 = .ok (.iload_n 1, 1) := by decide +kernel
theorem dX11_readProduct_83 : decode cX11_readProduct 83 = .ok (.iconst 0, 1) := by decide +kernel
theorem dX11_readProduct_84 : decode cX11_readProduct 84 = .ok (.invokevirtual 252, 3) := by decide +kernel
theorem dX11_readProduct_87 : decode cX11_readProduct 87 = .ok (.goto (-83), 3) := by decide +kernel
theorem dX11_readProduct_90 : decode cX11_readProduct 90 = .ok (.return_, 1) := by decide +kernel
theorem dX11_readTwo_0 : decode cX11_readTwo 0 = .ok (.aload_n 0, 1) := by decide +kernel
theorem dX11_readTwo_1 : decode cX11_readTwo 1 = .ok (.iload_n 1, 1) := by decide +kernel
theorem dX11_readTwo_2 : decode cX11_readTwo 2 = .ok (.invokevirtual 258, 3) := by decide +kernel
theorem dX11_readTwo_5 : decode cX11_readTwo 5 = .ok (.aload_n 0, 1) := by decide +kernel
theorem dX11_readTwo_6 : decode cX11_readTwo 6 = .ok (.bipush 91, 2) := by decide +kernel
theorem dX11_readTwo_8 : decode cX11_readTwo 8 = .ok (.invokevirtual 239, 3) := by decide +kernel
theorem dX11_readTwo_11 : decode cX11_readTwo 11 = .ok (.aload_n 0, 1) := by decide +kernel
theorem dX11_readTwo_12 : decode cX11_readTwo 12 = .ok (.invokevirtual 261, 3) := by decide +kernel
theorem dX11_readTwo_15 : decode cX11_readTwo 15 = .ok (.aload_n 0, 1) := by decide +kernel
theorem dX11_readTwo_16 : decode cX11_readTwo 16 = .ok (.bipush 44, 2) := by decide +kernel
theorem dX11_readTwo_18 : decode cX11_readTwo 18 = .ok (.invokevirtual 239, 3) := by decide +kernel
theorem dX11_readTwo_21 : decode cX11_readTwo 21 = .ok (.aload_n 0, 1) := by decide +kernel
theorem dX11_readTwo_22 : decode cX11_readTwo 22 = .ok (.invokevirtual 261, 3) := by decide +kernel
theorem dX11_readTwo_25 : decode cX11_readTwo 25 = .ok (.aload_n 0, 1) := by decide +kernel
theorem dX11_readTwo_26 : decode cX11_readTwo 26 = .ok (.bipush 93, 2) := by decide +kernel
theorem dX11_readTwo_28 : decode cX11_readTwo 28 = .ok (.invokevirtual 239, 3) := by decide +kernel
theorem dX11_readTwo_31 : decode cX11_readTwo 31 = .ok (.aload_n 0, 1) := by decide +kernel
theorem dX11_readTwo_32 : decode cX11_readTwo 32 = .ok (.dup, 1) := by decide +kernel
theorem dX11_readTwo_33 : decode cX11_readTwo 33 = .ok (.getfield 154, 3) := by decide +kernel
theorem dX11_readTwo_36 : decode cX11_readTwo 36 = .ok (.iconst 1, 1) := by decide +kernel
theorem dX11_readTwo_37 : decode cX11_readTwo 37 = .ok (.isub, 1) := by decide +kernel
theorem dX11_readTwo_38 : decode cX11_readTwo 38 = .ok (.putfield 154, 3) := by decide +kernel
theorem dX11_readTwo_41 : decode cX11_readTwo 41 = .ok (.aload_n 0, 1) := by decide +kernel
theorem dX11_readTwo_42 : decode cX11_readTwo 42 = .ok (.iload_n 2, 1) := by decide +kernel
theorem dX11_readTwo_43 : decode cX11_readTwo 43 = .ok (.iconst 0, 1) := by decide +kernel
theorem dX11_readTwo_44 : decode cX11_readTwo 44 = .ok (.invokevirtual 252, 3) := by decide +kernel
theorem dX11_readTwo_47 : decode cX11_readTwo 47 = .ok (.return_, 1) := by decide +kernel
theorem dX11_factHere_0 : decode cX11_factHere 0 = .ok (.aload_n 0, 1) := by decide +kernel
theorem dX11_factHere_1 : decode cX11_factHere 1 = .ok (.invokevirtual 224, 3) := by decide +kernel
theorem dX11_factHere_4 : decode cX11_factHere 4 = .ok (.istore_n 1, 1) := by decide +kernel
theorem dX11_factHere_5 : decode cX11_factHere 5 = .ok (.iload_n 1, 1) := by decide +kernel
theorem dX11_factHere_6 : decode cX11_factHere 6 = .ok (.ldc_w 264, 3) := by decide +kernel
theorem dX11_factHere_9 : decode cX11_factHere 9 = .ok (.invokestatic 202, 3) := by decide +kernel
theorem dX11_factHere_12 : decode cX11_factHere 12 = .ok (.if_icmp .ne 7, 3) := by decide +kernel
theorem dX11_factHere_15 : decode cX11_factHere 15 = .ok (.iconst 0, 1) := by decide +kernel
theorem dX11_factHere_16 : decode cX11_factHere 16 = .ok (.goto 103, 3) := by decide +kernel
theorem dX11_factHere_19 : decode cX11_factHere 19 = .ok (.iload_n 1, 1) := by decide +kernel
theorem dX11_factHere_20 : decode cX11_factHere 20 = .ok (.ldc_w 266, 3) := by decide +kernel
theorem dX11_factHere_23 : decode cX11_factHere 23 = .ok (.invokestatic 202, 3) := by decide +kernel
theorem dX11_factHere_26 : decode cX11_factHere 26 = .ok (.if_icmp .ne 7, 3) := by decide +kernel
theorem dX11_factHere_29 : decode cX11_factHere 29 = .ok (.iconst 1, 1) := by decide +kernel
theorem dX11_factHere_30 : decode cX11_factHere 30 = .ok (.goto 89, 3) := by decide +kernel
theorem dX11_factHere_33 : decode cX11_factHere 33 = .ok (.iload_n 1, 1) := by decide +kernel
theorem dX11_factHere_34 : decode cX11_factHere 34 = .ok (.ldc_w 268, 3) := by decide +kernel
theorem dX11_factHere_37 : decode cX11_factHere 37 = .ok (.invokestatic 202, 3) := by decide +kernel
theorem dX11_factHere_40 : decode cX11_factHere 40 = .ok (.if_icmp .ne 7, 3) := by decide +kernel
theorem dX11_factHere_43 : decode cX11_factHere 43 = .ok (.iconst 2, 1) := by decide +kernel
theorem dX11_factHere_44 : decode cX11_factHere 44 = .ok (.goto 75, 3) := by decide +kernel
theorem dX11_factHere_47 : decode cX11_factHere 47 = .ok (.iload_n 1, 1) := by decide +kernel
theorem dX11_factHere_48 : decode cX11_factHere 48 = .ok (.ldc_w 270, 3) := by decide +kernel
theorem dX11_factHere_51 : decode cX11_factHere 51 = .ok (.invokestatic 202, 3) := by decide +kernel
theorem dX11_factHere_54 : decode cX11_factHere 54 = .ok (.if_icmp .ne 7, 3) := by decide +kernel
theorem dX11_factHere_57 : decode cX11_factHere 57 = .ok (.iconst 3, 1) := by decide +kernel
theorem dX11_factHere_58 : decode cX11_factHere 58 = .ok (.goto 61, 3) := by decide +kernel
theorem dX11_factHere_61 : decode cX11_factHere 61 = .ok (.iload_n 1, 1) := by decide +kernel
theorem dX11_factHere_62 : decode cX11_factHere 62 = .ok (.ldc_w 272, 3) := by decide +kernel
theorem dX11_factHere_65 : decode cX11_factHere 65 = .ok (.invokestatic 202, 3) := by decide +kernel
theorem dX11_factHere_68 : decode cX11_factHere 68 = .ok (.if_icmp .ne 7, 3) := by decide +kernel
theorem dX11_factHere_71 : decode cX11_factHere 71 = .ok (.iconst 4, 1) := by decide +kernel
theorem dX11_factHere_72 : decode cX11_factHere 72 = .ok (.goto 47, 3) := by decide +kernel
theorem dX11_factHere_75 : decode cX11_factHere 75 = .ok (.iload_n 1, 1) := by decide +kernel
theorem dX11_factHere_76 : decode cX11_factHere 76 = .ok (.ldc_w 274, 3) := by decide +kernel
theorem dX11_factHere_79 : decode cX11_factHere 79 = .ok (.invokestatic 202, 3) := by decide +kernel
theorem dX11_factHere_82 : decode cX11_factHere 82 = .ok (.if_icmp .ne 7, 3) := by decide +kernel
theorem dX11_factHere_85 : decode cX11_factHere 85 = .ok (.iconst 5, 1) := by decide +kernel
theorem dX11_factHere_86 : decode cX11_factHere 86 = .ok (.goto 33, 3) := by decide +kernel
theorem dX11_factHere_89 : decode cX11_factHere 89 = .ok (.iload_n 1, 1) := by decide +kernel
theorem dX11_factHere_90 : decode cX11_factHere 90 = .ok (.ldc 206, 2) := by decide +kernel
theorem dX11_factHere_92 : decode cX11_factHere 92 = .ok (.invokestatic 202, 3) := by decide +kernel
theorem dX11_factHere_95 : decode cX11_factHere 95 = .ok (.if_icmp .ne 8, 3) := by decide +kernel
theorem dX11_factHere_98 : decode cX11_factHere 98 = .ok (.bipush 6, 2) := by decide +kernel
theorem dX11_factHere_100 : decode cX11_factHere 100 = .ok (.goto 19, 3) := by decide +kernel
theorem dX11_factHere_103 : decode cX11_factHere 103 = .ok (.iload_n 1, 1) := by decide +kernel
theorem dX11_factHere_104 : decode cX11_factHere 104 = .ok (.ldc_w 276, 3) := by decide +kernel
theorem dX11_factHere_107 : decode cX11_factHere 107 = .ok (.invokestatic 202, 3) := by decide +kernel
theorem dX11_factHere_110 : decode cX11_factHere 110 = .ok (.if_icmp .ne 8, 3) := by decide +kernel
theorem dX11_factHere_113 : decode cX11_factHere 113 = .ok (.bipush 7, 2) := by decide +kernel
theorem dX11_factHere_115 : decode cX11_factHere 115 = .ok (.goto 4, 3) := by decide +kernel
theorem dX11_factHere_118 : decode cX11_factHere 118 = .ok (.iconst (-1), 1) := by decide +kernel
theorem dX11_factHere_119 : decode cX11_factHere 119 = .ok (.ireturn, 1) := by decide +kernel
theorem dX11_readUnit_0 : decode cX11_readUnit 0 = .ok (.aload_n 0, 1) := by decide +kernel
theorem dX11_readUnit_1 : decode cX11_readUnit 1 = .ok (.invokevirtual 143, 3) := by decide +kernel
theorem dX11_readUnit_4 : decode cX11_readUnit 4 = .ok (.ifCond .ne 4, 3) := by decide +kernel
theorem dX11_readUnit_7 : decode cX11_readUnit 7 = .ok (.return_, 1) := by decide +kernel
theorem dX11_readUnit_8 : decode cX11_readUnit 8 = .ok (.aload_n 0, 1) := by decide +kernel
theorem dX11_readUnit_9 : decode cX11_readUnit 9 = .ok (.invokevirtual 126, 3) := by decide +kernel
theorem dX11_readUnit_12 : decode cX11_readUnit 12 = .ok (.bipush 40, 2) := by decide +kernel
theorem dX11_readUnit_14 : decode cX11_readUnit 14 = .ok (.if_icmp .ne 31, 3) := by decide +kernel
theorem dX11_readUnit_17 : decode cX11_readUnit 17 = .ok (.aload_n 0, 1) := by decide +kernel
theorem dX11_readUnit_18 : decode cX11_readUnit 18 = .ok (.iconst 1, 1) := by decide +kernel
theorem dX11_readUnit_19 : decode cX11_readUnit 19 = .ok (.invokevirtual 258, 3) := by decide +kernel
theorem dX11_readUnit_22 : decode cX11_readUnit 22 = .ok (.aload_n 0, 1) := by decide +kernel
theorem dX11_readUnit_23 : decode cX11_readUnit 23 = .ok (.invokevirtual 261, 3) := by decide +kernel
theorem dX11_readUnit_26 : decode cX11_readUnit 26 = .ok (.aload_n 0, 1) := by decide +kernel
theorem dX11_readUnit_27 : decode cX11_readUnit 27 = .ok (.bipush 41, 2) := by decide +kernel
theorem dX11_readUnit_29 : decode cX11_readUnit 29 = .ok (.invokevirtual 239, 3) := by decide +kernel
theorem dX11_readUnit_32 : decode cX11_readUnit 32 = .ok (.aload_n 0, 1) := by decide +kernel
theorem dX11_readUnit_33 : decode cX11_readUnit 33 = .ok (.dup, 1) := by decide +kernel
theorem dX11_readUnit_34 : decode cX11_readUnit 34 = .ok (.getfield 154, 3) := by decide +kernel
theorem dX11_readUnit_37 : decode cX11_readUnit 37 = .ok (.iconst 1, 1) := by decide +kernel
theorem dX11_readUnit_38 : decode cX11_readUnit 38 = .ok (.isub, 1) := by decide +kernel
theorem dX11_readUnit_39 : decode cX11_readUnit 39 = .ok (.putfield 154, 3) := by decide +kernel
theorem dX11_readUnit_42 : decode cX11_readUnit 42 = .ok (.goto 112, 3) := by decide +kernel
theorem dX11_readUnit_45 : decode cX11_readUnit 45 = .ok (.aload_n 0, 1) := by decide +kernel
theorem dX11_readUnit_46 : decode cX11_readUnit 46 = .ok (.invokevirtual 126, 3) := by decide +kernel
theorem dX11_readUnit_49 : decode cX11_readUnit 49 = .ok (.invokestatic 147, 3) := by decide +kernel
theorem dX11_readUnit_52 : decode cX11_readUnit 52 = .ok (.ifCond .eq 19, 3) := by decide +kernel
theorem dX11_readUnit_55 : decode cX11_readUnit 55 = .ok (.aload_n 0, 1) := by decide +kernel
theorem dX11_readUnit_56 : decode cX11_readUnit 56 = .ok (.iconst 0, 1) := by decide +kernel
theorem dX11_readUnit_57 : decode cX11_readUnit 57 = .ok (.aload_n 0, 1) := by decide +kernel
theorem dX11_readUnit_58 : decode cX11_readUnit 58 = .ok (.iconst 0, 1) := by decide +kernel
theorem dX11_readUnit_59 : decode cX11_readUnit 59 = .ok (.sipush 999, 3) := by decide +kernel
theorem dX11_readUnit_62 : decode cX11_readUnit 62 = .ok (.invokevirtual 194, 3) := by decide +kernel
theorem dX11_readUnit_65 : decode cX11_readUnit 65 = .ok (.invokevirtual 252, 3) := by decide +kernel
theorem dX11_readUnit_68 : decode cX11_readUnit 68 = .ok (.goto 86, 3) := by decide +kernel
theorem dX11_readUnit_71 : decode cX11_readUnit 71 = .ok (.aload_n 0, 1) := by decide +kernel
theorem dX11_readUnit_72 : decode cX11_readUnit 72 = .ok (.invokevirtual 224, 3) := by decide +kernel
theorem dX11_readUnit_75 : decode cX11_readUnit 75 = .ok (.ldc_w 278, 3) := by decide +kernel
theorem dX11_readUnit_78 : decode cX11_readUnit 78 = .ok (.invokestatic 202, 3) := by decide +kernel
theorem dX11_readUnit_81 : decode cX11_readUnit 81 = .ok (.if_icmp .ne 13, 3) := by decide +kernel
theorem dX11_readUnit_84 : decode cX11_readUnit 84 = .ok (.aload_n 0, 1) := by decide +kernel
theorem dX11_readUnit_85 : decode cX11_readUnit 85 = .ok (.iconst 5, 1) := by decide +kernel
theorem dX11_readUnit_86 : decode cX11_readUnit 86 = .ok (.bipush 6, 2) := by decide +kernel
theorem dX11_readUnit_88 : decode cX11_readUnit 88 = .ok (.invokevirtual 280, 3) := by decide +kernel
theorem dX11_readUnit_91 : decode cX11_readUnit 91 = .ok (.goto 63, 3) := by decide +kernel
theorem dX11_readUnit_94 : decode cX11_readUnit 94 = .ok (.aload_n 0, 1) := by decide +kernel
theorem dX11_readUnit_95 : decode cX11_readUnit 95 = .ok (.invokevirtual 224, 3) := by decide +kernel
theorem dX11_readUnit_98 : decode cX11_readUnit 98 = .ok (.ldc_w 283, 3) := by decide +kernel
theorem dX11_readUnit_101 : decode cX11_readUnit 101 = .ok (.invokestatic 202, 3) := by decide +kernel
theorem dX11_readUnit_104 : decode cX11_readUnit 104 = .ok (.if_icmp .ne 13, 3) := by decide +kernel
theorem dX11_readUnit_107 : decode cX11_readUnit 107 = .ok (.aload_n 0, 1) := by decide +kernel
theorem dX11_readUnit_108 : decode cX11_readUnit 108 = .ok (.iconst 4, 1) := by decide +kernel
theorem dX11_readUnit_109 : decode cX11_readUnit 109 = .ok (.bipush 7, 2) := by decide +kernel
theorem dX11_readUnit_111 : decode cX11_readUnit 111 = .ok (.invokevirtual 280, 3) := by decide +kernel
theorem dX11_readUnit_114 : decode cX11_readUnit 114 = .ok (.goto 40, 3) := by decide +kernel
theorem dX11_readUnit_117 : decode cX11_readUnit 117 = .ok (.aload_n 0, 1) := by decide +kernel
theorem dX11_readUnit_118 : decode cX11_readUnit 118 = .ok (.invokevirtual 285, 3) := by decide +kernel
theorem dX11_readUnit_121 : decode cX11_readUnit 121 = .ok (.istore_n 1, 1) := by decide +kernel
theorem dX11_readUnit_122 : decode cX11_readUnit 122 = .ok (.iload_n 1, 1) := by decide +kernel
theorem dX11_readUnit_123 : decode cX11_readUnit 123 = .ok (.iconst (-1), 1) := by decide +kernel
theorem dX11_readUnit_124 : decode cX11_readUnit 124 = .ok (.if_icmp .ne 12, 3) := by decide +kernel
theorem dX11_readUnit_127 : decode cX11_readUnit 127 = .ok (.aload_n 0, 1) := by decide +kernel
theorem dX11_readUnit_128 : decode cX11_readUnit 128 = .ok (.iconst 1, 1) := by decide +kernel
theorem dX11_readUnit_129 : decode cX11_readUnit 129 = .ok (.aload_n 0, 1) := by decide +kernel
theorem dX11_readUnit_130 : decode cX11_readUnit 130 = .ok (.getfield 120, 3) := by decide +kernel
theorem dX11_readUnit_133 : decode cX11_readUnit 133 = .ok (.invokevirtual 150, 3) := by decide +kernel
theorem dX11_readUnit_136 : decode cX11_readUnit 136 = .ok (.aload_n 0, 1) := by decide +kernel
theorem dX11_readUnit_137 : decode cX11_readUnit 137 = .ok (.invokevirtual 143, 3) := by decide +kernel
theorem dX11_readUnit_140 : decode cX11_readUnit 140 = .ok (.ifCond .ne 4, 3) := by decide +kernel
theorem dX11_readUnit_143 : decode cX11_readUnit 143 = .ok (.return_, 1) := by decide +kernel
theorem dX11_readUnit_144 : decode cX11_readUnit 144 = .ok (.aload_n 0, 1) := by decide +kernel
theorem dX11_readUnit_145 : decode cX11_readUnit 145 = .ok (.invokevirtual 233, 3) := by decide +kernel
theorem dX11_readUnit_148 : decode cX11_readUnit 148 = .ok (.aload_n 0, 1) := by decide +kernel
theorem dX11_readUnit_149 : decode cX11_readUnit 149 = .ok (.iconst 1, 1) := by decide +kernel
theorem dX11_readUnit_150 : decode cX11_readUnit 150 = .ok (.iload_n 1, 1) := by decide +kernel
theorem dX11_readUnit_151 : decode cX11_readUnit 151 = .ok (.invokevirtual 252, 3) := by decide +kernel
theorem dX11_readUnit_154 : decode cX11_readUnit 154 = .ok (.return_, 1) := by decide +kernel
theorem dX11_law_0 : decode cX11_law 0 = .ok (.aload_n 0, 1) := by decide +kernel
theorem dX11_law_1 : decode cX11_law 1 = .ok (.iconst 0, 1) := by decide +kernel
theorem dX11_law_2 : decode cX11_law 2 = .ok (.putfield 3, 3) := by decide +kernel
theorem dX11_law_5 : decode cX11_law 5 = .ok (.aload_n 0, 1) := by decide +kernel
theorem dX11_law_6 : decode cX11_law 6 = .ok (.iload_n 1, 1) := by decide +kernel
theorem dX11_law_7 : decode cX11_law 7 = .ok (.ifCond .lt 22, 3) := by decide +kernel
theorem dX11_law_10 : decode cX11_law 10 = .ok (.iload_n 1, 1) := by decide +kernel
theorem dX11_law_11 : decode cX11_law 11 = .ok (.aload_n 0, 1) := by decide +kernel
theorem dX11_law_12 : decode cX11_law 12 = .ok (.getfield 111, 3) := by decide +kernel
theorem dX11_law_15 : decode cX11_law 15 = .ok (.if_icmp .gt 14, 3) := by decide +kernel
theorem dX11_law_18 : decode cX11_law 18 = .ok (.iload_n 1, 1) := by decide +kernel
theorem dX11_law_19 : decode cX11_law 19 = .ok (.sipush 150, 3) := by decide +kernel
theorem dX11_law_22 : decode cX11_law 22 = .ok (.if_icmp .gt 7, 3) := by decide +kernel
theorem dX11_law_25 : decode cX11_law 25 = .ok (.iconst 1, 1) := by decide +kernel
theorem dX11_law_26 : decode cX11_law 26 = .ok (.goto 4, 3) := by decide +kernel
theorem dX11_law_29 : decode cX11_law 29 = .ok (.iconst 0, 1) := by decide +kernel
theorem dX11_law_30 : decode cX11_law 30 = .ok (.iconst 1, 1) := by decide +kernel
theorem dX11_law_31 : decode cX11_law 31 = .ok (.iconst 1, 1) := by decide +kernel
theorem dX11_law_32 : decode cX11_law 32 = .ok (.invokevirtual 213, 3) := by decide +kernel
theorem dX11_law_35 : decode cX11_law 35 = .ok (.ifCond .ne 5, 3) := by decide +kernel
theorem dX11_law_38 : decode cX11_law 38 = .ok (.iconst 0, 1) := by decide +kernel
theorem dX11_law_39 : decode cX11_law 39 = .ok (.ireturn, 1) := by decide +kernel
theorem dX11_law_40 : decode cX11_law 40 = .ok (.aload_n 0, 1) := by decide +kernel
theorem dX11_law_41 : decode cX11_law 41 = .ok (.iload_n 1, 1) := by decide +kernel
theorem dX11_law_42 : decode cX11_law 42 = .ok (.invokevirtual 217, 3) := by decide +kernel
theorem dX11_law_45 : decode cX11_law 45 = .ok (.aload_n 0, 1) := by decide +kernel
theorem dX11_law_46 : decode cX11_law 46 = .ok (.iconst 0, 1) := by decide +kernel
theorem dX11_law_47 : decode cX11_law 47 = .ok (.putfield 246, 3) := by decide +kernel
theorem dX11_law_50 : decode cX11_law 50 = .ok (.aload_n 0, 1) := by decide +kernel
theorem dX11_law_51 : decode cX11_law 51 = .ok (.invokevirtual 261, 3) := by decide +kernel
theorem dX11_law_54 : decode cX11_law 54 = .ok (.aload_n 0, 1) := by decide +kernel
theorem dX11_law_55 : decode cX11_law 55 = .ok (.invokevirtual 143, 3) := by decide +kernel
theorem dX11_law_58 : decode cX11_law 58 = .ok (.ifCond .eq 19, 3) := by decide +kernel
theorem dX11_law_61 : decode cX11_law 61 = .ok (.aload_n 0, 1) := by decide +kernel
theorem dX11_law_62 : decode cX11_law 62 = .ok (.invokevirtual 221, 3) := by decide +kernel
theorem dX11_law_65 : decode cX11_law 65 = .ok (.ifCond .eq 12, 3) := by decide +kernel
theorem dX11_law_68 : decode cX11_law 68 = .ok (.aload_n 0, 1) := by decide +kernel
theorem dX11_law_69 : decode cX11_law 69 = .ok (.iconst 1, 1) := by decide +kernel
theorem dX11_law_70 : decode cX11_law 70 = .ok (.aload_n 0, 1) := by decide +kernel
theorem dX11_law_71 : decode cX11_law 71 = .ok (.getfield 120, 3) := by decide +kernel
theorem dX11_law_74 : decode cX11_law 74 = .ok (.invokevirtual 150, 3) := by decide +kernel
theorem dX11_law_77 : decode cX11_law 77 = .ok (.aload_n 0, 1) := by decide +kernel
theorem dX11_law_78 : decode cX11_law 78 = .ok (.iconst 1, 1) := by decide +kernel
theorem dX11_law_79 : decode cX11_law 79 = .ok (.invokevirtual 242, 3) := by decide +kernel
theorem dX11_law_82 : decode cX11_law 82 = .ok (.istore_n 2, 1) := by decide +kernel
theorem dX11_law_83 : decode cX11_law 83 = .ok (.aload_n 0, 1) := by decide +kernel
theorem dX11_law_84 : decode cX11_law 84 = .ok (.getfield 114, 3) := by decide +kernel
theorem dX11_law_87 : decode cX11_law 87 = .ok (.iconst (-1), 1) := by decide +kernel
theorem dX11_law_88 : decode cX11_law 88 = .ok (.if_icmp .eq 5, 3) := by decide +kernel
theorem dX11_law_91 : decode cX11_law 91 = .ok (.iload_n 2, 1) := by decide +kernel
theorem dX11_law_92 : decode cX11_law 92 = .ok (.ireturn, 1) := by decide +kernel
theorem dX11_law_93 : decode cX11_law 93 = .ok (.aload_n 0, 1) := by decide +kernel
theorem dX11_law_94 : decode cX11_law 94 = .ok (.aload_n 0, 1) := by decide +kernel
theorem dX11_law_95 : decode cX11_law 95 = .ok (.getfield 246, 3) := by decide +kernel
theorem dX11_law_98 : decode cX11_law 98 = .ok (.putfield 179, 3) := by decide +kernel
theorem dX11_law_101 : decode cX11_law 101 = .ok (.aload_n 0, 1) := by decide +kernel
theorem dX11_law_102 : decode cX11_law 102 = .ok (.aload_n 0, 1) := by decide +kernel
theorem dX11_law_103 : decode cX11_law 103 = .ok (.getfield 44, 3) := by decide +kernel
theorem dX11_law_106 : decode cX11_law 106 = .ok (.aload_n 0, 1) := by decide +kernel
theorem dX11_law_107 : decode cX11_law 107 = .ok (.getfield 50, 3) := by decide +kernel
theorem dX11_law_110 : decode cX11_law 110 = .ok (.aload_n 0, 1) := by decide +kernel
theorem dX11_law_111 : decode cX11_law 111 = .ok (.getfield 246, 3) := by decide +kernel
theorem dX11_law_114 : decode cX11_law 114 = .ok (.invokevirtual 175, 3) := by decide +kernel
theorem dX11_law_117 : decode cX11_law 117 = .ok (.aload_n 0, 1) := by decide +kernel
theorem dX11_law_118 : decode cX11_law 118 = .ok (.aload_n 0, 1) := by decide +kernel
theorem dX11_law_119 : decode cX11_law 119 = .ok (.getfield 47, 3) := by decide +kernel
theorem dX11_law_122 : decode cX11_law 122 = .ok (.aload_n 0, 1) := by decide +kernel
theorem dX11_law_123 : decode cX11_law 123 = .ok (.getfield 53, 3) := by decide +kernel
theorem dX11_law_126 : decode cX11_law 126 = .ok (.aload_n 0, 1) := by decide +kernel
theorem dX11_law_127 : decode cX11_law 127 = .ok (.getfield 246, 3) := by decide +kernel
theorem dX11_law_130 : decode cX11_law 130 = .ok (.invokevirtual 175, 3) := by decide +kernel
theorem dX11_law_133 : decode cX11_law 133 = .ok (.iload_n 2, 1) := by decide +kernel
theorem dX11_law_134 : decode cX11_law 134 = .ok (.ireturn, 1) := by decide +kernel
theorem dX11_valueNow_0 : decode cX11_valueNow 0 = .ok (.iconst 0, 1) := by decide +kernel
theorem dX11_valueNow_1 : decode cX11_valueNow 1 = .ok (.istore_n 1, 1) := by decide +kernel
theorem dX11_valueNow_2 : decode cX11_valueNow 2 = .ok (.iconst 0, 1) := by decide +kernel
theorem dX11_valueNow_3 : decode cX11_valueNow 3 = .ok (.istore_n 2, 1) := by decide +kernel
theorem dX11_valueNow_4 : decode cX11_valueNow 4 = .ok (.iload_n 2, 1) := by decide +kernel
theorem dX11_valueNow_5 : decode cX11_valueNow 5 = .ok (.aload_n 0, 1) := by decide +kernel
theorem dX11_valueNow_6 : decode cX11_valueNow 6 = .ok (.getfield 179, 3) := by decide +kernel
theorem dX11_valueNow_9 : decode cX11_valueNow 9 = .ok (.if_icmp .ge 86, 3) := by decide +kernel
theorem dX11_valueNow_12 : decode cX11_valueNow 12 = .ok (.aload_n 0, 1) := by decide +kernel
theorem dX11_valueNow_13 : decode cX11_valueNow 13 = .ok (.getfield 50, 3) := by decide +kernel
theorem dX11_valueNow_16 : decode cX11_valueNow 16 = .ok (.iload_n 2, 1) := by decide +kernel
theorem dX11_valueNow_17 : decode cX11_valueNow 17 = .ok (.iaload, 1) := by decide +kernel
theorem dX11_valueNow_18 : decode cX11_valueNow 18 = .ok (.istore_n 3, 1) := by decide +kernel
theorem dX11_valueNow_19 : decode cX11_valueNow 19 = .ok (.iload_n 3, 1) := by decide +kernel
theorem dX11_valueNow_20 : decode cX11_valueNow 20 = .ok (.iconst 1, 1) := by decide +kernel
theorem dX11_valueNow_21 : decode cX11_valueNow 21 = .ok (.if_icmp .gt 39, 3) := by decide +kernel
theorem dX11_valueNow_24 : decode cX11_valueNow 24 = .ok (.aload_n 0, 1) := by decide +kernel
theorem dX11_valueNow_25 : decode cX11_valueNow 25 = .ok (.getfield 56, 3) := by decide +kernel
theorem dX11_valueNow_28 : decode cX11_valueNow 28 = .ok (.iload_n 1, 1) := by decide +kernel
theorem dX11_valueNow_29 : decode cX11_valueNow 29 = .ok (.iload_n 3, 1) := by decide +kernel
theorem dX11_valueNow_30 : decode cX11_valueNow 30 = .ok (.ifCond .ne 12, 3) := by decide +kernel
theorem dX11_valueNow_33 : decode cX11_valueNow 33 = .ok (.aload_n 0, 1) := by decide +kernel
theorem dX11_valueNow_34 : decode cX11_valueNow 34 = .ok (.getfield 53, 3) := by decide +kernel
theorem dX11_valueNow_37 : decode cX11_valueNow 37 = .ok (.iload_n 2, 1) := by decide +kernel
theorem dX11_valueNow_38 : decode cX11_valueNow 38 = .ok (.iaload, 1) := by decide +kernel
theorem dX11_valueNow_39 : decode cX11_valueNow 39 = .ok (.goto 14, 3) := by decide +kernel
theorem dX11_valueNow_42 : decode cX11_valueNow 42 = .ok (.aload_n 0, 1) := by decide +kernel
theorem dX11_valueNow_43 : decode cX11_valueNow 43 = .ok (.getfield 59, 3) := by decide +kernel
theorem dX11_valueNow_46 : decode cX11_valueNow 46 = .ok (.aload_n 0, 1) := by decide +kernel
theorem dX11_valueNow_47 : decode cX11_valueNow 47 = .ok (.getfield 53, 3) := by decide +kernel
theorem dX11_valueNow_50 : decode cX11_valueNow 50 = .ok (.iload_n 2, 1) := by decide +kernel
theorem dX11_valueNow_51 : decode cX11_valueNow 51 = .ok (.iaload, 1) := by decide +kernel
theorem dX11_valueNow_52 : decode cX11_valueNow 52 = .ok (.iaload, 1) := by decide +kernel
theorem dX11_valueNow_53 : decode cX11_valueNow 53 = .ok (.iastore, 1) := by decide +kernel
theorem dX11_valueNow_54 : decode cX11_valueNow 54 = .ok (.iinc 1 1, 3) := by decide +kernel
theorem dX11_valueNow_57 : decode cX11_valueNow 57 = .ok (.goto 32, 3) := by decide +kernel
theorem dX11_valueNow_60 : decode cX11_valueNow 60 = .ok (.iinc 1 (-1), 3) := by decide +kernel
theorem dX11_valueNow_63 : decode cX11_valueNow 63 = .ok (.aload_n 0, 1) := by decide +kernel
theorem dX11_valueNow_64 : decode cX11_valueNow 64 = .ok (.getfield 56, 3) := by decide +kernel
theorem dX11_valueNow_67 : decode cX11_valueNow 67 = .ok (.iload_n 1, 1) := by decide +kernel
theorem dX11_valueNow_68 : decode cX11_valueNow 68 = .ok (.iconst 1, 1) := by decide +kernel
theorem dX11_valueNow_69 : decode cX11_valueNow 69 = .ok (.isub, 1) := by decide +kernel
theorem dX11_valueNow_70 : decode cX11_valueNow 70 = .ok (.iload_n 3, 1) := by decide +kernel
theorem dX11_valueNow_71 : decode cX11_valueNow 71 = .ok (.aload_n 0, 1) := by decide +kernel
theorem dX11_valueNow_72 : decode cX11_valueNow 72 = .ok (.getfield 56, 3) := by decide +kernel
theorem dX11_valueNow_75 : decode cX11_valueNow 75 = .ok (.iload_n 1, 1) := by decide +kernel
theorem dX11_valueNow_76 : decode cX11_valueNow 76 = .ok (.iconst 1, 1) := by decide +kernel
theorem dX11_valueNow_77 : decode cX11_valueNow 77 = .ok (.isub, 1) := by decide +kernel
theorem dX11_valueNow_78 : decode cX11_valueNow 78 = .ok (.iaload, 1) := by decide +kernel
theorem dX11_valueNow_79 : decode cX11_valueNow 79 = .ok (.aload_n 0, 1) := by decide +kernel
theorem dX11_valueNow_80 : decode cX11_valueNow 80 = .ok (.getfield 56, 3) := by decide +kernel
theorem dX11_valueNow_83 : decode cX11_valueNow 83 = .ok (.iload_n 1, 1) := by decide +kernel
theorem dX11_valueNow_84 : decode cX11_valueNow 84 = .ok (.iaload, 1) := by decide +kernel
theorem dX11_valueNow_85 : decode cX11_valueNow 85 = .ok (.invokestatic 288, 3) := by decide +kernel
theorem dX11_valueNow_88 : decode cX11_valueNow 88 = .ok (.iastore, 1) := by decide +kernel
theorem dX11_valueNow_89 : decode cX11_valueNow 89 = .ok (.iinc 2 1, 3) := by decide +kernel
theorem dX11_valueNow_92 : decode cX11_valueNow 92 = .ok (.goto (-88), 3) := by decide +kernel
theorem dX11_valueNow_95 : decode cX11_valueNow 95 = .ok (.aload_n 0, 1) := by decide +kernel
theorem dX11_valueNow_96 : decode cX11_valueNow 96 = .ok (.getfield 56, 3) := by decide +kernel
theorem dX11_valueNow_99 : decode cX11_valueNow 99 = .ok (.iconst 0, 1) := by decide +kernel
theorem dX11_valueNow_100 : decode cX11_valueNow 100 = .ok (.iaload, 1) := by decide +kernel
theorem dX11_valueNow_101 : decode cX11_valueNow 101 = .ok (.ireturn, 1) := by decide +kernel
theorem dX11_both_0 : decode cX11_both 0 = .ok (.iload_n 0, 1) := by decide +kernel
theorem dX11_both_1 : decode cX11_both 1 = .ok (.iconst 2, 1) := by decide +kernel
theorem dX11_both_2 : decode cX11_both 2 = .ok (.if_icmp .ne 7, 3) := by decide +kernel
theorem dX11_both_5 : decode cX11_both 5 = .ok (.iload_n 1, 1) := by decide +kernel
theorem dX11_both_6 : decode cX11_both 6 = .ok (.iload_n 2, 1) := by decide +kernel
theorem dX11_both_7 : decode cX11_both 7 = .ok (.iadd, 1) := by decide +kernel
theorem dX11_both_8 : decode cX11_both 8 = .ok (.ireturn, 1) := by decide +kernel
theorem dX11_both_9 : decode cX11_both 9 = .ok (.iload_n 0, 1) := by decide +kernel
theorem dX11_both_10 : decode cX11_both 10 = .ok (.iconst 3, 1) := by decide +kernel
theorem dX11_both_11 : decode cX11_both 11 = .ok (.if_icmp .ne 7, 3) := by decide +kernel
theorem dX11_both_14 : decode cX11_both 14 = .ok (.iload_n 1, 1) := by decide +kernel
theorem dX11_both_15 : decode cX11_both 15 = .ok (.iload_n 2, 1) := by decide +kernel
theorem dX11_both_16 : decode cX11_both 16 = .ok (.isub, 1) := by decide +kernel
theorem dX11_both_17 : decode cX11_both 17 = .ok (.ireturn, 1) := by decide +kernel
theorem dX11_both_18 : decode cX11_both 18 = .ok (.iload_n 0, 1) := by decide +kernel
theorem dX11_both_19 : decode cX11_both 19 = .ok (.iconst 4, 1) := by decide +kernel
theorem dX11_both_20 : decode cX11_both 20 = .ok (.if_icmp .ne 7, 3) := by decide +kernel
theorem dX11_both_23 : decode cX11_both 23 = .ok (.iload_n 1, 1) := by decide +kernel
theorem dX11_both_24 : decode cX11_both 24 = .ok (.iload_n 2, 1) := by decide +kernel
theorem dX11_both_25 : decode cX11_both 25 = .ok (.imul, 1) := by decide +kernel
