theorem dX11_findSeats_345 : decode cX11_findSeats 345 = .ok (.aload_n 0, 1) := by decide +kernel
theorem dX11_findSeats_346 : decode cX11_findSeats 346 = .ok (.getfield 86, 3) := by decide +kernel
theorem dX11_findSeats_349 : decode cX11_findSeats 349 = .ok (.iload_n 2, 1) := by decide +kernel
theorem dX11_findSeats_350 : decode cX11_findSeats 350 = .ok (.iaload, 1) := by decide +kernel
theorem dX11_findSeats_351 : decode cX11_findSeats 351 = .ok (.ishl, 1) := by decide +kernel
theorem dX11_findSeats_352 : decode cX11_findSeats 352 = .ok (.ior, 1) := by decide +kernel
theorem dX11_findSeats_353 : decode cX11_findSeats 353 = .ok (.istore_n 1, 1) := by decide +kernel
theorem dX11_findSeats_354 : decode cX11_findSeats 354 = .ok (.iinc 2 1, 3) := by decide +kernel
theorem dX11_findSeats_357 : decode cX11_findSeats 357 = .ok (.goto (-114), 3) := by decide +kernel
theorem dX11_findSeats_360 : decode cX11_findSeats 360 = .ok (.return_, 1) := by decide +kernel
theorem dX11_seats_0 : decode cX11_seats 0 = .ok (.aload_n 0, 1) := by decide +kernel
theorem dX11_seats_1 : decode cX11_seats 1 = .ok (.iconst 0, 1) := by decide +kernel
theorem dX11_seats_2 : decode cX11_seats 2 = .ok (.putfield 3, 3) := by decide +kernel
theorem dX11_seats_5 : decode cX11_seats 5 = .ok (.aload_n 0, 1) := by decide +kernel
theorem dX11_seats_6 : decode cX11_seats 6 = .ok (.invokevirtual 414, 3) := by decide +kernel
theorem dX11_seats_9 : decode cX11_seats 9 = .ok (.aload_n 0, 1) := by decide +kernel
theorem dX11_seats_10 : decode cX11_seats 10 = .ok (.getfield 83, 3) := by decide +kernel
theorem dX11_seats_13 : decode cX11_seats 13 = .ok (.iconst 0, 1) := by decide +kernel
theorem dX11_seats_14 : decode cX11_seats 14 = .ok (.iaload, 1) := by decide +kernel
theorem dX11_seats_15 : decode cX11_seats 15 = .ok (.ireturn, 1) := by decide +kernel
theorem dX11_seat_0 : decode cX11_seat 0 = .ok (.aload_n 0, 1) := by decide +kernel
theorem dX11_seat_1 : decode cX11_seat 1 = .ok (.iconst 0, 1) := by decide +kernel
theorem dX11_seat_2 : decode cX11_seat 2 = .ok (.putfield 3, 3) := by decide +kernel
theorem dX11_seat_5 : decode cX11_seat 5 = .ok (.aload_n 0, 1) := by decide +kernel
theorem dX11_seat_6 : decode cX11_seat 6 = .ok (.iload_n 1, 1) := by decide +kernel
theorem dX11_seat_7 : decode cX11_seat 7 = .ok (.iconst 1, 1) := by decide +kernel
theorem dX11_seat_8 : decode cX11_seat 8 = .ok (.invokevirtual 408, 3) := by decide +kernel
theorem dX11_seat_11 : decode cX11_seat 11 = .ok (.ifCond .ne 5, 3) := by decide +kernel
theorem dX11_seat_14 : decode cX11_seat 14 = .ok (.iconst 0, 1) := by decide +kernel
theorem dX11_seat_15 : decode cX11_seat 15 = .ok (.ireturn, 1) := by decide +kernel
theorem dX11_seat_16 : decode cX11_seat 16 = .ok (.aload_n 0, 1) := by decide +kernel
theorem dX11_seat_17 : decode cX11_seat 17 = .ok (.invokevirtual 414, 3) := by decide +kernel
theorem dX11_seat_20 : decode cX11_seat 20 = .ok (.aload_n 0, 1) := by decide +kernel
theorem dX11_seat_21 : decode cX11_seat 21 = .ok (.getfield 86, 3) := by decide +kernel
theorem dX11_seat_24 : decode cX11_seat 24 = .ok (.iload_n 1, 1) := by decide +kernel
theorem dX11_seat_25 : decode cX11_seat 25 = .ok (.iaload, 1) := by decide +kernel
theorem dX11_seat_26 : decode cX11_seat 26 = .ok (.ireturn, 1) := by decide +kernel
theorem dX11_layRing_0 : decode cX11_layRing 0 = .ok (.iconst 1, 1) := by decide +kernel
theorem dX11_layRing_1 : decode cX11_layRing 1 = .ok (.aload_n 0, 1) := by decide +kernel
theorem dX11_layRing_2 : decode cX11_layRing 2 = .ok (.getfield 166, 3) := by decide +kernel
theorem dX11_layRing_5 : decode cX11_layRing 5 = .ok (.ishl, 1) := by decide +kernel
theorem dX11_layRing_6 : decode cX11_layRing 6 = .ok (.iconst 1, 1) := by decide +kernel
theorem dX11_layRing_7 : decode cX11_layRing 7 = .ok (.isub, 1) := by decide +kernel
theorem dX11_layRing_8 : decode cX11_layRing 8 = .ok (.istore_n 1, 1) := by decide +kernel
theorem dX11_layRing_9 : decode cX11_layRing 9 = .ok (.iload_n 1, 1) := by decide +kernel
theorem dX11_layRing_10 : decode cX11_layRing 10 = .ok (.ifCond .lt 136, 3) := by decide +kernel
theorem dX11_layRing_13 : decode cX11_layRing 13 = .ok (.iconst 0, 1) := by decide +kernel
theorem dX11_layRing_14 : decode cX11_layRing 14 = .ok (.istore_n 2, 1) := by decide +kernel
theorem dX11_layRing_15 : decode cX11_layRing 15 = .ok (.iload_n 2, 1) := by decide +kernel
theorem dX11_layRing_16 : decode cX11_layRing 16 = .ok (.aload_n 0, 1) := by decide +kernel
theorem dX11_layRing_17 : decode cX11_layRing 17 = .ok (.getfield 166, 3) := by decide +kernel
theorem dX11_layRing_20 : decode cX11_layRing 20 = .ok (.if_icmp .ge 120, 3) := by decide +kernel
theorem dX11_layRing_23 : decode cX11_layRing 23 = .ok (.iload_n 1, 1) := by decide +kernel
theorem dX11_layRing_24 : decode cX11_layRing 24 = .ok (.iconst 1, 1) := by decide +kernel
theorem dX11_layRing_25 : decode cX11_layRing 25 = .ok (.aload_n 0, 1) := by decide +kernel
theorem dX11_layRing_26 : decode cX11_layRing 26 = .ok (.getfield 166, 3) := by decide +kernel
theorem dX11_layRing_29 : decode cX11_layRing 29 = .ok (.ishl, 1) := by decide +kernel
theorem dX11_layRing_30 : decode cX11_layRing 30 = .ok (.iconst 1, 1) := by decide +kernel
theorem dX11_layRing_31 : decode cX11_layRing 31 = .ok (.isub, 1) := by decide +kernel
theorem dX11_layRing_32 : decode cX11_layRing 32 = .ok (.if_icmp .ne 12, 3) := by decide +kernel
theorem dX11_layRing_35 : decode cX11_layRing 35 = .ok (.aload_n 0, 1) := by decide +kernel
theorem dX11_layRing_36 : decode cX11_layRing 36 = .ok (.iload_n 2, 1) := by decide +kernel
theorem dX11_layRing_37 : decode cX11_layRing 37 = .ok (.iconst 0, 1) := by decide +kernel
theorem dX11_layRing_38 : decode cX11_layRing 38 = .ok (.invokevirtual 358, 3) := by decide +kernel
theorem dX11_layRing_41 : decode cX11_layRing 41 = .ok (.goto 4, 3) := by decide +kernel
theorem dX11_layRing_44 : decode cX11_layRing 44 = .ok (.iconst (-1), 1) := by decide +kernel
theorem dX11_layRing_45 : decode cX11_layRing 45 = .ok (.istore_n 3, 1) := by decide +kernel
theorem dX11_layRing_46 : decode cX11_layRing 46 = .ok (.iconst 0, 1) := by decide +kernel
theorem dX11_layRing_47 : decode cX11_layRing 47 = .ok (.istore 4, 2) := by decide +kernel
theorem dX11_layRing_49 : decode cX11_layRing 49 = .ok (.iload 4, 2) := by decide +kernel
theorem dX11_layRing_51 : decode cX11_layRing 51 = .ok (.aload_n 0, 1) := by decide +kernel
theorem dX11_layRing_52 : decode cX11_layRing 52 = .ok (.getfield 166, 3) := by decide +kernel
theorem dX11_layRing_55 : decode cX11_layRing 55 = .ok (.if_icmp .ge 67, 3) := by decide +kernel
theorem dX11_layRing_58 : decode cX11_layRing 58 = .ok (.iload_n 1, 1) := by decide +kernel
theorem dX11_layRing_59 : decode cX11_layRing 59 = .ok (.iload 4, 2) := by decide +kernel
theorem dX11_layRing_61 : decode cX11_layRing 61 = .ok (.ishr, 1) := by decide +kernel
theorem dX11_layRing_62 : decode cX11_layRing 62 = .ok (.iconst 1, 1) := by decide +kernel
theorem dX11_layRing_63 : decode cX11_layRing 63 = .ok (.iand, 1) := by decide +kernel
theorem dX11_layRing_64 : decode cX11_layRing 64 = .ok (.iconst 1, 1) := by decide +kernel
theorem dX11_layRing_65 : decode cX11_layRing 65 = .ok (.if_icmp .ne 6, 3) := by decide +kernel
theorem dX11_layRing_68 : decode cX11_layRing 68 = .ok (.goto 48, 3) := by decide +kernel
theorem dX11_layRing_71 : decode cX11_layRing 71 = .ok (.aload_n 0, 1) := by decide +kernel
theorem dX11_layRing_72 : decode cX11_layRing 72 = .ok (.iload_n 2, 1) := by decide +kernel
theorem dX11_layRing_73 : decode cX11_layRing 73 = .ok (.iload 4, 2) := by decide +kernel
theorem dX11_layRing_75 : decode cX11_layRing 75 = .ok (.invokevirtual 358, 3) := by decide +kernel
theorem dX11_layRing_78 : decode cX11_layRing 78 = .ok (.aload_n 0, 1) := by decide +kernel
theorem dX11_layRing_79 : decode cX11_layRing 79 = .ok (.getfield 92, 3) := by decide +kernel
theorem dX11_layRing_82 : decode cX11_layRing 82 = .ok (.iload 4, 2) := by decide +kernel
theorem dX11_layRing_84 : decode cX11_layRing 84 = .ok (.bipush 8, 2) := by decide +kernel
theorem dX11_layRing_86 : decode cX11_layRing 86 = .ok (.ishl, 1) := by decide +kernel
theorem dX11_layRing_87 : decode cX11_layRing 87 = .ok (.iload_n 1, 1) := by decide +kernel
theorem dX11_layRing_88 : decode cX11_layRing 88 = .ok (.ior, 1) := by decide +kernel
theorem dX11_layRing_89 : decode cX11_layRing 89 = .ok (.iconst 1, 1) := by decide +kernel
theorem dX11_layRing_90 : decode cX11_layRing 90 = .ok (.iload 4, 2) := by decide +kernel
theorem dX11_layRing_92 : decode cX11_layRing 92 = .ok (.ishl, 1) := by decide +kernel
theorem dX11_layRing_93 : decode cX11_layRing 93 = .ok (.ior, 1) := by decide +kernel
theorem dX11_layRing_94 : decode cX11_layRing 94 = .ok (.iaload, 1) := by decide +kernel
theorem dX11_layRing_95 : decode cX11_layRing 95 = .ok (.iadd, 1) := by decide +kernel
theorem dX11_layRing_96 : decode cX11_layRing 96 = .ok (.istore 5, 2) := by decide +kernel
theorem dX11_layRing_98 : decode cX11_layRing 98 = .ok (.iload_n 3, 1) := by decide +kernel
theorem dX11_layRing_99 : decode cX11_layRing 99 = .ok (.iconst (-1), 1) := by decide +kernel
theorem dX11_layRing_100 : decode cX11_layRing 100 = .ok (.if_icmp .eq 9, 3) := by decide +kernel
theorem dX11_layRing_103 : decode cX11_layRing 103 = .ok (.iload 5, 2) := by decide +kernel
theorem dX11_layRing_105 : decode cX11_layRing 105 = .ok (.iload_n 3, 1) := by decide +kernel
theorem dX11_layRing_106 : decode cX11_layRing 106 = .ok (.if_icmp .ge 8, 3) := by decide +kernel
theorem dX11_layRing_109 : decode cX11_layRing 109 = .ok (.iload 5, 2) := by decide +kernel
theorem dX11_layRing_111 : decode cX11_layRing 111 = .ok (.goto 4, 3) := by decide +kernel
theorem dX11_layRing_114 : decode cX11_layRing 114 = .ok (.iload_n 3, 1) := by decide +kernel
theorem dX11_layRing_115 : decode cX11_layRing 115 = .ok (.istore_n 3, 1) := by decide +kernel
theorem dX11_layRing_116 : decode cX11_layRing 116 = .ok (.iinc 4 1, 3) := by decide +kernel
theorem dX11_layRing_119 : decode cX11_layRing 119 = .ok (.goto (-70), 3) := by decide +kernel
theorem dX11_layRing_122 : decode cX11_layRing 122 = .ok (.aload_n 0, 1) := by decide +kernel
theorem dX11_layRing_123 : decode cX11_layRing 123 = .ok (.getfield 92, 3) := by decide +kernel
theorem dX11_layRing_126 : decode cX11_layRing 126 = .ok (.iload_n 2, 1) := by decide +kernel
theorem dX11_layRing_127 : decode cX11_layRing 127 = .ok (.bipush 8, 2) := by decide +kernel
theorem dX11_layRing_129 : decode cX11_layRing 129 = .ok (.ishl, 1) := by decide +kernel
theorem dX11_layRing_130 : decode cX11_layRing 130 = .ok (.iload_n 1, 1) := by decide +kernel
theorem dX11_layRing_131 : decode cX11_layRing 131 = .ok (.ior, 1) := by decide +kernel
theorem dX11_layRing_132 : decode cX11_layRing 132 = .ok (.iload_n 3, 1) := by decide +kernel
theorem dX11_layRing_133 : decode cX11_layRing 133 = .ok (.iastore, 1) := by decide +kernel
theorem dX11_layRing_134 : decode cX11_layRing 134 = .ok (.iinc 2 1, 3) := by decide +kernel
theorem dX11_layRing_137 : decode cX11_layRing 137 = .ok (.goto (-122), 3) := by decide +kernel
theorem dX11_layRing_140 : decode cX11_layRing 140 = .ok (.iinc 1 (-1), 3) := by decide +kernel
theorem dX11_layRing_143 : decode cX11_layRing 143 = .ok (.goto (-134), 3) := by decide +kernel
theorem dX11_layRing_146 : decode cX11_layRing 146 = .ok (.return_, 1) := by decide +kernel
theorem dX11_ring_0 : decode cX11_ring 0 = .ok (.aload_n 0, 1) := by decide +kernel
theorem dX11_ring_1 : decode cX11_ring 1 = .ok (.iconst 0, 1) := by decide +kernel
theorem dX11_ring_2 : decode cX11_ring 2 = .ok (.putfield 3, 3) := by decide +kernel
theorem dX11_ring_5 : decode cX11_ring 5 = .ok (.aload_n 0, 1) := by decide +kernel
theorem dX11_ring_6 : decode cX11_ring 6 = .ok (.getfield 166, 3) := by decide +kernel
theorem dX11_ring_9 : decode cX11_ring 9 = .ok (.iconst 2, 1) := by decide +kernel
theorem dX11_ring_10 : decode cX11_ring 10 = .ok (.if_icmp .ge 5, 3) := by decide +kernel
theorem dX11_ring_13 : decode cX11_ring 13 = .ok (.iconst 0, 1) := by decide +kernel
theorem dX11_ring_14 : decode cX11_ring 14 = .ok (.ireturn, 1) := by decide +kernel
theorem dX11_ring_15 : decode cX11_ring 15 = .ok (.aload_n 0, 1) := by decide +kernel
theorem dX11_ring_16 : decode cX11_ring 16 = .ok (.invokevirtual 417, 3) := by decide +kernel
theorem dX11_ring_19 : decode cX11_ring 19 = .ok (.aload_n 0, 1) := by decide +kernel
theorem dX11_ring_20 : decode cX11_ring 20 = .ok (.getfield 92, 3) := by decide +kernel
theorem dX11_ring_23 : decode cX11_ring 23 = .ok (.iconst 1, 1) := by decide +kernel
theorem dX11_ring_24 : decode cX11_ring 24 = .ok (.iaload, 1) := by decide +kernel
theorem dX11_ring_25 : decode cX11_ring 25 = .ok (.ireturn, 1) := by decide +kernel
theorem dX11_ringed_0 : decode cX11_ringed 0 = .ok (.aload_n 0, 1) := by decide +kernel
theorem dX11_ringed_1 : decode cX11_ringed 1 = .ok (.iconst 0, 1) := by decide +kernel
theorem dX11_ringed_2 : decode cX11_ringed 2 = .ok (.putfield 3, 3) := by decide +kernel
theorem dX11_ringed_5 : decode cX11_ringed 5 = .ok (.aload_n 0, 1) := by decide +kernel
theorem dX11_ringed_6 : decode cX11_ringed 6 = .ok (.iload_n 1, 1) := by decide +kernel
theorem dX11_ringed_7 : decode cX11_ringed 7 = .ok (.ifCond .lt 7, 3) := by decide +kernel
theorem dX11_ringed_10 : decode cX11_ringed 10 = .ok (.iconst 1, 1) := by decide +kernel
theorem dX11_ringed_11 : decode cX11_ringed 11 = .ok (.goto 4, 3) := by decide +kernel
theorem dX11_ringed_14 : decode cX11_ringed 14 = .ok (.iconst 0, 1) := by decide +kernel
theorem dX11_ringed_15 : decode cX11_ringed 15 = .ok (.iconst 1, 1) := by decide +kernel
theorem dX11_ringed_16 : decode cX11_ringed 16 = .ok (.iconst 1, 1) := by decide +kernel
theorem dX11_ringed_17 : decode cX11_ringed 17 = .ok (.invokevirtual 213, 3) := by decide +kernel
theorem dX11_ringed_20 : decode cX11_ringed 20 = .ok (.ifCond .ne 5, 3) := by decide +kernel
theorem dX11_ringed_23 : decode cX11_ringed 23 = .ok (.iconst 0, 1) := by decide +kernel
theorem dX11_ringed_24 : decode cX11_ringed 24 = .ok (.ireturn, 1) := by decide +kernel
theorem dX11_ringed_25 : decode cX11_ringed 25 = .ok (.iload_n 1, 1) := by decide +kernel
theorem dX11_ringed_26 : decode cX11_ringed 26 = .ok (.aload_n 0, 1) := by decide +kernel
theorem dX11_ringed_27 : decode cX11_ringed 27 = .ok (.getfield 166, 3) := by decide +kernel
theorem dX11_ringed_30 : decode cX11_ringed 30 = .ok (.if_icmp .lt 5, 3) := by decide +kernel
theorem dX11_ringed_33 : decode cX11_ringed 33 = .ok (.iconst (-1), 1) := by decide +kernel
theorem dX11_ringed_34 : decode cX11_ringed 34 = .ok (.ireturn, 1) := by decide +kernel
theorem dX11_ringed_35 : decode cX11_ringed 35 = .ok (.aload_n 0, 1) := by decide +kernel
theorem dX11_ringed_36 : decode cX11_ringed 36 = .ok (.invokevirtual 417, 3) := by decide +kernel
theorem dX11_ringed_39 : decode cX11_ringed 39 = .ok (.iconst 1, 1) := by decide +kernel
theorem dX11_ringed_40 : decode cX11_ringed 40 = .ok (.istore_n 2, 1) := by decide +kernel
theorem dX11_ringed_41 : decode cX11_ringed 41 = .ok (.iconst 0, 1) := by decide +kernel
theorem dX11_ringed_42 : decode cX11_ringed 42 = .ok (.istore_n 3, 1) := by decide +kernel
theorem dX11_ringed_43 : decode cX11_ringed 43 = .ok (.iconst 0, 1) := by decide +kernel
theorem dX11_ringed_44 : decode cX11_ringed 44 = .ok (.istore 4, 2) := by decide +kernel
theorem dX11_ringed_46 : decode cX11_ringed 46 = .ok (.iload 4, 2) := by decide +kernel
theorem dX11_ringed_48 : decode cX11_ringed 48 = .ok (.iload_n 1, 1) := by decide +kernel
theorem dX11_ringed_49 : decode cX11_ringed 49 = .ok (.if_icmp .ge 77, 3) := by decide +kernel
theorem dX11_ringed_52 : decode cX11_ringed 52 = .ok (.iconst 0, 1) := by decide +kernel
theorem dX11_ringed_53 : decode cX11_ringed 53 = .ok (.istore 5, 2) := by decide +kernel
theorem dX11_ringed_55 : decode cX11_ringed 55 = .ok (.iload_n 2, 1) := by decide +kernel
theorem dX11_ringed_56 : decode cX11_ringed 56 = .ok (.iload 5, 2) := by decide +kernel
theorem dX11_ringed_58 : decode cX11_ringed 58 = .ok (.ishr, 1) := by decide +kernel
theorem dX11_ringed_59 : decode cX11_ringed 59 = .ok (.iconst 1, 1) := by decide +kernel
theorem dX11_ringed_60 : decode cX11_ringed 60 = .ok (.iand, 1) := by decide +kernel
theorem dX11_ringed_61 : decode cX11_ringed 61 = .ok (.iconst 1, 1) := by decide +kernel
theorem dX11_ringed_62 : decode cX11_ringed 62 = .ok (.if_icmp .eq 42, 3) := by decide +kernel
theorem dX11_ringed_65 : decode cX11_ringed 65 = .ok (.aload_n 0, 1) := by decide +kernel
theorem dX11_ringed_66 : decode cX11_ringed 66 = .ok (.iload_n 3, 1) := by decide +kernel
theorem dX11_ringed_67 : decode cX11_ringed 67 = .ok (.iload 5, 2) := by decide +kernel
theorem dX11_ringed_69 : decode cX11_ringed 69 = .ok (.invokevirtual 358, 3) := by decide +kernel
theorem dX11_ringed_72 : decode cX11_ringed 72 = .ok (.aload_n 0, 1) := by decide +kernel
theorem dX11_ringed_73 : decode cX11_ringed 73 = .ok (.getfield 92, 3) := by decide +kernel
theorem dX11_ringed_76 : decode cX11_ringed 76 = .ok (.iload 5, 2) := by decide +kernel
theorem dX11_ringed_78 : decode cX11_ringed 78 = .ok (.bipush 8, 2) := by decide +kernel
theorem dX11_ringed_80 : decode cX11_ringed 80 = .ok (.ishl, 1) := by decide +kernel
theorem dX11_ringed_81 : decode cX11_ringed 81 = .ok (.iload_n 2, 1) := by decide +kernel
theorem dX11_ringed_82 : decode cX11_ringed 82 = .ok (.ior, 1) := by decide +kernel
theorem dX11_ringed_83 : decode cX11_ringed 83 = .ok (.iconst 1, 1) := by decide +kernel
theorem dX11_ringed_84 : decode cX11_ringed 84 = .ok (.iload 5, 2) := by decide +kernel
theorem dX11_ringed_86 : decode cX11_ringed 86 = .ok (.ishl, 1) := by decide +kernel
theorem dX11_ringed_87 : decode cX11_ringed 87 = .ok (.ior, 1) := by decide +kernel
theorem dX11_ringed_88 : decode cX11_ringed 88 = .ok (.iaload, 1) := by decide +kernel
theorem dX11_ringed_89 : decode cX11_ringed 89 = .ok (.iadd, 1) := by decide +kernel
theorem dX11_ringed_90 : decode cX11_ringed 90 = .ok (.aload_n 0, 1) := by decide +kernel
theorem dX11_ringed_91 : decode cX11_ringed 91 = .ok (.getfield 92, 3) := by decide +kernel
theorem dX11_ringed_94 : decode cX11_ringed 94 = .ok (.iload_n 3, 1) := by decide +kernel
theorem dX11_ringed_95 : decode cX11_ringed 95 = .ok (.bipush 8, 2) := by decide +kernel
theorem dX11_ringed_97 : decode cX11_ringed 97 = .ok (.ishl, 1) := by decide +kernel
theorem dX11_ringed_98 : decode cX11_ringed 98 = .ok (.iload_n 2, 1) := by decide +kernel
theorem dX11_ringed_99 : decode cX11_ringed 99 = .ok (.ior, 1) := by decide +kernel
theorem dX11_ringed_100 : decode cX11_ringed 100 = .ok (.iaload, 1) := by decide +kernel
theorem dX11_ringed_101 : decode cX11_ringed 101 = .ok (.if_icmp .eq 9, 3) := by decide +kernel
theorem dX11_ringed_104 : decode cX11_ringed 104 = .ok (.iinc 5 1, 3) := by decide +kernel
theorem dX11_ringed_107 : decode cX11_ringed 107 = .ok (.goto (-52), 3) := by decide +kernel
theorem dX11_ringed_110 : decode cX11_ringed 110 = .ok (.iload 5, 2) := by decide +kernel
theorem dX11_ringed_112 : decode cX11_ringed 112 = .ok (.istore_n 3, 1) := by decide +kernel
theorem dX11_ringed_113 : decode cX11_ringed 113 = .ok (.iload_n 2, 1) := by decide +kernel
theorem dX11_ringed_114 : decode cX11_ringed 114 = .ok (.iconst 1, 1) := by decide +kernel
theorem dX11_ringed_115 : decode cX11_ringed 115 = .ok (.iload 5, 2) := by decide +kernel
theorem dX11_ringed_117 : decode cX11_ringed 117 = .ok (.ishl, 1) := by decide +kernel
theorem dX11_ringed_118 : decode cX11_ringed 118 = .ok (.ior, 1) := by decide +kernel
theorem dX11_ringed_119 : decode cX11_ringed 119 = .ok (.istore_n 2, 1) := by decide +kernel
theorem dX11_ringed_120 : decode cX11_ringed 120 = .ok (.iinc 4 1, 3) := by decide +kernel
theorem dX11_ringed_123 : decode cX11_ringed 123 = .ok (.goto (-77), 3) := by decide +kernel
theorem dX11_ringed_126 : decode cX11_ringed 126 = .ok (.iload_n 3, 1) := by decide +kernel
theorem dX11_ringed_127 : decode cX11_ringed 127 = .ok (.ireturn, 1) := by decide +kernel
theorem dX11_lastsIn_0 : decode cX11_lastsIn 0 = .ok (.iload_n 1, 1) := by decide +kernel
theorem dX11_lastsIn_1 : decode cX11_lastsIn 1 = .ok (.ifCond .ne 15, 3) := by decide +kernel
theorem dX11_lastsIn_4 : decode cX11_lastsIn 4 = .ok (.iload_n 2, 1) := by decide +kernel
theorem dX11_lastsIn_5 : decode cX11_lastsIn 5 = .ok (.iload 4, 2) := by decide +kernel
theorem dX11_lastsIn_7 : decode cX11_lastsIn 7 = .ok (.if_icmp .ne 7, 3) := by decide +kernel
theorem dX11_lastsIn_10 : decode cX11_lastsIn 10 = .ok (.iconst 1, 1) := by decide +kernel
theorem dX11_lastsIn_11 : decode cX11_lastsIn 11 = .ok (.goto 4, 3) := by decide +kernel
theorem dX11_lastsIn_14 : decode cX11_lastsIn 14 = .ok (.iconst 0, 1) := by decide +kernel
theorem dX11_lastsIn_15 : decode cX11_lastsIn 15 = .ok (.ireturn, 1) := by decide +kernel
theorem dX11_lastsIn_16 : decode cX11_lastsIn 16 = .ok (.iconst 0, 1) := by decide +kernel
theorem dX11_lastsIn_17 : decode cX11_lastsIn 17 = .ok (.istore 5, 2) := by decide +kernel
theorem dX11_lastsIn_19 : decode cX11_lastsIn 19 = .ok (.iconst 0, 1) := by decide +kernel
theorem dX11_lastsIn_20 : decode cX11_lastsIn 20 = .ok (.istore 6, 2) := by decide +kernel
theorem dX11_lastsIn_22 : decode cX11_lastsIn 22 = .ok (.iload 6, 2) := by decide +kernel
theorem dX11_lastsIn_24 : decode cX11_lastsIn 24 = .ok (.aload_n 0, 1) := by decide +kernel
theorem dX11_lastsIn_25 : decode cX11_lastsIn 25 = .ok (.getfield 169, 3) := by decide +kernel
theorem dX11_lastsIn_28 : decode cX11_lastsIn 28 = .ok (.if_icmp .ge 106, 3) := by decide +kernel
theorem dX11_lastsIn_31 : decode cX11_lastsIn 31 = .ok (.iload_n 1, 1) := by decide +kernel
theorem dX11_lastsIn_32 : decode cX11_lastsIn 32 = .ok (.iload 6, 2) := by decide +kernel
theorem dX11_lastsIn_34 : decode cX11_lastsIn 34 = .ok (.ishr, 1) := by decide +kernel
theorem dX11_lastsIn_35 : decode cX11_lastsIn 35 = .ok (.iconst 1, 1) := by decide +kernel
theorem dX11_lastsIn_36 : decode cX11_lastsIn 36 = .ok (.iand, 1) := by decide +kernel
theorem dX11_lastsIn_37 : decode cX11_lastsIn 37 = .ok (.ifCond .ne 6, 3) := by decide +kernel
theorem dX11_lastsIn_40 : decode cX11_lastsIn 40 = .ok (.goto 88, 3) := by decide +kernel
theorem dX11_lastsIn_43 : decode cX11_lastsIn 43 = .ok (.iload_n 3, 1) := by decide +kernel
theorem dX11_lastsIn_44 : decode cX11_lastsIn 44 = .ok (.aload_n 0, 1) := by decide +kernel
theorem dX11_lastsIn_45 : decode cX11_lastsIn 45 = .ok (.getfield 68, 3) := by decide +kernel
theorem dX11_lastsIn_48 : decode cX11_lastsIn 48 = .ok (.bipush 6, 2) := by decide +kernel
theorem dX11_lastsIn_50 : decode cX11_lastsIn 50 = .ok (.iload 6, 2) := by decide +kernel
theorem dX11_lastsIn_52 : decode cX11_lastsIn 52 = .ok (.iadd, 1) := by decide +kernel
theorem dX11_lastsIn_53 : decode cX11_lastsIn 53 = .ok (.iaload, 1) := by decide +kernel
theorem dX11_lastsIn_54 : decode cX11_lastsIn 54 = .ok (.if_icmp .lt 7, 3) := by decide +kernel
theorem dX11_lastsIn_57 : decode cX11_lastsIn 57 = .ok (.iconst 1, 1) := by decide +kernel
theorem dX11_lastsIn_58 : decode cX11_lastsIn 58 = .ok (.goto 4, 3) := by decide +kernel
theorem dX11_lastsIn_61 : decode cX11_lastsIn 61 = .ok (.iconst 0, 1) := by decide +kernel
theorem dX11_lastsIn_62 : decode cX11_lastsIn 62 = .ok (.istore 7, 2) := by decide +kernel
theorem dX11_lastsIn_64 : decode cX11_lastsIn 64 = .ok (.iload 7, 2) := by decide +kernel
theorem dX11_lastsIn_66 : decode cX11_lastsIn 66 = .ok (.ifCond .eq 7, 3) := by decide +kernel
theorem dX11_lastsIn_69 : decode cX11_lastsIn 69 = .ok (.iload_n 3, 1) := by decide +kernel
theorem dX11_lastsIn_70 : decode cX11_lastsIn 70 = .ok (.goto 13, 3) := by decide +kernel
theorem dX11_lastsIn_73 : decode cX11_lastsIn 73 = .ok (.aload_n 0, 1) := by decide +kernel
theorem dX11_lastsIn_74 : decode cX11_lastsIn 74 = .ok (.getfield 68, 3) := by decide +kernel
theorem dX11_lastsIn_77 : decode cX11_lastsIn 77 = .ok (.bipush 6, 2) := by decide +kernel
theorem dX11_lastsIn_79 : decode cX11_lastsIn 79 = .ok (.iload 6, 2) := by decide +kernel
theorem dX11_lastsIn_81 : decode cX11_lastsIn 81 = .ok (.iadd, 1) := by decide +kernel
theorem dX11_lastsIn_82 : decode cX11_lastsIn 82 = .ok (.iaload, 1) := by decide +kernel
theorem dX11_lastsIn_83 : decode cX11_lastsIn 83 = .ok (.iconst 1, 1) := by decide +kernel
theorem dX11_lastsIn_84 : decode cX11_lastsIn 84 = .ok (.isub, 1) := by decide +kernel
theorem dX11_lastsIn_85 : decode cX11_lastsIn 85 = .ok (.istore 8, 2) := by decide +kernel
theorem dX11_lastsIn_87 : decode cX11_lastsIn 87 = .ok (.iload 5, 2) := by decide +kernel
theorem dX11_lastsIn_89 : decode cX11_lastsIn 89 = .ok (.aload_n 0, 1) := by decide +kernel
theorem dX11_lastsIn_90 : decode cX11_lastsIn 90 = .ok (.iload_n 1, 1) := by decide +kernel
theorem dX11_lastsIn_91 : decode cX11_lastsIn 91 = .ok (.iconst 1, 1) := by decide +kernel
theorem dX11_lastsIn_92 : decode cX11_lastsIn 92 = .ok (.iload 6, 2) := by decide +kernel
theorem dX11_lastsIn_94 : decode cX11_lastsIn 94 = .ok (.ishl, 1) := by decide +kernel
theorem dX11_lastsIn_95 : decode cX11_lastsIn 95 = .ok (.iconst (-1), 1) := by decide +kernel
theorem dX11_lastsIn_96 : decode cX11_lastsIn 96 = .ok (.ixor, 1) := by decide +kernel
theorem dX11_lastsIn_97 : decode cX11_lastsIn 97 = .ok (.iand, 1) := by decide +kernel
theorem dX11_lastsIn_98 : decode cX11_lastsIn 98 = .ok (.iload 7, 2) := by decide +kernel
theorem dX11_lastsIn_100 : decode cX11_lastsIn 100 = .ok (.ifCond .eq 7, 3) := by decide +kernel
theorem dX11_lastsIn_103 : decode cX11_lastsIn 103 = .ok (.iload_n 2, 1) := by decide +kernel
theorem dX11_lastsIn_104 : decode cX11_lastsIn 104 = .ok (.goto 5, 3) := by decide +kernel
theorem dX11_lastsIn_107 : decode cX11_lastsIn 107 = .ok (.iload 6, 2) := by decide +kernel
theorem dX11_lastsIn_109 : decode cX11_lastsIn 109 = .ok (.iload 8, 2) := by decide +kernel
theorem dX11_lastsIn_111 : decode cX11_lastsIn 111 = .ok (.ifCond .ge 7, 3) := by decide +kernel
theorem dX11_lastsIn_114 : decode cX11_lastsIn 114 = .ok (.iconst 0, 1) := by decide +kernel
theorem dX11_lastsIn_115 : decode cX11_lastsIn 115 = .ok (.goto 5, 3) := by decide +kernel
theorem dX11_lastsIn_118 : decode cX11_lastsIn 118 = .ok (.iload 8, 2) := by decide +kernel
theorem dX11_lastsIn_120 : decode cX11_lastsIn 120 = .ok (.iload 4, 2) := by decide +kernel
theorem dX11_lastsIn_122 : decode cX11_lastsIn 122 = .ok (.invokevirtual 420, 3) := by decide +kernel
theorem dX11_lastsIn_125 : decode cX11_lastsIn 125 = .ok (.iadd, 1) := by decide +kernel
theorem dX11_lastsIn_126 : decode cX11_lastsIn 126 = .ok (.istore 5, 2) := by decide +kernel
theorem dX11_lastsIn_128 : decode cX11_lastsIn 128 = .ok (.iinc 6 1, 3) := by decide +kernel
theorem dX11_lastsIn_131 : decode cX11_lastsIn 131 = .ok (.goto (-109), 3) := by decide +kernel
theorem dX11_lastsIn_134 : decode cX11_lastsIn 134 = .ok (.iload 5, 2) := by decide +kernel
theorem dX11_lastsIn_136 : decode cX11_lastsIn 136 = .ok (.ireturn, 1) := by decide +kernel
theorem dX11_bouts_0 : decode cX11_bouts 0 = .ok (.aload_n 0, 1) := by decide +kernel
theorem dX11_bouts_1 : decode cX11_bouts 1 = .ok (.iconst 0, 1) := by decide +kernel
theorem dX11_bouts_2 : decode cX11_bouts 2 = .ok (.putfield 3, 3) := by decide +kernel
theorem dX11_bouts_5 : decode cX11_bouts 5 = .ok (.aload_n 0, 1) := by decide +kernel
theorem dX11_bouts_6 : decode cX11_bouts 6 = .ok (.iload_n 1, 1) := by decide +kernel
theorem dX11_bouts_7 : decode cX11_bouts 7 = .ok (.iconst 1, 1) := by decide +kernel
theorem dX11_bouts_8 : decode cX11_bouts 8 = .ok (.invokevirtual 408, 3) := by decide +kernel
theorem dX11_bouts_11 : decode cX11_bouts 11 = .ok (.ifCond .ne 5, 3) := by decide +kernel
theorem dX11_bouts_14 : decode cX11_bouts 14 = .ok (.iconst 0, 1) := by decide +kernel
theorem dX11_bouts_15 : decode cX11_bouts 15 = .ok (.ireturn, 1) := by decide +kernel
theorem dX11_bouts_16 : decode cX11_bouts 16 = .ok (.aload_n 0, 1) := by decide +kernel
theorem dX11_bouts_17 : decode cX11_bouts 17 = .ok (.invokevirtual 316, 3) := by decide +kernel
theorem dX11_bouts_20 : decode cX11_bouts 20 = .ok (.iconst 1, 1) := by decide +kernel
theorem dX11_bouts_21 : decode cX11_bouts 21 = .ok (.aload_n 0, 1) := by decide +kernel
theorem dX11_bouts_22 : decode cX11_bouts 22 = .ok (.getfield 169, 3) := by decide +kernel
theorem dX11_bouts_25 : decode cX11_bouts 25 = .ok (.ishl, 1) := by decide +kernel
theorem dX11_bouts_26 : decode cX11_bouts 26 = .ok (.iconst 1, 1) := by decide +kernel
theorem dX11_bouts_27 : decode cX11_bouts 27 = .ok (.isub, 1) := by decide +kernel
theorem dX11_bouts_28 : decode cX11_bouts 28 = .ok (.aload_n 0, 1) := by decide +kernel
theorem dX11_bouts_29 : decode cX11_bouts 29 = .ok (.invokevirtual 396, 3) := by decide +kernel
theorem dX11_bouts_32 : decode cX11_bouts 32 = .ok (.iconst (-1), 1) := by decide +kernel
theorem dX11_bouts_33 : decode cX11_bouts 33 = .ok (.ixor, 1) := by decide +kernel
theorem dX11_bouts_34 : decode cX11_bouts 34 = .ok (.iand, 1) := by decide +kernel
theorem dX11_bouts_35 : decode cX11_bouts 35 = .ok (.istore_n 2, 1) := by decide +kernel
theorem dX11_bouts_36 : decode cX11_bouts 36 = .ok (.iconst 0, 1) := by decide +kernel
theorem dX11_bouts_37 : decode cX11_bouts 37 = .ok (.istore_n 3, 1) := by decide +kernel
theorem dX11_bouts_38 : decode cX11_bouts 38 = .ok (.iconst 0, 1) := by decide +kernel
theorem dX11_bouts_39 : decode cX11_bouts 39 = .ok (.istore 4, 2) := by decide +kernel
theorem dX11_bouts_41 : decode cX11_bouts 41 = .ok (.iload 4, 2) := by decide +kernel
theorem dX11_bouts_43 : decode cX11_bouts 43 = .ok (.aload_n 0, 1) := by decide +kernel
theorem dX11_bouts_44 : decode cX11_bouts 44 = .ok (.getfield 169, 3) := by decide +kernel
theorem dX11_bouts_47 : decode cX11_bouts 47 = .ok (.if_icmp .ge 47, 3) := by decide +kernel
theorem dX11_bouts_50 : decode cX11_bouts 50 = .ok (.iload_n 2, 1) := by decide +kernel
theorem dX11_bouts_51 : decode cX11_bouts 51 = .ok (.iload 4, 2) := by decide +kernel
theorem dX11_bouts_53 : decode cX11_bouts 53 = .ok (.ishr, 1) := by decide +kernel
theorem dX11_bouts_54 : decode cX11_bouts 54 = .ok (.iconst 1, 1) := by decide +kernel
theorem dX11_bouts_55 : decode cX11_bouts 55 = .ok (.iand, 1) := by decide +kernel
theorem dX11_bouts_56 : decode cX11_bouts 56 = .ok (.iconst 1, 1) := by decide +kernel
theorem dX11_bouts_57 : decode cX11_bouts 57 = .ok (.if_icmp .ne 31, 3) := by decide +kernel
theorem dX11_bouts_60 : decode cX11_bouts 60 = .ok (.iload_n 3, 1) := by decide +kernel
theorem dX11_bouts_61 : decode cX11_bouts 61 = .ok (.aload_n 0, 1) := by decide +kernel
theorem dX11_bouts_62 : decode cX11_bouts 62 = .ok (.iload_n 2, 1) := by decide +kernel
theorem dX11_bouts_63 : decode cX11_bouts 63 = .ok (.iconst 1, 1) := by decide +kernel
theorem dX11_bouts_64 : decode cX11_bouts 64 = .ok (.iload 4, 2) := by decide +kernel
theorem dX11_bouts_66 : decode cX11_bouts 66 = .ok (.ishl, 1) := by decide +kernel
theorem dX11_bouts_67 : decode cX11_bouts 67 = .ok (.iconst (-1), 1) := by decide +kernel
theorem dX11_bouts_68 : decode cX11_bouts 68 = .ok (.ixor, 1) := by decide +kernel
theorem dX11_bouts_69 : decode cX11_bouts 69 = .ok (.iand, 1) := by decide +kernel
theorem dX11_bouts_70 : decode cX11_bouts 70 = .ok (.iload 4, 2) := by decide +kernel
theorem dX11_bouts_72 : decode cX11_bouts 72 = .ok (.aload_n 0, 1) := by decide +kernel
theorem dX11_bouts_73 : decode cX11_bouts 73 = .ok (.getfield 68, 3) := by decide +kernel
theorem dX11_bouts_76 : decode cX11_bouts 76 = .ok (.bipush 6, 2) := by decide +kernel
theorem dX11_bouts_78 : decode cX11_bouts 78 = .ok (.iload 4, 2) := by decide +kernel
theorem dX11_bouts_80 : decode cX11_bouts 80 = .ok (.iadd, 1) := by decide +kernel
theorem dX11_bouts_81 : decode cX11_bouts 81 = .ok (.iaload, 1) := by decide +kernel
theorem dX11_bouts_82 : decode cX11_bouts 82 = .ok (.iload_n 1, 1) := by decide +kernel
theorem dX11_bouts_83 : decode cX11_bouts 83 = .ok (.invokevirtual 420, 3) := by decide +kernel
theorem dX11_bouts_86 : decode cX11_bouts 86 = .ok (.iadd, 1) := by decide +kernel
theorem dX11_bouts_87 : decode cX11_bouts 87 = .ok (.istore_n 3, 1) := by decide +kernel
theorem dX11_bouts_88 : decode cX11_bouts 88 = .ok (.iinc 4 1, 3) := by decide +kernel
theorem dX11_bouts_91 : decode cX11_bouts 91 = .ok (.goto (-50), 3) := by decide +kernel
theorem dX11_bouts_94 : decode cX11_bouts 94 = .ok (.iload_n 3, 1) := by decide +kernel
theorem dX11_bouts_95 : decode cX11_bouts 95 = .ok (.ireturn, 1) := by decide +kernel
theorem dX11_sitsThen_0 : decode cX11_sitsThen 0 = .ok (.aload_n 0, 1) := by decide +kernel
theorem dX11_sitsThen_1 : decode cX11_sitsThen 1 = .ok (.iload_n 1, 1) := by decide +kernel
theorem dX11_sitsThen_2 : decode cX11_sitsThen 2 = .ok (.invokevirtual 348, 3) := by decide +kernel
theorem dX11_sitsThen_5 : decode cX11_sitsThen 5 = .ok (.iconst 1, 1) := by decide +kernel
theorem dX11_sitsThen_6 : decode cX11_sitsThen 6 = .ok (.iload_n 2, 1) := by decide +kernel
theorem dX11_sitsThen_7 : decode cX11_sitsThen 7 = .ok (.ishl, 1) := by decide +kernel
theorem dX11_sitsThen_8 : decode cX11_sitsThen 8 = .ok (.iconst (-1), 1) := by decide +kernel
theorem dX11_sitsThen_9 : decode cX11_sitsThen 9 = .ok (.ixor, 1) := by decide +kernel
theorem dX11_sitsThen_10 : decode cX11_sitsThen 10 = .ok (.iand, 1) := by decide +kernel
theorem dX11_sitsThen_11 : decode cX11_sitsThen 11 = .ok (.invokestatic 351, 3) := by decide +kernel
theorem dX11_sitsThen_14 : decode cX11_sitsThen 14 = .ok (.istore 4, 2) := by decide +kernel
theorem dX11_sitsThen_16 : decode cX11_sitsThen 16 = .ok (.iload_n 3, 1) := by decide +kernel
theorem dX11_sitsThen_17 : decode cX11_sitsThen 17 = .ok (.iload_n 1, 1) := by decide +kernel
theorem dX11_sitsThen_18 : decode cX11_sitsThen 18 = .ok (.if_icmp .ne 10, 3) := by decide +kernel
theorem dX11_sitsThen_21 : decode cX11_sitsThen 21 = .ok (.iload 4, 2) := by decide +kernel
theorem dX11_sitsThen_23 : decode cX11_sitsThen 23 = .ok (.iconst 1, 1) := by decide +kernel
theorem dX11_sitsThen_24 : decode cX11_sitsThen 24 = .ok (.iadd, 1) := by decide +kernel
theorem dX11_sitsThen_25 : decode cX11_sitsThen 25 = .ok (.goto 5, 3) := by decide +kernel
theorem dX11_sitsThen_28 : decode cX11_sitsThen 28 = .ok (.iload 4, 2) := by decide +kernel
theorem dX11_sitsThen_30 : decode cX11_sitsThen 30 = .ok (.ireturn, 1) := by decide +kernel
theorem dX11_isFit_0 : decode cX11_isFit 0 = .ok (.aload_n 0, 1) := by decide +kernel
theorem dX11_isFit_1 : decode cX11_isFit 1 = .ok (.iload_n 1, 1) := by decide +kernel
theorem dX11_isFit_2 : decode cX11_isFit 2 = .ok (.invokevirtual 340, 3) := by decide +kernel
theorem dX11_isFit_5 : decode cX11_isFit 5 = .ok (.ifCond .ne 7, 3) := by decide +kernel
theorem dX11_isFit_8 : decode cX11_isFit 8 = .ok (.iconst 1, 1) := by decide +kernel
theorem dX11_isFit_9 : decode cX11_isFit 9 = .ok (.goto 4, 3) := by decide +kernel
theorem dX11_isFit_12 : decode cX11_isFit 12 = .ok (.iconst 0, 1) := by decide +kernel
theorem dX11_isFit_13 : decode cX11_isFit 13 = .ok (.istore_n 3, 1) := by decide +kernel
theorem dX11_isFit_14 : decode cX11_isFit 14 = .ok (.iconst 0, 1) := by decide +kernel
theorem dX11_isFit_15 : decode cX11_isFit 15 = .ok (.istore 4, 2) := by decide +kernel
theorem dX11_isFit_17 : decode cX11_isFit 17 = .ok (.iload 4, 2) := by decide +kernel
theorem dX11_isFit_19 : decode cX11_isFit 19 = .ok (.aload_n 0, 1) := by decide +kernel
theorem dX11_isFit_20 : decode cX11_isFit 20 = .ok (.getfield 166, 3) := by decide +kernel
theorem dX11_isFit_23 : decode cX11_isFit 23 = .ok (.if_icmp .ge 48, 3) := by decide +kernel
theorem dX11_isFit_26 : decode cX11_isFit 26 = .ok (.iload_n 3, 1) := by decide +kernel
theorem dX11_isFit_27 : decode cX11_isFit 27 = .ok (.ifCond .eq 36, 3) := by decide +kernel
theorem dX11_isFit_30 : decode cX11_isFit 30 = .ok (.aload_n 0, 1) := by decide +kernel
theorem dX11_isFit_31 : decode cX11_isFit 31 = .ok (.getfield 80, 3) := by decide +kernel
theorem dX11_isFit_34 : decode cX11_isFit 34 = .ok (.iload 4, 2) := by decide +kernel
theorem dX11_isFit_36 : decode cX11_isFit 36 = .ok (.iaload, 1) := by decide +kernel
theorem dX11_isFit_37 : decode cX11_isFit 37 = .ok (.iconst (-1), 1) := by decide +kernel
theorem dX11_isFit_38 : decode cX11_isFit 38 = .ok (.if_icmp .eq 21, 3) := by decide +kernel
theorem dX11_isFit_41 : decode cX11_isFit 41 = .ok (.aload_n 0, 1) := by decide +kernel
theorem dX11_isFit_42 : decode cX11_isFit 42 = .ok (.iload 4, 2) := by decide +kernel
theorem dX11_isFit_44 : decode cX11_isFit 44 = .ok (.iload_n 1, 1) := by decide +kernel
theorem dX11_isFit_45 : decode cX11_isFit 45 = .ok (.iload_n 2, 1) := by decide +kernel
theorem dX11_isFit_46 : decode cX11_isFit 46 = .ok (.invokevirtual 424, 3) := by decide +kernel
theorem dX11_isFit_49 : decode cX11_isFit 49 = .ok (.aload_n 0, 1) := by decide +kernel
theorem dX11_isFit_50 : decode cX11_isFit 50 = .ok (.getfield 80, 3) := by decide +kernel
theorem dX11_isFit_53 : decode cX11_isFit 53 = .ok (.iload 4, 2) := by decide +kernel
theorem dX11_isFit_55 : decode cX11_isFit 55 = .ok (.iaload, 1) := by decide +kernel
theorem dX11_isFit_56 : decode cX11_isFit 56 = .ok (.if_icmp .ne 7, 3) := by decide +kernel
theorem dX11_isFit_59 : decode cX11_isFit 59 = .ok (.iconst 1, 1) := by decide +kernel
theorem dX11_isFit_60 : decode cX11_isFit 60 = .ok (.goto 4, 3) := by decide +kernel
theorem dX11_isFit_63 : decode cX11_isFit 63 = .ok (.iconst 0, 1) := by decide +kernel
theorem dX11_isFit_64 : decode cX11_isFit 64 = .ok (.istore_n 3, 1) := by decide +kernel
theorem dX11_isFit_65 : decode cX11_isFit 65 = .ok (.iinc 4 1, 3) := by decide +kernel
theorem dX11_isFit_68 : decode cX11_isFit 68 = .ok (.goto (-51), 3) := by decide +kernel
theorem dX11_isFit_71 : decode cX11_isFit 71 = .ok (.iload_n 3, 1) := by decide +kernel
theorem dX11_isFit_72 : decode cX11_isFit 72 = .ok (.ireturn, 1) := by decide +kernel
theorem dX11_fits_0 : decode cX11_fits 0 = .ok (.aload_n 0, 1) := by decide +kernel
theorem dX11_fits_1 : decode cX11_fits 1 = .ok (.iconst 0, 1) := by decide +kernel
theorem dX11_fits_2 : decode cX11_fits 2 = .ok (.putfield 3, 3) := by decide +kernel
theorem dX11_fits_5 : decode cX11_fits 5 = .ok (.aload_n 0, 1) := by decide +kernel
theorem dX11_fits_6 : decode cX11_fits 6 = .ok (.iload_n 1, 1) := by decide +kernel
theorem dX11_fits_7 : decode cX11_fits 7 = .ok (.iconst 0, 1) := by decide +kernel
theorem dX11_fits_8 : decode cX11_fits 8 = .ok (.iconst 1, 1) := by decide +kernel
theorem dX11_fits_9 : decode cX11_fits 9 = .ok (.invokestatic 390, 3) := by decide +kernel
theorem dX11_fits_12 : decode cX11_fits 12 = .ok (.iconst 1, 1) := by decide +kernel
theorem dX11_fits_13 : decode cX11_fits 13 = .ok (.iconst 1, 1) := by decide +kernel
theorem dX11_fits_14 : decode cX11_fits 14 = .ok (.invokevirtual 213, 3) := by decide +kernel
theorem dX11_fits_17 : decode cX11_fits 17 = .ok (.ifCond .ne 5, 3) := by decide +kernel
theorem dX11_fits_20 : decode cX11_fits 20 = .ok (.iconst 0, 1) := by decide +kernel
theorem dX11_fits_21 : decode cX11_fits 21 = .ok (.ireturn, 1) := by decide +kernel
theorem dX11_fits_22 : decode cX11_fits 22 = .ok (.aload_n 0, 1) := by decide +kernel
theorem dX11_fits_23 : decode cX11_fits 23 = .ok (.invokevirtual 316, 3) := by decide +kernel
theorem dX11_fits_26 : decode cX11_fits 26 = .ok (.iconst 0, 1) := by decide +kernel
theorem dX11_fits_27 : decode cX11_fits 27 = .ok (.istore_n 2, 1) := by decide +kernel
theorem dX11_fits_28 : decode cX11_fits 28 = .ok (.iconst (-1), 1) := by decide +kernel
theorem dX11_fits_29 : decode cX11_fits 29 = .ok (.istore_n 3, 1) := by decide +kernel
theorem dX11_fits_30 : decode cX11_fits 30 = .ok (.iconst 0, 1) := by decide +kernel
theorem dX11_fits_31 : decode cX11_fits 31 = .ok (.istore 4, 2) := by decide +kernel
theorem dX11_fits_33 : decode cX11_fits 33 = .ok (.iload 4, 2) := by decide +kernel
theorem dX11_fits_35 : decode cX11_fits 35 = .ok (.aload_n 0, 1) := by decide +kernel
theorem dX11_fits_36 : decode cX11_fits 36 = .ok (.getfield 169, 3) := by decide +kernel
theorem dX11_fits_39 : decode cX11_fits 39 = .ok (.if_icmp .ge 62, 3) := by decide +kernel
theorem dX11_fits_42 : decode cX11_fits 42 = .ok (.iconst 0, 1) := by decide +kernel
theorem dX11_fits_43 : decode cX11_fits 43 = .ok (.istore 5, 2) := by decide +kernel
theorem dX11_fits_45 : decode cX11_fits 45 = .ok (.iload 5, 2) := by decide +kernel
theorem dX11_fits_47 : decode cX11_fits 47 = .ok (.aload_n 0, 1) := by decide +kernel
theorem dX11_fits_48 : decode cX11_fits 48 = .ok (.getfield 166, 3) := by decide +kernel
theorem dX11_fits_51 : decode cX11_fits 51 = .ok (.if_icmp .ge 44, 3) := by decide +kernel
theorem dX11_fits_54 : decode cX11_fits 54 = .ok (.aload_n 0, 1) := by decide +kernel
theorem dX11_fits_55 : decode cX11_fits 55 = .ok (.iload 4, 2) := by decide +kernel
theorem dX11_fits_57 : decode cX11_fits 57 = .ok (.iload 5, 2) := by decide +kernel
theorem dX11_fits_59 : decode cX11_fits 59 = .ok (.invokevirtual 427, 3) := by decide +kernel
theorem dX11_fits_62 : decode cX11_fits 62 = .ok (.ifCond .ne 6, 3) := by decide +kernel
theorem dX11_fits_65 : decode cX11_fits 65 = .ok (.goto 24, 3) := by decide +kernel
theorem dX11_fits_68 : decode cX11_fits 68 = .ok (.iinc 2 1, 3) := by decide +kernel
theorem dX11_fits_71 : decode cX11_fits 71 = .ok (.iload_n 3, 1) := by decide +kernel
theorem dX11_fits_72 : decode cX11_fits 72 = .ok (.iconst (-1), 1) := by decide +kernel
theorem dX11_fits_73 : decode cX11_fits 73 = .ok (.if_icmp .ne 14, 3) := by decide +kernel
theorem dX11_fits_76 : decode cX11_fits 76 = .ok (.bipush 10, 2) := by decide +kernel
theorem dX11_fits_78 : decode cX11_fits 78 = .ok (.iload 4, 2) := by decide +kernel
theorem dX11_fits_80 : decode cX11_fits 80 = .ok (.imul, 1) := by decide +kernel
theorem dX11_fits_81 : decode cX11_fits 81 = .ok (.iload 5, 2) := by decide +kernel
theorem dX11_fits_83 : decode cX11_fits 83 = .ok (.iadd, 1) := by decide +kernel
theorem dX11_fits_84 : decode cX11_fits 84 = .ok (.goto 4, 3) := by decide +kernel
theorem dX11_fits_87 : decode cX11_fits 87 = .ok (.iload_n 3, 1) := by decide +kernel
theorem dX11_fits_88 : decode cX11_fits 88 = .ok (.istore_n 3, 1) := by decide +kernel
theorem dX11_fits_89 : decode cX11_fits 89 = .ok (.iinc 5 1, 3) := by decide +kernel
theorem dX11_fits_92 : decode cX11_fits 92 = .ok (.goto (-47), 3) := by decide +kernel
theorem dX11_fits_95 : decode cX11_fits 95 = .ok (.iinc 4 1, 3) := by decide +kernel
theorem dX11_fits_98 : decode cX11_fits 98 = .ok (.goto (-65), 3) := by decide +kernel
theorem dX11_fits_101 : decode cX11_fits 101 = .ok (.iload_n 1, 1) := by decide +kernel
theorem dX11_fits_102 : decode cX11_fits 102 = .ok (.ifCond .ne 7, 3) := by decide +kernel
theorem dX11_fits_105 : decode cX11_fits 105 = .ok (.iload_n 2, 1) := by decide +kernel
theorem dX11_fits_106 : decode cX11_fits 106 = .ok (.goto 4, 3) := by decide +kernel
theorem dX11_fits_109 : decode cX11_fits 109 = .ok (.iload_n 3, 1) := by decide +kernel
theorem dX11_fits_110 : decode cX11_fits 110 = .ok (.ireturn, 1) := by decide +kernel
theorem dX11_worstOf_0 : decode cX11_worstOf 0 = .ok (.iconst 0, 1) := by decide +kernel
theorem dX11_worstOf_1 : decode cX11_worstOf 1 = .ok (.istore_n 2, 1) := by decide +kernel
theorem dX11_worstOf_2 : decode cX11_worstOf 2 = .ok (.iload_n 2, 1) := by decide +kernel
theorem dX11_worstOf_3 : decode cX11_worstOf 3 = .ok (.bipush 6, 2) := by decide +kernel
theorem dX11_worstOf_5 : decode cX11_worstOf 5 = .ok (.if_icmp .gt 16, 3) := by decide +kernel
theorem dX11_worstOf_8 : decode cX11_worstOf 8 = .ok (.aload_n 0, 1) := by decide +kernel
theorem dX11_worstOf_9 : decode cX11_worstOf 9 = .ok (.getfield 95, 3) := by decide +kernel
theorem dX11_worstOf_12 : decode cX11_worstOf 12 = .ok (.iload_n 2, 1) := by decide +kernel
theorem dX11_worstOf_13 : decode cX11_worstOf 13 = .ok (.iconst 0, 1) := by decide +kernel
theorem dX11_worstOf_14 : decode cX11_worstOf 14 = .ok (.iastore, 1) := by decide +kernel
theorem dX11_worstOf_15 : decode cX11_worstOf 15 = .ok (.iinc 2 1, 3) := by decide +kernel
theorem dX11_worstOf_18 : decode cX11_worstOf 18 = .ok (.goto (-16), 3) := by decide +kernel
theorem dX11_worstOf_21 : decode cX11_worstOf 21 = .ok (.iconst 0, 1) := by decide +kernel
theorem dX11_worstOf_22 : decode cX11_worstOf 22 = .ok (.istore_n 2, 1) := by decide +kernel
theorem dX11_worstOf_23 : decode cX11_worstOf 23 = .ok (.iconst 0, 1) := by decide +kernel
theorem dX11_worstOf_24 : decode cX11_worstOf 24 = .ok (.istore_n 3, 1) := by decide +kernel
theorem dX11_worstOf_25 : decode cX11_worstOf 25 = .ok (.iload_n 3, 1) := by decide +kernel
theorem dX11_worstOf_26 : decode cX11_worstOf 26 = .ok (.aload_n 0, 1) := by decide +kernel
theorem dX11_worstOf_27 : decode cX11_worstOf 27 = .ok (.getfield 169, 3) := by decide +kernel
theorem dX11_worstOf_30 : decode cX11_worstOf 30 = .ok (.if_icmp .ge 84, 3) := by decide +kernel
theorem dX11_worstOf_33 : decode cX11_worstOf 33 = .ok (.iconst 0, 1) := by decide +kernel
theorem dX11_worstOf_34 : decode cX11_worstOf 34 = .ok (.istore 4, 2) := by decide +kernel
theorem dX11_worstOf_36 : decode cX11_worstOf 36 = .ok (.iload 4, 2) := by decide +kernel
theorem dX11_worstOf_38 : decode cX11_worstOf 38 = .ok (.aload_n 0, 1) := by decide +kernel
theorem dX11_worstOf_39 : decode cX11_worstOf 39 = .ok (.getfield 166, 3) := by decide +kernel
theorem dX11_worstOf_42 : decode cX11_worstOf 42 = .ok (.if_icmp .ge 66, 3) := by decide +kernel
theorem dX11_worstOf_45 : decode cX11_worstOf 45 = .ok (.aload_n 0, 1) := by decide +kernel
theorem dX11_worstOf_46 : decode cX11_worstOf 46 = .ok (.iload_n 3, 1) := by decide +kernel
theorem dX11_worstOf_47 : decode cX11_worstOf 47 = .ok (.iload 4, 2) := by decide +kernel
theorem dX11_worstOf_49 : decode cX11_worstOf 49 = .ok (.invokevirtual 427, 3) := by decide +kernel
theorem dX11_worstOf_52 : decode cX11_worstOf 52 = .ok (.ifCond .ne 6, 3) := by decide +kernel
theorem dX11_worstOf_55 : decode cX11_worstOf 55 = .ok (.goto 47, 3) := by decide +kernel
theorem dX11_worstOf_58 : decode cX11_worstOf 58 = .ok (.aload_n 0, 1) := by decide +kernel
theorem dX11_worstOf_59 : decode cX11_worstOf 59 = .ok (.iload_n 1, 1) := by decide +kernel
theorem dX11_worstOf_60 : decode cX11_worstOf 60 = .ok (.iload_n 3, 1) := by decide +kernel
theorem dX11_worstOf_61 : decode cX11_worstOf 61 = .ok (.iload 4, 2) := by decide +kernel
theorem dX11_worstOf_63 : decode cX11_worstOf 63 = .ok (.invokevirtual 424, 3) := by decide +kernel
theorem dX11_worstOf_66 : decode cX11_worstOf 66 = .ok (.istore 5, 2) := by decide +kernel
theorem dX11_worstOf_68 : decode cX11_worstOf 68 = .ok (.aload_n 0, 1) := by decide +kernel
theorem dX11_worstOf_69 : decode cX11_worstOf 69 = .ok (.getfield 95, 3) := by decide +kernel
theorem dX11_worstOf_72 : decode cX11_worstOf 72 = .ok (.iload 5, 2) := by decide +kernel
theorem dX11_worstOf_74 : decode cX11_worstOf 74 = .ok (.dup2, 1) := by decide +kernel
theorem dX11_worstOf_75 : decode cX11_worstOf 75 = .ok (.iaload, 1) := by decide +kernel
theorem dX11_worstOf_76 : decode cX11_worstOf 76 = .ok (.iconst 1, 1) := by decide +kernel
theorem dX11_worstOf_77 : decode cX11_worstOf 77 = .ok (.iadd, 1) := by decide +kernel
theorem dX11_worstOf_78 : decode cX11_worstOf 78 = .ok (.iastore, 1) := by decide +kernel
theorem dX11_worstOf_79 : decode cX11_worstOf 79 = .ok (.aload_n 0, 1) := by decide +kernel
theorem dX11_worstOf_80 : decode cX11_worstOf 80 = .ok (.getfield 95, 3) := by decide +kernel
theorem dX11_worstOf_83 : decode cX11_worstOf 83 = .ok (.iload 5, 2) := by decide +kernel
theorem dX11_worstOf_85 : decode cX11_worstOf 85 = .ok (.iaload, 1) := by decide +kernel
theorem dX11_worstOf_86 : decode cX11_worstOf 86 = .ok (.iload_n 2, 1) := by decide +kernel
theorem dX11_worstOf_87 : decode cX11_worstOf 87 = .ok (.if_icmp .le 13, 3) := by decide +kernel
theorem dX11_worstOf_90 : decode cX11_worstOf 90 = .ok (.aload_n 0, 1) := by decide +kernel
theorem dX11_worstOf_91 : decode cX11_worstOf 91 = .ok (.getfield 95, 3) := by decide +kernel
theorem dX11_worstOf_94 : decode cX11_worstOf 94 = .ok (.iload 5, 2) := by decide +kernel
theorem dX11_worstOf_96 : decode cX11_worstOf 96 = .ok (.iaload, 1) := by decide +kernel
theorem dX11_worstOf_97 : decode cX11_worstOf 97 = .ok (.goto 4, 3) := by decide +kernel
theorem dX11_worstOf_100 : decode cX11_worstOf 100 = .ok (.iload_n 2, 1) := by decide +kernel
theorem dX11_worstOf_101 : decode cX11_worstOf 101 = .ok (.istore_n 2, 1) := by decide +kernel
theorem dX11_worstOf_102 : decode cX11_worstOf 102 = .ok (.iinc 4 1, 3) := by decide +kernel
theorem dX11_worstOf_105 : decode cX11_worstOf 105 = .ok (.goto (-69), 3) := by decide +kernel
theorem dX11_worstOf_108 : decode cX11_worstOf 108 = .ok (.iinc 3 1, 3) := by decide +kernel
theorem dX11_worstOf_111 : decode cX11_worstOf 111 = .ok (.goto (-86), 3) := by decide +kernel
theorem dX11_worstOf_114 : decode cX11_worstOf 114 = .ok (.iload_n 2, 1) := by decide +kernel
theorem dX11_worstOf_115 : decode cX11_worstOf 115 = .ok (.ireturn, 1) := by decide +kernel
theorem dX11_look_0 : decode cX11_look 0 = .ok (.aload_n 0, 1) := by decide +kernel
theorem dX11_look_1 : decode cX11_look 1 = .ok (.iconst 0, 1) := by decide +kernel
theorem dX11_look_2 : decode cX11_look 2 = .ok (.putfield 3, 3) := by decide +kernel
theorem dX11_look_5 : decode cX11_look 5 = .ok (.aload_n 0, 1) := by decide +kernel
theorem dX11_look_6 : decode cX11_look 6 = .ok (.iload_n 1, 1) := by decide +kernel
theorem dX11_look_7 : decode cX11_look 7 = .ok (.iconst 0, 1) := by decide +kernel
theorem dX11_look_8 : decode cX11_look 8 = .ok (.iconst 1, 1) := by decide +kernel
theorem dX11_look_9 : decode cX11_look 9 = .ok (.invokestatic 390, 3) := by decide +kernel
theorem dX11_look_12 : decode cX11_look 12 = .ok (.iconst 1, 1) := by decide +kernel
theorem dX11_look_13 : decode cX11_look 13 = .ok (.iconst 1, 1) := by decide +kernel
theorem dX11_look_14 : decode cX11_look 14 = .ok (.invokevirtual 213, 3) := by decide +kernel
theorem dX11_look_17 : decode cX11_look 17 = .ok (.ifCond .ne 5, 3) := by decide +kernel
theorem dX11_look_20 : decode cX11_look 20 = .ok (.iconst 0, 1) := by decide +kernel
theorem dX11_look_21 : decode cX11_look 21 = .ok (.ireturn, 1) := by decide +kernel
theorem dX11_look_22 : decode cX11_look 22 = .ok (.aload_n 0, 1) := by decide +kernel
theorem dX11_look_23 : decode cX11_look 23 = .ok (.invokevirtual 316, 3) := by decide +kernel
theorem dX11_look_26 : decode cX11_look 26 = .ok (.iconst (-1), 1) := by decide +kernel
theorem dX11_look_27 : decode cX11_look 27 = .ok (.istore_n 2, 1) := by decide +kernel
theorem dX11_look_28 : decode cX11_look 28 = .ok (.iconst (-1), 1) := by decide +kernel
theorem dX11_look_29 : decode cX11_look 29 = .ok (.istore_n 3, 1) := by decide +kernel
theorem dX11_look_30 : decode cX11_look 30 = .ok (.iconst 0, 1) := by decide +kernel
theorem dX11_look_31 : decode cX11_look 31 = .ok (.istore 4, 2) := by decide +kernel
theorem dX11_look_33 : decode cX11_look 33 = .ok (.iload 4, 2) := by decide +kernel
theorem dX11_look_35 : decode cX11_look 35 = .ok (.aload_n 0, 1) := by decide +kernel
theorem dX11_look_36 : decode cX11_look 36 = .ok (.getfield 166, 3) := by decide +kernel
theorem dX11_look_39 : decode cX11_look 39 = .ok (.if_icmp .ge 51, 3) := by decide +kernel
theorem dX11_look_42 : decode cX11_look 42 = .ok (.aload_n 0, 1) := by decide +kernel
theorem dX11_look_43 : decode cX11_look 43 = .ok (.getfield 80, 3) := by decide +kernel
theorem dX11_look_46 : decode cX11_look 46 = .ok (.iload 4, 2) := by decide +kernel
theorem dX11_look_48 : decode cX11_look 48 = .ok (.iaload, 1) := by decide +kernel
theorem dX11_look_49 : decode cX11_look 49 = .ok (.iconst (-1), 1) := by decide +kernel
theorem dX11_look_50 : decode cX11_look 50 = .ok (.if_icmp .eq 6, 3) := by decide +kernel
theorem dX11_look_53 : decode cX11_look 53 = .ok (.goto 31, 3) := by decide +kernel
theorem dX11_look_56 : decode cX11_look 56 = .ok (.aload_n 0, 1) := by decide +kernel
theorem dX11_look_57 : decode cX11_look 57 = .ok (.iload 4, 2) := by decide +kernel
theorem dX11_look_59 : decode cX11_look 59 = .ok (.invokevirtual 430, 3) := by decide +kernel
theorem dX11_look_62 : decode cX11_look 62 = .ok (.istore 5, 2) := by decide +kernel
theorem dX11_look_64 : decode cX11_look 64 = .ok (.iload_n 2, 1) := by decide +kernel
theorem dX11_look_65 : decode cX11_look 65 = .ok (.iconst (-1), 1) := by decide +kernel
theorem dX11_look_66 : decode cX11_look 66 = .ok (.if_icmp .eq 12, 3) := by decide +kernel
theorem dX11_look_69 : decode cX11_look 69 = .ok (.iload 5, 2) := by decide +kernel
theorem dX11_look_71 : decode cX11_look 71 = .ok (.iload_n 3, 1) := by decide +kernel
theorem dX11_look_72 : decode cX11_look 72 = .ok (.if_icmp .lt 6, 3) := by decide +kernel
theorem dX11_look_75 : decode cX11_look 75 = .ok (.goto 9, 3) := by decide +kernel
theorem dX11_look_78 : decode cX11_look 78 = .ok (.iload 4, 2) := by decide +kernel
theorem dX11_look_80 : decode cX11_look 80 = .ok (.istore_n 2, 1) := by decide +kernel
theorem dX11_look_81 : decode cX11_look 81 = .ok (.iload 5, 2) := by decide +kernel
theorem dX11_look_83 : decode cX11_look 83 = .ok (.istore_n 3, 1) := by decide +kernel
theorem dX11_look_84 : decode cX11_look 84 = .ok (.iinc 4 1, 3) := by decide +kernel
theorem dX11_look_87 : decode cX11_look 87 = .ok (.goto (-54), 3) := by decide +kernel
theorem dX11_look_90 : decode cX11_look 90 = .ok (.iload_n 1, 1) := by decide +kernel
theorem dX11_look_91 : decode cX11_look 91 = .ok (.ifCond .ne 7, 3) := by decide +kernel
theorem dX11_look_94 : decode cX11_look 94 = .ok (.iload_n 2, 1) := by decide +kernel
theorem dX11_look_95 : decode cX11_look 95 = .ok (.goto 4, 3) := by decide +kernel
theorem dX11_look_98 : decode cX11_look 98 = .ok (.iload_n 3, 1) := by decide +kernel
theorem dX11_look_99 : decode cX11_look 99 = .ok (.ireturn, 1) := by decide +kernel
theorem dX11_watch_0 : decode cX11_watch 0 = .ok (.aload_n 0, 1) := by decide +kernel
theorem dX11_watch_1 : decode cX11_watch 1 = .ok (.iconst 0, 1) := by decide +kernel
theorem dX11_watch_2 : decode cX11_watch 2 = .ok (.putfield 3, 3) := by decide +kernel
theorem dX11_watch_5 : decode cX11_watch 5 = .ok (.aload_n 0, 1) := by decide +kernel
theorem dX11_watch_6 : decode cX11_watch 6 = .ok (.iload_n 1, 1) := by decide +kernel
theorem dX11_watch_7 : decode cX11_watch 7 = .ok (.iconst 0, 1) := by decide +kernel
theorem dX11_watch_8 : decode cX11_watch 8 = .ok (.bipush 60, 2) := by decide +kernel
theorem dX11_watch_10 : decode cX11_watch 10 = .ok (.invokestatic 390, 3) := by decide +kernel
theorem dX11_watch_13 : decode cX11_watch 13 = .ok (.iconst 1, 1) := by decide +kernel
theorem dX11_watch_14 : decode cX11_watch 14 = .ok (.iconst 1, 1) := by decide +kernel
theorem dX11_watch_15 : decode cX11_watch 15 = .ok (.invokevirtual 213, 3) := by decide +kernel
theorem dX11_watch_18 : decode cX11_watch 18 = .ok (.ifCond .ne 5, 3) := by decide +kernel
theorem dX11_watch_21 : decode cX11_watch 21 = .ok (.iconst 0, 1) := by decide +kernel
theorem dX11_watch_22 : decode cX11_watch 22 = .ok (.ireturn, 1) := by decide +kernel
theorem dX11_watch_23 : decode cX11_watch 23 = .ok (.iconst (-1), 1) := by decide +kernel
theorem dX11_watch_24 : decode cX11_watch 24 = .ok (.istore_n 2, 1) := by decide +kernel
theorem dX11_watch_25 : decode cX11_watch 25 = .ok (.iconst 0, 1) := by decide +kernel
theorem dX11_watch_26 : decode cX11_watch 26 = .ok (.istore_n 3, 1) := by decide +kernel
theorem dX11_watch_27 : decode cX11_watch 27 = .ok (.iload_n 3, 1) := by decide +kernel
theorem dX11_watch_28 : decode cX11_watch 28 = .ok (.iconst 1, 1) := by decide +kernel
theorem dX11_watch_29 : decode cX11_watch 29 = .ok (.aload_n 0, 1) := by decide +kernel
theorem dX11_watch_30 : decode cX11_watch 30 = .ok (.getfield 166, 3) := by decide +kernel
theorem dX11_watch_33 : decode cX11_watch 33 = .ok (.ishl, 1) := by decide +kernel
theorem dX11_watch_34 : decode cX11_watch 34 = .ok (.if_icmp .ge 125, 3) := by decide +kernel
theorem dX11_watch_37 : decode cX11_watch 37 = .ok (.iconst 1, 1) := by decide +kernel
theorem dX11_watch_38 : decode cX11_watch 38 = .ok (.istore 4, 2) := by decide +kernel
theorem dX11_watch_40 : decode cX11_watch 40 = .ok (.iconst 0, 1) := by decide +kernel
theorem dX11_watch_41 : decode cX11_watch 41 = .ok (.istore 5, 2) := by decide +kernel
theorem dX11_watch_43 : decode cX11_watch 43 = .ok (.iload 5, 2) := by decide +kernel
theorem dX11_watch_45 : decode cX11_watch 45 = .ok (.aload_n 0, 1) := by decide +kernel
theorem dX11_watch_46 : decode cX11_watch 46 = .ok (.getfield 166, 3) := by decide +kernel
theorem dX11_watch_49 : decode cX11_watch 49 = .ok (.if_icmp .ge 81, 3) := by decide +kernel
theorem dX11_watch_52 : decode cX11_watch 52 = .ok (.iconst 0, 1) := by decide +kernel
theorem dX11_watch_53 : decode cX11_watch 53 = .ok (.istore 6, 2) := by decide +kernel
theorem dX11_watch_55 : decode cX11_watch 55 = .ok (.iconst 0, 1) := by decide +kernel
theorem dX11_watch_56 : decode cX11_watch 56 = .ok (.istore 7, 2) := by decide +kernel
theorem dX11_watch_58 : decode cX11_watch 58 = .ok (.iload 7, 2) := by decide +kernel
theorem dX11_watch_60 : decode cX11_watch 60 = .ok (.aload_n 0, 1) := by decide +kernel
theorem dX11_watch_61 : decode cX11_watch 61 = .ok (.getfield 166, 3) := by decide +kernel
theorem dX11_watch_64 : decode cX11_watch 64 = .ok (.if_icmp .ge 43, 3) := by decide +kernel
theorem dX11_watch_67 : decode cX11_watch 67 = .ok (.iload 6, 2) := by decide +kernel
theorem dX11_watch_69 : decode cX11_watch 69 = .ok (.ifCond .ne 25, 3) := by decide +kernel
theorem dX11_watch_72 : decode cX11_watch 72 = .ok (.iload_n 3, 1) := by decide +kernel
theorem dX11_watch_73 : decode cX11_watch 73 = .ok (.iload 7, 2) := by decide +kernel
theorem dX11_watch_75 : decode cX11_watch 75 = .ok (.ishr, 1) := by decide +kernel
theorem dX11_watch_76 : decode cX11_watch 76 = .ok (.iconst 1, 1) := by decide +kernel
theorem dX11_watch_77 : decode cX11_watch 77 = .ok (.iand, 1) := by decide +kernel
theorem dX11_watch_78 : decode cX11_watch 78 = .ok (.iconst 1, 1) := by decide +kernel
theorem dX11_watch_79 : decode cX11_watch 79 = .ok (.if_icmp .ne 19, 3) := by decide +kernel
theorem dX11_watch_82 : decode cX11_watch 82 = .ok (.aload_n 0, 1) := by decide +kernel
theorem dX11_watch_83 : decode cX11_watch 83 = .ok (.iload 5, 2) := by decide +kernel
theorem dX11_watch_85 : decode cX11_watch 85 = .ok (.iload 7, 2) := by decide +kernel
theorem dX11_watch_87 : decode cX11_watch 87 = .ok (.invokevirtual 358, 3) := by decide +kernel
theorem dX11_watch_90 : decode cX11_watch 90 = .ok (.iload_n 1, 1) := by decide +kernel
theorem dX11_watch_91 : decode cX11_watch 91 = .ok (.if_icmp .gt 7, 3) := by decide +kernel
theorem dX11_watch_94 : decode cX11_watch 94 = .ok (.iconst 1, 1) := by decide +kernel
theorem dX11_watch_95 : decode cX11_watch 95 = .ok (.goto 4, 3) := by decide +kernel
theorem dX11_watch_98 : decode cX11_watch 98 = .ok (.iconst 0, 1) := by decide +kernel
theorem dX11_watch_99 : decode cX11_watch 99 = .ok (.istore 6, 2) := by decide +kernel
theorem dX11_watch_101 : decode cX11_watch 101 = .ok (.iinc 7 1, 3) := by decide +kernel
theorem dX11_watch_104 : decode cX11_watch 104 = .ok (.goto (-46), 3) := by decide +kernel
theorem dX11_watch_107 : decode cX11_watch 107 = .ok (.iload 4, 2) := by decide +kernel
theorem dX11_watch_109 : decode cX11_watch 109 = .ok (.ifCond .eq 12, 3) := by decide +kernel
theorem dX11_watch_112 : decode cX11_watch 112 = .ok (.iload 6, 2) := by decide +kernel
theorem dX11_watch_114 : decode cX11_watch 114 = .ok (.ifCond .eq 7, 3) := by decide +kernel
theorem dX11_watch_117 : decode cX11_watch 117 = .ok (.iconst 1, 1) := by decide +kernel
theorem dX11_watch_118 : decode cX11_watch 118 = .ok (.goto 4, 3) := by decide +kernel
theorem dX11_watch_121 : decode cX11_watch 121 = .ok (.iconst 0, 1) := by decide +kernel
theorem dX11_watch_122 : decode cX11_watch 122 = .ok (.istore 4, 2) := by decide +kernel
theorem dX11_watch_124 : decode cX11_watch 124 = .ok (.iinc 5 1, 3) := by decide +kernel
theorem dX11_watch_127 : decode cX11_watch 127 = .ok (.goto (-84), 3) := by decide +kernel
theorem dX11_watch_130 : decode cX11_watch 130 = .ok (.iload 4, 2) := by decide +kernel
theorem dX11_watch_132 : decode cX11_watch 132 = .ok (.ifCond .eq 21, 3) := by decide +kernel
theorem dX11_watch_135 : decode cX11_watch 135 = .ok (.iload_n 2, 1) := by decide +kernel
theorem dX11_watch_136 : decode cX11_watch 136 = .ok (.iconst (-1), 1) := by decide +kernel
theorem dX11_watch_137 : decode cX11_watch 137 = .ok (.if_icmp .eq 14, 3) := by decide +kernel
theorem dX11_watch_140 : decode cX11_watch 140 = .ok (.iload_n 3, 1) := by decide +kernel
theorem dX11_watch_141 : decode cX11_watch 141 = .ok (.invokestatic 351, 3) := by decide +kernel
theorem dX11_watch_144 : decode cX11_watch 144 = .ok (.iload_n 2, 1) := by decide +kernel
theorem dX11_watch_145 : decode cX11_watch 145 = .ok (.invokestatic 351, 3) := by decide +kernel
theorem dX11_watch_148 : decode cX11_watch 148 = .ok (.if_icmp .ge 5, 3) := by decide +kernel
theorem dX11_watch_151 : decode cX11_watch 151 = .ok (.iload_n 3, 1) := by decide +kernel
theorem dX11_watch_152 : decode cX11_watch 152 = .ok (.istore_n 2, 1) := by decide +kernel
theorem dX11_watch_153 : decode cX11_watch 153 = .ok (.iinc 3 1, 3) := by decide +kernel
theorem dX11_watch_156 : decode cX11_watch 156 = .ok (.goto (-129), 3) := by decide +kernel
theorem dX11_watch_159 : decode cX11_watch 159 = .ok (.iload_n 2, 1) := by decide +kernel
theorem dX11_watch_160 : decode cX11_watch 160 = .ok (.ireturn, 1) := by decide +kernel
theorem dX11_least_0 : decode cX11_least 0 = .ok (.lload_n 0, 1) := by decide +kernel
theorem dX11_least_1 : decode cX11_least 1 = .ok (.lstore 5, 2) := by decide +kernel
theorem dX11_least_3 : decode cX11_least 3 = .ok (.lload_n 2, 1) := by decide +kernel
theorem dX11_least_4 : decode cX11_least 4 = .ok (.lstore 7, 2) := by decide +kernel
theorem dX11_least_6 : decode cX11_least 6 = .ok (.lload 7, 2) := by decide +kernel
theorem dX11_least_8 : decode cX11_least 8 = .ok (.lconst 0, 1) := by decide +kernel
theorem dX11_least_9 : decode cX11_least 9 = .ok (.lcmp, 1) := by decide +kernel
theorem dX11_least_10 : decode cX11_least 10 = .ok (.ifCond .eq 21, 3) := by decide +kernel
theorem dX11_least_13 : decode cX11_least 13 = .ok (.lload 5, 2) := by decide +kernel
theorem dX11_least_15 : decode cX11_least 15 = .ok (.lload 7, 2) := by decide +kernel
theorem dX11_least_17 : decode cX11_least 17 = .ok (.lrem, 1) := by decide +kernel
theorem dX11_least_18 : decode cX11_least 18 = .ok (.lstore 9, 2) := by decide +kernel
theorem dX11_least_20 : decode cX11_least 20 = .ok (.lload 7, 2) := by decide +kernel
theorem dX11_least_22 : decode cX11_least 22 = .ok (.lstore 5, 2) := by decide +kernel
theorem dX11_least_24 : decode cX11_least 24 = .ok (.lload 9, 2) := by decide +kernel
theorem dX11_least_26 : decode cX11_least 26 = .ok (.lstore 7, 2) := by decide +kernel
theorem dX11_least_28 : decode cX11_least 28 = .ok (.goto (-22), 3) := by decide +kernel
theorem dX11_least_31 : decode cX11_least 31 = .ok (.iload 4, 2) := by decide +kernel
theorem dX11_least_33 : decode cX11_least 33 = .ok (.ifCond .ne 7, 3) := by decide +kernel
theorem dX11_least_36 : decode cX11_least 36 = .ok (.lload_n 0, 1) := by decide +kernel
theorem dX11_least_37 : decode cX11_least 37 = .ok (.goto 4, 3) := by decide +kernel
theorem dX11_least_40 : decode cX11_least 40 = .ok (.lload_n 2, 1) := by decide +kernel
theorem dX11_least_41 : decode cX11_least 41 = .ok (.lload 5, 2) := by decide +kernel
theorem dX11_least_43 : decode cX11_least 43 = .ok (.ldiv, 1) := by decide +kernel
theorem dX11_least_44 : decode cX11_least 44 = .ok (.lreturn, 1) := by decide +kernel
theorem dX11_few_0 : decode cX11_few 0 = .ok (.aload_n 0, 1) := by decide +kernel
theorem dX11_few_1 : decode cX11_few 1 = .ok (.iconst 0, 1) := by decide +kernel
theorem dX11_few_2 : decode cX11_few 2 = .ok (.putfield 3, 3) := by decide +kernel
theorem dX11_few_5 : decode cX11_few 5 = .ok (.aload_n 0, 1) := by decide +kernel
theorem dX11_few_6 : decode cX11_few 6 = .ok (.iload_n 1, 1) := by decide +kernel
theorem dX11_few_7 : decode cX11_few 7 = .ok (.iconst 0, 1) := by decide +kernel
theorem dX11_few_8 : decode cX11_few 8 = .ok (.bipush 12, 2) := by decide +kernel
theorem dX11_few_10 : decode cX11_few 10 = .ok (.invokestatic 390, 3) := by decide +kernel
theorem dX11_few_13 : decode cX11_few 13 = .ok (.ifCond .eq 37, 3) := by decide +kernel
theorem dX11_few_16 : decode cX11_few 16 = .ok (.iload_n 2, 1) := by decide +kernel
theorem dX11_few_17 : decode cX11_few 17 = .ok (.iconst 0, 1) := by decide +kernel
theorem dX11_few_18 : decode cX11_few 18 = .ok (.bipush 12, 2) := by decide +kernel
theorem dX11_few_20 : decode cX11_few 20 = .ok (.invokestatic 390, 3) := by decide +kernel
theorem dX11_few_23 : decode cX11_few 23 = .ok (.ifCond .eq 27, 3) := by decide +kernel
theorem dX11_few_26 : decode cX11_few 26 = .ok (.iload_n 3, 1) := by decide +kernel
theorem dX11_few_27 : decode cX11_few 27 = .ok (.iconst 0, 1) := by decide +kernel
theorem dX11_few_28 : decode cX11_few 28 = .ok (.bipush 16, 2) := by decide +kernel
theorem dX11_few_30 : decode cX11_few 30 = .ok (.invokestatic 390, 3) := by decide +kernel
theorem dX11_few_33 : decode cX11_few 33 = .ok (.ifCond .eq 17, 3) := by decide +kernel
theorem dX11_few_36 : decode cX11_few 36 = .ok (.iload 4, 2) := by decide +kernel
theorem dX11_few_38 : decode cX11_few 38 = .ok (.iconst 0, 1) := by decide +kernel
theorem dX11_few_39 : decode cX11_few 39 = .ok (.iconst 1, 1) := by decide +kernel
theorem dX11_few_40 : decode cX11_few 40 = .ok (.invokestatic 390, 3) := by decide +kernel
theorem dX11_few_43 : decode cX11_few 43 = .ok (.ifCond .eq 7, 3) := by decide +kernel
theorem dX11_few_46 : decode cX11_few 46 = .ok (.iconst 1, 1) := by decide +kernel
theorem dX11_few_47 : decode cX11_few 47 = .ok (.goto 4, 3) := by decide +kernel
theorem dX11_few_50 : decode cX11_few 50 = .ok (.iconst 0, 1) := by decide +kernel
theorem dX11_few_51 : decode cX11_few 51 = .ok (.iconst 1, 1) := by decide +kernel
theorem dX11_few_52 : decode cX11_few 52 = .ok (.iconst 1, 1) := by decide +kernel
theorem dX11_few_53 : decode cX11_few 53 = .ok (.invokevirtual 213, 3) := by decide +kernel
theorem dX11_few_56 : decode cX11_few 56 = .ok (.ifCond .ne 5, 3) := by decide +kernel
theorem dX11_few_59 : decode cX11_few 59 = .ok (.lconst 0, 1) := by decide +kernel
theorem dX11_few_60 : decode cX11_few 60 = .ok (.lreturn, 1) := by decide +kernel
theorem dX11_few_61 : decode cX11_few 61 = .ok (.iconst 0, 1) := by decide +kernel
theorem dX11_few_62 : decode cX11_few 62 = .ok (.istore 5, 2) := by decide +kernel
theorem dX11_few_64 : decode cX11_few 64 = .ok (.iload 5, 2) := by decide +kernel
theorem dX11_few_66 : decode cX11_few 66 = .ok (.bipush 14, 2) := by decide +kernel
theorem dX11_few_68 : decode cX11_few 68 = .ok (.if_icmp .ge 26, 3) := by decide +kernel
theorem dX11_few_71 : decode cX11_few 71 = .ok (.aload_n 0, 1) := by decide +kernel
theorem dX11_few_72 : decode cX11_few 72 = .ok (.getfield 98, 3) := by decide +kernel
theorem dX11_few_75 : decode cX11_few 75 = .ok (.iload 5, 2) := by decide +kernel
theorem dX11_few_77 : decode cX11_few 77 = .ok (.iload 5, 2) := by decide +kernel
theorem dX11_few_79 : decode cX11_few 79 = .ok (.ifCond .ne 7, 3) := by decide +kernel
theorem dX11_few_82 : decode cX11_few 82 = .ok (.lconst 1, 1) := by decide +kernel
theorem dX11_few_83 : decode cX11_few 83 = .ok (.goto 4, 3) := by decide +kernel
theorem dX11_few_86 : decode cX11_few 86 = .ok (.lconst 0, 1) := by decide +kernel
theorem dX11_few_87 : decode cX11_few 87 = .ok (.lastore, 1) := by decide +kernel
theorem dX11_few_88 : decode cX11_few 88 = .ok (.iinc 5 1, 3) := by decide +kernel
theorem dX11_few_91 : decode cX11_few 91 = .ok (.goto (-27), 3) := by decide +kernel
theorem dX11_few_94 : decode cX11_few 94 = .ok (.lconst 1, 1) := by decide +kernel
theorem dX11_few_95 : decode cX11_few 95 = .ok (.lstore 5, 2) := by decide +kernel
theorem dX11_few_97 : decode cX11_few 97 = .ok (.iconst 0, 1) := by decide +kernel
theorem dX11_few_98 : decode cX11_few 98 = .ok (.istore 7, 2) := by decide +kernel
theorem dX11_few_100 : decode cX11_few 100 = .ok (.iload 7, 2) := by decide +kernel
theorem dX11_few_102 : decode cX11_few 102 = .ok (.iload_n 1, 1) := by decide +kernel
theorem dX11_few_103 : decode cX11_few 103 = .ok (.if_icmp .ge 74, 3) := by decide +kernel
theorem dX11_few_106 : decode cX11_few 106 = .ok (.bipush 13, 2) := by decide +kernel
theorem dX11_few_108 : decode cX11_few 108 = .ok (.istore 8, 2) := by decide +kernel
theorem dX11_few_110 : decode cX11_few 110 = .ok (.iload 8, 2) := by decide +kernel
theorem dX11_few_112 : decode cX11_few 112 = .ok (.ifCond .lt 51, 3) := by decide +kernel
theorem dX11_few_115 : decode cX11_few 115 = .ok (.aload_n 0, 1) := by decide +kernel
theorem dX11_few_116 : decode cX11_few 116 = .ok (.getfield 98, 3) := by decide +kernel
theorem dX11_few_119 : decode cX11_few 119 = .ok (.iload 8, 2) := by decide +kernel
theorem dX11_few_121 : decode cX11_few 121 = .ok (.aload_n 0, 1) := by decide +kernel
theorem dX11_few_122 : decode cX11_few 122 = .ok (.getfield 98, 3) := by decide +kernel
theorem dX11_few_125 : decode cX11_few 125 = .ok (.iload 8, 2) := by decide +kernel
theorem dX11_few_127 : decode cX11_few 127 = .ok (.laload, 1) := by decide +kernel
theorem dX11_few_128 : decode cX11_few 128 = .ok (.bipush 16, 2) := by decide +kernel
theorem dX11_few_130 : decode cX11_few 130 = .ok (.iload_n 3, 1) := by decide +kernel
theorem dX11_few_131 : decode cX11_few 131 = .ok (.isub, 1) := by decide +kernel
theorem dX11_few_132 : decode cX11_few 132 = .ok (.i2l, 1) := by decide +kernel
theorem dX11_few_133 : decode cX11_few 133 = .ok (.lmul, 1) := by decide +kernel
theorem dX11_few_134 : decode cX11_few 134 = .ok (.iload 8, 2) := by decide +kernel
theorem dX11_few_136 : decode cX11_few 136 = .ok (.ifCond .le 18, 3) := by decide +kernel
theorem dX11_few_139 : decode cX11_few 139 = .ok (.aload_n 0, 1) := by decide +kernel
theorem dX11_few_140 : decode cX11_few 140 = .ok (.getfield 98, 3) := by decide +kernel
theorem dX11_few_143 : decode cX11_few 143 = .ok (.iload 8, 2) := by decide +kernel
theorem dX11_few_145 : decode cX11_few 145 = .ok (.iconst 1, 1) := by decide +kernel
theorem dX11_few_146 : decode cX11_few 146 = .ok (.isub, 1) := by decide +kernel
theorem dX11_few_147 : decode cX11_few 147 = .ok (.laload, 1) := by decide +kernel
theorem dX11_few_148 : decode cX11_few 148 = .ok (.iload_n 3, 1) := by decide +kernel
theorem dX11_few_149 : decode cX11_few 149 = .ok (.i2l, 1) := by decide +kernel
theorem dX11_few_150 : decode cX11_few 150 = .ok (.lmul, 1) := by decide +kernel
theorem dX11_few_151 : decode cX11_few 151 = .ok (.goto 4, 3) := by decide +kernel
theorem dX11_few_154 : decode cX11_few 154 = .ok (.lconst 0, 1) := by decide +kernel
theorem dX11_few_155 : decode cX11_few 155 = .ok (.ladd, 1) := by decide +kernel
theorem dX11_few_156 : decode cX11_few 156 = .ok (.lastore, 1) := by decide +kernel
theorem dX11_few_157 : decode cX11_few 157 = .ok (.iinc 8 (-1), 3) := by decide +kernel
theorem dX11_few_160 : decode cX11_few 160 = .ok (.goto (-50), 3) := by decide +kernel
theorem dX11_few_163 : decode cX11_few 163 = .ok (.lload 5, 2) := by decide +kernel
theorem dX11_few_165 : decode cX11_few 165 = .ok (.ldc2_w 433, 3) := by decide +kernel
theorem dX11_few_168 : decode cX11_few 168 = .ok (.lmul, 1) := by decide +kernel
theorem dX11_few_169 : decode cX11_few 169 = .ok (.lstore 5, 2) := by decide +kernel
theorem dX11_few_171 : decode cX11_few 171 = .ok (.iinc 7 1, 3) := by decide +kernel
theorem dX11_few_174 : decode cX11_few 174 = .ok (.goto (-74), 3) := by decide +kernel
theorem dX11_few_177 : decode cX11_few 177 = .ok (.lconst 0, 1) := by decide +kernel
theorem dX11_few_178 : decode cX11_few 178 = .ok (.lstore 7, 2) := by decide +kernel
theorem dX11_few_180 : decode cX11_few 180 = .ok (.iconst 0, 1) := by decide +kernel
theorem dX11_few_181 : decode cX11_few 181 = .ok (.istore 9, 2) := by decide +kernel
theorem dX11_few_183 : decode cX11_few 183 = .ok (.iload 9, 2) := by decide +kernel
theorem dX11_few_185 : decode cX11_few 185 = .ok (.iload_n 2, 1) := by decide +kernel
theorem dX11_few_186 : decode cX11_few 186 = .ok (.if_icmp .gt 21, 3) := by decide +kernel
theorem dX11_few_189 : decode cX11_few 189 = .ok (.lload 7, 2) := by decide +kernel
theorem dX11_few_191 : decode cX11_few 191 = .ok (.aload_n 0, 1) := by decide +kernel
theorem dX11_few_192 : decode cX11_few 192 = .ok (.getfield 98, 3) := by decide +kernel
theorem dX11_few_195 : decode cX11_few 195 = .ok (.iload 9, 2) := by decide +kernel
theorem dX11_few_197 : decode cX11_few 197 = .ok (.laload, 1) := by decide +kernel
theorem dX11_few_198 : decode cX11_few 198 = .ok (.ladd, 1) := by decide +kernel
theorem dX11_few_199 : decode cX11_few 199 = .ok (.lstore 7, 2) := by decide +kernel
theorem dX11_few_201 : decode cX11_few 201 = .ok (.iinc 9 1, 3) := by decide +kernel
theorem dX11_few_204 : decode cX11_few 204 = .ok (.goto (-21), 3) := by decide +kernel
theorem dX11_few_207 : decode cX11_few 207 = .ok (.lload 7, 2) := by decide +kernel
theorem dX11_few_209 : decode cX11_few 209 = .ok (.lload 5, 2) := by decide +kernel
theorem dX11_few_211 : decode cX11_few 211 = .ok (.iload 4, 2) := by decide +kernel
theorem dX11_few_213 : decode cX11_few 213 = .ok (.invokestatic 435, 3) := by decide +kernel
theorem dX11_few_216 : decode cX11_few 216 = .ok (.lreturn, 1) := by decide +kernel
theorem dX11_hasBy_0 : decode cX11_hasBy 0 = .ok (.iload_n 0, 1) := by decide +kernel
theorem dX11_hasBy_1 : decode cX11_hasBy 1 = .ok (.iconst 1, 1) := by decide +kernel
theorem dX11_hasBy_2 : decode cX11_hasBy 2 = .ok (.if_icmp .ne 16, 3) := by decide +kernel
theorem dX11_hasBy_5 : decode cX11_hasBy 5 = .ok (.iload_n 1, 1) := by decide +kernel
theorem dX11_hasBy_6 : decode cX11_hasBy 6 = .ok (.iconst 1, 1) := by decide +kernel
theorem dX11_hasBy_7 : decode cX11_hasBy 7 = .ok (.if_icmp .ne 7, 3) := by decide +kernel
theorem dX11_hasBy_10 : decode cX11_hasBy 10 = .ok (.iload_n 2, 1) := by decide +kernel
theorem dX11_hasBy_11 : decode cX11_hasBy 11 = .ok (.goto 20, 3) := by decide +kernel
theorem dX11_hasBy_14 : decode cX11_hasBy 14 = .ok (.iconst 0, 1) := by decide +kernel
theorem dX11_hasBy_15 : decode cX11_hasBy 15 = .ok (.goto 16, 3) := by decide +kernel
theorem dX11_hasBy_18 : decode cX11_hasBy 18 = .ok (.iload_n 1, 1) := by decide +kernel
theorem dX11_hasBy_19 : decode cX11_hasBy 19 = .ok (.iconst 1, 1) := by decide +kernel
theorem dX11_hasBy_20 : decode cX11_hasBy 20 = .ok (.if_icmp .ne 9, 3) := by decide +kernel
theorem dX11_hasBy_23 : decode cX11_hasBy 23 = .ok (.iload_n 2, 1) := by decide +kernel
theorem dX11_hasBy_24 : decode cX11_hasBy 24 = .ok (.iload_n 3, 1) := by decide +kernel
theorem dX11_hasBy_25 : decode cX11_hasBy 25 = .ok (.iadd, 1) := by decide +kernel
theorem dX11_hasBy_26 : decode cX11_hasBy 26 = .ok (.goto 5, 3) := by decide +kernel
theorem dX11_hasBy_29 : decode cX11_hasBy 29 = .ok (.iload_n 3, 1) := by decide +kernel
theorem dX11_hasBy_30 : decode cX11_hasBy 30 = .ok (.ineg, 1) := by decide +kernel
theorem dX11_hasBy_31 : decode cX11_hasBy 31 = .ok (.ireturn, 1) := by decide +kernel
theorem dX11_road_0 : decode cX11_road 0 = .ok (.aload_n 0, 1) := by decide +kernel
theorem dX11_road_1 : decode cX11_road 1 = .ok (.iconst 0, 1) := by decide +kernel
theorem dX11_road_2 : decode cX11_road 2 = .ok (.putfield 3, 3) := by decide +kernel
theorem dX11_road_5 : decode cX11_road 5 = .ok (.aload_n 0, 1) := by decide +kernel
theorem dX11_road_6 : decode cX11_road 6 = .ok (.iload_n 1, 1) := by decide +kernel
theorem dX11_road_7 : decode cX11_road 7 = .ok (.iconst 0, 1) := by decide +kernel
theorem dX11_road_8 : decode cX11_road 8 = .ok (.bipush 99, 2) := by decide +kernel
theorem dX11_road_10 : decode cX11_road 10 = .ok (.invokestatic 390, 3) := by decide +kernel
theorem dX11_road_13 : decode cX11_road 13 = .ok (.ifCond .eq 26, 3) := by decide +kernel
theorem dX11_road_16 : decode cX11_road 16 = .ok (.iload_n 2, 1) := by decide +kernel
theorem dX11_road_17 : decode cX11_road 17 = .ok (.iconst 0, 1) := by decide +kernel
theorem dX11_road_18 : decode cX11_road 18 = .ok (.bipush 99, 2) := by decide +kernel
theorem dX11_road_20 : decode cX11_road 20 = .ok (.invokestatic 390, 3) := by decide +kernel
theorem dX11_road_23 : decode cX11_road 23 = .ok (.ifCond .eq 16, 3) := by decide +kernel
theorem dX11_road_26 : decode cX11_road 26 = .ok (.iload_n 3, 1) := by decide +kernel
theorem dX11_road_27 : decode cX11_road 27 = .ok (.iconst 0, 1) := by decide +kernel
theorem dX11_road_28 : decode cX11_road 28 = .ok (.iconst 2, 1) := by decide +kernel
theorem dX11_road_29 : decode cX11_road 29 = .ok (.invokestatic 390, 3) := by decide +kernel
theorem dX11_road_32 : decode cX11_road 32 = .ok (.ifCond .eq 7, 3) := by decide +kernel
theorem dX11_road_35 : decode cX11_road 35 = .ok (.iconst 1, 1) := by decide +kernel
theorem dX11_road_36 : decode cX11_road 36 = .ok (.goto 4, 3) := by decide +kernel
theorem dX11_road_39 : decode cX11_road 39 = .ok (.iconst 0, 1) := by decide +kernel
theorem dX11_road_40 : decode cX11_road 40 = .ok (.iconst 1, 1) := by decide +kernel
theorem dX11_road_41 : decode cX11_road 41 = .ok (.iconst 1, 1) := by decide +kernel
theorem dX11_road_42 : decode cX11_road 42 = .ok (.invokevirtual 213, 3) := by decide +kernel
theorem dX11_road_45 : decode cX11_road 45 = .ok (.ifCond .ne 5, 3) := by decide +kernel
theorem dX11_road_48 : decode cX11_road 48 = .ok (.iconst 0, 1) := by decide +kernel
theorem dX11_road_49 : decode cX11_road 49 = .ok (.ireturn, 1) := by decide +kernel
theorem dX11_road_50 : decode cX11_road 50 = .ok (.iconst 0, 1) := by decide +kernel
theorem dX11_road_51 : decode cX11_road 51 = .ok (.istore 4, 2) := by decide +kernel
theorem dX11_road_53 : decode cX11_road 53 = .ok (.iconst (-1), 1) := by decide +kernel
theorem dX11_road_54 : decode cX11_road 54 = .ok (.istore 5, 2) := by decide +kernel
theorem dX11_road_56 : decode cX11_road 56 = .ok (.iconst 0, 1) := by decide +kernel
theorem dX11_road_57 : decode cX11_road 57 = .ok (.istore 6, 2) := by decide +kernel
theorem dX11_road_59 : decode cX11_road 59 = .ok (.iload 6, 2) := by decide +kernel
theorem dX11_road_61 : decode cX11_road 61 = .ok (.iconst 4, 1) := by decide +kernel
theorem dX11_road_62 : decode cX11_road 62 = .ok (.if_icmp .ge 94, 3) := by decide +kernel
theorem dX11_road_65 : decode cX11_road 65 = .ok (.iload 6, 2) := by decide +kernel
theorem dX11_road_67 : decode cX11_road 67 = .ok (.iconst 2, 1) := by decide +kernel
theorem dX11_road_68 : decode cX11_road 68 = .ok (.idiv, 1) := by decide +kernel
theorem dX11_road_69 : decode cX11_road 69 = .ok (.istore 7, 2) := by decide +kernel
theorem dX11_road_71 : decode cX11_road 71 = .ok (.iload 6, 2) := by decide +kernel
theorem dX11_road_73 : decode cX11_road 73 = .ok (.iconst 2, 1) := by decide +kernel
theorem dX11_road_74 : decode cX11_road 74 = .ok (.irem, 1) := by decide +kernel
theorem dX11_road_75 : decode cX11_road 75 = .ok (.istore 8, 2) := by decide +kernel
theorem dX11_road_77 : decode cX11_road 77 = .ok (.iconst 1, 1) := by decide +kernel
theorem dX11_road_78 : decode cX11_road 78 = .ok (.iload 7, 2) := by decide +kernel
theorem dX11_road_80 : decode cX11_road 80 = .ok (.isub, 1) := by decide +kernel
theorem dX11_road_81 : decode cX11_road 81 = .ok (.iload 8, 2) := by decide +kernel
theorem dX11_road_83 : decode cX11_road 83 = .ok (.iload_n 1, 1) := by decide +kernel
theorem dX11_road_84 : decode cX11_road 84 = .ok (.iload_n 2, 1) := by decide +kernel
theorem dX11_road_85 : decode cX11_road 85 = .ok (.invokestatic 438, 3) := by decide +kernel
theorem dX11_road_88 : decode cX11_road 88 = .ok (.iload 7, 2) := by decide +kernel
theorem dX11_road_90 : decode cX11_road 90 = .ok (.iload 8, 2) := by decide +kernel
theorem dX11_road_92 : decode cX11_road 92 = .ok (.iload_n 1, 1) := by decide +kernel
theorem dX11_road_93 : decode cX11_road 93 = .ok (.iload_n 2, 1) := by decide +kernel
theorem dX11_road_94 : decode cX11_road 94 = .ok (.invokestatic 438, 3) := by decide +kernel
theorem dX11_road_97 : decode cX11_road 97 = .ok (.if_icmp .gt 53, 3) := by decide +kernel
theorem dX11_road_100 : decode cX11_road 100 = .ok (.iconst 1, 1) := by decide +kernel
theorem dX11_road_101 : decode cX11_road 101 = .ok (.iload 8, 2) := by decide +kernel
theorem dX11_road_103 : decode cX11_road 103 = .ok (.isub, 1) := by decide +kernel
theorem dX11_road_104 : decode cX11_road 104 = .ok (.iload 7, 2) := by decide +kernel
theorem dX11_road_106 : decode cX11_road 106 = .ok (.iload_n 1, 1) := by decide +kernel
theorem dX11_road_107 : decode cX11_road 107 = .ok (.iload_n 2, 1) := by decide +kernel
theorem dX11_road_108 : decode cX11_road 108 = .ok (.invokestatic 438, 3) := by decide +kernel
theorem dX11_road_111 : decode cX11_road 111 = .ok (.iload 8, 2) := by decide +kernel
theorem dX11_road_113 : decode cX11_road 113 = .ok (.iload 7, 2) := by decide +kernel
theorem dX11_road_115 : decode cX11_road 115 = .ok (.iload_n 1, 1) := by decide +kernel
theorem dX11_road_116 : decode cX11_road 116 = .ok (.iload_n 2, 1) := by decide +kernel
theorem dX11_road_117 : decode cX11_road 117 = .ok (.invokestatic 438, 3) := by decide +kernel
theorem dX11_road_120 : decode cX11_road 120 = .ok (.if_icmp .le 6, 3) := by decide +kernel
theorem dX11_road_123 : decode cX11_road 123 = .ok (.goto 27, 3) := by decide +kernel
theorem dX11_road_126 : decode cX11_road 126 = .ok (.iinc 4 1, 3) := by decide +kernel
theorem dX11_road_129 : decode cX11_road 129 = .ok (.iload 5, 2) := by decide +kernel
theorem dX11_road_131 : decode cX11_road 131 = .ok (.iconst (-1), 1) := by decide +kernel
theorem dX11_road_132 : decode cX11_road 132 = .ok (.if_icmp .ne 14, 3) := by decide +kernel
theorem dX11_road_135 : decode cX11_road 135 = .ok (.bipush 10, 2) := by decide +kernel
theorem dX11_road_137 : decode cX11_road 137 = .ok (.iload 7, 2) := by decide +kernel
theorem dX11_road_139 : decode cX11_road 139 = .ok (.imul, 1) := by decide +kernel
theorem dX11_road_140 : decode cX11_road 140 = .ok (.iload 8, 2) := by decide +kernel
theorem dX11_road_142 : decode cX11_road 142 = .ok (.iadd, 1) := by decide +kernel
theorem dX11_road_143 : decode cX11_road 143 = .ok (.goto 5, 3) := by decide +kernel
theorem dX11_road_146 : decode cX11_road 146 = .ok (.iload 5, 2) := by decide +kernel
theorem dX11_road_148 : decode cX11_road 148 = .ok (.istore 5, 2) := by decide +kernel
theorem dX11_road_150 : decode cX11_road 150 = .ok (.iinc 6 1, 3) := by decide +kernel
theorem dX11_road_153 : decode cX11_road 153 = .ok (.goto (-94), 3) := by decide +kernel
theorem dX11_road_156 : decode cX11_road 156 = .ok (.iload_n 3, 1) := by decide +kernel
theorem dX11_road_157 : decode cX11_road 157 = .ok (.ifCond .ne 8, 3) := by decide +kernel
theorem dX11_road_160 : decode cX11_road 160 = .ok (.iload 4, 2) := by decide +kernel
theorem dX11_road_162 : decode cX11_road 162 = .ok (.goto 54, 3) := by decide +kernel
theorem dX11_road_165 : decode cX11_road 165 = .ok (.iload_n 3, 1) := by decide +kernel
theorem dX11_road_166 : decode cX11_road 166 = .ok (.iconst 1, 1) := by decide +kernel
theorem dX11_road_167 : decode cX11_road 167 = .ok (.if_icmp .ne 8, 3) := by decide +kernel
theorem dX11_road_170 : decode cX11_road 170 = .ok (.iload 5, 2) := by decide +kernel
theorem dX11_road_172 : decode cX11_road 172 = .ok (.goto 44, 3) := by decide +kernel
theorem dX11_road_175 : decode cX11_road 175 = .ok (.iload 5, 2) := by decide +kernel
theorem dX11_road_177 : decode cX11_road 177 = .ok (.iconst (-1), 1) := by decide +kernel
theorem dX11_road_178 : decode cX11_road 178 = .ok (.if_icmp .ne 7, 3) := by decide +kernel
theorem dX11_road_181 : decode cX11_road 181 = .ok (.iconst 0, 1) := by decide +kernel
theorem dX11_road_182 : decode cX11_road 182 = .ok (.goto 34, 3) := by decide +kernel
theorem dX11_road_185 : decode cX11_road 185 = .ok (.iload 5, 2) := by decide +kernel
theorem dX11_road_187 : decode cX11_road 187 = .ok (.bipush 10, 2) := by decide +kernel
theorem dX11_road_189 : decode cX11_road 189 = .ok (.idiv, 1) := by decide +kernel
theorem dX11_road_190 : decode cX11_road 190 = .ok (.iload 5, 2) := by decide +kernel
theorem dX11_road_192 : decode cX11_road 192 = .ok (.bipush 10, 2) := by decide +kernel
theorem dX11_road_194 : decode cX11_road 194 = .ok (.irem, 1) := by decide +kernel
theorem dX11_road_195 : decode cX11_road 195 = .ok (.iload_n 1, 1) := by decide +kernel
theorem dX11_road_196 : decode cX11_road 196 = .ok (.iload_n 2, 1) := by decide +kernel
theorem dX11_road_197 : decode cX11_road 197 = .ok (.invokestatic 438, 3) := by decide +kernel
theorem dX11_road_200 : decode cX11_road 200 = .ok (.iload 5, 2) := by decide +kernel
theorem dX11_road_202 : decode cX11_road 202 = .ok (.bipush 10, 2) := by decide +kernel
theorem dX11_road_204 : decode cX11_road 204 = .ok (.irem, 1) := by decide +kernel
theorem dX11_road_205 : decode cX11_road 205 = .ok (.iload 5, 2) := by decide +kernel
theorem dX11_road_207 : decode cX11_road 207 = .ok (.bipush 10, 2) := by decide +kernel
theorem dX11_road_209 : decode cX11_road 209 = .ok (.idiv, 1) := by decide +kernel
theorem dX11_road_210 : decode cX11_road 210 = .ok (.iload_n 1, 1) := by decide +kernel
theorem dX11_road_211 : decode cX11_road 211 = .ok (.iload_n 2, 1) := by decide +kernel
theorem dX11_road_212 : decode cX11_road 212 = .ok (.invokestatic 438, 3) := by decide +kernel
theorem dX11_road_215 : decode cX11_road 215 = .ok (.iadd, 1) := by decide +kernel
theorem dX11_road_216 : decode cX11_road 216 = .ok (.ireturn, 1) := by decide +kernel
theorem dX11_cloverBy_0 : decode cX11_cloverBy 0 = .ok (.iconst 0, 1) := by decide +kernel
theorem dX11_cloverBy_1 : decode cX11_cloverBy 1 = .ok (.istore_n 3, 1) := by decide +kernel
theorem dX11_cloverBy_2 : decode cX11_cloverBy 2 = .ok (.iconst 0, 1) := by decide +kernel
theorem dX11_cloverBy_3 : decode cX11_cloverBy 3 = .ok (.istore 4, 2) := by decide +kernel
theorem dX11_cloverBy_5 : decode cX11_cloverBy 5 = .ok (.iload 4, 2) := by decide +kernel
theorem dX11_cloverBy_7 : decode cX11_cloverBy 7 = .ok (.aload_n 0, 1) := by decide +kernel
theorem dX11_cloverBy_8 : decode cX11_cloverBy 8 = .ok (.getfield 169, 3) := by decide +kernel
theorem dX11_cloverBy_11 : decode cX11_cloverBy 11 = .ok (.if_icmp .ge 39, 3) := by decide +kernel
theorem dX11_cloverBy_14 : decode cX11_cloverBy 14 = .ok (.iload_n 3, 1) := by decide +kernel
theorem dX11_cloverBy_15 : decode cX11_cloverBy 15 = .ok (.iload_n 1, 1) := by decide +kernel
theorem dX11_cloverBy_16 : decode cX11_cloverBy 16 = .ok (.iload 4, 2) := by decide +kernel
theorem dX11_cloverBy_18 : decode cX11_cloverBy 18 = .ok (.ishr, 1) := by decide +kernel
theorem dX11_cloverBy_19 : decode cX11_cloverBy 19 = .ok (.iconst 1, 1) := by decide +kernel
theorem dX11_cloverBy_20 : decode cX11_cloverBy 20 = .ok (.iand, 1) := by decide +kernel
theorem dX11_cloverBy_21 : decode cX11_cloverBy 21 = .ok (.aload_n 0, 1) := by decide +kernel
theorem dX11_cloverBy_22 : decode cX11_cloverBy 22 = .ok (.iload 4, 2) := by decide +kernel
theorem dX11_cloverBy_24 : decode cX11_cloverBy 24 = .ok (.invokevirtual 345, 3) := by decide +kernel
theorem dX11_cloverBy_27 : decode cX11_cloverBy 27 = .ok (.iload_n 2, 1) := by decide +kernel
theorem dX11_cloverBy_28 : decode cX11_cloverBy 28 = .ok (.if_icmp .ge 12, 3) := by decide +kernel
theorem dX11_cloverBy_31 : decode cX11_cloverBy 31 = .ok (.aload_n 0, 1) := by decide +kernel
theorem dX11_cloverBy_32 : decode cX11_cloverBy 32 = .ok (.iload 4, 2) := by decide +kernel
theorem dX11_cloverBy_34 : decode cX11_cloverBy 34 = .ok (.invokevirtual 345, 3) := by decide +kernel
theorem dX11_cloverBy_37 : decode cX11_cloverBy 37 = .ok (.goto 4, 3) := by decide +kernel
theorem dX11_cloverBy_40 : decode cX11_cloverBy 40 = .ok (.iload_n 2, 1) := by decide +kernel
theorem dX11_cloverBy_41 : decode cX11_cloverBy 41 = .ok (.imul, 1) := by decide +kernel
theorem dX11_cloverBy_42 : decode cX11_cloverBy 42 = .ok (.iadd, 1) := by decide +kernel
theorem dX11_cloverBy_43 : decode cX11_cloverBy 43 = .ok (.istore_n 3, 1) := by decide +kernel
theorem dX11_cloverBy_44 : decode cX11_cloverBy 44 = .ok (.iinc 4 1, 3) := by decide +kernel
theorem dX11_cloverBy_47 : decode cX11_cloverBy 47 = .ok (.goto (-42), 3) := by decide +kernel
theorem dX11_cloverBy_50 : decode cX11_cloverBy 50 = .ok (.iload_n 3, 1) := by decide +kernel
theorem dX11_cloverBy_51 : decode cX11_cloverBy 51 = .ok (.ireturn, 1) := by decide +kernel
theorem dX11_clover_0 : decode cX11_clover 0 = .ok (.aload_n 0, 1) := by decide +kernel
theorem dX11_clover_1 : decode cX11_clover 1 = .ok (.iconst 0, 1) := by decide +kernel
theorem dX11_clover_2 : decode cX11_clover 2 = .ok (.putfield 3, 3) := by decide +kernel
theorem dX11_clover_5 : decode cX11_clover 5 = .ok (.aload_n 0, 1) := by decide +kernel
theorem dX11_clover_6 : decode cX11_clover 6 = .ok (.iload_n 1, 1) := by decide +kernel
theorem dX11_clover_7 : decode cX11_clover 7 = .ok (.iconst 1, 1) := by decide +kernel
theorem dX11_clover_8 : decode cX11_clover 8 = .ok (.invokevirtual 408, 3) := by decide +kernel
theorem dX11_clover_11 : decode cX11_clover 11 = .ok (.ifCond .eq 42, 3) := by decide +kernel
theorem dX11_clover_14 : decode cX11_clover 14 = .ok (.aload_n 0, 1) := by decide +kernel
theorem dX11_clover_15 : decode cX11_clover 15 = .ok (.iload_n 2, 1) := by decide +kernel
theorem dX11_clover_16 : decode cX11_clover 16 = .ok (.ifCond .lt 28, 3) := by decide +kernel
theorem dX11_clover_19 : decode cX11_clover 19 = .ok (.iload_n 2, 1) := by decide +kernel
theorem dX11_clover_20 : decode cX11_clover 20 = .ok (.iconst 1, 1) := by decide +kernel
theorem dX11_clover_21 : decode cX11_clover 21 = .ok (.aload_n 0, 1) := by decide +kernel
theorem dX11_clover_22 : decode cX11_clover 22 = .ok (.getfield 169, 3) := by decide +kernel
theorem dX11_clover_25 : decode cX11_clover 25 = .ok (.ishl, 1) := by decide +kernel
theorem dX11_clover_26 : decode cX11_clover 26 = .ok (.if_icmp .ge 18, 3) := by decide +kernel
theorem dX11_clover_29 : decode cX11_clover 29 = .ok (.iload_n 3, 1) := by decide +kernel
theorem dX11_clover_30 : decode cX11_clover 30 = .ok (.iconst 0, 1) := by decide +kernel
theorem dX11_clover_31 : decode cX11_clover 31 = .ok (.sipush 999, 3) := by decide +kernel
theorem dX11_clover_34 : decode cX11_clover 34 = .ok (.invokestatic 390, 3) := by decide +kernel
theorem dX11_clover_37 : decode cX11_clover 37 = .ok (.ifCond .eq 7, 3) := by decide +kernel
theorem dX11_clover_40 : decode cX11_clover 40 = .ok (.iconst 1, 1) := by decide +kernel
theorem dX11_clover_41 : decode cX11_clover 41 = .ok (.goto 4, 3) := by decide +kernel
theorem dX11_clover_44 : decode cX11_clover 44 = .ok (.iconst 0, 1) := by decide +kernel
theorem dX11_clover_45 : decode cX11_clover 45 = .ok (.iconst 2, 1) := by decide +kernel
theorem dX11_clover_46 : decode cX11_clover 46 = .ok (.iconst 1, 1) := by decide +kernel
theorem dX11_clover_47 : decode cX11_clover 47 = .ok (.invokevirtual 213, 3) := by decide +kernel
theorem dX11_clover_50 : decode cX11_clover 50 = .ok (.ifCond .ne 5, 3) := by decide +kernel
theorem dX11_clover_53 : decode cX11_clover 53 = .ok (.iconst 0, 1) := by decide +kernel
theorem dX11_clover_54 : decode cX11_clover 54 = .ok (.ireturn, 1) := by decide +kernel
theorem dX11_clover_55 : decode cX11_clover 55 = .ok (.aload_n 0, 1) := by decide +kernel
theorem dX11_clover_56 : decode cX11_clover 56 = .ok (.invokevirtual 316, 3) := by decide +kernel
theorem dX11_clover_59 : decode cX11_clover 59 = .ok (.sipush 495, 3) := by decide +kernel
theorem dX11_clover_62 : decode cX11_clover 62 = .ok (.istore 4, 2) := by decide +kernel
theorem dX11_clover_64 : decode cX11_clover 64 = .ok (.aload_n 0, 1) := by decide +kernel
theorem dX11_clover_65 : decode cX11_clover 65 = .ok (.iload_n 2, 1) := by decide +kernel
theorem dX11_clover_66 : decode cX11_clover 66 = .ok (.iload 4, 2) := by decide +kernel
theorem dX11_clover_68 : decode cX11_clover 68 = .ok (.invokevirtual 441, 3) := by decide +kernel
theorem dX11_clover_71 : decode cX11_clover 71 = .ok (.iload_n 3, 1) := by decide +kernel
theorem dX11_clover_72 : decode cX11_clover 72 = .ok (.if_icmp .le 9, 3) := by decide +kernel
theorem dX11_clover_75 : decode cX11_clover 75 = .ok (.iinc 4 (-1), 3) := by decide +kernel
theorem dX11_clover_78 : decode cX11_clover 78 = .ok (.goto (-14), 3) := by decide +kernel
theorem dX11_clover_81 : decode cX11_clover 81 = .ok (.iload_n 2, 1) := by decide +kernel
theorem dX11_clover_82 : decode cX11_clover 82 = .ok (.iload_n 1, 1) := by decide +kernel
theorem dX11_clover_83 : decode cX11_clover 83 = .ok (.ishr, 1) := by decide +kernel
theorem dX11_clover_84 : decode cX11_clover 84 = .ok (.iconst 1, 1) := by decide +kernel
theorem dX11_clover_85 : decode cX11_clover 85 = .ok (.iand, 1) := by decide +kernel
theorem dX11_clover_86 : decode cX11_clover 86 = .ok (.ifCond .ne 5, 3) := by decide +kernel
theorem dX11_clover_89 : decode cX11_clover 89 = .ok (.iconst 0, 1) := by decide +kernel
theorem dX11_clover_90 : decode cX11_clover 90 = .ok (.ireturn, 1) := by decide +kernel
theorem dX11_clover_91 : decode cX11_clover 91 = .ok (.aload_n 0, 1) := by decide +kernel
theorem dX11_clover_92 : decode cX11_clover 92 = .ok (.iload_n 1, 1) := by decide +kernel
theorem dX11_clover_93 : decode cX11_clover 93 = .ok (.invokevirtual 345, 3) := by decide +kernel
theorem dX11_clover_96 : decode cX11_clover 96 = .ok (.iload 4, 2) := by decide +kernel
theorem dX11_clover_98 : decode cX11_clover 98 = .ok (.if_icmp .ge 11, 3) := by decide +kernel
theorem dX11_clover_101 : decode cX11_clover 101 = .ok (.aload_n 0, 1) := by decide +kernel
theorem dX11_clover_102 : decode cX11_clover 102 = .ok (.iload_n 1, 1) := by decide +kernel
theorem dX11_clover_103 : decode cX11_clover 103 = .ok (.invokevirtual 345, 3) := by decide +kernel
theorem dX11_clover_106 : decode cX11_clover 106 = .ok (.goto 5, 3) := by decide +kernel
theorem dX11_clover_109 : decode cX11_clover 109 = .ok (.iload 4, 2) := by decide +kernel
theorem dX11_clover_111 : decode cX11_clover 111 = .ok (.ireturn, 1) := by decide +kernel
theorem dX11_strongest_0 : decode cX11_strongest 0 = .ok (.aload_n 0, 1) := by decide +kernel
theorem dX11_strongest_1 : decode cX11_strongest 1 = .ok (.iconst 0, 1) := by decide +kernel
theorem dX11_strongest_2 : decode cX11_strongest 2 = .ok (.putfield 3, 3) := by decide +kernel
theorem dX11_strongest_5 : decode cX11_strongest 5 = .ok (.aload_n 0, 1) := by decide +kernel
theorem dX11_strongest_6 : decode cX11_strongest 6 = .ok (.iload_n 1, 1) := by decide +kernel
theorem dX11_strongest_7 : decode cX11_strongest 7 = .ok (.iconst 0, 1) := by decide +kernel
theorem dX11_strongest_8 : decode cX11_strongest 8 = .ok (.iconst 1, 1) := by decide +kernel
theorem dX11_strongest_9 : decode cX11_strongest 9 = .ok (.invokestatic 390, 3) := by decide +kernel
theorem dX11_strongest_12 : decode cX11_strongest 12 = .ok (.iconst 1, 1) := by decide +kernel
theorem dX11_strongest_13 : decode cX11_strongest 13 = .ok (.iconst 1, 1) := by decide +kernel
theorem dX11_strongest_14 : decode cX11_strongest 14 = .ok (.invokevirtual 213, 3) := by decide +kernel
theorem dX11_strongest_17 : decode cX11_strongest 17 = .ok (.ifCond .ne 5, 3) := by decide +kernel
theorem dX11_strongest_20 : decode cX11_strongest 20 = .ok (.iconst 0, 1) := by decide +kernel
theorem dX11_strongest_21 : decode cX11_strongest 21 = .ok (.ireturn, 1) := by decide +kernel
theorem dX11_strongest_22 : decode cX11_strongest 22 = .ok (.aload_n 0, 1) := by decide +kernel
theorem dX11_strongest_23 : decode cX11_strongest 23 = .ok (.invokevirtual 316, 3) := by decide +kernel
theorem dX11_strongest_26 : decode cX11_strongest 26 = .ok (.iconst (-1), 1) := by decide +kernel
theorem dX11_strongest_27 : decode cX11_strongest 27 = .ok (.istore_n 2, 1) := by decide +kernel
theorem dX11_strongest_28 : decode cX11_strongest 28 = .ok (.iconst 0, 1) := by decide +kernel
theorem dX11_strongest_29 : decode cX11_strongest 29 = .ok (.istore_n 3, 1) := by decide +kernel
theorem dX11_strongest_30 : decode cX11_strongest 30 = .ok (.iload_n 3, 1) := by decide +kernel
theorem dX11_strongest_31 : decode cX11_strongest 31 = .ok (.aload_n 0, 1) := by decide +kernel
theorem dX11_strongest_32 : decode cX11_strongest 32 = .ok (.getfield 169, 3) := by decide +kernel
theorem dX11_strongest_35 : decode cX11_strongest 35 = .ok (.if_icmp .ge 45, 3) := by decide +kernel
theorem dX11_strongest_38 : decode cX11_strongest 38 = .ok (.aload_n 0, 1) := by decide +kernel
theorem dX11_strongest_39 : decode cX11_strongest 39 = .ok (.iload_n 3, 1) := by decide +kernel
theorem dX11_strongest_40 : decode cX11_strongest 40 = .ok (.invokevirtual 340, 3) := by decide +kernel
theorem dX11_strongest_43 : decode cX11_strongest 43 = .ok (.ifCond .ne 31, 3) := by decide +kernel
theorem dX11_strongest_46 : decode cX11_strongest 46 = .ok (.iload_n 2, 1) := by decide +kernel
theorem dX11_strongest_47 : decode cX11_strongest 47 = .ok (.iconst (-1), 1) := by decide +kernel
theorem dX11_strongest_48 : decode cX11_strongest 48 = .ok (.if_icmp .eq 24, 3) := by decide +kernel
theorem dX11_strongest_51 : decode cX11_strongest 51 = .ok (.aload_n 0, 1) := by decide +kernel
theorem dX11_strongest_52 : decode cX11_strongest 52 = .ok (.getfield 71, 3) := by decide +kernel
theorem dX11_strongest_55 : decode cX11_strongest 55 = .ok (.bipush 6, 2) := by decide +kernel
theorem dX11_strongest_57 : decode cX11_strongest 57 = .ok (.iload_n 3, 1) := by decide +kernel
theorem dX11_strongest_58 : decode cX11_strongest 58 = .ok (.iadd, 1) := by decide +kernel
theorem dX11_strongest_59 : decode cX11_strongest 59 = .ok (.iaload, 1) := by decide +kernel
theorem dX11_strongest_60 : decode cX11_strongest 60 = .ok (.aload_n 0, 1) := by decide +kernel
theorem dX11_strongest_61 : decode cX11_strongest 61 = .ok (.getfield 71, 3) := by decide +kernel
theorem dX11_strongest_64 : decode cX11_strongest 64 = .ok (.bipush 6, 2) := by decide +kernel
theorem dX11_strongest_66 : decode cX11_strongest 66 = .ok (.iload_n 2, 1) := by decide +kernel
theorem dX11_strongest_67 : decode cX11_strongest 67 = .ok (.iadd, 1) := by decide +kernel
theorem dX11_strongest_68 : decode cX11_strongest 68 = .ok (.iaload, 1) := by decide +kernel
theorem dX11_strongest_69 : decode cX11_strongest 69 = .ok (.if_icmp .le 5, 3) := by decide +kernel
theorem dX11_strongest_72 : decode cX11_strongest 72 = .ok (.iload_n 3, 1) := by decide +kernel
theorem dX11_strongest_73 : decode cX11_strongest 73 = .ok (.istore_n 2, 1) := by decide +kernel
theorem dX11_strongest_74 : decode cX11_strongest 74 = .ok (.iinc 3 1, 3) := by decide +kernel
theorem dX11_strongest_77 : decode cX11_strongest 77 = .ok (.goto (-47), 3) := by decide +kernel
theorem dX11_strongest_80 : decode cX11_strongest 80 = .ok (.iload_n 1, 1) := by decide +kernel
theorem dX11_strongest_81 : decode cX11_strongest 81 = .ok (.ifCond .eq 8, 3) := by decide +kernel
theorem dX11_strongest_84 : decode cX11_strongest 84 = .ok (.iload_n 2, 1) := by decide +kernel
theorem dX11_strongest_85 : decode cX11_strongest 85 = .ok (.iconst (-1), 1) := by decide +kernel
theorem dX11_strongest_86 : decode cX11_strongest 86 = .ok (.if_icmp .ne 7, 3) := by decide +kernel
theorem dX11_strongest_89 : decode cX11_strongest 89 = .ok (.iload_n 2, 1) := by decide +kernel
theorem dX11_strongest_90 : decode cX11_strongest 90 = .ok (.goto 12, 3) := by decide +kernel
theorem dX11_strongest_93 : decode cX11_strongest 93 = .ok (.aload_n 0, 1) := by decide +kernel
theorem dX11_strongest_94 : decode cX11_strongest 94 = .ok (.getfield 71, 3) := by decide +kernel
theorem dX11_strongest_97 : decode cX11_strongest 97 = .ok (.bipush 6, 2) := by decide +kernel
theorem dX11_strongest_99 : decode cX11_strongest 99 = .ok (.iload_n 2, 1) := by decide +kernel
theorem dX11_strongest_100 : decode cX11_strongest 100 = .ok (.iadd, 1) := by decide +kernel
theorem dX11_strongest_101 : decode cX11_strongest 101 = .ok (.iaload, 1) := by decide +kernel
theorem dX11_strongest_102 : decode cX11_strongest 102 = .ok (.ireturn, 1) := by decide +kernel
theorem dX11_ties_0 : decode cX11_ties 0 = .ok (.aload_n 0, 1) := by decide +kernel
theorem dX11_ties_1 : decode cX11_ties 1 = .ok (.iconst 0, 1) := by decide +kernel
theorem dX11_ties_2 : decode cX11_ties 2 = .ok (.putfield 3, 3) := by decide +kernel
theorem dX11_ties_5 : decode cX11_ties 5 = .ok (.aload_n 0, 1) := by decide +kernel
theorem dX11_ties_6 : decode cX11_ties 6 = .ok (.iload_n 1, 1) := by decide +kernel
theorem dX11_ties_7 : decode cX11_ties 7 = .ok (.iconst 1, 1) := by decide +kernel
theorem dX11_ties_8 : decode cX11_ties 8 = .ok (.invokevirtual 408, 3) := by decide +kernel
theorem dX11_ties_11 : decode cX11_ties 11 = .ok (.ifCond .eq 18, 3) := by decide +kernel
theorem dX11_ties_14 : decode cX11_ties 14 = .ok (.aload_n 0, 1) := by decide +kernel
theorem dX11_ties_15 : decode cX11_ties 15 = .ok (.iload_n 2, 1) := by decide +kernel
theorem dX11_ties_16 : decode cX11_ties 16 = .ok (.iconst 0, 1) := by decide +kernel
theorem dX11_ties_17 : decode cX11_ties 17 = .ok (.iconst 1, 1) := by decide +kernel
theorem dX11_ties_18 : decode cX11_ties 18 = .ok (.invokestatic 390, 3) := by decide +kernel
theorem dX11_ties_21 : decode cX11_ties 21 = .ok (.iconst 2, 1) := by decide +kernel
theorem dX11_ties_22 : decode cX11_ties 22 = .ok (.iconst 1, 1) := by decide +kernel
theorem dX11_ties_23 : decode cX11_ties 23 = .ok (.invokevirtual 213, 3) := by decide +kernel
theorem dX11_ties_26 : decode cX11_ties 26 = .ok (.ifCond .ne 5, 3) := by decide +kernel
theorem dX11_ties_29 : decode cX11_ties 29 = .ok (.iconst 0, 1) := by decide +kernel
theorem dX11_ties_30 : decode cX11_ties 30 = .ok (.ireturn, 1) := by decide +kernel
theorem dX11_ties_31 : decode cX11_ties 31 = .ok (.iconst 0, 1) := by decide +kernel
theorem dX11_ties_32 : decode cX11_ties 32 = .ok (.istore_n 3, 1) := by decide +kernel
theorem dX11_ties_33 : decode cX11_ties 33 = .ok (.iconst 0, 1) := by decide +kernel
theorem dX11_ties_34 : decode cX11_ties 34 = .ok (.istore 4, 2) := by decide +kernel
theorem dX11_ties_36 : decode cX11_ties 36 = .ok (.iload 4, 2) := by decide +kernel
theorem dX11_ties_38 : decode cX11_ties 38 = .ok (.aload_n 0, 1) := by decide +kernel
theorem dX11_ties_39 : decode cX11_ties 39 = .ok (.getfield 169, 3) := by decide +kernel
theorem dX11_ties_42 : decode cX11_ties 42 = .ok (.if_icmp .ge 52, 3) := by decide +kernel
theorem dX11_ties_45 : decode cX11_ties 45 = .ok (.iload_n 3, 1) := by decide +kernel
theorem dX11_ties_46 : decode cX11_ties 46 = .ok (.aload_n 0, 1) := by decide +kernel
theorem dX11_ties_47 : decode cX11_ties 47 = .ok (.getfield 68, 3) := by decide +kernel
theorem dX11_ties_50 : decode cX11_ties 50 = .ok (.bipush 30, 2) := by decide +kernel
theorem dX11_ties_52 : decode cX11_ties 52 = .ok (.iload_n 2, 1) := by decide +kernel
theorem dX11_ties_53 : decode cX11_ties 53 = .ok (.ifCond .ne 13, 3) := by decide +kernel
theorem dX11_ties_56 : decode cX11_ties 56 = .ok (.bipush 6, 2) := by decide +kernel
theorem dX11_ties_58 : decode cX11_ties 58 = .ok (.iload_n 1, 1) := by decide +kernel
theorem dX11_ties_59 : decode cX11_ties 59 = .ok (.imul, 1) := by decide +kernel
theorem dX11_ties_60 : decode cX11_ties 60 = .ok (.iload 4, 2) := by decide +kernel
theorem dX11_ties_62 : decode cX11_ties 62 = .ok (.iadd, 1) := by decide +kernel
theorem dX11_ties_63 : decode cX11_ties 63 = .ok (.goto 10, 3) := by decide +kernel
theorem dX11_ties_66 : decode cX11_ties 66 = .ok (.bipush 6, 2) := by decide +kernel
theorem dX11_ties_68 : decode cX11_ties 68 = .ok (.iload 4, 2) := by decide +kernel
theorem dX11_ties_70 : decode cX11_ties 70 = .ok (.imul, 1) := by decide +kernel
theorem dX11_ties_71 : decode cX11_ties 71 = .ok (.iload_n 1, 1) := by decide +kernel
theorem dX11_ties_72 : decode cX11_ties 72 = .ok (.iadd, 1) := by decide +kernel
theorem dX11_ties_73 : decode cX11_ties 73 = .ok (.iadd, 1) := by decide +kernel
theorem dX11_ties_74 : decode cX11_ties 74 = .ok (.iaload, 1) := by decide +kernel
theorem dX11_ties_75 : decode cX11_ties 75 = .ok (.ifCond .le 10, 3) := by decide +kernel
theorem dX11_ties_78 : decode cX11_ties 78 = .ok (.iconst 1, 1) := by decide +kernel
theorem dX11_ties_79 : decode cX11_ties 79 = .ok (.iload 4, 2) := by decide +kernel
theorem dX11_ties_81 : decode cX11_ties 81 = .ok (.ishl, 1) := by decide +kernel
theorem dX11_ties_82 : decode cX11_ties 82 = .ok (.goto 4, 3) := by decide +kernel
theorem dX11_ties_85 : decode cX11_ties 85 = .ok (.iconst 0, 1) := by decide +kernel
theorem dX11_ties_86 : decode cX11_ties 86 = .ok (.ior, 1) := by decide +kernel
theorem dX11_ties_87 : decode cX11_ties 87 = .ok (.istore_n 3, 1) := by decide +kernel
theorem dX11_ties_88 : decode cX11_ties 88 = .ok (.iinc 4 1, 3) := by decide +kernel
theorem dX11_ties_91 : decode cX11_ties 91 = .ok (.goto (-55), 3) := by decide +kernel
theorem dX11_ties_94 : decode cX11_ties 94 = .ok (.iload_n 3, 1) := by decide +kernel
theorem dX11_ties_95 : decode cX11_ties 95 = .ok (.ireturn, 1) := by decide +kernel
theorem dX11_refuge_0 : decode cX11_refuge 0 = .ok (.aload_n 0, 1) := by decide +kernel
theorem dX11_refuge_1 : decode cX11_refuge 1 = .ok (.iconst 0, 1) := by decide +kernel
theorem dX11_refuge_2 : decode cX11_refuge 2 = .ok (.putfield 3, 3) := by decide +kernel
theorem dX11_refuge_5 : decode cX11_refuge 5 = .ok (.aload_n 0, 1) := by decide +kernel
theorem dX11_refuge_6 : decode cX11_refuge 6 = .ok (.iload_n 1, 1) := by decide +kernel
theorem dX11_refuge_7 : decode cX11_refuge 7 = .ok (.iconst 1, 1) := by decide +kernel
theorem dX11_refuge_8 : decode cX11_refuge 8 = .ok (.invokevirtual 405, 3) := by decide +kernel
theorem dX11_refuge_11 : decode cX11_refuge 11 = .ok (.ifCond .eq 18, 3) := by decide +kernel
theorem dX11_refuge_14 : decode cX11_refuge 14 = .ok (.aload_n 0, 1) := by decide +kernel
theorem dX11_refuge_15 : decode cX11_refuge 15 = .ok (.iload_n 2, 1) := by decide +kernel
theorem dX11_refuge_16 : decode cX11_refuge 16 = .ok (.iconst 0, 1) := by decide +kernel
theorem dX11_refuge_17 : decode cX11_refuge 17 = .ok (.iconst 1, 1) := by decide +kernel
theorem dX11_refuge_18 : decode cX11_refuge 18 = .ok (.invokestatic 390, 3) := by decide +kernel
theorem dX11_refuge_21 : decode cX11_refuge 21 = .ok (.iconst 2, 1) := by decide +kernel
theorem dX11_refuge_22 : decode cX11_refuge 22 = .ok (.iconst 1, 1) := by decide +kernel
theorem dX11_refuge_23 : decode cX11_refuge 23 = .ok (.invokevirtual 213, 3) := by decide +kernel
theorem dX11_refuge_26 : decode cX11_refuge 26 = .ok (.ifCond .ne 5, 3) := by decide +kernel
theorem dX11_refuge_29 : decode cX11_refuge 29 = .ok (.iconst 0, 1) := by decide +kernel
theorem dX11_refuge_30 : decode cX11_refuge 30 = .ok (.ireturn, 1) := by decide +kernel
theorem dX11_refuge_31 : decode cX11_refuge 31 = .ok (.iconst (-1), 1) := by decide +kernel
theorem dX11_refuge_32 : decode cX11_refuge 32 = .ok (.istore_n 3, 1) := by decide +kernel
theorem dX11_refuge_33 : decode cX11_refuge 33 = .ok (.iconst 0, 1) := by decide +kernel
theorem dX11_refuge_34 : decode cX11_refuge 34 = .ok (.istore 4, 2) := by decide +kernel
theorem dX11_refuge_36 : decode cX11_refuge 36 = .ok (.iload 4, 2) := by decide +kernel
theorem dX11_refuge_38 : decode cX11_refuge 38 = .ok (.aload_n 0, 1) := by decide +kernel
theorem dX11_refuge_39 : decode cX11_refuge 39 = .ok (.getfield 166, 3) := by decide +kernel
theorem dX11_refuge_42 : decode cX11_refuge 42 = .ok (.if_icmp .ge 42, 3) := by decide +kernel
theorem dX11_refuge_45 : decode cX11_refuge 45 = .ok (.aload_n 0, 1) := by decide +kernel
theorem dX11_refuge_46 : decode cX11_refuge 46 = .ok (.iload 4, 2) := by decide +kernel
theorem dX11_refuge_48 : decode cX11_refuge 48 = .ok (.invokevirtual 368, 3) := by decide +kernel
theorem dX11_refuge_51 : decode cX11_refuge 51 = .ok (.ifCond .eq 27, 3) := by decide +kernel
theorem dX11_refuge_54 : decode cX11_refuge 54 = .ok (.iload_n 3, 1) := by decide +kernel
theorem dX11_refuge_55 : decode cX11_refuge 55 = .ok (.iconst (-1), 1) := by decide +kernel
theorem dX11_refuge_56 : decode cX11_refuge 56 = .ok (.if_icmp .eq 19, 3) := by decide +kernel
theorem dX11_refuge_59 : decode cX11_refuge 59 = .ok (.aload_n 0, 1) := by decide +kernel
theorem dX11_refuge_60 : decode cX11_refuge 60 = .ok (.iload_n 1, 1) := by decide +kernel
theorem dX11_refuge_61 : decode cX11_refuge 61 = .ok (.iload 4, 2) := by decide +kernel
theorem dX11_refuge_63 : decode cX11_refuge 63 = .ok (.invokevirtual 358, 3) := by decide +kernel
theorem dX11_refuge_66 : decode cX11_refuge 66 = .ok (.aload_n 0, 1) := by decide +kernel
theorem dX11_refuge_67 : decode cX11_refuge 67 = .ok (.iload_n 1, 1) := by decide +kernel
theorem dX11_refuge_68 : decode cX11_refuge 68 = .ok (.iload_n 3, 1) := by decide +kernel
theorem dX11_refuge_69 : decode cX11_refuge 69 = .ok (.invokevirtual 358, 3) := by decide +kernel
theorem dX11_refuge_72 : decode cX11_refuge 72 = .ok (.if_icmp .ge 6, 3) := by decide +kernel
theorem dX11_refuge_75 : decode cX11_refuge 75 = .ok (.iload 4, 2) := by decide +kernel
theorem dX11_refuge_77 : decode cX11_refuge 77 = .ok (.istore_n 3, 1) := by decide +kernel
theorem dX11_refuge_78 : decode cX11_refuge 78 = .ok (.iinc 4 1, 3) := by decide +kernel
theorem dX11_refuge_81 : decode cX11_refuge 81 = .ok (.goto (-45), 3) := by decide +kernel
theorem dX11_refuge_84 : decode cX11_refuge 84 = .ok (.iload_n 2, 1) := by decide +kernel
theorem dX11_refuge_85 : decode cX11_refuge 85 = .ok (.ifCond .eq 8, 3) := by decide +kernel
theorem dX11_refuge_88 : decode cX11_refuge 88 = .ok (.iload_n 3, 1) := by decide +kernel
theorem dX11_refuge_89 : decode cX11_refuge 89 = .ok (.iconst (-1), 1) := by decide +kernel
theorem dX11_refuge_90 : decode cX11_refuge 90 = .ok (.if_icmp .ne 7, 3) := by decide +kernel
theorem dX11_refuge_93 : decode cX11_refuge 93 = .ok (.iload_n 3, 1) := by decide +kernel
theorem dX11_refuge_94 : decode cX11_refuge 94 = .ok (.goto 9, 3) := by decide +kernel
theorem dX11_refuge_97 : decode cX11_refuge 97 = .ok (.aload_n 0, 1) := by decide +kernel
theorem dX11_refuge_98 : decode cX11_refuge 98 = .ok (.iload_n 1, 1) := by decide +kernel
theorem dX11_refuge_99 : decode cX11_refuge 99 = .ok (.iload_n 3, 1) := by decide +kernel
theorem dX11_refuge_100 : decode cX11_refuge 100 = .ok (.invokevirtual 358, 3) := by decide +kernel
theorem dX11_refuge_103 : decode cX11_refuge 103 = .ok (.ireturn, 1) := by decide +kernel
theorem dX11_draws_0 : decode cX11_draws 0 = .ok (.aload_n 0, 1) := by decide +kernel
theorem dX11_draws_1 : decode cX11_draws 1 = .ok (.aload_n 0, 1) := by decide +kernel
theorem dX11_draws_2 : decode cX11_draws 2 = .ok (.getfield 444, 3) := by decide +kernel
theorem dX11_draws_5 : decode cX11_draws 5 = .ok (.ldc_w 447, 3) := by decide +kernel
theorem dX11_draws_8 : decode cX11_draws 8 = .ok (.imul, 1) := by decide +kernel
theorem dX11_draws_9 : decode cX11_draws 9 = .ok (.sipush 12345, 3) := by decide +kernel
theorem dX11_draws_12 : decode cX11_draws 12 = .ok (.iadd, 1) := by decide +kernel
theorem dX11_draws_13 : decode cX11_draws 13 = .ok (.putfield 444, 3) := by decide +kernel
theorem dX11_draws_16 : decode cX11_draws 16 = .ok (.aload_n 0, 1) := by decide +kernel
theorem dX11_draws_17 : decode cX11_draws 17 = .ok (.getfield 444, 3) := by decide +kernel
theorem dX11_draws_20 : decode cX11_draws 20 = .ok (.bipush 16, 2) := by decide +kernel
theorem dX11_draws_22 : decode cX11_draws 22 = .ok (.ishr, 1) := by decide +kernel
theorem dX11_draws_23 : decode cX11_draws 23 = .ok (.sipush 32767, 3) := by decide +kernel
theorem dX11_draws_26 : decode cX11_draws 26 = .ok (.iand, 1) := by decide +kernel
theorem dX11_draws_27 : decode cX11_draws 27 = .ok (.iload_n 1, 1) := by decide +kernel
theorem dX11_draws_28 : decode cX11_draws 28 = .ok (.irem, 1) := by decide +kernel
theorem dX11_draws_29 : decode cX11_draws 29 = .ok (.ireturn, 1) := by decide +kernel
theorem dX11_marchGoes_0 : decode cX11_marchGoes 0 = .ok (.aload_n 0, 1) := by decide +kernel
theorem dX11_marchGoes_1 : decode cX11_marchGoes 1 = .ok (.invokevirtual 316, 3) := by decide +kernel
theorem dX11_marchGoes_4 : decode cX11_marchGoes 4 = .ok (.aload_n 0, 1) := by decide +kernel
theorem dX11_marchGoes_5 : decode cX11_marchGoes 5 = .ok (.iload_n 1, 1) := by decide +kernel
theorem dX11_marchGoes_6 : decode cX11_marchGoes 6 = .ok (.putfield 444, 3) := by decide +kernel
theorem dX11_marchGoes_9 : decode cX11_marchGoes 9 = .ok (.aload_n 0, 1) := by decide +kernel
theorem dX11_marchGoes_10 : decode cX11_marchGoes 10 = .ok (.iconst 0, 1) := by decide +kernel
theorem dX11_marchGoes_11 : decode cX11_marchGoes 11 = .ok (.putfield 448, 3) := by decide +kernel
theorem dX11_marchGoes_14 : decode cX11_marchGoes 14 = .ok (.iconst 0, 1) := by decide +kernel
theorem dX11_marchGoes_15 : decode cX11_marchGoes 15 = .ok (.istore_n 3, 1) := by decide +kernel
theorem dX11_marchGoes_16 : decode cX11_marchGoes 16 = .ok (.iload_n 3, 1) := by decide +kernel
theorem dX11_marchGoes_17 : decode cX11_marchGoes 17 = .ok (.iload_n 2, 1) := by decide +kernel
theorem dX11_marchGoes_18 : decode cX11_marchGoes 18 = .ok (.if_icmp .ge 76, 3) := by decide +kernel
theorem dX11_marchGoes_21 : decode cX11_marchGoes 21 = .ok (.aload_n 0, 1) := by decide +kernel
theorem dX11_marchGoes_22 : decode cX11_marchGoes 22 = .ok (.getfield 169, 3) := by decide +kernel
theorem dX11_marchGoes_25 : decode cX11_marchGoes 25 = .ok (.ifCond .le 59, 3) := by decide +kernel
theorem dX11_marchGoes_28 : decode cX11_marchGoes 28 = .ok (.aload_n 0, 1) := by decide +kernel
theorem dX11_marchGoes_29 : decode cX11_marchGoes 29 = .ok (.aload_n 0, 1) := by decide +kernel
theorem dX11_marchGoes_30 : decode cX11_marchGoes 30 = .ok (.getfield 169, 3) := by decide +kernel
theorem dX11_marchGoes_33 : decode cX11_marchGoes 33 = .ok (.invokevirtual 451, 3) := by decide +kernel
theorem dX11_marchGoes_36 : decode cX11_marchGoes 36 = .ok (.istore 4, 2) := by decide +kernel
theorem dX11_marchGoes_38 : decode cX11_marchGoes 38 = .ok (.aload_n 0, 1) := by decide +kernel
theorem dX11_marchGoes_39 : decode cX11_marchGoes 39 = .ok (.dup, 1) := by decide +kernel
theorem dX11_marchGoes_40 : decode cX11_marchGoes 40 = .ok (.getfield 448, 3) := by decide +kernel
theorem dX11_marchGoes_43 : decode cX11_marchGoes 43 = .ok (.aload_n 0, 1) := by decide +kernel
theorem dX11_marchGoes_44 : decode cX11_marchGoes 44 = .ok (.iload 4, 2) := by decide +kernel
theorem dX11_marchGoes_46 : decode cX11_marchGoes 46 = .ok (.aload_n 0, 1) := by decide +kernel
theorem dX11_marchGoes_47 : decode cX11_marchGoes 47 = .ok (.aload_n 0, 1) := by decide +kernel
theorem dX11_marchGoes_48 : decode cX11_marchGoes 48 = .ok (.getfield 166, 3) := by decide +kernel
theorem dX11_marchGoes_51 : decode cX11_marchGoes 51 = .ok (.invokevirtual 451, 3) := by decide +kernel
theorem dX11_marchGoes_54 : decode cX11_marchGoes 54 = .ok (.invokevirtual 377, 3) := by decide +kernel
theorem dX11_marchGoes_57 : decode cX11_marchGoes 57 = .ok (.ifCond .eq 7, 3) := by decide +kernel
theorem dX11_marchGoes_60 : decode cX11_marchGoes 60 = .ok (.iconst 1, 1) := by decide +kernel
theorem dX11_marchGoes_61 : decode cX11_marchGoes 61 = .ok (.goto 4, 3) := by decide +kernel
theorem dX11_marchGoes_64 : decode cX11_marchGoes 64 = .ok (.iconst 0, 1) := by decide +kernel
theorem dX11_marchGoes_65 : decode cX11_marchGoes 65 = .ok (.iadd, 1) := by decide +kernel
theorem dX11_marchGoes_66 : decode cX11_marchGoes 66 = .ok (.putfield 448, 3) := by decide +kernel
theorem dX11_marchGoes_69 : decode cX11_marchGoes 69 = .ok (.aload_n 0, 1) := by decide +kernel
theorem dX11_marchGoes_70 : decode cX11_marchGoes 70 = .ok (.iload 4, 2) := by decide +kernel
theorem dX11_marchGoes_72 : decode cX11_marchGoes 72 = .ok (.aload_n 0, 1) := by decide +kernel
theorem dX11_marchGoes_73 : decode cX11_marchGoes 73 = .ok (.aload_n 0, 1) := by decide +kernel
theorem dX11_marchGoes_74 : decode cX11_marchGoes 74 = .ok (.getfield 169, 3) := by decide +kernel
theorem dX11_marchGoes_77 : decode cX11_marchGoes 77 = .ok (.invokevirtual 451, 3) := by decide +kernel
theorem dX11_marchGoes_80 : decode cX11_marchGoes 80 = .ok (.invokevirtual 380, 3) := by decide +kernel
theorem dX11_marchGoes_83 : decode cX11_marchGoes 83 = .ok (.pop, 1) := by decide +kernel
theorem dX11_marchGoes_84 : decode cX11_marchGoes 84 = .ok (.aload_n 0, 1) := by decide +kernel
theorem dX11_marchGoes_85 : decode cX11_marchGoes 85 = .ok (.invokevirtual 387, 3) := by decide +kernel
theorem dX11_marchGoes_88 : decode cX11_marchGoes 88 = .ok (.iinc 3 1, 3) := by decide +kernel
theorem dX11_marchGoes_91 : decode cX11_marchGoes 91 = .ok (.goto (-75), 3) := by decide +kernel
theorem dX11_marchGoes_94 : decode cX11_marchGoes 94 = .ok (.return_, 1) := by decide +kernel
theorem dX11_strengthNow_0 : decode cX11_strengthNow 0 = .ok (.iconst 0, 1) := by decide +kernel
theorem dX11_strengthNow_1 : decode cX11_strengthNow 1 = .ok (.istore_n 1, 1) := by decide +kernel
theorem dX11_strengthNow_2 : decode cX11_strengthNow 2 = .ok (.iconst 0, 1) := by decide +kernel
theorem dX11_strengthNow_3 : decode cX11_strengthNow 3 = .ok (.istore_n 2, 1) := by decide +kernel
theorem dX11_strengthNow_4 : decode cX11_strengthNow 4 = .ok (.iload_n 2, 1) := by decide +kernel
theorem dX11_strengthNow_5 : decode cX11_strengthNow 5 = .ok (.aload_n 0, 1) := by decide +kernel
theorem dX11_strengthNow_6 : decode cX11_strengthNow 6 = .ok (.getfield 169, 3) := by decide +kernel
theorem dX11_strengthNow_9 : decode cX11_strengthNow 9 = .ok (.if_icmp .ge 33, 3) := by decide +kernel
theorem dX11_strengthNow_12 : decode cX11_strengthNow 12 = .ok (.iload_n 1, 1) := by decide +kernel
theorem dX11_strengthNow_13 : decode cX11_strengthNow 13 = .ok (.aload_n 0, 1) := by decide +kernel
theorem dX11_strengthNow_14 : decode cX11_strengthNow 14 = .ok (.iload_n 2, 1) := by decide +kernel
theorem dX11_strengthNow_15 : decode cX11_strengthNow 15 = .ok (.invokevirtual 340, 3) := by decide +kernel
theorem dX11_strengthNow_18 : decode cX11_strengthNow 18 = .ok (.ifCond .eq 7, 3) := by decide +kernel
theorem dX11_strengthNow_21 : decode cX11_strengthNow 21 = .ok (.iconst 0, 1) := by decide +kernel
theorem dX11_strengthNow_22 : decode cX11_strengthNow 22 = .ok (.goto 12, 3) := by decide +kernel
theorem dX11_strengthNow_25 : decode cX11_strengthNow 25 = .ok (.aload_n 0, 1) := by decide +kernel
theorem dX11_strengthNow_26 : decode cX11_strengthNow 26 = .ok (.getfield 71, 3) := by decide +kernel
theorem dX11_strengthNow_29 : decode cX11_strengthNow 29 = .ok (.bipush 6, 2) := by decide +kernel
theorem dX11_strengthNow_31 : decode cX11_strengthNow 31 = .ok (.iload_n 2, 1) := by decide +kernel
theorem dX11_strengthNow_32 : decode cX11_strengthNow 32 = .ok (.iadd, 1) := by decide +kernel
theorem dX11_strengthNow_33 : decode cX11_strengthNow 33 = .ok (.iaload, 1) := by decide +kernel
theorem dX11_strengthNow_34 : decode cX11_strengthNow 34 = .ok (.iadd, 1) := by decide +kernel
theorem dX11_strengthNow_35 : decode cX11_strengthNow 35 = .ok (.istore_n 1, 1) := by decide +kernel
theorem dX11_strengthNow_36 : decode cX11_strengthNow 36 = .ok (.iinc 2 1, 3) := by decide +kernel
theorem dX11_strengthNow_39 : decode cX11_strengthNow 39 = .ok (.goto (-35), 3) := by decide +kernel
theorem dX11_strengthNow_42 : decode cX11_strengthNow 42 = .ok (.iload_n 1, 1) := by decide +kernel
theorem dX11_strengthNow_43 : decode cX11_strengthNow 43 = .ok (.ireturn, 1) := by decide +kernel
theorem dX11_march_0 : decode cX11_march 0 = .ok (.aload_n 0, 1) := by decide +kernel
theorem dX11_march_1 : decode cX11_march 1 = .ok (.iconst 0, 1) := by decide +kernel
theorem dX11_march_2 : decode cX11_march 2 = .ok (.putfield 3, 3) := by decide +kernel
theorem dX11_march_5 : decode cX11_march 5 = .ok (.aload_n 0, 1) := by decide +kernel
theorem dX11_march_6 : decode cX11_march 6 = .ok (.iload_n 2, 1) := by decide +kernel
theorem dX11_march_7 : decode cX11_march 7 = .ok (.iconst 1, 1) := by decide +kernel
theorem dX11_march_8 : decode cX11_march 8 = .ok (.bipush 96, 2) := by decide +kernel
theorem dX11_march_10 : decode cX11_march 10 = .ok (.invokestatic 390, 3) := by decide +kernel
theorem dX11_march_13 : decode cX11_march 13 = .ok (.ifCond .eq 16, 3) := by decide +kernel
theorem dX11_march_16 : decode cX11_march 16 = .ok (.iload_n 3, 1) := by decide +kernel
theorem dX11_march_17 : decode cX11_march 17 = .ok (.iconst 0, 1) := by decide +kernel
theorem dX11_march_18 : decode cX11_march 18 = .ok (.iconst 3, 1) := by decide +kernel
theorem dX11_march_19 : decode cX11_march 19 = .ok (.invokestatic 390, 3) := by decide +kernel
theorem dX11_march_22 : decode cX11_march 22 = .ok (.ifCond .eq 7, 3) := by decide +kernel
theorem dX11_march_25 : decode cX11_march 25 = .ok (.iconst 1, 1) := by decide +kernel
theorem dX11_march_26 : decode cX11_march 26 = .ok (.goto 4, 3) := by decide +kernel
theorem dX11_march_29 : decode cX11_march 29 = .ok (.iconst 0, 1) := by decide +kernel
theorem dX11_march_30 : decode cX11_march 30 = .ok (.iconst 1, 1) := by decide +kernel
theorem dX11_march_31 : decode cX11_march 31 = .ok (.iconst 1, 1) := by decide +kernel
theorem dX11_march_32 : decode cX11_march 32 = .ok (.invokevirtual 213, 3) := by decide +kernel
theorem dX11_march_35 : decode cX11_march 35 = .ok (.ifCond .ne 5, 3) := by decide +kernel
theorem dX11_march_38 : decode cX11_march 38 = .ok (.iconst 0, 1) := by decide +kernel
theorem dX11_march_39 : decode cX11_march 39 = .ok (.ireturn, 1) := by decide +kernel
theorem dX11_march_40 : decode cX11_march 40 = .ok (.aload_n 0, 1) := by decide +kernel
theorem dX11_march_41 : decode cX11_march 41 = .ok (.iload_n 1, 1) := by decide +kernel
theorem dX11_march_42 : decode cX11_march 42 = .ok (.iload_n 2, 1) := by decide +kernel
theorem dX11_march_43 : decode cX11_march 43 = .ok (.invokevirtual 454, 3) := by decide +kernel
theorem dX11_march_46 : decode cX11_march 46 = .ok (.iload_n 3, 1) := by decide +kernel
theorem dX11_march_47 : decode cX11_march 47 = .ok (.ifCond .ne 10, 3) := by decide +kernel
theorem dX11_march_50 : decode cX11_march 50 = .ok (.aload_n 0, 1) := by decide +kernel
theorem dX11_march_51 : decode cX11_march 51 = .ok (.getfield 448, 3) := by decide +kernel
theorem dX11_march_54 : decode cX11_march 54 = .ok (.goto 34, 3) := by decide +kernel
theorem dX11_march_57 : decode cX11_march 57 = .ok (.iload_n 3, 1) := by decide +kernel
theorem dX11_march_58 : decode cX11_march 58 = .ok (.iconst 1, 1) := by decide +kernel
theorem dX11_march_59 : decode cX11_march 59 = .ok (.if_icmp .ne 10, 3) := by decide +kernel
theorem dX11_march_62 : decode cX11_march 62 = .ok (.aload_n 0, 1) := by decide +kernel
theorem dX11_march_63 : decode cX11_march 63 = .ok (.invokevirtual 396, 3) := by decide +kernel
theorem dX11_march_66 : decode cX11_march 66 = .ok (.goto 22, 3) := by decide +kernel
theorem dX11_march_69 : decode cX11_march 69 = .ok (.iload_n 3, 1) := by decide +kernel
theorem dX11_march_70 : decode cX11_march 70 = .ok (.iconst 2, 1) := by decide +kernel
theorem dX11_march_71 : decode cX11_march 71 = .ok (.if_icmp .ne 10, 3) := by decide +kernel
theorem dX11_march_74 : decode cX11_march 74 = .ok (.aload_n 0, 1) := by decide +kernel
theorem dX11_march_75 : decode cX11_march 75 = .ok (.invokevirtual 457, 3) := by decide +kernel
theorem dX11_march_78 : decode cX11_march 78 = .ok (.goto 10, 3) := by decide +kernel
theorem dX11_march_81 : decode cX11_march 81 = .ok (.aload_n 0, 1) := by decide +kernel
theorem dX11_march_82 : decode cX11_march 82 = .ok (.getfield 71, 3) := by decide +kernel
theorem dX11_march_85 : decode cX11_march 85 = .ok (.bipush 66, 2) := by decide +kernel
theorem dX11_march_87 : decode cX11_march 87 = .ok (.iaload, 1) := by decide +kernel
theorem dX11_march_88 : decode cX11_march 88 = .ok (.ireturn, 1) := by decide +kernel
theorem dX11_span_0 : decode cX11_span 0 = .ok (.aload_n 0, 1) := by decide +kernel
theorem dX11_span_1 : decode cX11_span 1 = .ok (.iconst 0, 1) := by decide +kernel
theorem dX11_span_2 : decode cX11_span 2 = .ok (.putfield 3, 3) := by decide +kernel
theorem dX11_span_5 : decode cX11_span 5 = .ok (.aload_n 0, 1) := by decide +kernel
theorem dX11_span_6 : decode cX11_span 6 = .ok (.iload_n 2, 1) := by decide +kernel
theorem dX11_span_7 : decode cX11_span 7 = .ok (.iconst 1, 1) := by decide +kernel
theorem dX11_span_8 : decode cX11_span 8 = .ok (.bipush 20, 2) := by decide +kernel
theorem dX11_span_10 : decode cX11_span 10 = .ok (.invokestatic 390, 3) := by decide +kernel
theorem dX11_span_13 : decode cX11_span 13 = .ok (.ifCond .eq 42, 3) := by decide +kernel
theorem dX11_span_16 : decode cX11_span 16 = .ok (.iload_n 3, 1) := by decide +kernel
theorem dX11_span_17 : decode cX11_span 17 = .ok (.iconst 1, 1) := by decide +kernel
theorem dX11_span_18 : decode cX11_span 18 = .ok (.bipush 96, 2) := by decide +kernel
theorem dX11_span_20 : decode cX11_span 20 = .ok (.invokestatic 390, 3) := by decide +kernel
theorem dX11_span_23 : decode cX11_span 23 = .ok (.ifCond .eq 32, 3) := by decide +kernel
theorem dX11_span_26 : decode cX11_span 26 = .ok (.iload 4, 2) := by decide +kernel
theorem dX11_span_28 : decode cX11_span 28 = .ok (.iconst 0, 1) := by decide +kernel
theorem dX11_span_29 : decode cX11_span 29 = .ok (.iconst 2, 1) := by decide +kernel
theorem dX11_span_30 : decode cX11_span 30 = .ok (.invokestatic 390, 3) := by decide +kernel
theorem dX11_span_33 : decode cX11_span 33 = .ok (.ifCond .eq 22, 3) := by decide +kernel
theorem dX11_span_36 : decode cX11_span 36 = .ok (.iload 5, 2) := by decide +kernel
theorem dX11_span_38 : decode cX11_span 38 = .ok (.iconst 0, 1) := by decide +kernel
theorem dX11_span_39 : decode cX11_span 39 = .ok (.aload_n 0, 1) := by decide +kernel
theorem dX11_span_40 : decode cX11_span 40 = .ok (.getfield 169, 3) := by decide +kernel
theorem dX11_span_43 : decode cX11_span 43 = .ok (.iconst 1, 1) := by decide +kernel
theorem dX11_span_44 : decode cX11_span 44 = .ok (.isub, 1) := by decide +kernel
theorem dX11_span_45 : decode cX11_span 45 = .ok (.invokestatic 390, 3) := by decide +kernel
theorem dX11_span_48 : decode cX11_span 48 = .ok (.ifCond .eq 7, 3) := by decide +kernel
theorem dX11_span_51 : decode cX11_span 51 = .ok (.iconst 1, 1) := by decide +kernel
theorem dX11_span_52 : decode cX11_span 52 = .ok (.goto 4, 3) := by decide +kernel
theorem dX11_span_55 : decode cX11_span 55 = .ok (.iconst 0, 1) := by decide +kernel
theorem dX11_span_56 : decode cX11_span 56 = .ok (.iconst 1, 1) := by decide +kernel
theorem dX11_span_57 : decode cX11_span 57 = .ok (.iconst 1, 1) := by decide +kernel
theorem dX11_span_58 : decode cX11_span 58 = .ok (.invokevirtual 213, 3) := by decide +kernel
theorem dX11_span_61 : decode cX11_span 61 = .ok (.ifCond .ne 5, 3) := by decide +kernel
theorem dX11_span_64 : decode cX11_span 64 = .ok (.iconst 0, 1) := by decide +kernel
theorem dX11_span_65 : decode cX11_span 65 = .ok (.ireturn, 1) := by decide +kernel
theorem dX11_span_66 : decode cX11_span 66 = .ok (.iconst (-1), 1) := by decide +kernel
theorem dX11_span_67 : decode cX11_span 67 = .ok (.istore 6, 2) := by decide +kernel
theorem dX11_span_69 : decode cX11_span 69 = .ok (.iconst 0, 1) := by decide +kernel
theorem dX11_span_70 : decode cX11_span 70 = .ok (.istore 7, 2) := by decide +kernel
theorem dX11_span_72 : decode cX11_span 72 = .ok (.iconst 0, 1) := by decide +kernel
theorem dX11_span_73 : decode cX11_span 73 = .ok (.istore 8, 2) := by decide +kernel
theorem dX11_span_75 : decode cX11_span 75 = .ok (.iconst 0, 1) := by decide +kernel
theorem dX11_span_76 : decode cX11_span 76 = .ok (.istore 9, 2) := by decide +kernel
theorem dX11_span_78 : decode cX11_span 78 = .ok (.iload 9, 2) := by decide +kernel
theorem dX11_span_80 : decode cX11_span 80 = .ok (.iload_n 2, 1) := by decide +kernel
theorem dX11_span_81 : decode cX11_span 81 = .ok (.if_icmp .ge 83, 3) := by decide +kernel
theorem dX11_span_84 : decode cX11_span 84 = .ok (.aload_n 0, 1) := by decide +kernel
theorem dX11_span_85 : decode cX11_span 85 = .ok (.iload_n 1, 1) := by decide +kernel
theorem dX11_span_86 : decode cX11_span 86 = .ok (.iload 9, 2) := by decide +kernel
theorem dX11_span_88 : decode cX11_span 88 = .ok (.iadd, 1) := by decide +kernel
theorem dX11_span_89 : decode cX11_span 89 = .ok (.iload_n 3, 1) := by decide +kernel
theorem dX11_span_90 : decode cX11_span 90 = .ok (.invokevirtual 454, 3) := by decide +kernel
theorem dX11_span_93 : decode cX11_span 93 = .ok (.iload 6, 2) := by decide +kernel
theorem dX11_span_95 : decode cX11_span 95 = .ok (.iconst (-1), 1) := by decide +kernel
theorem dX11_span_96 : decode cX11_span 96 = .ok (.if_icmp .eq 12, 3) := by decide +kernel
theorem dX11_span_99 : decode cX11_span 99 = .ok (.aload_n 0, 1) := by decide +kernel
theorem dX11_span_100 : decode cX11_span 100 = .ok (.getfield 448, 3) := by decide +kernel
theorem dX11_span_103 : decode cX11_span 103 = .ok (.iload 6, 2) := by decide +kernel
theorem dX11_span_105 : decode cX11_span 105 = .ok (.if_icmp .ge 10, 3) := by decide +kernel
theorem dX11_span_108 : decode cX11_span 108 = .ok (.aload_n 0, 1) := by decide +kernel
theorem dX11_span_109 : decode cX11_span 109 = .ok (.getfield 448, 3) := by decide +kernel
theorem dX11_span_112 : decode cX11_span 112 = .ok (.goto 5, 3) := by decide +kernel
theorem dX11_span_115 : decode cX11_span 115 = .ok (.iload 6, 2) := by decide +kernel
theorem dX11_span_117 : decode cX11_span 117 = .ok (.istore 6, 2) := by decide +kernel
theorem dX11_span_119 : decode cX11_span 119 = .ok (.aload_n 0, 1) := by decide +kernel
theorem dX11_span_120 : decode cX11_span 120 = .ok (.getfield 448, 3) := by decide +kernel
theorem dX11_span_123 : decode cX11_span 123 = .ok (.iload 7, 2) := by decide +kernel
theorem dX11_span_125 : decode cX11_span 125 = .ok (.if_icmp .le 10, 3) := by decide +kernel
theorem dX11_span_128 : decode cX11_span 128 = .ok (.aload_n 0, 1) := by decide +kernel
theorem dX11_span_129 : decode cX11_span 129 = .ok (.getfield 448, 3) := by decide +kernel
theorem dX11_span_132 : decode cX11_span 132 = .ok (.goto 5, 3) := by decide +kernel
theorem dX11_span_135 : decode cX11_span 135 = .ok (.iload 7, 2) := by decide +kernel
theorem dX11_span_137 : decode cX11_span 137 = .ok (.istore 7, 2) := by decide +kernel
theorem dX11_span_139 : decode cX11_span 139 = .ok (.iload 8, 2) := by decide +kernel
theorem dX11_span_141 : decode cX11_span 141 = .ok (.aload_n 0, 1) := by decide +kernel
theorem dX11_span_142 : decode cX11_span 142 = .ok (.iload 5, 2) := by decide +kernel
theorem dX11_span_144 : decode cX11_span 144 = .ok (.invokevirtual 340, 3) := by decide +kernel
theorem dX11_span_147 : decode cX11_span 147 = .ok (.ifCond .eq 7, 3) := by decide +kernel
theorem dX11_span_150 : decode cX11_span 150 = .ok (.iconst 0, 1) := by decide +kernel
theorem dX11_span_151 : decode cX11_span 151 = .ok (.goto 4, 3) := by decide +kernel
theorem dX11_span_154 : decode cX11_span 154 = .ok (.iconst 1, 1) := by decide +kernel
theorem dX11_span_155 : decode cX11_span 155 = .ok (.iadd, 1) := by decide +kernel
theorem dX11_span_156 : decode cX11_span 156 = .ok (.istore 8, 2) := by decide +kernel
theorem dX11_span_158 : decode cX11_span 158 = .ok (.iinc 9 1, 3) := by decide +kernel
theorem dX11_span_161 : decode cX11_span 161 = .ok (.goto (-83), 3) := by decide +kernel
theorem dX11_span_164 : decode cX11_span 164 = .ok (.iload 4, 2) := by decide +kernel
theorem dX11_span_166 : decode cX11_span 166 = .ok (.ifCond .ne 8, 3) := by decide +kernel
theorem dX11_span_169 : decode cX11_span 169 = .ok (.iload 6, 2) := by decide +kernel
theorem dX11_span_171 : decode cX11_span 171 = .ok (.goto 16, 3) := by decide +kernel
theorem dX11_span_174 : decode cX11_span 174 = .ok (.iload 4, 2) := by decide +kernel
theorem dX11_span_176 : decode cX11_span 176 = .ok (.iconst 1, 1) := by decide +kernel
theorem dX11_span_177 : decode cX11_span 177 = .ok (.if_icmp .ne 8, 3) := by decide +kernel
theorem dX11_span_180 : decode cX11_span 180 = .ok (.iload 7, 2) := by decide +kernel
theorem dX11_span_182 : decode cX11_span 182 = .ok (.goto 5, 3) := by decide +kernel
theorem dX11_span_185 : decode cX11_span 185 = .ok (.iload 8, 2) := by decide +kernel
theorem dX11_span_187 : decode cX11_span 187 = .ok (.ireturn, 1) := by decide +kernel
theorem dX11_keepsRow_0 : decode cX11_keepsRow 0 = .ok (.iconst 0, 1) := by decide +kernel
theorem dX11_keepsRow_1 : decode cX11_keepsRow 1 = .ok (.istore 5, 2) := by decide +kernel
theorem dX11_keepsRow_3 : decode cX11_keepsRow 3 = .ok (.iload 5, 2) := by decide +kernel
theorem dX11_keepsRow_5 : decode cX11_keepsRow 5 = .ok (.iload_n 3, 1) := by decide +kernel
theorem dX11_keepsRow_6 : decode cX11_keepsRow 6 = .ok (.if_icmp .ge 43, 3) := by decide +kernel
theorem dX11_keepsRow_9 : decode cX11_keepsRow 9 = .ok (.iload 4, 2) := by decide +kernel
theorem dX11_keepsRow_11 : decode cX11_keepsRow 11 = .ok (.ifCond .eq 19, 3) := by decide +kernel
theorem dX11_keepsRow_14 : decode cX11_keepsRow 14 = .ok (.aload_n 0, 1) := by decide +kernel
theorem dX11_keepsRow_15 : decode cX11_keepsRow 15 = .ok (.getfield 102, 3) := by decide +kernel
theorem dX11_keepsRow_18 : decode cX11_keepsRow 18 = .ok (.iload_n 1, 1) := by decide +kernel
theorem dX11_keepsRow_19 : decode cX11_keepsRow 19 = .ok (.iload 5, 2) := by decide +kernel
theorem dX11_keepsRow_21 : decode cX11_keepsRow 21 = .ok (.iadd, 1) := by decide +kernel
theorem dX11_keepsRow_22 : decode cX11_keepsRow 22 = .ok (.aload_n 2, 1) := by decide +kernel
theorem dX11_keepsRow_23 : decode cX11_keepsRow 23 = .ok (.iload 5, 2) := by decide +kernel
theorem dX11_keepsRow_25 : decode cX11_keepsRow 25 = .ok (.iaload, 1) := by decide +kernel
theorem dX11_keepsRow_26 : decode cX11_keepsRow 26 = .ok (.iastore, 1) := by decide +kernel
theorem dX11_keepsRow_27 : decode cX11_keepsRow 27 = .ok (.goto 16, 3) := by decide +kernel
theorem dX11_keepsRow_30 : decode cX11_keepsRow 30 = .ok (.aload_n 2, 1) := by decide +kernel
theorem dX11_keepsRow_31 : decode cX11_keepsRow 31 = .ok (.iload 5, 2) := by decide +kernel
theorem dX11_keepsRow_33 : decode cX11_keepsRow 33 = .ok (.aload_n 0, 1) := by decide +kernel
theorem dX11_keepsRow_34 : decode cX11_keepsRow 34 = .ok (.getfield 102, 3) := by decide +kernel
theorem dX11_keepsRow_37 : decode cX11_keepsRow 37 = .ok (.iload_n 1, 1) := by decide +kernel
theorem dX11_keepsRow_38 : decode cX11_keepsRow 38 = .ok (.iload 5, 2) := by decide +kernel
theorem dX11_keepsRow_40 : decode cX11_keepsRow 40 = .ok (.iadd, 1) := by decide +kernel
theorem dX11_keepsRow_41 : decode cX11_keepsRow 41 = .ok (.iaload, 1) := by decide +kernel
theorem dX11_keepsRow_42 : decode cX11_keepsRow 42 = .ok (.iastore, 1) := by decide +kernel
theorem dX11_keepsRow_43 : decode cX11_keepsRow 43 = .ok (.iinc 5 1, 3) := by decide +kernel
theorem dX11_keepsRow_46 : decode cX11_keepsRow 46 = .ok (.goto (-43), 3) := by decide +kernel
theorem dX11_keepsRow_49 : decode cX11_keepsRow 49 = .ok (.iload_n 1, 1) := by decide +kernel
theorem dX11_keepsRow_50 : decode cX11_keepsRow 50 = .ok (.iload_n 3, 1) := by decide +kernel
theorem dX11_keepsRow_51 : decode cX11_keepsRow 51 = .ok (.iadd, 1) := by decide +kernel
theorem dX11_keepsRow_52 : decode cX11_keepsRow 52 = .ok (.ireturn, 1) := by decide +kernel
theorem dX11_keepsAll_0 : decode cX11_keepsAll 0 = .ok (.aload_n 0, 1) := by decide +kernel
theorem dX11_keepsAll_1 : decode cX11_keepsAll 1 = .ok (.sipush 1157, 3) := by decide +kernel
theorem dX11_keepsAll_4 : decode cX11_keepsAll 4 = .ok (.iload_n 1, 1) := by decide +kernel
theorem dX11_keepsAll_5 : decode cX11_keepsAll 5 = .ok (.imul, 1) := by decide +kernel
theorem dX11_keepsAll_6 : decode cX11_keepsAll 6 = .ok (.aload_n 0, 1) := by decide +kernel
theorem dX11_keepsAll_7 : decode cX11_keepsAll 7 = .ok (.getfield 68, 3) := by decide +kernel
theorem dX11_keepsAll_10 : decode cX11_keepsAll 10 = .ok (.bipush 68, 2) := by decide +kernel
theorem dX11_keepsAll_12 : decode cX11_keepsAll 12 = .ok (.iload_n 2, 1) := by decide +kernel
theorem dX11_keepsAll_13 : decode cX11_keepsAll 13 = .ok (.invokevirtual 460, 3) := by decide +kernel
theorem dX11_keepsAll_16 : decode cX11_keepsAll 16 = .ok (.istore_n 3, 1) := by decide +kernel
theorem dX11_keepsAll_17 : decode cX11_keepsAll 17 = .ok (.aload_n 0, 1) := by decide +kernel
theorem dX11_keepsAll_18 : decode cX11_keepsAll 18 = .ok (.iload_n 3, 1) := by decide +kernel
theorem dX11_keepsAll_19 : decode cX11_keepsAll 19 = .ok (.aload_n 0, 1) := by decide +kernel
theorem dX11_keepsAll_20 : decode cX11_keepsAll 20 = .ok (.getfield 74, 3) := by decide +kernel
theorem dX11_keepsAll_23 : decode cX11_keepsAll 23 = .ok (.sipush 1088, 3) := by decide +kernel
theorem dX11_keepsAll_26 : decode cX11_keepsAll 26 = .ok (.iload_n 2, 1) := by decide +kernel
theorem dX11_keepsAll_27 : decode cX11_keepsAll 27 = .ok (.invokevirtual 460, 3) := by decide +kernel
theorem dX11_keepsAll_30 : decode cX11_keepsAll 30 = .ok (.istore_n 3, 1) := by decide +kernel
theorem dX11_keepsAll_31 : decode cX11_keepsAll 31 = .ok (.iload_n 2, 1) := by decide +kernel
theorem dX11_keepsAll_32 : decode cX11_keepsAll 32 = .ok (.ifCond .eq 16, 3) := by decide +kernel
theorem dX11_keepsAll_35 : decode cX11_keepsAll 35 = .ok (.aload_n 0, 1) := by decide +kernel
theorem dX11_keepsAll_36 : decode cX11_keepsAll 36 = .ok (.getfield 102, 3) := by decide +kernel
theorem dX11_keepsAll_39 : decode cX11_keepsAll 39 = .ok (.iload_n 3, 1) := by decide +kernel
theorem dX11_keepsAll_40 : decode cX11_keepsAll 40 = .ok (.aload_n 0, 1) := by decide +kernel
theorem dX11_keepsAll_41 : decode cX11_keepsAll 41 = .ok (.getfield 185, 3) := by decide +kernel
theorem dX11_keepsAll_44 : decode cX11_keepsAll 44 = .ok (.iastore, 1) := by decide +kernel
theorem dX11_keepsAll_45 : decode cX11_keepsAll 45 = .ok (.goto 13, 3) := by decide +kernel
theorem dX11_keepsAll_48 : decode cX11_keepsAll 48 = .ok (.aload_n 0, 1) := by decide +kernel
theorem dX11_keepsAll_49 : decode cX11_keepsAll 49 = .ok (.aload_n 0, 1) := by decide +kernel
theorem dX11_keepsAll_50 : decode cX11_keepsAll 50 = .ok (.getfield 102, 3) := by decide +kernel
theorem dX11_keepsAll_53 : decode cX11_keepsAll 53 = .ok (.iload_n 3, 1) := by decide +kernel
theorem dX11_keepsAll_54 : decode cX11_keepsAll 54 = .ok (.iaload, 1) := by decide +kernel
theorem dX11_keepsAll_55 : decode cX11_keepsAll 55 = .ok (.putfield 185, 3) := by decide +kernel
theorem dX11_keepsAll_58 : decode cX11_keepsAll 58 = .ok (.return_, 1) := by decide +kernel
theorem dX11_image_0 : decode cX11_image 0 = .ok (.aload_n 0, 1) := by decide +kernel
theorem dX11_image_1 : decode cX11_image 1 = .ok (.iconst 0, 1) := by decide +kernel
theorem dX11_image_2 : decode cX11_image 2 = .ok (.putfield 3, 3) := by decide +kernel
theorem dX11_image_5 : decode cX11_image 5 = .ok (.aload_n 0, 1) := by decide +kernel
theorem dX11_image_6 : decode cX11_image 6 = .ok (.getfield 188, 3) := by decide +kernel
theorem dX11_image_9 : decode cX11_image 9 = .ok (.iconst 3, 1) := by decide +kernel
theorem dX11_image_10 : decode cX11_image 10 = .ok (.if_icmp .ne 5, 3) := by decide +kernel
theorem dX11_image_13 : decode cX11_image 13 = .ok (.iconst (-1), 1) := by decide +kernel
theorem dX11_image_14 : decode cX11_image 14 = .ok (.ireturn, 1) := by decide +kernel
theorem dX11_image_15 : decode cX11_image 15 = .ok (.aload_n 0, 1) := by decide +kernel
theorem dX11_image_16 : decode cX11_image 16 = .ok (.aload_n 0, 1) := by decide +kernel
theorem dX11_image_17 : decode cX11_image 17 = .ok (.getfield 188, 3) := by decide +kernel
theorem dX11_image_20 : decode cX11_image 20 = .ok (.iconst 1, 1) := by decide +kernel
theorem dX11_image_21 : decode cX11_image 21 = .ok (.invokevirtual 464, 3) := by decide +kernel
theorem dX11_image_24 : decode cX11_image 24 = .ok (.aload_n 0, 1) := by decide +kernel
theorem dX11_image_25 : decode cX11_image 25 = .ok (.dup, 1) := by decide +kernel
theorem dX11_image_26 : decode cX11_image 26 = .ok (.getfield 188, 3) := by decide +kernel
theorem dX11_image_29 : decode cX11_image 29 = .ok (.iconst 1, 1) := by decide +kernel
theorem dX11_image_30 : decode cX11_image 30 = .ok (.iadd, 1) := by decide +kernel
theorem dX11_image_31 : decode cX11_image 31 = .ok (.putfield 188, 3) := by decide +kernel
theorem dX11_image_34 : decode cX11_image 34 = .ok (.aload_n 0, 1) := by decide +kernel
theorem dX11_image_35 : decode cX11_image 35 = .ok (.getfield 188, 3) := by decide +kernel
theorem dX11_image_38 : decode cX11_image 38 = .ok (.ireturn, 1) := by decide +kernel
theorem dX11_restore_0 : decode cX11_restore 0 = .ok (.aload_n 0, 1) := by decide +kernel
theorem dX11_restore_1 : decode cX11_restore 1 = .ok (.iconst 0, 1) := by decide +kernel
theorem dX11_restore_2 : decode cX11_restore 2 = .ok (.putfield 3, 3) := by decide +kernel
theorem dX11_restore_5 : decode cX11_restore 5 = .ok (.aload_n 0, 1) := by decide +kernel
theorem dX11_restore_6 : decode cX11_restore 6 = .ok (.getfield 188, 3) := by decide +kernel
theorem dX11_restore_9 : decode cX11_restore 9 = .ok (.ifCond .ne 5, 3) := by decide +kernel
theorem dX11_restore_12 : decode cX11_restore 12 = .ok (.iconst (-1), 1) := by decide +kernel
theorem dX11_restore_13 : decode cX11_restore 13 = .ok (.ireturn, 1) := by decide +kernel
theorem dX11_restore_14 : decode cX11_restore 14 = .ok (.aload_n 0, 1) := by decide +kernel
theorem dX11_restore_15 : decode cX11_restore 15 = .ok (.dup, 1) := by decide +kernel
theorem dX11_restore_16 : decode cX11_restore 16 = .ok (.getfield 188, 3) := by decide +kernel
theorem dX11_restore_19 : decode cX11_restore 19 = .ok (.iconst 1, 1) := by decide +kernel
theorem dX11_restore_20 : decode cX11_restore 20 = .ok (.isub, 1) := by decide +kernel
theorem dX11_restore_21 : decode cX11_restore 21 = .ok (.putfield 188, 3) := by decide +kernel
theorem dX11_restore_24 : decode cX11_restore 24 = .ok (.aload_n 0, 1) := by decide +kernel
theorem dX11_restore_25 : decode cX11_restore 25 = .ok (.aload_n 0, 1) := by decide +kernel
theorem dX11_restore_26 : decode cX11_restore 26 = .ok (.getfield 188, 3) := by decide +kernel
theorem dX11_restore_29 : decode cX11_restore 29 = .ok (.iconst 0, 1) := by decide +kernel
theorem dX11_restore_30 : decode cX11_restore 30 = .ok (.invokevirtual 464, 3) := by decide +kernel
theorem dX11_restore_33 : decode cX11_restore 33 = .ok (.aload_n 0, 1) := by decide +kernel
theorem dX11_restore_34 : decode cX11_restore 34 = .ok (.iconst 0, 1) := by decide +kernel
theorem dX11_restore_35 : decode cX11_restore 35 = .ok (.putfield 191, 3) := by decide +kernel
theorem dX11_restore_38 : decode cX11_restore 38 = .ok (.aload_n 0, 1) := by decide +kernel
theorem dX11_restore_39 : decode cX11_restore 39 = .ok (.getfield 188, 3) := by decide +kernel
theorem dX11_restore_42 : decode cX11_restore 42 = .ok (.ireturn, 1) := by decide +kernel
theorem dX11_status_0 : decode cX11_status 0 = .ok (.aload_n 0, 1) := by decide +kernel
theorem dX11_status_1 : decode cX11_status 1 = .ok (.iconst 0, 1) := by decide +kernel
theorem dX11_status_2 : decode cX11_status 2 = .ok (.putfield 3, 3) := by decide +kernel
theorem dX11_status_5 : decode cX11_status 5 = .ok (.iload_n 1, 1) := by decide +kernel
theorem dX11_status_6 : decode cX11_status 6 = .ok (.iconst 0, 1) := by decide +kernel
theorem dX11_status_7 : decode cX11_status 7 = .ok (.iconst 1, 1) := by decide +kernel
theorem dX11_status_8 : decode cX11_status 8 = .ok (.invokestatic 390, 3) := by decide +kernel
theorem dX11_status_11 : decode cX11_status 11 = .ok (.ifCond .eq 12, 3) := by decide +kernel
theorem dX11_status_14 : decode cX11_status 14 = .ok (.aload_n 0, 1) := by decide +kernel
theorem dX11_status_15 : decode cX11_status 15 = .ok (.getfield 7, 3) := by decide +kernel
theorem dX11_status_18 : decode cX11_status 18 = .ok (.iload_n 1, 1) := by decide +kernel
theorem dX11_status_19 : decode cX11_status 19 = .ok (.iaload, 1) := by decide +kernel
theorem dX11_status_20 : decode cX11_status 20 = .ok (.goto 4, 3) := by decide +kernel
theorem dX11_status_23 : decode cX11_status 23 = .ok (.iconst (-1), 1) := by decide +kernel
theorem dX11_status_24 : decode cX11_status 24 = .ok (.ireturn, 1) := by decide +kernel
theorem dX11_count_0 : decode cX11_count 0 = .ok (.aload_n 0, 1) := by decide +kernel
theorem dX11_count_1 : decode cX11_count 1 = .ok (.iconst 0, 1) := by decide +kernel
theorem dX11_count_2 : decode cX11_count 2 = .ok (.putfield 3, 3) := by decide +kernel
theorem dX11_count_5 : decode cX11_count 5 = .ok (.iload_n 1, 1) := by decide +kernel
theorem dX11_count_6 : decode cX11_count 6 = .ok (.ifCond .ne 10, 3) := by decide +kernel
theorem dX11_count_9 : decode cX11_count 9 = .ok (.aload_n 0, 1) := by decide +kernel
theorem dX11_count_10 : decode cX11_count 10 = .ok (.getfield 188, 3) := by decide +kernel
theorem dX11_count_13 : decode cX11_count 13 = .ok (.goto 28, 3) := by decide +kernel
theorem dX11_count_16 : decode cX11_count 16 = .ok (.iload_n 1, 1) := by decide +kernel
theorem dX11_count_17 : decode cX11_count 17 = .ok (.iconst 1, 1) := by decide +kernel
theorem dX11_count_18 : decode cX11_count 18 = .ok (.if_icmp .ne 10, 3) := by decide +kernel
theorem dX11_count_21 : decode cX11_count 21 = .ok (.aload_n 0, 1) := by decide +kernel
theorem dX11_count_22 : decode cX11_count 22 = .ok (.getfield 111, 3) := by decide +kernel
theorem dX11_count_25 : decode cX11_count 25 = .ok (.goto 16, 3) := by decide +kernel
theorem dX11_count_28 : decode cX11_count 28 = .ok (.iload_n 1, 1) := by decide +kernel
theorem dX11_count_29 : decode cX11_count 29 = .ok (.iconst 2, 1) := by decide +kernel
theorem dX11_count_30 : decode cX11_count 30 = .ok (.if_icmp .ne 10, 3) := by decide +kernel
theorem dX11_count_33 : decode cX11_count 33 = .ok (.aload_n 0, 1) := by decide +kernel
theorem dX11_count_34 : decode cX11_count 34 = .ok (.getfield 185, 3) := by decide +kernel
theorem dX11_count_37 : decode cX11_count 37 = .ok (.goto 4, 3) := by decide +kernel
theorem dX11_count_40 : decode cX11_count 40 = .ok (.iconst (-1), 1) := by decide +kernel
theorem dX11_count_41 : decode cX11_count 41 = .ok (.ireturn, 1) := by decide +kernel
theorem dJ6_bitCount_0f7a4_0 : decode cJ6_bitCount_0f7a4 0 = .ok (.iload_n 0, 1) := by decide +kernel
theorem dJ6_bitCount_0f7a4_1 : decode cJ6_bitCount_0f7a4 1 = .ok (.iload_n 0, 1) := by decide +kernel
theorem dJ6_bitCount_0f7a4_2 : decode cJ6_bitCount_0f7a4 2 = .ok (.iconst 1, 1) := by decide +kernel
theorem dJ6_bitCount_0f7a4_3 : decode cJ6_bitCount_0f7a4 3 = .ok (.iushr, 1) := by decide +kernel
theorem dJ6_bitCount_0f7a4_4 : decode cJ6_bitCount_0f7a4 4 = .ok (.ldc_w 265, 3) := by decide +kernel
theorem dJ6_bitCount_0f7a4_7 : decode cJ6_bitCount_0f7a4 7 = .ok (.iand, 1) := by decide +kernel
theorem dJ6_bitCount_0f7a4_8 : decode cJ6_bitCount_0f7a4 8 = .ok (.isub, 1) := by decide +kernel
theorem dJ6_bitCount_0f7a4_9 : decode cJ6_bitCount_0f7a4 9 = .ok (.istore_n 0, 1) := by decide +kernel
theorem dJ6_bitCount_0f7a4_10 : decode cJ6_bitCount_0f7a4 10 = .ok (.iload_n 0, 1) := by decide +kernel
theorem dJ6_bitCount_0f7a4_11 : decode cJ6_bitCount_0f7a4 11 = .ok (.ldc_w 266, 3) := by decide +kernel
theorem dJ6_bitCount_0f7a4_14 : decode cJ6_bitCount_0f7a4 14 = .ok (.iand, 1) := by decide +kernel
theorem dJ6_bitCount_0f7a4_15 : decode cJ6_bitCount_0f7a4 15 = .ok (.iload_n 0, 1) := by decide +kernel
theorem dJ6_bitCount_0f7a4_16 : decode cJ6_bitCount_0f7a4 16 = .ok (.iconst 2, 1) := by decide +kernel
theorem dJ6_bitCount_0f7a4_17 : decode cJ6_bitCount_0f7a4 17 = .ok (.iushr, 1) := by decide +kernel
theorem dJ6_bitCount_0f7a4_18 : decode cJ6_bitCount_0f7a4 18 = .ok (.ldc_w 266, 3) := by decide +kernel
theorem dJ6_bitCount_0f7a4_21 : decode cJ6_bitCount_0f7a4 21 = .ok (.iand, 1) := by decide +kernel
theorem dJ6_bitCount_0f7a4_22 : decode cJ6_bitCount_0f7a4 22 = .ok (.iadd, 1) := by decide +kernel
theorem dJ6_bitCount_0f7a4_23 : decode cJ6_bitCount_0f7a4 23 = .ok (.istore_n 0, 1) := by decide +kernel
theorem dJ6_bitCount_0f7a4_24 : decode cJ6_bitCount_0f7a4 24 = .ok (.iload_n 0, 1) := by decide +kernel
theorem dJ6_bitCount_0f7a4_25 : decode cJ6_bitCount_0f7a4 25 = .ok (.iload_n 0, 1) := by decide +kernel
theorem dJ6_bitCount_0f7a4_26 : decode cJ6_bitCount_0f7a4 26 = .ok (.iconst 4, 1) := by decide +kernel
theorem dJ6_bitCount_0f7a4_27 : decode cJ6_bitCount_0f7a4 27 = .ok (.iushr, 1) := by decide +kernel
theorem dJ6_bitCount_0f7a4_28 : decode cJ6_bitCount_0f7a4 28 = .ok (.iadd, 1) := by decide +kernel
theorem dJ6_bitCount_0f7a4_29 : decode cJ6_bitCount_0f7a4 29 = .ok (.ldc_w 267, 3) := by decide +kernel
theorem dJ6_bitCount_0f7a4_32 : decode cJ6_bitCount_0f7a4 32 = .ok (.iand, 1) := by decide +kernel
theorem dJ6_bitCount_0f7a4_33 : decode cJ6_bitCount_0f7a4 33 = .ok (.istore_n 0, 1) := by decide +kernel
theorem dJ6_bitCount_0f7a4_34 : decode cJ6_bitCount_0f7a4 34 = .ok (.iload_n 0, 1) := by decide +kernel
theorem dJ6_bitCount_0f7a4_35 : decode cJ6_bitCount_0f7a4 35 = .ok (.iload_n 0, 1) := by decide +kernel
theorem dJ6_bitCount_0f7a4_36 : decode cJ6_bitCount_0f7a4 36 = .ok (.bipush 8, 2) := by decide +kernel
theorem dJ6_bitCount_0f7a4_38 : decode cJ6_bitCount_0f7a4 38 = .ok (.iushr, 1) := by decide +kernel
theorem dJ6_bitCount_0f7a4_39 : decode cJ6_bitCount_0f7a4 39 = .ok (.iadd, 1) := by decide +kernel
theorem dJ6_bitCount_0f7a4_40 : decode cJ6_bitCount_0f7a4 40 = .ok (.istore_n 0, 1) := by decide +kernel
theorem dJ6_bitCount_0f7a4_41 : decode cJ6_bitCount_0f7a4 41 = .ok (.iload_n 0, 1) := by decide +kernel
theorem dJ6_bitCount_0f7a4_42 : decode cJ6_bitCount_0f7a4 42 = .ok (.iload_n 0, 1) := by decide +kernel
theorem dJ6_bitCount_0f7a4_43 : decode cJ6_bitCount_0f7a4 43 = .ok (.bipush 16, 2) := by decide +kernel
theorem dJ6_bitCount_0f7a4_45 : decode cJ6_bitCount_0f7a4 45 = .ok (.iushr, 1) := by decide +kernel
theorem dJ6_bitCount_0f7a4_46 : decode cJ6_bitCount_0f7a4 46 = .ok (.iadd, 1) := by decide +kernel
theorem dJ6_bitCount_0f7a4_47 : decode cJ6_bitCount_0f7a4 47 = .ok (.istore_n 0, 1) := by decide +kernel
theorem dJ6_bitCount_0f7a4_48 : decode cJ6_bitCount_0f7a4 48 = .ok (.iload_n 0, 1) := by decide +kernel
theorem dJ6_bitCount_0f7a4_49 : decode cJ6_bitCount_0f7a4 49 = .ok (.bipush 63, 2) := by decide +kernel
theorem dJ6_bitCount_0f7a4_51 : decode cJ6_bitCount_0f7a4 51 = .ok (.iand, 1) := by decide +kernel
theorem dJ6_bitCount_0f7a4_52 : decode cJ6_bitCount_0f7a4 52 = .ok (.ireturn, 1) := by decide +kernel
theorem dJ9_abs_0f7a4_0 : decode cJ9_abs_0f7a4 0 = .ok (.iload_n 0, 1) := by decide +kernel
theorem dJ9_abs_0f7a4_1 : decode cJ9_abs_0f7a4 1 = .ok (.ifCond .ge 8, 3) := by decide +kernel
theorem dJ9_abs_0f7a4_4 : decode cJ9_abs_0f7a4 4 = .ok (.iload_n 0, 1) := by decide +kernel
theorem dJ9_abs_0f7a4_5 : decode cJ9_abs_0f7a4 5 = .ok (.ineg, 1) := by decide +kernel
theorem dJ9_abs_0f7a4_6 : decode cJ9_abs_0f7a4 6 = .ok (.goto 4, 3) := by decide +kernel
theorem dJ9_abs_0f7a4_9 : decode cJ9_abs_0f7a4 9 = .ok (.iload_n 0, 1) := by decide +kernel
theorem dJ9_abs_0f7a4_10 : decode cJ9_abs_0f7a4 10 = .ok (.ireturn, 1) := by decide +kernel
theorem dJ9_max_7cf53_0 : decode cJ9_max_7cf53 0 = .ok (.iload_n 0, 1) := by decide +kernel
theorem dJ9_max_7cf53_1 : decode cJ9_max_7cf53 1 = .ok (.iload_n 1, 1) := by decide +kernel
theorem dJ9_max_7cf53_2 : decode cJ9_max_7cf53 2 = .ok (.if_icmp .lt 7, 3) := by decide +kernel
theorem dJ9_max_7cf53_5 : decode cJ9_max_7cf53 5 = .ok (.iload_n 0, 1) := by decide +kernel
theorem dJ9_max_7cf53_6 : decode cJ9_max_7cf53 6 = .ok (.goto 4, 3) := by decide +kernel
theorem dJ9_max_7cf53_9 : decode cJ9_max_7cf53 9 = .ok (.iload_n 1, 1) := by decide +kernel
theorem dJ9_max_7cf53_10 : decode cJ9_max_7cf53 10 = .ok (.ireturn, 1) := by decide +kernel
theorem dJ9_min_7cf53_0 : decode cJ9_min_7cf53 0 = .ok (.iload_n 0, 1) := by decide +kernel
theorem dJ9_min_7cf53_1 : decode cJ9_min_7cf53 1 = .ok (.iload_n 1, 1) := by decide +kernel
theorem dJ9_min_7cf53_2 : decode cJ9_min_7cf53 2 = .ok (.if_icmp .gt 7, 3) := by decide +kernel
theorem dJ9_min_7cf53_5 : decode cJ9_min_7cf53 5 = .ok (.iload_n 0, 1) := by decide +kernel
theorem dJ9_min_7cf53_6 : decode cJ9_min_7cf53 6 = .ok (.goto 4, 3) := by decide +kernel
theorem dJ9_min_7cf53_9 : decode cJ9_min_7cf53 9 = .ok (.iload_n 1, 1) := by decide +kernel
theorem dJ9_min_7cf53_10 : decode cJ9_min_7cf53 10 = .ok (.ireturn, 1) := by decide +kernel
theorem dJ0_length_8abf5_0 : decode cJ0_length_8abf5 0 = .ok (.aload_n 0, 1) := by decide +kernel
theorem dJ0_length_8abf5_1 : decode cJ0_length_8abf5 1 = .ok (.getfield 9, 3) := by decide +kernel
theorem dJ0_length_8abf5_4 : decode cJ0_length_8abf5 4 = .ok (.arraylength, 1) := by decide +kernel
theorem dJ0_length_8abf5_5 : decode cJ0_length_8abf5 5 = .ok (.aload_n 0, 1) := by decide +kernel
theorem dJ0_length_8abf5_6 : decode cJ0_length_8abf5 6 = .ok (.invokevirtual 335, 3) := by decide +kernel
theorem dJ0_length_8abf5_9 : decode cJ0_length_8abf5 9 = .ok (.ishr, 1) := by decide +kernel
theorem dJ0_length_8abf5_10 : decode cJ0_length_8abf5 10 = .ok (.ireturn, 1) := by decide +kernel
theorem dJ0_charAt_5068e_0 : decode cJ0_charAt_5068e 0 = .ok (.aload_n 0, 1) := by decide +kernel
theorem dJ0_charAt_5068e_1 : decode cJ0_charAt_5068e 1 = .ok (.invokevirtual 492, 3) := by decide +kernel
theorem dJ0_charAt_5068e_4 : decode cJ0_charAt_5068e 4 = .ok (.ifCond .eq 12, 3) := by decide +kernel
theorem dJ0_charAt_5068e_7 : decode cJ0_charAt_5068e 7 = .ok (.aload_n 0, 1) := by decide +kernel
theorem dJ0_charAt_5068e_8 : decode cJ0_charAt_5068e 8 = .ok (.getfield 9, 3) := by decide +kernel
theorem dJ0_charAt_5068e_11 : decode cJ0_charAt_5068e 11 = .ok (.iload_n 1, 1) := by decide +kernel
theorem dJ0_charAt_5068e_12 : decode cJ0_charAt_5068e 12 = .ok (.invokestatic 495, 3) := by decide +kernel
theorem dJ0_charAt_5068e_15 : decode cJ0_charAt_5068e 15 = .ok (.ireturn, 1) := by decide +kernel
theorem dJ0_charAt_5068e_16 : decode cJ0_charAt_5068e 16 = .ok (.aload_n 0, 1) := by decide +kernel
theorem dJ0_charAt_5068e_17 : decode cJ0_charAt_5068e 17 = .ok (.getfield 9, 3) := by decide +kernel
theorem dJ0_charAt_5068e_20 : decode cJ0_charAt_5068e 20 = .ok (.iload_n 1, 1) := by decide +kernel
theorem dJ0_charAt_5068e_21 : decode cJ0_charAt_5068e 21 = .ok (.invokestatic 498, 3) := by decide +kernel
theorem dJ0_charAt_5068e_24 : decode cJ0_charAt_5068e 24 = .ok (.ireturn, 1) := by decide +kernel
theorem dJ0_coder_7d493_0 : decode cJ0_coder_7d493 0 = .ok (.getstatic 38, 3) := by decide +kernel
theorem dJ0_coder_7d493_3 : decode cJ0_coder_7d493 3 = .ok (.ifCond .eq 10, 3) := by decide +kernel
theorem dJ0_coder_7d493_6 : decode cJ0_coder_7d493 6 = .ok (.aload_n 0, 1) := by decide +kernel
theorem dJ0_coder_7d493_7 : decode cJ0_coder_7d493 7 = .ok (.getfield 15, 3) := by decide +kernel
theorem dJ0_coder_7d493_10 : decode cJ0_coder_7d493 10 = .ok (.goto 4, 3) := by decide +kernel
theorem dJ0_coder_7d493_13 : decode cJ0_coder_7d493 13 = .ok (.iconst 1, 1) := by decide +kernel
theorem dJ0_coder_7d493_14 : decode cJ0_coder_7d493 14 = .ok (.ireturn, 1) := by decide +kernel
theorem dJ0_isLatin1_aae02_0 : decode cJ0_isLatin1_aae02 0 = .ok (.getstatic 38, 3) := by decide +kernel
theorem dJ0_isLatin1_aae02_3 : decode cJ0_isLatin1_aae02 3 = .ok (.ifCond .eq 14, 3) := by decide +kernel
theorem dJ0_isLatin1_aae02_6 : decode cJ0_isLatin1_aae02 6 = .ok (.aload_n 0, 1) := by decide +kernel
theorem dJ0_isLatin1_aae02_7 : decode cJ0_isLatin1_aae02 7 = .ok (.getfield 15, 3) := by decide +kernel
theorem dJ0_isLatin1_aae02_10 : decode cJ0_isLatin1_aae02 10 = .ok (.ifCond .ne 7, 3) := by decide +kernel
theorem dJ0_isLatin1_aae02_13 : decode cJ0_isLatin1_aae02 13 = .ok (.iconst 1, 1) := by decide +kernel
theorem dJ0_isLatin1_aae02_14 : decode cJ0_isLatin1_aae02 14 = .ok (.goto 4, 3) := by decide +kernel
theorem dJ0_isLatin1_aae02_17 : decode cJ0_isLatin1_aae02 17 = .ok (.iconst 0, 1) := by decide +kernel
theorem dJ0_isLatin1_aae02_18 : decode cJ0_isLatin1_aae02 18 = .ok (.ireturn, 1) := by decide +kernel
theorem dJ0_checkIndex_df160_0 : decode cJ0_checkIndex_df160 0 = .ok (.iload_n 0, 1) := by decide +kernel
theorem dJ0_checkIndex_df160_1 : decode cJ0_checkIndex_df160 1 = .ok (.iload_n 1, 1) := by decide +kernel
theorem dJ0_checkIndex_df160_2 : decode cJ0_checkIndex_df160 2 = .ok (.getstatic 1053, 3) := by decide +kernel
theorem dJ0_checkIndex_df160_5 : decode cJ0_checkIndex_df160 5 = .ok (.invokestatic 1059, 3) := by decide +kernel
theorem dJ0_checkIndex_df160_8 : decode cJ0_checkIndex_df160 8 = .ok (.pop, 1) := by decide +kernel
theorem dJ0_checkIndex_df160_9 : decode cJ0_checkIndex_df160 9 = .ok (.return_, 1) := by decide +kernel
theorem dJ1_charAt_3b067_0 : decode cJ1_charAt_3b067 0 = .ok (.iload_n 1, 1) := by decide +kernel
theorem dJ1_charAt_3b067_1 : decode cJ1_charAt_3b067 1 = .ok (.aload_n 0, 1) := by decide +kernel
theorem dJ1_charAt_3b067_2 : decode cJ1_charAt_3b067 2 = .ok (.arraylength, 1) := by decide +kernel
theorem dJ1_charAt_3b067_3 : decode cJ1_charAt_3b067 3 = .ok (.invokestatic 9, 3) := by decide +kernel
theorem dJ1_charAt_3b067_6 : decode cJ1_charAt_3b067 6 = .ok (.aload_n 0, 1) := by decide +kernel
theorem dJ1_charAt_3b067_7 : decode cJ1_charAt_3b067 7 = .ok (.iload_n 1, 1) := by decide +kernel
theorem dJ1_charAt_3b067_8 : decode cJ1_charAt_3b067 8 = .ok (.baload, 1) := by decide +kernel
theorem dJ1_charAt_3b067_9 : decode cJ1_charAt_3b067 9 = .ok (.sipush 255, 3) := by decide +kernel
theorem dJ1_charAt_3b067_12 : decode cJ1_charAt_3b067 12 = .ok (.iand, 1) := by decide +kernel
theorem dJ1_charAt_3b067_13 : decode cJ1_charAt_3b067 13 = .ok (.i2c, 1) := by decide +kernel
theorem dJ1_charAt_3b067_14 : decode cJ1_charAt_3b067 14 = .ok (.ireturn, 1) := by decide +kernel
theorem dJ2_getChar_3b067_0 : decode cJ2_getChar_3b067 0 = .ok (.getstatic 44, 3) := by decide +kernel
theorem dJ2_getChar_3b067_3 : decode cJ2_getChar_3b067 3 = .ok (.ifCond .ne 25, 3) := by decide +kernel
theorem dJ2_getChar_3b067_6 : decode cJ2_getChar_3b067 6 = .ok (.iload_n 1, 1) := by decide +kernel
theorem dJ2_getChar_3b067_7 : decode cJ2_getChar_3b067 7 = .ok (.ifCond .lt 11, 3) := by decide +kernel
theorem dJ2_getChar_3b067_10 : decode cJ2_getChar_3b067 10 = .ok (.iload_n 1, 1) := by decide +kernel
theorem dJ2_getChar_3b067_11 : decode cJ2_getChar_3b067 11 = .ok (.aload_n 0, 1) := by decide +kernel
theorem dJ2_getChar_3b067_12 : decode cJ2_getChar_3b067 12 = .ok (.invokestatic 48, 3) := by decide +kernel
theorem dJ2_getChar_3b067_15 : decode cJ2_getChar_3b067 15 = .ok (.if_icmp .lt 13, 3) := by decide +kernel
theorem dJ2_getChar_3b067_18 : decode cJ2_getChar_3b067 18 = .ok (.new 52, 3) := by decide +kernel
theorem dJ2_getChar_3b067_21 : decode cJ2_getChar_3b067 21 = .ok (.dup, 1) := by decide +kernel
theorem dJ2_getChar_3b067_22 : decode cJ2_getChar_3b067 22 = .ok (.ldc 54, 2) := by decide +kernel
theorem dJ2_getChar_3b067_24 : decode cJ2_getChar_3b067 24 = .ok (.invokespecial 56, 3) := by decide +kernel
theorem dJ2_getChar_3b067_27 : decode cJ2_getChar_3b067 27 = .ok (.athrow, 1) := by decide +kernel
theorem dJ2_getChar_3b067_28 : decode cJ2_getChar_3b067 28 = .ok (.iload_n 1, 1) := by decide +kernel
theorem dJ2_getChar_3b067_29 : decode cJ2_getChar_3b067 29 = .ok (.iconst 1, 1) := by decide +kernel
theorem dJ2_getChar_3b067_30 : decode cJ2_getChar_3b067 30 = .ok (.ishl, 1) := by decide +kernel
theorem dJ2_getChar_3b067_31 : decode cJ2_getChar_3b067 31 = .ok (.istore_n 1, 1) := by decide +kernel
theorem dJ2_getChar_3b067_32 : decode cJ2_getChar_3b067 32 = .ok (.aload_n 0, 1) := by decide +kernel
theorem dJ2_getChar_3b067_33 : decode cJ2_getChar_3b067 33 = .ok (.iload_n 1, 1) := by decide +kernel
theorem dJ2_getChar_3b067_34 : decode cJ2_getChar_3b067 34 = .ok (.iinc 1 1, 3) := by decide +kernel
theorem dJ2_getChar_3b067_37 : decode cJ2_getChar_3b067 37 = .ok (.baload, 1) := by decide +kernel
theorem dJ2_getChar_3b067_38 : decode cJ2_getChar_3b067 38 = .ok (.sipush 255, 3) := by decide +kernel
theorem dJ2_getChar_3b067_41 : decode cJ2_getChar_3b067 41 = .ok (.iand, 1) := by decide +kernel
theorem dJ2_getChar_3b067_42 : decode cJ2_getChar_3b067 42 = .ok (.getstatic 59, 3) := by decide +kernel
theorem dJ2_getChar_3b067_45 : decode cJ2_getChar_3b067 45 = .ok (.ishl, 1) := by decide +kernel
theorem dJ2_getChar_3b067_46 : decode cJ2_getChar_3b067 46 = .ok (.aload_n 0, 1) := by decide +kernel
theorem dJ2_getChar_3b067_47 : decode cJ2_getChar_3b067 47 = .ok (.iload_n 1, 1) := by decide +kernel
theorem dJ2_getChar_3b067_48 : decode cJ2_getChar_3b067 48 = .ok (.baload, 1) := by decide +kernel
theorem dJ2_getChar_3b067_49 : decode cJ2_getChar_3b067 49 = .ok (.sipush 255, 3) := by decide +kernel
theorem dJ2_getChar_3b067_52 : decode cJ2_getChar_3b067 52 = .ok (.iand, 1) := by decide +kernel
theorem dJ2_getChar_3b067_53 : decode cJ2_getChar_3b067 53 = .ok (.getstatic 63, 3) := by decide +kernel
theorem dJ2_getChar_3b067_56 : decode cJ2_getChar_3b067 56 = .ok (.ishl, 1) := by decide +kernel
theorem dJ2_getChar_3b067_57 : decode cJ2_getChar_3b067 57 = .ok (.ior, 1) := by decide +kernel
theorem dJ2_getChar_3b067_58 : decode cJ2_getChar_3b067 58 = .ok (.i2c, 1) := by decide +kernel
theorem dJ2_getChar_3b067_59 : decode cJ2_getChar_3b067 59 = .ok (.ireturn, 1) := by decide +kernel
theorem dJ2_length_9d52b_0 : decode cJ2_length_9d52b 0 = .ok (.aload_n 0, 1) := by decide +kernel
theorem dJ2_length_9d52b_1 : decode cJ2_length_9d52b 1 = .ok (.arraylength, 1) := by decide +kernel
theorem dJ2_length_9d52b_2 : decode cJ2_length_9d52b 2 = .ok (.iconst 1, 1) := by decide +kernel
theorem dJ2_length_9d52b_3 : decode cJ2_length_9d52b 3 = .ok (.ishr, 1) := by decide +kernel
theorem dJ2_length_9d52b_4 : decode cJ2_length_9d52b 4 = .ok (.ireturn, 1) := by decide +kernel
theorem dJ2_charAt_3b067_0 : decode cJ2_charAt_3b067 0 = .ok (.iload_n 1, 1) := by decide +kernel
theorem dJ2_charAt_3b067_1 : decode cJ2_charAt_3b067 1 = .ok (.aload_n 0, 1) := by decide +kernel
theorem dJ2_charAt_3b067_2 : decode cJ2_charAt_3b067 2 = .ok (.invokestatic 67, 3) := by decide +kernel
theorem dJ2_charAt_3b067_5 : decode cJ2_charAt_3b067 5 = .ok (.aload_n 0, 1) := by decide +kernel
theorem dJ2_charAt_3b067_6 : decode cJ2_charAt_3b067 6 = .ok (.iload_n 1, 1) := by decide +kernel
theorem dJ2_charAt_3b067_7 : decode cJ2_charAt_3b067 7 = .ok (.invokestatic 71, 3) := by decide +kernel
theorem dJ2_charAt_3b067_10 : decode cJ2_charAt_3b067 10 = .ok (.ireturn, 1) := by decide +kernel
theorem dJ2_checkIndex_2214a_0 : decode cJ2_checkIndex_2214a 0 = .ok (.iload_n 0, 1) := by decide +kernel
theorem dJ2_checkIndex_2214a_1 : decode cJ2_checkIndex_2214a 1 = .ok (.aload_n 1, 1) := by decide +kernel
theorem dJ2_checkIndex_2214a_2 : decode cJ2_checkIndex_2214a 2 = .ok (.invokestatic 48, 3) := by decide +kernel
theorem dJ2_checkIndex_2214a_5 : decode cJ2_checkIndex_2214a 5 = .ok (.invokestatic 414, 3) := by decide +kernel
theorem dJ2_checkIndex_2214a_8 : decode cJ2_checkIndex_2214a 8 = .ok (.return_, 1) := by decide +kernel
theorem dJ3_checkIndex_8e157_0 : decode cJ3_checkIndex_8e157 0 = .ok (.iload_n 0, 1) := by decide +kernel
theorem dJ3_checkIndex_8e157_1 : decode cJ3_checkIndex_8e157 1 = .ok (.ifCond .lt 8, 3) := by decide +kernel
theorem dJ3_checkIndex_8e157_4 : decode cJ3_checkIndex_8e157 4 = .ok (.iload_n 0, 1) := by decide +kernel
theorem dJ3_checkIndex_8e157_5 : decode cJ3_checkIndex_8e157 5 = .ok (.iload_n 1, 1) := by decide +kernel
theorem dJ3_checkIndex_8e157_6 : decode cJ3_checkIndex_8e157 6 = .ok (.if_icmp .lt 10, 3) := by decide +kernel
theorem dJ3_checkIndex_8e157_9 : decode cJ3_checkIndex_8e157 9 = .ok (.aload_n 2, 1) := by decide +kernel
theorem dJ3_checkIndex_8e157_10 : decode cJ3_checkIndex_8e157 10 = .ok (.iload_n 0, 1) := by decide +kernel
theorem dJ3_checkIndex_8e157_11 : decode cJ3_checkIndex_8e157 11 = .ok (.iload_n 1, 1) := by decide +kernel
theorem dJ3_checkIndex_8e157_12 : decode cJ3_checkIndex_8e157 12 = .ok (.invokestatic 95, 3) := by decide +kernel
theorem dJ3_checkIndex_8e157_15 : decode cJ3_checkIndex_8e157 15 = .ok (.athrow, 1) := by decide +kernel
theorem dJ3_checkIndex_8e157_16 : decode cJ3_checkIndex_8e157 16 = .ok (.iload_n 0, 1) := by decide +kernel
theorem dJ3_checkIndex_8e157_17 : decode cJ3_checkIndex_8e157 17 = .ok (.ireturn, 1) := by decide +kernel
theorem dL_down_0 : decode cL_down 0 = .ok (.aload_n 2, 1) := by decide +kernel
theorem dL_down_1 : decode cL_down 1 = .ok (.iconst 0, 1) := by decide +kernel
theorem dL_down_2 : decode cL_down 2 = .ok (.aload_n 0, 1) := by decide +kernel
theorem dL_down_3 : decode cL_down 3 = .ok (.iload_n 1, 1) := by decide +kernel
theorem dL_down_4 : decode cL_down 4 = .ok (.invokevirtual 7, 3) := by decide +kernel
theorem dL_down_7 : decode cL_down 7 = .ok (.i2l, 1) := by decide +kernel
theorem dL_down_8 : decode cL_down 8 = .ok (.lastore, 1) := by decide +kernel
theorem dL_down_9 : decode cL_down 9 = .ok (.goto 6, 3) := by decide +kernel
theorem dL_down_12 : decode cL_down 12 = .ok (.astore_n 3, 1) := by decide +kernel
theorem dL_down_13 : decode cL_down 13 = .ok (.iconst 1, 1) := by decide +kernel
theorem dL_down_14 : decode cL_down 14 = .ok (.ireturn, 1) := by decide +kernel
theorem dL_down_15 : decode cL_down 15 = .ok (.iconst 0, 1) := by decide +kernel
theorem dL_down_16 : decode cL_down 16 = .ok (.ireturn, 1) := by decide +kernel
theorem dL_law_0 : decode cL_law 0 = .ok (.aload_n 2, 1) := by decide +kernel
theorem dL_law_1 : decode cL_law 1 = .ok (.iconst 0, 1) := by decide +kernel
theorem dL_law_2 : decode cL_law 2 = .ok (.aload_n 0, 1) := by decide +kernel
theorem dL_law_3 : decode cL_law 3 = .ok (.iload_n 1, 1) := by decide +kernel
theorem dL_law_4 : decode cL_law 4 = .ok (.invokevirtual 15, 3) := by decide +kernel
theorem dL_law_7 : decode cL_law 7 = .ok (.i2l, 1) := by decide +kernel
theorem dL_law_8 : decode cL_law 8 = .ok (.lastore, 1) := by decide +kernel
theorem dL_law_9 : decode cL_law 9 = .ok (.goto 6, 3) := by decide +kernel
theorem dL_law_12 : decode cL_law 12 = .ok (.astore_n 3, 1) := by decide +kernel
theorem dL_law_13 : decode cL_law 13 = .ok (.iconst 1, 1) := by decide +kernel
theorem dL_law_14 : decode cL_law 14 = .ok (.ireturn, 1) := by decide +kernel
theorem dL_law_15 : decode cL_law 15 = .ok (.iconst 0, 1) := by decide +kernel
theorem dL_law_16 : decode cL_law 16 = .ok (.ireturn, 1) := by decide +kernel
theorem dL_work_0 : decode cL_work 0 = .ok (.aload_n 2, 1) := by decide +kernel
theorem dL_work_1 : decode cL_work 1 = .ok (.iconst 0, 1) := by decide +kernel
theorem dL_work_2 : decode cL_work 2 = .ok (.aload_n 0, 1) := by decide +kernel
theorem dL_work_3 : decode cL_work 3 = .ok (.iload_n 1, 1) := by decide +kernel
theorem dL_work_4 : decode cL_work 4 = .ok (.invokevirtual 18, 3) := by decide +kernel
theorem dL_work_7 : decode cL_work 7 = .ok (.i2l, 1) := by decide +kernel
theorem dL_work_8 : decode cL_work 8 = .ok (.lastore, 1) := by decide +kernel
theorem dL_work_9 : decode cL_work 9 = .ok (.goto 6, 3) := by decide +kernel
theorem dL_work_12 : decode cL_work 12 = .ok (.astore_n 3, 1) := by decide +kernel
theorem dL_work_13 : decode cL_work 13 = .ok (.iconst 1, 1) := by decide +kernel
theorem dL_work_14 : decode cL_work 14 = .ok (.ireturn, 1) := by decide +kernel
theorem dL_work_15 : decode cL_work 15 = .ok (.iconst 0, 1) := by decide +kernel
theorem dL_work_16 : decode cL_work 16 = .ok (.ireturn, 1) := by decide +kernel
theorem dL_book_0 : decode cL_book 0 = .ok (.aload_n 2, 1) := by decide +kernel
theorem dL_book_1 : decode cL_book 1 = .ok (.iconst 0, 1) := by decide +kernel
theorem dL_book_2 : decode cL_book 2 = .ok (.aload_n 0, 1) := by decide +kernel
theorem dL_book_3 : decode cL_book 3 = .ok (.iload_n 1, 1) := by decide +kernel
theorem dL_book_4 : decode cL_book 4 = .ok (.invokevirtual 21, 3) := by decide +kernel
theorem dL_book_7 : decode cL_book 7 = .ok (.i2l, 1) := by decide +kernel
theorem dL_book_8 : decode cL_book 8 = .ok (.lastore, 1) := by decide +kernel
theorem dL_book_9 : decode cL_book 9 = .ok (.goto 6, 3) := by decide +kernel
theorem dL_book_12 : decode cL_book 12 = .ok (.astore_n 3, 1) := by decide +kernel
theorem dL_book_13 : decode cL_book 13 = .ok (.iconst 1, 1) := by decide +kernel
theorem dL_book_14 : decode cL_book 14 = .ok (.ireturn, 1) := by decide +kernel
theorem dL_book_15 : decode cL_book 15 = .ok (.iconst 0, 1) := by decide +kernel
theorem dL_book_16 : decode cL_book 16 = .ok (.ireturn, 1) := by decide +kernel
theorem dL_told_0 : decode cL_told 0 = .ok (.aload_n 2, 1) := by decide +kernel
theorem dL_told_1 : decode cL_told 1 = .ok (.iconst 0, 1) := by decide +kernel
theorem dL_told_2 : decode cL_told 2 = .ok (.aload_n 0, 1) := by decide +kernel
theorem dL_told_3 : decode cL_told 3 = .ok (.iload_n 1, 1) := by decide +kernel
theorem dL_told_4 : decode cL_told 4 = .ok (.invokevirtual 24, 3) := by decide +kernel
theorem dL_told_7 : decode cL_told 7 = .ok (.i2l, 1) := by decide +kernel
theorem dL_told_8 : decode cL_told 8 = .ok (.lastore, 1) := by decide +kernel
theorem dL_told_9 : decode cL_told 9 = .ok (.goto 6, 3) := by decide +kernel
theorem dL_told_12 : decode cL_told 12 = .ok (.astore_n 3, 1) := by decide +kernel
theorem dL_told_13 : decode cL_told 13 = .ok (.iconst 1, 1) := by decide +kernel
theorem dL_told_14 : decode cL_told 14 = .ok (.ireturn, 1) := by decide +kernel
theorem dL_told_15 : decode cL_told 15 = .ok (.iconst 0, 1) := by decide +kernel
theorem dL_told_16 : decode cL_told 16 = .ok (.ireturn, 1) := by decide +kernel
theorem dL_form_0 : decode cL_form 0 = .ok (.aload_n 3, 1) := by decide +kernel
theorem dL_form_1 : decode cL_form 1 = .ok (.iconst 0, 1) := by decide +kernel
theorem dL_form_2 : decode cL_form 2 = .ok (.aload_n 0, 1) := by decide +kernel
theorem dL_form_3 : decode cL_form 3 = .ok (.iload_n 1, 1) := by decide +kernel
theorem dL_form_4 : decode cL_form 4 = .ok (.iload_n 2, 1) := by decide +kernel
theorem dL_form_5 : decode cL_form 5 = .ok (.invokevirtual 27, 3) := by decide +kernel
theorem dL_form_8 : decode cL_form 8 = .ok (.i2l, 1) := by decide +kernel
theorem dL_form_9 : decode cL_form 9 = .ok (.lastore, 1) := by decide +kernel
theorem dL_form_10 : decode cL_form 10 = .ok (.goto 11, 3) := by decide +kernel
theorem dL_form_13 : decode cL_form 13 = .ok (.astore 4, 2) := by decide +kernel
theorem dL_form_15 : decode cL_form 15 = .ok (.iconst 1, 1) := by decide +kernel
theorem dL_form_16 : decode cL_form 16 = .ok (.ireturn, 1) := by decide +kernel
theorem dL_form_17 : decode cL_form 17 = .ok (.astore 4, 2) := by decide +kernel
theorem dL_form_19 : decode cL_form 19 = .ok (.iconst 2, 1) := by decide +kernel
theorem dL_form_20 : decode cL_form 20 = .ok (.ireturn, 1) := by decide +kernel
theorem dL_form_21 : decode cL_form 21 = .ok (.iconst 0, 1) := by decide +kernel
theorem dL_form_22 : decode cL_form 22 = .ok (.ireturn, 1) := by decide +kernel
theorem dL_hare_0 : decode cL_hare 0 = .ok (.aload_n 3, 1) := by decide +kernel
theorem dL_hare_1 : decode cL_hare 1 = .ok (.iconst 0, 1) := by decide +kernel
theorem dL_hare_2 : decode cL_hare 2 = .ok (.aload_n 0, 1) := by decide +kernel
theorem dL_hare_3 : decode cL_hare 3 = .ok (.iload_n 1, 1) := by decide +kernel
theorem dL_hare_4 : decode cL_hare 4 = .ok (.iload_n 2, 1) := by decide +kernel
theorem dL_hare_5 : decode cL_hare 5 = .ok (.invokevirtual 33, 3) := by decide +kernel
theorem dL_hare_8 : decode cL_hare 8 = .ok (.i2l, 1) := by decide +kernel
theorem dL_hare_9 : decode cL_hare 9 = .ok (.lastore, 1) := by decide +kernel
theorem dL_hare_10 : decode cL_hare 10 = .ok (.goto 11, 3) := by decide +kernel
theorem dL_hare_13 : decode cL_hare 13 = .ok (.astore 4, 2) := by decide +kernel
theorem dL_hare_15 : decode cL_hare 15 = .ok (.iconst 1, 1) := by decide +kernel
theorem dL_hare_16 : decode cL_hare 16 = .ok (.ireturn, 1) := by decide +kernel
theorem dL_hare_17 : decode cL_hare 17 = .ok (.astore 4, 2) := by decide +kernel
theorem dL_hare_19 : decode cL_hare 19 = .ok (.iconst 2, 1) := by decide +kernel
theorem dL_hare_20 : decode cL_hare 20 = .ok (.ireturn, 1) := by decide +kernel
theorem dL_hare_21 : decode cL_hare 21 = .ok (.iconst 0, 1) := by decide +kernel
theorem dL_hare_22 : decode cL_hare 22 = .ok (.ireturn, 1) := by decide +kernel
theorem dL_fox_0 : decode cL_fox 0 = .ok (.aload_n 3, 1) := by decide +kernel
theorem dL_fox_1 : decode cL_fox 1 = .ok (.iconst 0, 1) := by decide +kernel
theorem dL_fox_2 : decode cL_fox 2 = .ok (.aload_n 0, 1) := by decide +kernel
theorem dL_fox_3 : decode cL_fox 3 = .ok (.iload_n 1, 1) := by decide +kernel
theorem dL_fox_4 : decode cL_fox 4 = .ok (.iload_n 2, 1) := by decide +kernel
theorem dL_fox_5 : decode cL_fox 5 = .ok (.invokevirtual 36, 3) := by decide +kernel
theorem dL_fox_8 : decode cL_fox 8 = .ok (.i2l, 1) := by decide +kernel
theorem dL_fox_9 : decode cL_fox 9 = .ok (.lastore, 1) := by decide +kernel
theorem dL_fox_10 : decode cL_fox 10 = .ok (.goto 11, 3) := by decide +kernel
theorem dL_fox_13 : decode cL_fox 13 = .ok (.astore 4, 2) := by decide +kernel
theorem dL_fox_15 : decode cL_fox 15 = .ok (.iconst 1, 1) := by decide +kernel
theorem dL_fox_16 : decode cL_fox 16 = .ok (.ireturn, 1) := by decide +kernel
theorem dL_fox_17 : decode cL_fox 17 = .ok (.astore 4, 2) := by decide +kernel
theorem dL_fox_19 : decode cL_fox 19 = .ok (.iconst 2, 1) := by decide +kernel
theorem dL_fox_20 : decode cL_fox 20 = .ok (.ireturn, 1) := by decide +kernel
theorem dL_fox_21 : decode cL_fox 21 = .ok (.iconst 0, 1) := by decide +kernel
theorem dL_fox_22 : decode cL_fox 22 = .ok (.ireturn, 1) := by decide +kernel
theorem dL_debt_0 : decode cL_debt 0 = .ok (.aload_n 3, 1) := by decide +kernel
theorem dL_debt_1 : decode cL_debt 1 = .ok (.iconst 0, 1) := by decide +kernel
theorem dL_debt_2 : decode cL_debt 2 = .ok (.aload_n 0, 1) := by decide +kernel
theorem dL_debt_3 : decode cL_debt 3 = .ok (.iload_n 1, 1) := by decide +kernel
theorem dL_debt_4 : decode cL_debt 4 = .ok (.iload_n 2, 1) := by decide +kernel
theorem dL_debt_5 : decode cL_debt 5 = .ok (.invokevirtual 39, 3) := by decide +kernel
theorem dL_debt_8 : decode cL_debt 8 = .ok (.i2l, 1) := by decide +kernel
theorem dL_debt_9 : decode cL_debt 9 = .ok (.lastore, 1) := by decide +kernel
theorem dL_debt_10 : decode cL_debt 10 = .ok (.goto 7, 3) := by decide +kernel
theorem dL_debt_13 : decode cL_debt 13 = .ok (.astore 4, 2) := by decide +kernel
theorem dL_debt_15 : decode cL_debt 15 = .ok (.iconst 1, 1) := by decide +kernel
theorem dL_debt_16 : decode cL_debt 16 = .ok (.ireturn, 1) := by decide +kernel
theorem dL_debt_17 : decode cL_debt 17 = .ok (.iconst 0, 1) := by decide +kernel
theorem dL_debt_18 : decode cL_debt 18 = .ok (.ireturn, 1) := by decide +kernel
theorem dL_far_0 : decode cL_far 0 = .ok (.aload_n 3, 1) := by decide +kernel
theorem dL_far_1 : decode cL_far 1 = .ok (.iconst 0, 1) := by decide +kernel
theorem dL_far_2 : decode cL_far 2 = .ok (.aload_n 0, 1) := by decide +kernel
theorem dL_far_3 : decode cL_far 3 = .ok (.iload_n 1, 1) := by decide +kernel
theorem dL_far_4 : decode cL_far 4 = .ok (.iload_n 2, 1) := by decide +kernel
theorem dL_far_5 : decode cL_far 5 = .ok (.invokevirtual 42, 3) := by decide +kernel
theorem dL_far_8 : decode cL_far 8 = .ok (.i2l, 1) := by decide +kernel
theorem dL_far_9 : decode cL_far 9 = .ok (.lastore, 1) := by decide +kernel
theorem dL_far_10 : decode cL_far 10 = .ok (.goto 7, 3) := by decide +kernel
theorem dL_far_13 : decode cL_far 13 = .ok (.astore 4, 2) := by decide +kernel
theorem dL_far_15 : decode cL_far 15 = .ok (.iconst 1, 1) := by decide +kernel
theorem dL_far_16 : decode cL_far 16 = .ok (.ireturn, 1) := by decide +kernel
theorem dL_far_17 : decode cL_far 17 = .ok (.iconst 0, 1) := by decide +kernel
theorem dL_far_18 : decode cL_far 18 = .ok (.ireturn, 1) := by decide +kernel
theorem dL_would_0 : decode cL_would 0 = .ok (.aload 9, 2) := by decide +kernel
theorem dL_would_2 : decode cL_would 2 = .ok (.iconst 0, 1) := by decide +kernel
theorem dL_would_3 : decode cL_would 3 = .ok (.aload_n 0, 1) := by decide +kernel
theorem dL_would_4 : decode cL_would 4 = .ok (.iload_n 1, 1) := by decide +kernel
theorem dL_would_5 : decode cL_would 5 = .ok (.iload_n 2, 1) := by decide +kernel
theorem dL_would_6 : decode cL_would 6 = .ok (.iload_n 3, 1) := by decide +kernel
theorem dL_would_7 : decode cL_would 7 = .ok (.iload 4, 2) := by decide +kernel
theorem dL_would_9 : decode cL_would 9 = .ok (.iload 5, 2) := by decide +kernel
theorem dL_would_11 : decode cL_would 11 = .ok (.iload 6, 2) := by decide +kernel
theorem dL_would_13 : decode cL_would 13 = .ok (.iload 7, 2) := by decide +kernel
theorem dL_would_15 : decode cL_would 15 = .ok (.iload 8, 2) := by decide +kernel
theorem dL_would_17 : decode cL_would 17 = .ok (.invokevirtual 45, 3) := by decide +kernel
theorem dL_would_20 : decode cL_would 20 = .ok (.i2l, 1) := by decide +kernel
theorem dL_would_21 : decode cL_would 21 = .ok (.lastore, 1) := by decide +kernel
theorem dL_would_22 : decode cL_would 22 = .ok (.goto 7, 3) := by decide +kernel
theorem dL_would_25 : decode cL_would 25 = .ok (.astore 10, 2) := by decide +kernel
theorem dL_would_27 : decode cL_would 27 = .ok (.iconst 1, 1) := by decide +kernel
theorem dL_would_28 : decode cL_would 28 = .ok (.ireturn, 1) := by decide +kernel
theorem dL_would_29 : decode cL_would 29 = .ok (.iconst 0, 1) := by decide +kernel
theorem dL_would_30 : decode cL_would 30 = .ok (.ireturn, 1) := by decide +kernel
theorem dL_can_0 : decode cL_can 0 = .ok (.aload_n 3, 1) := by decide +kernel
theorem dL_can_1 : decode cL_can 1 = .ok (.iconst 0, 1) := by decide +kernel
theorem dL_can_2 : decode cL_can 2 = .ok (.aload_n 0, 1) := by decide +kernel
theorem dL_can_3 : decode cL_can 3 = .ok (.iload_n 1, 1) := by decide +kernel
theorem dL_can_4 : decode cL_can 4 = .ok (.iload_n 2, 1) := by decide +kernel
theorem dL_can_5 : decode cL_can 5 = .ok (.invokevirtual 49, 3) := by decide +kernel
theorem dL_can_8 : decode cL_can 8 = .ok (.ifCond .eq 7, 3) := by decide +kernel
theorem dL_can_11 : decode cL_can 11 = .ok (.lconst 1, 1) := by decide +kernel
theorem dL_can_12 : decode cL_can 12 = .ok (.goto 4, 3) := by decide +kernel
theorem dL_can_15 : decode cL_can 15 = .ok (.lconst 0, 1) := by decide +kernel
theorem dL_can_16 : decode cL_can 16 = .ok (.lastore, 1) := by decide +kernel
theorem dL_can_17 : decode cL_can 17 = .ok (.goto 7, 3) := by decide +kernel
theorem dL_can_20 : decode cL_can 20 = .ok (.astore 4, 2) := by decide +kernel
theorem dL_can_22 : decode cL_can 22 = .ok (.iconst 1, 1) := by decide +kernel
theorem dL_can_23 : decode cL_can 23 = .ok (.ireturn, 1) := by decide +kernel
theorem dL_can_24 : decode cL_can 24 = .ok (.iconst 0, 1) := by decide +kernel
theorem dL_can_25 : decode cL_can 25 = .ok (.ireturn, 1) := by decide +kernel
theorem dL_ahead_0 : decode cL_ahead 0 = .ok (.aload_n 3, 1) := by decide +kernel
theorem dL_ahead_1 : decode cL_ahead 1 = .ok (.iconst 0, 1) := by decide +kernel
theorem dL_ahead_2 : decode cL_ahead 2 = .ok (.aload_n 0, 1) := by decide +kernel
theorem dL_ahead_3 : decode cL_ahead 3 = .ok (.iload_n 1, 1) := by decide +kernel
theorem dL_ahead_4 : decode cL_ahead 4 = .ok (.iload_n 2, 1) := by decide +kernel
theorem dL_ahead_5 : decode cL_ahead 5 = .ok (.invokevirtual 53, 3) := by decide +kernel
theorem dL_ahead_8 : decode cL_ahead 8 = .ok (.i2l, 1) := by decide +kernel
theorem dL_ahead_9 : decode cL_ahead 9 = .ok (.lastore, 1) := by decide +kernel
theorem dL_ahead_10 : decode cL_ahead 10 = .ok (.goto 7, 3) := by decide +kernel
theorem dL_ahead_13 : decode cL_ahead 13 = .ok (.astore 4, 2) := by decide +kernel
theorem dL_ahead_15 : decode cL_ahead 15 = .ok (.iconst 1, 1) := by decide +kernel
theorem dL_ahead_16 : decode cL_ahead 16 = .ok (.ireturn, 1) := by decide +kernel
theorem dL_ahead_17 : decode cL_ahead 17 = .ok (.iconst 0, 1) := by decide +kernel
theorem dL_ahead_18 : decode cL_ahead 18 = .ok (.ireturn, 1) := by decide +kernel
theorem dL_hops_0 : decode cL_hops 0 = .ok (.aload_n 3, 1) := by decide +kernel
theorem dL_hops_1 : decode cL_hops 1 = .ok (.iconst 0, 1) := by decide +kernel
theorem dL_hops_2 : decode cL_hops 2 = .ok (.aload_n 0, 1) := by decide +kernel
theorem dL_hops_3 : decode cL_hops 3 = .ok (.iload_n 1, 1) := by decide +kernel
theorem dL_hops_4 : decode cL_hops 4 = .ok (.iload_n 2, 1) := by decide +kernel
theorem dL_hops_5 : decode cL_hops 5 = .ok (.invokevirtual 56, 3) := by decide +kernel
theorem dL_hops_8 : decode cL_hops 8 = .ok (.i2l, 1) := by decide +kernel
theorem dL_hops_9 : decode cL_hops 9 = .ok (.lastore, 1) := by decide +kernel
theorem dL_hops_10 : decode cL_hops 10 = .ok (.goto 7, 3) := by decide +kernel
theorem dL_hops_13 : decode cL_hops 13 = .ok (.astore 4, 2) := by decide +kernel
theorem dL_hops_15 : decode cL_hops 15 = .ok (.iconst 1, 1) := by decide +kernel
theorem dL_hops_16 : decode cL_hops 16 = .ok (.ireturn, 1) := by decide +kernel
theorem dL_hops_17 : decode cL_hops 17 = .ok (.iconst 0, 1) := by decide +kernel
theorem dL_hops_18 : decode cL_hops 18 = .ok (.ireturn, 1) := by decide +kernel
theorem dL_seat_0 : decode cL_seat 0 = .ok (.aload_n 2, 1) := by decide +kernel
theorem dL_seat_1 : decode cL_seat 1 = .ok (.iconst 0, 1) := by decide +kernel
theorem dL_seat_2 : decode cL_seat 2 = .ok (.aload_n 0, 1) := by decide +kernel
theorem dL_seat_3 : decode cL_seat 3 = .ok (.iload_n 1, 1) := by decide +kernel
theorem dL_seat_4 : decode cL_seat 4 = .ok (.invokevirtual 59, 3) := by decide +kernel
theorem dL_seat_7 : decode cL_seat 7 = .ok (.i2l, 1) := by decide +kernel
theorem dL_seat_8 : decode cL_seat 8 = .ok (.lastore, 1) := by decide +kernel
theorem dL_seat_9 : decode cL_seat 9 = .ok (.goto 6, 3) := by decide +kernel
theorem dL_seat_12 : decode cL_seat 12 = .ok (.astore_n 3, 1) := by decide +kernel
theorem dL_seat_13 : decode cL_seat 13 = .ok (.iconst 1, 1) := by decide +kernel
theorem dL_seat_14 : decode cL_seat 14 = .ok (.ireturn, 1) := by decide +kernel
theorem dL_seat_15 : decode cL_seat 15 = .ok (.iconst 0, 1) := by decide +kernel
theorem dL_seat_16 : decode cL_seat 16 = .ok (.ireturn, 1) := by decide +kernel
theorem dL_ringed_0 : decode cL_ringed 0 = .ok (.aload_n 2, 1) := by decide +kernel
theorem dL_ringed_1 : decode cL_ringed 1 = .ok (.iconst 0, 1) := by decide +kernel
theorem dL_ringed_2 : decode cL_ringed 2 = .ok (.aload_n 0, 1) := by decide +kernel
theorem dL_ringed_3 : decode cL_ringed 3 = .ok (.iload_n 1, 1) := by decide +kernel
theorem dL_ringed_4 : decode cL_ringed 4 = .ok (.invokevirtual 62, 3) := by decide +kernel
theorem dL_ringed_7 : decode cL_ringed 7 = .ok (.i2l, 1) := by decide +kernel
theorem dL_ringed_8 : decode cL_ringed 8 = .ok (.lastore, 1) := by decide +kernel
theorem dL_ringed_9 : decode cL_ringed 9 = .ok (.goto 6, 3) := by decide +kernel
theorem dL_ringed_12 : decode cL_ringed 12 = .ok (.astore_n 3, 1) := by decide +kernel
theorem dL_ringed_13 : decode cL_ringed 13 = .ok (.iconst 1, 1) := by decide +kernel
theorem dL_ringed_14 : decode cL_ringed 14 = .ok (.ireturn, 1) := by decide +kernel
theorem dL_ringed_15 : decode cL_ringed 15 = .ok (.iconst 0, 1) := by decide +kernel
theorem dL_ringed_16 : decode cL_ringed 16 = .ok (.ireturn, 1) := by decide +kernel
theorem dL_bouts_0 : decode cL_bouts 0 = .ok (.aload_n 2, 1) := by decide +kernel
theorem dL_bouts_1 : decode cL_bouts 1 = .ok (.iconst 0, 1) := by decide +kernel
theorem dL_bouts_2 : decode cL_bouts 2 = .ok (.aload_n 0, 1) := by decide +kernel
theorem dL_bouts_3 : decode cL_bouts 3 = .ok (.iload_n 1, 1) := by decide +kernel
theorem dL_bouts_4 : decode cL_bouts 4 = .ok (.invokevirtual 65, 3) := by decide +kernel
theorem dL_bouts_7 : decode cL_bouts 7 = .ok (.i2l, 1) := by decide +kernel
theorem dL_bouts_8 : decode cL_bouts 8 = .ok (.lastore, 1) := by decide +kernel
theorem dL_bouts_9 : decode cL_bouts 9 = .ok (.goto 6, 3) := by decide +kernel
theorem dL_bouts_12 : decode cL_bouts 12 = .ok (.astore_n 3, 1) := by decide +kernel
theorem dL_bouts_13 : decode cL_bouts 13 = .ok (.iconst 1, 1) := by decide +kernel
theorem dL_bouts_14 : decode cL_bouts 14 = .ok (.ireturn, 1) := by decide +kernel
theorem dL_bouts_15 : decode cL_bouts 15 = .ok (.iconst 0, 1) := by decide +kernel
theorem dL_bouts_16 : decode cL_bouts 16 = .ok (.ireturn, 1) := by decide +kernel
theorem dL_fits_0 : decode cL_fits 0 = .ok (.aload_n 2, 1) := by decide +kernel
theorem dL_fits_1 : decode cL_fits 1 = .ok (.iconst 0, 1) := by decide +kernel
theorem dL_fits_2 : decode cL_fits 2 = .ok (.aload_n 0, 1) := by decide +kernel
theorem dL_fits_3 : decode cL_fits 3 = .ok (.iload_n 1, 1) := by decide +kernel
theorem dL_fits_4 : decode cL_fits 4 = .ok (.invokevirtual 68, 3) := by decide +kernel
theorem dL_fits_7 : decode cL_fits 7 = .ok (.i2l, 1) := by decide +kernel
theorem dL_fits_8 : decode cL_fits 8 = .ok (.lastore, 1) := by decide +kernel
theorem dL_fits_9 : decode cL_fits 9 = .ok (.goto 6, 3) := by decide +kernel
theorem dL_fits_12 : decode cL_fits 12 = .ok (.astore_n 3, 1) := by decide +kernel
theorem dL_fits_13 : decode cL_fits 13 = .ok (.iconst 1, 1) := by decide +kernel
theorem dL_fits_14 : decode cL_fits 14 = .ok (.ireturn, 1) := by decide +kernel
theorem dL_fits_15 : decode cL_fits 15 = .ok (.iconst 0, 1) := by decide +kernel
theorem dL_fits_16 : decode cL_fits 16 = .ok (.ireturn, 1) := by decide +kernel
theorem dL_look_0 : decode cL_look 0 = .ok (.aload_n 2, 1) := by decide +kernel
theorem dL_look_1 : decode cL_look 1 = .ok (.iconst 0, 1) := by decide +kernel
theorem dL_look_2 : decode cL_look 2 = .ok (.aload_n 0, 1) := by decide +kernel
theorem dL_look_3 : decode cL_look 3 = .ok (.iload_n 1, 1) := by decide +kernel
theorem dL_look_4 : decode cL_look 4 = .ok (.invokevirtual 71, 3) := by decide +kernel
theorem dL_look_7 : decode cL_look 7 = .ok (.i2l, 1) := by decide +kernel
theorem dL_look_8 : decode cL_look 8 = .ok (.lastore, 1) := by decide +kernel
theorem dL_look_9 : decode cL_look 9 = .ok (.goto 6, 3) := by decide +kernel
theorem dL_look_12 : decode cL_look 12 = .ok (.astore_n 3, 1) := by decide +kernel
theorem dL_look_13 : decode cL_look 13 = .ok (.iconst 1, 1) := by decide +kernel
theorem dL_look_14 : decode cL_look 14 = .ok (.ireturn, 1) := by decide +kernel
theorem dL_look_15 : decode cL_look 15 = .ok (.iconst 0, 1) := by decide +kernel
theorem dL_look_16 : decode cL_look 16 = .ok (.ireturn, 1) := by decide +kernel
theorem dL_watch_0 : decode cL_watch 0 = .ok (.aload_n 2, 1) := by decide +kernel
theorem dL_watch_1 : decode cL_watch 1 = .ok (.iconst 0, 1) := by decide +kernel
theorem dL_watch_2 : decode cL_watch 2 = .ok (.aload_n 0, 1) := by decide +kernel
theorem dL_watch_3 : decode cL_watch 3 = .ok (.iload_n 1, 1) := by decide +kernel
theorem dL_watch_4 : decode cL_watch 4 = .ok (.invokevirtual 74, 3) := by decide +kernel
theorem dL_watch_7 : decode cL_watch 7 = .ok (.i2l, 1) := by decide +kernel
theorem dL_watch_8 : decode cL_watch 8 = .ok (.lastore, 1) := by decide +kernel
theorem dL_watch_9 : decode cL_watch 9 = .ok (.goto 6, 3) := by decide +kernel
theorem dL_watch_12 : decode cL_watch 12 = .ok (.astore_n 3, 1) := by decide +kernel
theorem dL_watch_13 : decode cL_watch 13 = .ok (.iconst 1, 1) := by decide +kernel
theorem dL_watch_14 : decode cL_watch 14 = .ok (.ireturn, 1) := by decide +kernel
theorem dL_watch_15 : decode cL_watch 15 = .ok (.iconst 0, 1) := by decide +kernel
theorem dL_watch_16 : decode cL_watch 16 = .ok (.ireturn, 1) := by decide +kernel
theorem dL_few_0 : decode cL_few 0 = .ok (.aload 5, 2) := by decide +kernel
theorem dL_few_2 : decode cL_few 2 = .ok (.iconst 0, 1) := by decide +kernel
theorem dL_few_3 : decode cL_few 3 = .ok (.aload_n 0, 1) := by decide +kernel
theorem dL_few_4 : decode cL_few 4 = .ok (.iload_n 1, 1) := by decide +kernel
theorem dL_few_5 : decode cL_few 5 = .ok (.iload_n 2, 1) := by decide +kernel
theorem dL_few_6 : decode cL_few 6 = .ok (.iload_n 3, 1) := by decide +kernel
theorem dL_few_7 : decode cL_few 7 = .ok (.iload 4, 2) := by decide +kernel
theorem dL_few_9 : decode cL_few 9 = .ok (.invokevirtual 77, 3) := by decide +kernel
theorem dL_few_12 : decode cL_few 12 = .ok (.lastore, 1) := by decide +kernel
theorem dL_few_13 : decode cL_few 13 = .ok (.goto 7, 3) := by decide +kernel
theorem dL_few_16 : decode cL_few 16 = .ok (.astore 6, 2) := by decide +kernel
theorem dL_few_18 : decode cL_few 18 = .ok (.iconst 1, 1) := by decide +kernel
theorem dL_few_19 : decode cL_few 19 = .ok (.ireturn, 1) := by decide +kernel
theorem dL_few_20 : decode cL_few 20 = .ok (.iconst 0, 1) := by decide +kernel
theorem dL_few_21 : decode cL_few 21 = .ok (.ireturn, 1) := by decide +kernel
theorem dL_road_0 : decode cL_road 0 = .ok (.aload 4, 2) := by decide +kernel
theorem dL_road_2 : decode cL_road 2 = .ok (.iconst 0, 1) := by decide +kernel
theorem dL_road_3 : decode cL_road 3 = .ok (.aload_n 0, 1) := by decide +kernel
theorem dL_road_4 : decode cL_road 4 = .ok (.iload_n 1, 1) := by decide +kernel
theorem dL_road_5 : decode cL_road 5 = .ok (.iload_n 2, 1) := by decide +kernel
theorem dL_road_6 : decode cL_road 6 = .ok (.iload_n 3, 1) := by decide +kernel
theorem dL_road_7 : decode cL_road 7 = .ok (.invokevirtual 81, 3) := by decide +kernel
theorem dL_road_10 : decode cL_road 10 = .ok (.i2l, 1) := by decide +kernel
theorem dL_road_11 : decode cL_road 11 = .ok (.lastore, 1) := by decide +kernel
theorem dL_road_12 : decode cL_road 12 = .ok (.goto 7, 3) := by decide +kernel
theorem dL_road_15 : decode cL_road 15 = .ok (.astore 5, 2) := by decide +kernel
theorem dL_road_17 : decode cL_road 17 = .ok (.iconst 1, 1) := by decide +kernel
theorem dL_road_18 : decode cL_road 18 = .ok (.ireturn, 1) := by decide +kernel
theorem dL_road_19 : decode cL_road 19 = .ok (.iconst 0, 1) := by decide +kernel
theorem dL_road_20 : decode cL_road 20 = .ok (.ireturn, 1) := by decide +kernel
theorem dL_clover_0 : decode cL_clover 0 = .ok (.aload 4, 2) := by decide +kernel
theorem dL_clover_2 : decode cL_clover 2 = .ok (.iconst 0, 1) := by decide +kernel
theorem dL_clover_3 : decode cL_clover 3 = .ok (.aload_n 0, 1) := by decide +kernel
theorem dL_clover_4 : decode cL_clover 4 = .ok (.iload_n 1, 1) := by decide +kernel
theorem dL_clover_5 : decode cL_clover 5 = .ok (.iload_n 2, 1) := by decide +kernel
theorem dL_clover_6 : decode cL_clover 6 = .ok (.iload_n 3, 1) := by decide +kernel
theorem dL_clover_7 : decode cL_clover 7 = .ok (.invokevirtual 85, 3) := by decide +kernel
theorem dL_clover_10 : decode cL_clover 10 = .ok (.i2l, 1) := by decide +kernel
theorem dL_clover_11 : decode cL_clover 11 = .ok (.lastore, 1) := by decide +kernel
theorem dL_clover_12 : decode cL_clover 12 = .ok (.goto 11, 3) := by decide +kernel
theorem dL_clover_15 : decode cL_clover 15 = .ok (.astore 5, 2) := by decide +kernel
theorem dL_clover_17 : decode cL_clover 17 = .ok (.iconst 1, 1) := by decide +kernel
theorem dL_clover_18 : decode cL_clover 18 = .ok (.ireturn, 1) := by decide +kernel
theorem dL_clover_19 : decode cL_clover 19 = .ok (.astore 5, 2) := by decide +kernel
theorem dL_clover_21 : decode cL_clover 21 = .ok (.iconst 2, 1) := by decide +kernel
theorem dL_clover_22 : decode cL_clover 22 = .ok (.ireturn, 1) := by decide +kernel
theorem dL_clover_23 : decode cL_clover 23 = .ok (.iconst 0, 1) := by decide +kernel
theorem dL_clover_24 : decode cL_clover 24 = .ok (.ireturn, 1) := by decide +kernel
theorem dL_strongest_0 : decode cL_strongest 0 = .ok (.aload_n 2, 1) := by decide +kernel
theorem dL_strongest_1 : decode cL_strongest 1 = .ok (.iconst 0, 1) := by decide +kernel
theorem dL_strongest_2 : decode cL_strongest 2 = .ok (.aload_n 0, 1) := by decide +kernel
theorem dL_strongest_3 : decode cL_strongest 3 = .ok (.iload_n 1, 1) := by decide +kernel
theorem dL_strongest_4 : decode cL_strongest 4 = .ok (.invokevirtual 88, 3) := by decide +kernel
theorem dL_strongest_7 : decode cL_strongest 7 = .ok (.i2l, 1) := by decide +kernel
theorem dL_strongest_8 : decode cL_strongest 8 = .ok (.lastore, 1) := by decide +kernel
theorem dL_strongest_9 : decode cL_strongest 9 = .ok (.goto 6, 3) := by decide +kernel
theorem dL_strongest_12 : decode cL_strongest 12 = .ok (.astore_n 3, 1) := by decide +kernel
theorem dL_strongest_13 : decode cL_strongest 13 = .ok (.iconst 1, 1) := by decide +kernel
theorem dL_strongest_14 : decode cL_strongest 14 = .ok (.ireturn, 1) := by decide +kernel
theorem dL_strongest_15 : decode cL_strongest 15 = .ok (.iconst 0, 1) := by decide +kernel
theorem dL_strongest_16 : decode cL_strongest 16 = .ok (.ireturn, 1) := by decide +kernel
theorem dL_ties_0 : decode cL_ties 0 = .ok (.aload_n 3, 1) := by decide +kernel
theorem dL_ties_1 : decode cL_ties 1 = .ok (.iconst 0, 1) := by decide +kernel
theorem dL_ties_2 : decode cL_ties 2 = .ok (.aload_n 0, 1) := by decide +kernel
theorem dL_ties_3 : decode cL_ties 3 = .ok (.iload_n 1, 1) := by decide +kernel
theorem dL_ties_4 : decode cL_ties 4 = .ok (.iload_n 2, 1) := by decide +kernel
theorem dL_ties_5 : decode cL_ties 5 = .ok (.invokevirtual 91, 3) := by decide +kernel
theorem dL_ties_8 : decode cL_ties 8 = .ok (.i2l, 1) := by decide +kernel
theorem dL_ties_9 : decode cL_ties 9 = .ok (.lastore, 1) := by decide +kernel
theorem dL_ties_10 : decode cL_ties 10 = .ok (.goto 11, 3) := by decide +kernel
theorem dL_ties_13 : decode cL_ties 13 = .ok (.astore 4, 2) := by decide +kernel
theorem dL_ties_15 : decode cL_ties 15 = .ok (.iconst 1, 1) := by decide +kernel
theorem dL_ties_16 : decode cL_ties 16 = .ok (.ireturn, 1) := by decide +kernel
theorem dL_ties_17 : decode cL_ties 17 = .ok (.astore 4, 2) := by decide +kernel
theorem dL_ties_19 : decode cL_ties 19 = .ok (.iconst 2, 1) := by decide +kernel
theorem dL_ties_20 : decode cL_ties 20 = .ok (.ireturn, 1) := by decide +kernel
theorem dL_ties_21 : decode cL_ties 21 = .ok (.iconst 0, 1) := by decide +kernel
theorem dL_ties_22 : decode cL_ties 22 = .ok (.ireturn, 1) := by decide +kernel
theorem dL_refuge_0 : decode cL_refuge 0 = .ok (.aload_n 3, 1) := by decide +kernel
theorem dL_refuge_1 : decode cL_refuge 1 = .ok (.iconst 0, 1) := by decide +kernel
theorem dL_refuge_2 : decode cL_refuge 2 = .ok (.aload_n 0, 1) := by decide +kernel
theorem dL_refuge_3 : decode cL_refuge 3 = .ok (.iload_n 1, 1) := by decide +kernel
theorem dL_refuge_4 : decode cL_refuge 4 = .ok (.iload_n 2, 1) := by decide +kernel
theorem dL_refuge_5 : decode cL_refuge 5 = .ok (.invokevirtual 94, 3) := by decide +kernel
theorem dL_refuge_8 : decode cL_refuge 8 = .ok (.i2l, 1) := by decide +kernel
theorem dL_refuge_9 : decode cL_refuge 9 = .ok (.lastore, 1) := by decide +kernel
theorem dL_refuge_10 : decode cL_refuge 10 = .ok (.goto 11, 3) := by decide +kernel
theorem dL_refuge_13 : decode cL_refuge 13 = .ok (.astore 4, 2) := by decide +kernel
theorem dL_refuge_15 : decode cL_refuge 15 = .ok (.iconst 1, 1) := by decide +kernel
theorem dL_refuge_16 : decode cL_refuge 16 = .ok (.ireturn, 1) := by decide +kernel
theorem dL_refuge_17 : decode cL_refuge 17 = .ok (.astore 4, 2) := by decide +kernel
theorem dL_refuge_19 : decode cL_refuge 19 = .ok (.iconst 2, 1) := by decide +kernel
theorem dL_refuge_20 : decode cL_refuge 20 = .ok (.ireturn, 1) := by decide +kernel
theorem dL_refuge_21 : decode cL_refuge 21 = .ok (.iconst 0, 1) := by decide +kernel
theorem dL_refuge_22 : decode cL_refuge 22 = .ok (.ireturn, 1) := by decide +kernel
theorem dL_range_0 : decode cL_range 0 = .ok (.aload_n 2, 1) := by decide +kernel
theorem dL_range_1 : decode cL_range 1 = .ok (.iconst 0, 1) := by decide +kernel
theorem dL_range_2 : decode cL_range 2 = .ok (.aload_n 0, 1) := by decide +kernel
theorem dL_range_3 : decode cL_range 3 = .ok (.iload_n 1, 1) := by decide +kernel
theorem dL_range_4 : decode cL_range 4 = .ok (.invokevirtual 97, 3) := by decide +kernel
theorem dL_range_7 : decode cL_range 7 = .ok (.i2l, 1) := by decide +kernel
theorem dL_range_8 : decode cL_range 8 = .ok (.lastore, 1) := by decide +kernel
theorem dL_range_9 : decode cL_range 9 = .ok (.goto 6, 3) := by decide +kernel
theorem dL_range_12 : decode cL_range 12 = .ok (.astore_n 3, 1) := by decide +kernel
theorem dL_range_13 : decode cL_range 13 = .ok (.iconst 1, 1) := by decide +kernel
theorem dL_range_14 : decode cL_range 14 = .ok (.ireturn, 1) := by decide +kernel
theorem dL_range_15 : decode cL_range 15 = .ok (.iconst 0, 1) := by decide +kernel
theorem dL_range_16 : decode cL_range 16 = .ok (.ireturn, 1) := by decide +kernel
theorem dL_march_0 : decode cL_march 0 = .ok (.aload 4, 2) := by decide +kernel
theorem dL_march_2 : decode cL_march 2 = .ok (.iconst 0, 1) := by decide +kernel
theorem dL_march_3 : decode cL_march 3 = .ok (.aload_n 0, 1) := by decide +kernel
theorem dL_march_4 : decode cL_march 4 = .ok (.iload_n 1, 1) := by decide +kernel
theorem dL_march_5 : decode cL_march 5 = .ok (.iload_n 2, 1) := by decide +kernel
theorem dL_march_6 : decode cL_march 6 = .ok (.iload_n 3, 1) := by decide +kernel
theorem dL_march_7 : decode cL_march 7 = .ok (.invokevirtual 100, 3) := by decide +kernel
theorem dL_march_10 : decode cL_march 10 = .ok (.i2l, 1) := by decide +kernel
theorem dL_march_11 : decode cL_march 11 = .ok (.lastore, 1) := by decide +kernel
theorem dL_march_12 : decode cL_march 12 = .ok (.goto 7, 3) := by decide +kernel
theorem dL_march_15 : decode cL_march 15 = .ok (.astore 5, 2) := by decide +kernel
theorem dL_march_17 : decode cL_march 17 = .ok (.iconst 1, 1) := by decide +kernel
theorem dL_march_18 : decode cL_march 18 = .ok (.ireturn, 1) := by decide +kernel
theorem dL_march_19 : decode cL_march 19 = .ok (.iconst 0, 1) := by decide +kernel
theorem dL_march_20 : decode cL_march 20 = .ok (.ireturn, 1) := by decide +kernel
theorem dL_span_0 : decode cL_span 0 = .ok (.aload 6, 2) := by decide +kernel
theorem dL_span_2 : decode cL_span 2 = .ok (.iconst 0, 1) := by decide +kernel
theorem dL_span_3 : decode cL_span 3 = .ok (.aload_n 0, 1) := by decide +kernel
theorem dL_span_4 : decode cL_span 4 = .ok (.iload_n 1, 1) := by decide +kernel
theorem dL_span_5 : decode cL_span 5 = .ok (.iload_n 2, 1) := by decide +kernel
theorem dL_span_6 : decode cL_span 6 = .ok (.iload_n 3, 1) := by decide +kernel
theorem dL_span_7 : decode cL_span 7 = .ok (.iload 4, 2) := by decide +kernel
theorem dL_span_9 : decode cL_span 9 = .ok (.iload 5, 2) := by decide +kernel
theorem dL_span_11 : decode cL_span 11 = .ok (.invokevirtual 103, 3) := by decide +kernel
theorem dL_span_14 : decode cL_span 14 = .ok (.i2l, 1) := by decide +kernel
theorem dL_span_15 : decode cL_span 15 = .ok (.lastore, 1) := by decide +kernel
theorem dL_span_16 : decode cL_span 16 = .ok (.goto 7, 3) := by decide +kernel
theorem dL_span_19 : decode cL_span 19 = .ok (.astore 7, 2) := by decide +kernel
theorem dL_span_21 : decode cL_span 21 = .ok (.iconst 1, 1) := by decide +kernel
theorem dL_span_22 : decode cL_span 22 = .ok (.ireturn, 1) := by decide +kernel
theorem dL_span_23 : decode cL_span 23 = .ok (.iconst 0, 1) := by decide +kernel
theorem dL_span_24 : decode cL_span 24 = .ok (.ireturn, 1) := by decide +kernel
