def qaIa : List dtR := [(43, .aload_n 0, 1, 0), (44, .getfield 93, 3, 1), (47, .getfield 352, 3, 1), (50, .ireturn, 1, 9)]
theorem qD2 : dtC (cX10_look.data.toList.drop 43) 43 qaIa = true := by decide +kernel
def qaFV : List dtR := [(0, .aload_n 0, 1, 0), (1, .iload_n 1, 1, 4), (2, .iconst 0, 1, 3), (3, .bipush 60, 2, 11), (5, .invokevirtual 180, 3, 2), (8, .aload_n 0, 1, 0), (9, .getfield 19, 3, 1), (12, .iload_n 1, 1, 4), (13, .invokevirtual 355, 3, 2), (16, .ireturn, 1, 9)]
theorem qrG : dtC (cX10_watch.data.toList.drop 0) 0 qaFV = true := by decide +kernel
def qaTs : List dtR := [(0, .aload_n 0, 1, 0), (1, .iload_n 1, 1, 4), (2, .iconst 0, 1, 3), (3, .bipush 12, 2, 11), (5, .invokevirtual 180, 3, 2), (8, .aload_n 0, 1, 0), (9, .iload_n 2, 1, 8), (10, .iconst 0, 1, 3), (11, .bipush 12, 2, 11), (13, .invokevirtual 180, 3, 2), (16, .aload_n 0, 1, 0), (17, .iload_n 3, 1, 13), (18, .iconst 0, 1, 3), (19, .bipush 16, 2, 11), (21, .invokevirtual 180, 3, 2), (24, .aload_n 0, 1, 0)]
theorem qom : dtC (cX10_few.data.toList.drop 0) 0 qaTs = true := by decide +kernel
def qaPo : List dtR := [(25, .iload 4, 2, 6), (27, .iconst 0, 1, 3), (28, .iconst 1, 1, 5), (29, .invokevirtual 180, 3, 2), (32, .lconst 0, 1, 65), (33, .lstore 5, 2, 60), (35, .iconst 0, 1, 3), (36, .istore 7, 2, 15), (38, .iload 7, 2, 6), (40, .iload_n 2, 1, 8), (41, .if_icmp .gt 45, 3, 42), (44, .iload 7, 2, 6), (46, .iload_n 1, 1, 4), (47, .if_icmp .gt 39, 3, 42), (50, .lload 5, 2, 58), (52, .iload_n 1, 1, 4)]
theorem qln : dtC (cX10_few.data.toList.drop 25) 25 qaPo = true := by decide +kernel
def qaRW : List dtR := [(53, .iload 7, 2, 6), (55, .invokestatic 358, 3, 16), (58, .iload_n 3, 1, 13), (59, .iload 7, 2, 6), (61, .invokestatic 362, 3, 16), (64, .lmul, 1, 67), (65, .bipush 16, 2, 11), (67, .iload_n 3, 1, 13), (68, .isub, 1, 27), (69, .iload_n 1, 1, 4), (70, .iload 7, 2, 6), (72, .isub, 1, 27), (73, .invokestatic 362, 3, 16), (76, .lmul, 1, 67), (77, .ladd, 1, 84), (78, .lstore 5, 2, 60)]
theorem qlI : dtC (cX10_few.data.toList.drop 53) 53 qaRW = true := by decide +kernel
def qaM7 : List dtR := [(80, .iinc 7 1, 3, 20), (83, .goto (-45), 3, 7), (86, .lconst 1, 1, 66), (87, .iconst 4, 1, 43), (88, .iload_n 1, 1, 4), (89, .imul, 1, 34), (90, .lshl, 1, 95), (91, .lstore 7, 2, 60), (93, .iconst 0, 1, 3), (94, .istore 9, 2, 15), (96, .iload 9, 2, 6), (98, .bipush 48, 2, 11), (100, .if_icmp .ge 39, 3, 18), (103, .lload 5, 2, 58), (105, .lconst 1, 1, 66), (106, .land, 1, 86)]
theorem qmS : dtC (cX10_few.data.toList.drop 80) 80 qaM7 = true := by decide +kernel
def qaKf : List dtR := [(107, .lconst 0, 1, 65), (108, .lcmp, 1, 79), (109, .ifCond .ne 30, 3, 21), (112, .lload 7, 2, 58), (114, .lconst 1, 1, 66), (115, .land, 1, 86), (116, .lconst 0, 1, 65), (117, .lcmp, 1, 79), (118, .ifCond .ne 21, 3, 21), (121, .lload 5, 2, 58), (123, .iconst 1, 1, 5), (124, .lshr, 1, 87), (125, .lstore 5, 2, 60), (127, .lload 7, 2, 58), (129, .iconst 1, 1, 5), (130, .lshr, 1, 87)]
theorem qkd : dtC (cX10_few.data.toList.drop 107) 107 qaKf = true := by decide +kernel
def qaFU : List dtR := [(131, .lstore 7, 2, 60), (133, .iinc 9 1, 3, 20), (136, .goto (-40), 3, 7), (139, .iload 4, 2, 6), (141, .ifCond .ne 8, 3, 21), (144, .lload 5, 2, 58), (146, .goto 5, 3, 7), (149, .lload 7, 2, 58), (151, .lreturn, 1, 71)]
theorem qrR : dtC (cX10_few.data.toList.drop 131) 131 qaFU = true := by decide +kernel
def qaQr : List dtR := [(0, .aload_n 0, 1, 0), (1, .iload_n 1, 1, 4), (2, .iconst 0, 1, 3), (3, .bipush 99, 2, 11), (5, .invokevirtual 180, 3, 2), (8, .aload_n 0, 1, 0), (9, .iload_n 2, 1, 8), (10, .iconst 0, 1, 3), (11, .bipush 99, 2, 11), (13, .invokevirtual 180, 3, 2), (16, .aload_n 0, 1, 0), (17, .iload_n 3, 1, 13), (18, .iconst 0, 1, 3), (19, .iconst 2, 1, 25), (20, .invokevirtual 180, 3, 2), (23, .iconst 0, 1, 3)]
theorem ql2 : dtC (cX10_road.data.toList.drop 0) 0 qaQr = true := by decide +kernel
def qaFk : List dtR := [(24, .istore 4, 2, 15), (26, .iconst (-1), 1, 28), (27, .istore 5, 2, 15), (29, .iconst 0, 1, 3), (30, .istore 6, 2, 15), (32, .iconst 0, 1, 3), (33, .istore 7, 2, 15), (35, .iload 7, 2, 6), (37, .iconst 4, 1, 43), (38, .if_icmp .ge 106, 3, 18), (41, .iload 7, 2, 6), (43, .iconst 2, 1, 25), (44, .idiv, 1, 69), (45, .istore 8, 2, 15), (47, .iload 7, 2, 6), (49, .iconst 2, 1, 25)]
theorem qko : dtC (cX10_road.data.toList.drop 24) 24 qaFk = true := by decide +kernel
def qaFH : List dtR := [(50, .irem, 1, 63), (51, .istore 9, 2, 15), (53, .iload_n 1, 1, 4), (54, .iload_n 2, 1, 8), (55, .iload 8, 2, 6), (57, .iload 9, 2, 6), (59, .invokestatic 365, 3, 16), (62, .iload_n 1, 1, 4), (63, .iload_n 2, 1, 8), (64, .iconst 1, 1, 5), (65, .iload 8, 2, 6), (67, .isub, 1, 27), (68, .iload 9, 2, 6), (70, .invokestatic 365, 3, 16), (73, .if_icmp .lt 65, 3, 48), (76, .iload_n 1, 1, 4)]
theorem qkl : dtC (cX10_road.data.toList.drop 50) 50 qaFH = true := by decide +kernel
def qaEU : List dtR := [(77, .iload_n 2, 1, 8), (78, .iload 9, 2, 6), (80, .iload 8, 2, 6), (82, .invokestatic 365, 3, 16), (85, .iload_n 1, 1, 4), (86, .iload_n 2, 1, 8), (87, .iconst 1, 1, 5), (88, .iload 9, 2, 6), (90, .isub, 1, 27), (91, .iload 8, 2, 6), (93, .invokestatic 365, 3, 16), (96, .if_icmp .lt 42, 3, 48), (99, .iload 4, 2, 6), (101, .ifCond .ne 34, 3, 21), (104, .bipush 10, 2, 11), (106, .iload 8, 2, 6)]
theorem qjN : dtC (cX10_road.data.toList.drop 77) 77 qaEU = true := by decide +kernel
def qaBz : List dtR := [(108, .imul, 1, 34), (109, .iload 9, 2, 6), (111, .iadd, 1, 10), (112, .istore 5, 2, 15), (114, .iload_n 1, 1, 4), (115, .iload_n 2, 1, 8), (116, .iload 8, 2, 6), (118, .iload 9, 2, 6), (120, .invokestatic 365, 3, 16), (123, .iload_n 1, 1, 4), (124, .iload_n 2, 1, 8), (125, .iload 9, 2, 6), (127, .iload 8, 2, 6), (129, .invokestatic 365, 3, 16), (132, .iadd, 1, 10), (133, .istore 6, 2, 15)]
theorem qhe : dtC (cX10_road.data.toList.drop 108) 108 qaBz = true := by decide +kernel
def qaAW : List dtR := [(135, .iinc 4 1, 3, 20), (138, .iinc 7 1, 3, 20), (141, .goto (-106), 3, 7), (144, .iload_n 3, 1, 13)]
theorem qHO : dtC (cX10_road.data.toList.drop 135) 135 qaAW = true := by decide +kernel
theorem dX10_road_145 : decode cX10_road 145 = .ok (.lookupswitch 33 #[(0, 27), (1, 30)], 27) := by decide +kernel
def qaD8 : List dtR := [(172, .iload 4, 2, 6), (174, .ireturn, 1, 9), (175, .iload 5, 2, 6), (177, .ireturn, 1, 9), (178, .iload 6, 2, 6), (180, .ireturn, 1, 9)]
theorem qyC : dtC (cX10_road.data.toList.drop 172) 172 qaD8 = true := by decide +kernel
def qawY : List dtR := [(0, .aload_n 0, 1, 0), (1, .iload_n 1, 1, 4), (2, .invokevirtual 227, 3, 2), (5, .aload_n 0, 1, 0), (6, .iload_n 2, 1, 8), (7, .iconst 0, 1, 3), (8, .iconst 1, 1, 5), (9, .aload_n 0, 1, 0), (10, .getfield 19, 3, 1), (13, .getfield 141, 3, 1), (16, .ishl, 1, 32), (17, .iconst 1, 1, 5), (18, .isub, 1, 27), (19, .invokevirtual 180, 3, 2), (22, .aload_n 0, 1, 0), (23, .iload_n 3, 1, 13)]
theorem qgQ : dtC (cX10_clover.data.toList.drop 0) 0 qawY = true := by decide +kernel
def qaqW : List dtR := [(24, .iconst 0, 1, 3), (25, .sipush 999, 3, 33), (28, .invokevirtual 180, 3, 2), (31, .iload_n 2, 1, 8), (32, .iload_n 1, 1, 4), (33, .invokestatic 332, 3, 16), (36, .ifCond .eq 16, 3, 19), (39, .aload_n 0, 1, 0), (40, .getfield 58, 3, 1), (43, .iload_n 1, 1, 4), (44, .iload_n 2, 1, 8), (45, .iload_n 3, 1, 13), (46, .invokevirtual 369, 3, 2), (49, .goto 4, 3, 7), (52, .iconst 0, 1, 3), (53, .ireturn, 1, 9)]
theorem qeR : dtC (cX10_clover.data.toList.drop 24) 24 qaqW = true := by decide +kernel
def qahN : List dtR := [(0, .aload_n 0, 1, 0), (1, .iload_n 1, 1, 4), (2, .iconst 0, 1, 3), (3, .iconst 1, 1, 5), (4, .invokevirtual 180, 3, 2), (7, .iconst (-1), 1, 28), (8, .istore_n 2, 1, 29), (9, .iconst 0, 1, 3), (10, .istore_n 3, 1, 26), (11, .iload_n 3, 1, 13), (12, .aload_n 0, 1, 0), (13, .getfield 19, 3, 1), (16, .getfield 141, 3, 1), (19, .if_icmp .ge 46, 3, 18), (22, .aload_n 0, 1, 0), (23, .getfield 58, 3, 1)]
theorem qc7 : dtC (cX10_strongest.data.toList.drop 0) 0 qahN = true := by decide +kernel
def q9i : List dtR := [(26, .iload_n 3, 1, 13), (27, .invokevirtual 230, 3, 2), (30, .ifCond .ne 29, 3, 21), (33, .iload_n 2, 1, 8), (34, .iconst (-1), 1, 28), (35, .if_icmp .eq 22, 3, 39), (38, .aload_n 0, 1, 0), (39, .getfield 58, 3, 1), (42, .iload_n 3, 1, 13), (43, .invokevirtual 236, 3, 2), (46, .aload_n 0, 1, 0), (47, .getfield 58, 3, 1), (50, .iload_n 2, 1, 8), (51, .invokevirtual 236, 3, 2), (54, .if_icmp .le 5, 3, 56), (57, .iload_n 3, 1, 13)]
theorem qcL : dtC (cX10_strongest.data.toList.drop 26) 26 q9i = true := by decide +kernel
def q9E : List dtR := [(58, .istore_n 2, 1, 29), (59, .iinc 3 1, 3, 20), (62, .goto (-51), 3, 7), (65, .iload_n 1, 1, 4), (66, .ifCond .eq 8, 3, 19), (69, .iload_n 2, 1, 8), (70, .iconst (-1), 1, 28), (71, .if_icmp .ne 7, 3, 23), (74, .iload_n 2, 1, 8), (75, .goto 11, 3, 7), (78, .aload_n 0, 1, 0), (79, .getfield 58, 3, 1), (82, .iload_n 2, 1, 8), (83, .invokevirtual 236, 3, 2), (86, .ireturn, 1, 9)]
theorem qcI : dtC (cX10_strongest.data.toList.drop 58) 58 q9E = true := by decide +kernel
def qaR9 : List dtR := [(0, .aload_n 0, 1, 0), (1, .iload_n 1, 1, 4), (2, .invokevirtual 227, 3, 2), (5, .aload_n 0, 1, 0), (6, .iload_n 2, 1, 8), (7, .iconst 0, 1, 3), (8, .iconst 1, 1, 5), (9, .invokevirtual 180, 3, 2), (12, .iconst 0, 1, 3), (13, .istore_n 3, 1, 26), (14, .iconst 0, 1, 3), (15, .istore 4, 2, 15), (17, .iload 4, 2, 6), (19, .aload_n 0, 1, 0), (20, .getfield 19, 3, 1), (23, .getfield 141, 3, 1)]
theorem qlr : dtC (cX10_ties.data.toList.drop 0) 0 qaR9 = true := by decide +kernel
def qaIw : List dtR := [(26, .if_icmp .ge 50, 3, 18), (29, .iload_n 2, 1, 8), (30, .ifCond .ne 16, 3, 21), (33, .aload_n 0, 1, 0), (34, .getfield 58, 3, 1), (37, .iload_n 1, 1, 4), (38, .iload 4, 2, 6), (40, .invokevirtual 277, 3, 2), (43, .goto 13, 3, 7), (46, .aload_n 0, 1, 0), (47, .getfield 58, 3, 1), (50, .iload 4, 2, 6), (52, .iload_n 1, 1, 4), (53, .invokevirtual 277, 3, 2), (56, .istore 5, 2, 15), (58, .iload 5, 2, 6)]
theorem qiS : dtC (cX10_ties.data.toList.drop 26) 26 qaIw = true := by decide +kernel
def qaJl : List dtR := [(60, .ifCond .le 10, 3, 62), (63, .iload_n 3, 1, 13), (64, .iconst 1, 1, 5), (65, .iload 4, 2, 6), (67, .ishl, 1, 32), (68, .ior, 1, 38), (69, .istore_n 3, 1, 26), (70, .iinc 4 1, 3, 20), (73, .goto (-56), 3, 7), (76, .iload_n 3, 1, 13), (77, .ireturn, 1, 9)]
theorem qqM : dtC (cX10_ties.data.toList.drop 60) 60 qaJl = true := by decide +kernel
def qaBm : List dtR := [(0, .aload_n 0, 1, 0), (1, .iload_n 1, 1, 4), (2, .invokevirtual 209, 3, 2), (5, .aload_n 0, 1, 0), (6, .iload_n 2, 1, 8), (7, .iconst 0, 1, 3), (8, .iconst 1, 1, 5), (9, .invokevirtual 180, 3, 2), (12, .iconst (-1), 1, 28), (13, .istore_n 3, 1, 26), (14, .iconst 0, 1, 3), (15, .istore 4, 2, 15), (17, .iload 4, 2, 6), (19, .aload_n 0, 1, 0), (20, .getfield 19, 3, 1), (23, .getfield 149, 3, 1)]
theorem qhj : dtC (cX10_refuge.data.toList.drop 0) 0 qaBm = true := by decide +kernel
def qatu : List dtR := [(26, .if_icmp .ge 51, 3, 18), (29, .aload_n 0, 1, 0), (30, .getfield 19, 3, 1), (33, .iload 4, 2, 6), (35, .invokevirtual 219, 3, 2), (38, .ifCond .eq 33, 3, 19), (41, .iload_n 3, 1, 13), (42, .iconst (-1), 1, 28), (43, .if_icmp .eq 25, 3, 39), (46, .aload_n 0, 1, 0), (47, .getfield 19, 3, 1), (50, .iload_n 1, 1, 4), (51, .iload 4, 2, 6), (53, .invokevirtual 281, 3, 2), (56, .aload_n 0, 1, 0), (57, .getfield 19, 3, 1)]
theorem qfP : dtC (cX10_refuge.data.toList.drop 26) 26 qatu = true := by decide +kernel
def qaoT : List dtR := [(60, .iload_n 1, 1, 4), (61, .iload_n 3, 1, 13), (62, .invokevirtual 281, 3, 2), (65, .if_icmp .ge 6, 3, 18), (68, .iload 4, 2, 6), (70, .istore_n 3, 1, 26), (71, .iinc 4 1, 3, 20), (74, .goto (-57), 3, 7), (77, .iload_n 2, 1, 8), (78, .ifCond .eq 8, 3, 19), (81, .iload_n 3, 1, 13), (82, .iconst (-1), 1, 28), (83, .if_icmp .ne 7, 3, 23), (86, .iload_n 3, 1, 13), (87, .goto 12, 3, 7), (90, .aload_n 0, 1, 0)]
theorem qfr : dtC (cX10_refuge.data.toList.drop 60) 60 qaoT = true := by decide +kernel
def qarg : List dtR := [(91, .getfield 19, 3, 1), (94, .iload_n 1, 1, 4), (95, .iload_n 3, 1, 13), (96, .invokevirtual 281, 3, 2), (99, .ireturn, 1, 9)]
theorem qwz : dtC (cX10_refuge.data.toList.drop 91) 91 qarg = true := by decide +kernel
def qaG5 : List dtR := [(0, .aload_n 0, 1, 0), (1, .iload_n 1, 1, 4), (2, .invokevirtual 227, 3, 2), (5, .aload_n 0, 1, 0), (6, .getfield 58, 3, 1), (9, .iload_n 1, 1, 4), (10, .invokevirtual 372, 3, 2), (13, .ireturn, 1, 9)]
theorem qvn : dtC (cX10_range.data.toList.drop 0) 0 qaG5 = true := by decide +kernel
def qaH4 : List dtR := [(0, .aload_n 0, 1, 0), (1, .iload_n 2, 1, 8), (2, .iconst 1, 1, 5), (3, .bipush 96, 2, 11), (5, .invokevirtual 180, 3, 2), (8, .aload_n 0, 1, 0), (9, .iload_n 3, 1, 13), (10, .iconst 0, 1, 3), (11, .iconst 3, 1, 36), (12, .invokevirtual 180, 3, 2), (15, .aload_n 0, 1, 0), (16, .getfield 62, 3, 1), (19, .aload_n 0, 1, 0), (20, .getfield 58, 3, 1), (23, .invokevirtual 297, 3, 2), (26, .aload_n 0, 1, 0)]
theorem qkm : dtC (cX10_march.data.toList.drop 0) 0 qaH4 = true := by decide +kernel
def qawW : List dtR := [(27, .getfield 62, 3, 1), (30, .iload_n 1, 1, 4), (31, .iload_n 2, 1, 8), (32, .invokevirtual 375, 3, 2), (35, .istore 4, 2, 15), (37, .iload_n 3, 1, 13)]
theorem qyK : dtC (cX10_march.data.toList.drop 27) 27 qawW = true := by decide +kernel
theorem dX10_march_38 : decode cX10_march 38 = .ok (.tableswitch 45 0 2 #[26, 29, 37], 26) := by decide +kernel
def qawl : List dtR := [(64, .iload 4, 2, 6), (66, .ireturn, 1, 9), (67, .aload_n 0, 1, 0), (68, .getfield 62, 3, 1), (71, .invokevirtual 194, 3, 2), (74, .ireturn, 1, 9), (75, .aload_n 0, 1, 0), (76, .getfield 62, 3, 1), (79, .invokevirtual 378, 3, 2), (82, .ireturn, 1, 9), (83, .aload_n 0, 1, 0), (84, .getfield 62, 3, 1), (87, .invokevirtual 187, 3, 2), (90, .ireturn, 1, 9)]
theorem qkU : dtC (cX10_march.data.toList.drop 64) 64 qawl = true := by decide +kernel
def qaRT : List dtR := [(0, .aload_n 0, 1, 0), (1, .iload_n 2, 1, 8), (2, .iconst 1, 1, 5), (3, .bipush 20, 2, 11), (5, .invokevirtual 180, 3, 2), (8, .aload_n 0, 1, 0), (9, .iload_n 3, 1, 13), (10, .iconst 1, 1, 5), (11, .bipush 96, 2, 11), (13, .invokevirtual 180, 3, 2), (16, .aload_n 0, 1, 0), (17, .iload 4, 2, 6), (19, .iconst 0, 1, 3), (20, .iconst 2, 1, 25), (21, .invokevirtual 180, 3, 2), (24, .aload_n 0, 1, 0)]
theorem qmd : dtC (cX10_span.data.toList.drop 0) 0 qaRT = true := by decide +kernel
def qaHv : List dtR := [(25, .iload 5, 2, 6), (27, .iconst 0, 1, 3), (28, .aload_n 0, 1, 0), (29, .getfield 19, 3, 1), (32, .getfield 141, 3, 1), (35, .iconst 1, 1, 5), (36, .isub, 1, 27), (37, .invokevirtual 180, 3, 2), (40, .ldc_w 383, 3, 50), (43, .istore 6, 2, 15), (45, .iconst 0, 1, 3), (46, .istore 7, 2, 15), (48, .iconst 0, 1, 3), (49, .istore 8, 2, 15), (51, .iconst 0, 1, 3), (52, .istore 9, 2, 15)]
theorem qj8 : dtC (cX10_span.data.toList.drop 25) 25 qaHv = true := by decide +kernel
def qaEX : List dtR := [(54, .iload 9, 2, 6), (56, .iload_n 2, 1, 8), (57, .if_icmp .ge 74, 3, 18), (60, .aload_n 0, 1, 0), (61, .getfield 62, 3, 1), (64, .aload_n 0, 1, 0), (65, .getfield 58, 3, 1), (68, .invokevirtual 297, 3, 2), (71, .aload_n 0, 1, 0), (72, .getfield 62, 3, 1), (75, .iload_n 1, 1, 4), (76, .iload 9, 2, 6), (78, .iadd, 1, 10), (79, .iload_n 3, 1, 13), (80, .invokevirtual 375, 3, 2), (83, .istore 10, 2, 15)]
theorem qjx : dtC (cX10_span.data.toList.drop 54) 54 qaEX = true := by decide +kernel
def qaI8 : List dtR := [(85, .iload 6, 2, 6), (87, .iload 10, 2, 6), (89, .invokestatic 384, 3, 16), (92, .istore 6, 2, 15), (94, .iload 7, 2, 6), (96, .iload 10, 2, 6), (98, .invokestatic 389, 3, 16), (101, .istore 7, 2, 15), (103, .iload 8, 2, 6), (105, .aload_n 0, 1, 0), (106, .getfield 62, 3, 1), (109, .iload 5, 2, 6), (111, .invokevirtual 230, 3, 2), (114, .ifCond .eq 7, 3, 19), (117, .iconst 0, 1, 3), (118, .goto 4, 3, 7)]
theorem qiT : dtC (cX10_span.data.toList.drop 85) 85 qaI8 = true := by decide +kernel
def qaDL : List dtR := [(121, .iconst 1, 1, 5), (122, .iadd, 1, 10), (123, .istore 8, 2, 15), (125, .iinc 9 1, 3, 20), (128, .goto (-74), 3, 7), (131, .iload 4, 2, 6)]
theorem qyQ : dtC (cX10_span.data.toList.drop 121) 121 qaDL = true := by decide +kernel
theorem dX10_span_133 : decode cX10_span 133 = .ok (.lookupswitch 33 #[(0, 27), (1, 30)], 27) := by decide +kernel
def qaCU : List dtR := [(160, .iload 6, 2, 6), (162, .ireturn, 1, 9), (163, .iload 7, 2, 6), (165, .ireturn, 1, 9), (166, .iload 8, 2, 6), (168, .ireturn, 1, 9)]
theorem qyA : dtC (cX10_span.data.toList.drop 160) 160 qaCU = true := by decide +kernel
def qaHb : List dtR := [(0, .aload_n 0, 1, 0), (1, .getfield 135, 3, 1), (4, .iconst 3, 1, 36), (5, .if_icmp .lt 5, 3, 48), (8, .iconst (-1), 1, 28), (9, .ireturn, 1, 9), (10, .aload_n 0, 1, 0), (11, .getfield 72, 3, 1), (14, .aload_n 0, 1, 0), (15, .getfield 135, 3, 1), (18, .aaload, 1, 80), (19, .aload_n 0, 1, 0), (20, .getfield 68, 3, 1), (23, .invokevirtual 392, 3, 2), (26, .aload_n 0, 1, 0), (27, .getfield 72, 3, 1)]
theorem qcg : dtC (cX10_image.data.toList.drop 0) 0 qaHb = true := by decide +kernel
def qav8 : List dtR := [(30, .aload_n 0, 1, 0), (31, .getfield 135, 3, 1), (34, .aaload, 1, 80), (35, .aload_n 0, 1, 0), (36, .getfield 58, 3, 1), (39, .invokevirtual 155, 3, 2), (42, .aload_n 0, 1, 0), (43, .dup, 1, 30), (44, .getfield 135, 3, 1), (47, .iconst 1, 1, 5), (48, .iadd, 1, 10), (49, .putfield 135, 3, 14), (52, .aload_n 0, 1, 0), (53, .getfield 135, 3, 1), (56, .ireturn, 1, 9)]
theorem qai : dtC (cX10_image.data.toList.drop 30) 30 qav8 = true := by decide +kernel
def qate : List dtR := [(0, .aload_n 0, 1, 0), (1, .getfield 135, 3, 1), (4, .ifCond .ne 5, 3, 21), (7, .iconst (-1), 1, 28), (8, .ireturn, 1, 9), (9, .aload_n 0, 1, 0), (10, .dup, 1, 30), (11, .getfield 135, 3, 1), (14, .iconst 1, 1, 5), (15, .isub, 1, 27), (16, .putfield 135, 3, 14), (19, .aload_n 0, 1, 0), (20, .getfield 72, 3, 1), (23, .aload_n 0, 1, 0), (24, .getfield 135, 3, 1), (27, .aaload, 1, 80)]
theorem qfU : dtC (cX10_restore.data.toList.drop 0) 0 qate = true := by decide +kernel
def qaik : List dtR := [(28, .aload_n 0, 1, 0), (29, .getfield 58, 3, 1), (32, .invokevirtual 177, 3, 2), (35, .aload_n 0, 1, 0), (36, .getfield 68, 3, 1), (39, .aload_n 0, 1, 0), (40, .getfield 72, 3, 1), (43, .aload_n 0, 1, 0), (44, .getfield 135, 3, 1), (47, .aaload, 1, 80), (48, .invokevirtual 392, 3, 2), (51, .aload_n 0, 1, 0), (52, .iconst 0, 1, 3), (53, .putfield 138, 3, 14), (56, .aload_n 0, 1, 0), (57, .getfield 135, 3, 1)]
theorem qaj : dtC (cX10_restore.data.toList.drop 28) 28 qaik = true := by decide +kernel
def qajr : List dtR := [(60, .ireturn, 1, 9)]
theorem qpA : dtC (cX10_restore.data.toList.drop 60) 60 qajr = true := by decide +kernel
def qaBl : List dtR := [(0, .iload_n 1, 1, 4)]
theorem qaCv : dtC (cX10_status.data.toList.drop 0) 0 qaBl = true := by decide +kernel
theorem dX10_status_1 : decode cX10_status 1 = .ok (.lookupswitch 37 #[(0, 27), (1, 32)], 27) := by decide +kernel
def qasO : List dtR := [(28, .aload_n 0, 1, 0), (29, .getfield 261, 3, 1), (32, .ireturn, 1, 9), (33, .aload_n 0, 1, 0), (34, .getfield 395, 3, 1), (37, .ireturn, 1, 9), (38, .iconst (-1), 1, 28), (39, .ireturn, 1, 9)]
theorem qsE : dtC (cX10_status.data.toList.drop 28) 28 qasO = true := by decide +kernel
def qaFK : List dtR := [(0, .iload_n 1, 1, 4)]
theorem qaEJ : dtC (cX10_count.data.toList.drop 0) 0 qaFK = true := by decide +kernel
theorem dX10_count_1 : decode cX10_count 1 = .ok (.tableswitch 48 0 2 #[27, 32, 40], 27) := by decide +kernel
def qaDx : List dtR := [(28, .aload_n 0, 1, 0), (29, .getfield 135, 3, 1), (32, .ireturn, 1, 9), (33, .aload_n 0, 1, 0), (34, .getfield 10, 3, 1), (37, .getfield 105, 3, 1), (40, .ireturn, 1, 9), (41, .aload_n 0, 1, 0), (42, .getfield 68, 3, 1), (45, .getfield 132, 3, 1), (48, .ireturn, 1, 9), (49, .iconst (-1), 1, 28), (50, .ireturn, 1, 9)]
theorem qna : dtC (cX10_count.data.toList.drop 28) 28 qaDx = true := by decide +kernel
def qanv : List dtR := [(0, .aload_n 0, 1, 0), (1, .iload_n 1, 1, 4), (2, .iconst 0, 1, 3), (3, .iload_n 2, 1, 8), (4, .aload_n 0, 1, 0), (5, .getfield 10, 3, 1), (8, .getfield 105, 3, 1), (11, .invokestatic 384, 3, 16), (14, .invokevirtual 180, 3, 2), (17, .aload_n 0, 1, 0), (18, .getfield 10, 3, 1), (21, .iload_n 1, 1, 4), (22, .invokevirtual 398, 3, 2), (25, .return_, 1, 24)]
theorem qgk : dtC (cX10_openText.data.toList.drop 0) 0 qanv = true := by decide +kernel
def qamB : List dtR := [(0, .iload_n 1, 1, 4), (1, .iconst 0, 1, 3), (2, .aload_n 0, 1, 0), (3, .getfield 19, 3, 1), (6, .getfield 149, 3, 1), (9, .iconst 1, 1, 5), (10, .isub, 1, 27), (11, .invokestatic 257, 3, 16), (14, .ifCond .ne 24, 3, 21), (17, .aload_n 0, 1, 0), (18, .dup, 1, 30), (19, .getfield 261, 3, 1), (22, .iconst 1, 1, 5), (23, .iadd, 1, 10), (24, .putfield 261, 3, 14), (27, .new 264, 3, 52)]
theorem qej : dtC (cX10_needForm.data.toList.drop 0) 0 qamB = true := by decide +kernel
def qacX : List dtR := [(30, .dup, 1, 30), (31, .ldc_w 401, 3, 50), (34, .invokespecial 268, 3, 44), (37, .athrow, 1, 70), (38, .return_, 1, 24)]
theorem qxn : dtC (cX10_needForm.data.toList.drop 30) 30 qacX = true := by decide +kernel
def qaiK : List dtR := [(0, .iload_n 1, 1, 4), (1, .iconst 0, 1, 3), (2, .aload_n 0, 1, 0), (3, .getfield 19, 3, 1), (6, .getfield 141, 3, 1), (9, .iconst 1, 1, 5), (10, .isub, 1, 27), (11, .invokestatic 257, 3, 16), (14, .ifCond .ne 24, 3, 21), (17, .aload_n 0, 1, 0), (18, .dup, 1, 30), (19, .getfield 261, 3, 1), (22, .iconst 1, 1, 5), (23, .iadd, 1, 10), (24, .putfield 261, 3, 14), (27, .new 264, 3, 52)]
theorem qeN : dtC (cX10_needHare.data.toList.drop 0) 0 qaiK = true := by decide +kernel
def qagi : List dtR := [(30, .dup, 1, 30), (31, .ldc_w 403, 3, 50), (34, .invokespecial 268, 3, 44), (37, .athrow, 1, 70), (38, .return_, 1, 24)]
theorem qxt : dtC (cX10_needHare.data.toList.drop 30) 30 qagi = true := by decide +kernel
def qabT : List dtR := [(0, .aload_n 0, 1, 0), (1, .iload_n 1, 1, 4), (2, .iload_n 2, 1, 8), (3, .iload_n 3, 1, 13), (4, .invokestatic 257, 3, 16), (7, .invokevirtual 322, 3, 2), (10, .return_, 1, 24)]
theorem qq2 : dtC (cX10_needWithin.data.toList.drop 0) 0 qabT = true := by decide +kernel
def qacQ : List dtR := [(0, .iload_n 1, 1, 4), (1, .ifCond .ne 24, 3, 21), (4, .aload_n 0, 1, 0), (5, .dup, 1, 30), (6, .getfield 395, 3, 1), (9, .iconst 1, 1, 5), (10, .iadd, 1, 10), (11, .putfield 395, 3, 14), (14, .new 405, 3, 52), (17, .dup, 1, 30), (18, .ldc_w 407, 3, 50), (21, .invokespecial 409, 3, 44), (24, .athrow, 1, 70), (25, .return_, 1, 24)]
theorem qe3 : dtC (cX10_needLegal.data.toList.drop 0) 0 qacQ = true := by decide +kernel
def qaf6 : List dtR := [(0, .iload 4, 2, 6), (2, .ifCond .ne 14, 3, 21), (5, .iload_n 2, 1, 8), (6, .iload_n 1, 1, 4), (7, .if_icmp .ne 7, 3, 23), (10, .iconst 1, 1, 5), (11, .goto 4, 3, 7), (14, .iconst 0, 1, 3), (15, .ireturn, 1, 9), (16, .iconst 0, 1, 3), (17, .istore 5, 2, 15), (19, .iconst 0, 1, 3), (20, .istore 6, 2, 15), (22, .iload 6, 2, 6), (24, .bipush 6, 2, 11), (26, .if_icmp .ge 93, 3, 18)]
theorem qaT : dtC (cX10_ordersWon.data.toList.drop 0) 0 qaf6 = true := by decide +kernel
def q9Z : List dtR := [(29, .iload 4, 2, 6), (31, .iload 6, 2, 6), (33, .invokestatic 332, 3, 16), (36, .ifCond .eq 77, 3, 19), (39, .aload_n 0, 1, 0), (40, .iload 6, 2, 6), (42, .invokevirtual 236, 3, 2), (45, .istore 7, 2, 15), (47, .iload_n 3, 1, 13), (48, .iload 7, 2, 6), (50, .if_icmp .lt 7, 3, 48), (53, .iconst 1, 1, 5), (54, .goto 4, 3, 7), (57, .iconst 0, 1, 3), (58, .istore 8, 2, 15), (60, .iload 8, 2, 6)]
theorem qaR : dtC (cX10_ordersWon.data.toList.drop 29) 29 q9Z = true := by decide +kernel
def qaa0 : List dtR := [(62, .ifCond .eq 7, 3, 19), (65, .iload_n 2, 1, 8), (66, .goto 5, 3, 7), (69, .iload 6, 2, 6), (71, .istore 9, 2, 15), (73, .iconst 0, 1, 3), (74, .iload 8, 2, 6), (76, .ifCond .eq 7, 3, 19), (79, .iload_n 3, 1, 13), (80, .goto 5, 3, 7), (83, .iload 7, 2, 6), (85, .iconst 1, 1, 5), (86, .isub, 1, 27), (87, .invokestatic 389, 3, 16), (90, .istore 10, 2, 15), (92, .iload 5, 2, 6)]
theorem qaP : dtC (cX10_ordersWon.data.toList.drop 62) 62 qaa0 = true := by decide +kernel
def qacz : List dtR := [(94, .aload_n 0, 1, 0), (95, .iload_n 1, 1, 4), (96, .iload 9, 2, 6), (98, .iload 10, 2, 6), (100, .iload 4, 2, 6), (102, .iconst 1, 1, 5), (103, .iload 6, 2, 6), (105, .ishl, 1, 32), (106, .ixor, 1, 59), (107, .invokestatic 335, 3, 16), (110, .iadd, 1, 10), (111, .istore 5, 2, 15), (113, .iinc 6 1, 3, 20), (116, .goto (-94), 3, 7), (119, .iload 5, 2, 6), (121, .ireturn, 1, 9)]
theorem qa5 : dtC (cX10_ordersWon.data.toList.drop 94) 94 qacz = true := by decide +kernel
def qaMw : List dtR := [(0, .iload_n 2, 1, 8), (1, .iconst 1, 1, 5), (2, .if_icmp .ne 14, 3, 23), (5, .iload_n 3, 1, 13), (6, .iconst 1, 1, 5), (7, .if_icmp .ne 7, 3, 23), (10, .iload_n 0, 1, 35), (11, .goto 4, 3, 7), (14, .iconst 0, 1, 3), (15, .ireturn, 1, 9), (16, .iload_n 3, 1, 13), (17, .iconst 1, 1, 5), (18, .if_icmp .ne 9, 3, 23), (21, .iload_n 0, 1, 35), (22, .iload_n 1, 1, 4), (23, .iadd, 1, 10)]
theorem qkQ : dtC (cX10_gain.data.toList.drop 0) 0 qaMw = true := by decide +kernel
def qaGr : List dtR := [(24, .goto 5, 3, 7), (27, .iload_n 1, 1, 4), (28, .ineg, 1, 81), (29, .ireturn, 1, 9)]
theorem qDX : dtC (cX10_gain.data.toList.drop 24) 24 qaGr = true := by decide +kernel
def qasv : List dtR := [(0, .lconst 1, 1, 66), (1, .lstore_n 2, 1, 82), (2, .iconst 1, 1, 5), (3, .istore 4, 2, 15), (5, .iload 4, 2, 6), (7, .iload_n 1, 1, 4), (8, .if_icmp .gt 23, 3, 42), (11, .lload_n 2, 1, 72), (12, .iload_n 0, 1, 35), (13, .iload 4, 2, 6), (15, .isub, 1, 27), (16, .iconst 1, 1, 5), (17, .iadd, 1, 10), (18, .i2l, 1, 46), (19, .lmul, 1, 67), (20, .iload 4, 2, 6)]
theorem qfB : dtC (cX10_choices.data.toList.drop 0) 0 qasv = true := by decide +kernel
def qanc : List dtR := [(22, .i2l, 1, 46), (23, .ldiv, 1, 88), (24, .lstore_n 2, 1, 82), (25, .iinc 4 1, 3, 20), (28, .goto (-23), 3, 7), (31, .lload_n 2, 1, 72), (32, .lreturn, 1, 71)]
theorem qs8 : dtC (cX10_choices.data.toList.drop 22) 22 qanc = true := by decide +kernel
def qaHI : List dtR := [(0, .lconst 1, 1, 66), (1, .lstore_n 2, 1, 82), (2, .iconst 0, 1, 3), (3, .istore 4, 2, 15), (5, .iload 4, 2, 6), (7, .iload_n 1, 1, 4), (8, .if_icmp .ge 14, 3, 18), (11, .lload_n 2, 1, 72), (12, .iload_n 0, 1, 35), (13, .i2l, 1, 46), (14, .lmul, 1, 67), (15, .lstore_n 2, 1, 82), (16, .iinc 4 1, 3, 20), (19, .goto (-14), 3, 7), (22, .lload_n 2, 1, 72), (23, .lreturn, 1, 71)]
theorem qku : dtC (cX10_power.data.toList.drop 0) 0 qaHI = true := by decide +kernel
def qavm : List dtR := [(0, .iload_n 0, 1, 35), (1, .iload_n 1, 1, 4), (2, .if_icmp .lt 12, 3, 48), (5, .iload_n 0, 1, 35), (6, .iload_n 2, 1, 8), (7, .if_icmp .gt 7, 3, 42), (10, .iconst 1, 1, 5), (11, .goto 4, 3, 7), (14, .iconst 0, 1, 3), (15, .ireturn, 1, 9)]
theorem qm6 : dtC (cX10_within.data.toList.drop 0) 0 qavm = true := by decide +kernel
def qaKz : List dtR := [(0, .iload_n 0, 1, 35), (1, .iload_n 1, 1, 4), (2, .ishr, 1, 54), (3, .iconst 1, 1, 5), (4, .iand, 1, 40), (5, .iconst 1, 1, 5), (6, .if_icmp .ne 7, 3, 23), (9, .iconst 1, 1, 5), (10, .goto 4, 3, 7), (13, .iconst 0, 1, 3), (14, .ireturn, 1, 9)]
theorem qpr : dtC (cX10_holds.data.toList.drop 0) 0 qaKz = true := by decide +kernel
def qaxO : List dtR := [(0, .aload_n 0, 1, 0), (1, .getfield 3, 3, 1), (4, .ireturn, 1, 9)]
theorem qQa : dtC (cX11_thrown.data.toList.drop 0) 0 qaxO = true := by decide +kernel
def qaU0 : List dtR := [(0, .iload_n 1, 1, 4), (1, .ifCond .ne 25, 3, 21), (4, .aload_n 0, 1, 0), (5, .getfield 3, 3, 1), (8, .ifCond .ne 18, 3, 21), (11, .aload_n 0, 1, 0), (12, .iload_n 2, 1, 8), (13, .putfield 3, 3, 14), (16, .aload_n 0, 1, 0), (17, .getfield 7, 3, 1), (20, .iload_n 3, 1, 13), (21, .dup2, 1, 55), (22, .iaload, 1, 12), (23, .iconst 1, 1, 5), (24, .iadd, 1, 10), (25, .iastore, 1, 22)]
theorem qou : dtC (cX11_may.data.toList.drop 0) 0 qaU0 = true := by decide +kernel
def qaNh : List dtR := [(26, .aload_n 0, 1, 0), (27, .getfield 3, 3, 1), (30, .ifCond .ne 7, 3, 21), (33, .iconst 1, 1, 5), (34, .goto 4, 3, 7), (37, .iconst 0, 1, 3), (38, .ireturn, 1, 9)]
theorem qxk : dtC (cX11_may.data.toList.drop 26) 26 qaNh = true := by decide +kernel
def qaxv : List dtR := [(0, .iload_n 0, 1, 35), (1, .iload_n 1, 1, 4), (2, .if_icmp .lt 12, 3, 48), (5, .iload_n 0, 1, 35), (6, .iload_n 2, 1, 8), (7, .if_icmp .gt 7, 3, 42), (10, .iconst 1, 1, 5), (11, .goto 4, 3, 7), (14, .iconst 0, 1, 3), (15, .ireturn, 1, 9)]
theorem qnc : dtC (cX11_within.data.toList.drop 0) 0 qaxv = true := by decide +kernel
def qaQd : List dtR := [(0, .aload_n 0, 1, 0), (1, .invokespecial 11, 3, 44), (4, .aload_n 0, 1, 0), (5, .iconst 2, 1, 25)]
theorem qN3 : dtC (cX11_init.data.toList.drop 0) 0 qaQd = true := by decide +kernel
theorem dX11_init_6 : decode cX11_init 6 = .ok (.newarray .int, 2) := by decide +kernel
def qaR5 : List dtR := [(8, .putfield 7, 3, 14), (11, .aload_n 0, 1, 0), (12, .iconst (-1), 1, 28), (13, .putfield 17, 3, 14), (16, .aload_n 0, 1, 0), (17, .sipush 600, 3, 33)]
theorem qCP : dtC (cX11_init.data.toList.drop 8) 8 qaR5 = true := by decide +kernel
theorem dX11_init_20 : decode cX11_init 20 = .ok (.newarray .int, 2) := by decide +kernel
def qaH0 : List dtR := [(22, .putfield 20, 3, 14), (25, .aload_n 0, 1, 0), (26, .bipush 16, 2, 11)]
theorem qUw : dtC (cX11_init.data.toList.drop 22) 22 qaH0 = true := by decide +kernel
theorem dX11_init_28 : decode cX11_init 28 = .ok (.newarray .int, 2) := by decide +kernel
def qaFM : List dtR := [(30, .putfield 23, 3, 14), (33, .aload_n 0, 1, 0), (34, .bipush 12, 2, 11)]
theorem qTG : dtC (cX11_init.data.toList.drop 30) 30 qaFM = true := by decide +kernel
theorem dX11_init_36 : decode cX11_init 36 = .ok (.newarray .int, 2) := by decide +kernel
def qaKB : List dtR := [(38, .putfield 26, 3, 14), (41, .aload_n 0, 1, 0), (42, .bipush 8, 2, 11)]
theorem qTd : dtC (cX11_init.data.toList.drop 38) 38 qaKB = true := by decide +kernel
theorem dX11_init_44 : decode cX11_init 44 = .ok (.newarray .int, 2) := by decide +kernel
def qaG0 : List dtR := [(46, .putfield 29, 3, 14), (49, .aload_n 0, 1, 0), (50, .bipush 36, 2, 11)]
theorem qTB : dtC (cX11_init.data.toList.drop 46) 46 qaG0 = true := by decide +kernel
theorem dX11_init_52 : decode cX11_init 52 = .ok (.newarray .int, 2) := by decide +kernel
def qaFl : List dtR := [(54, .putfield 32, 3, 14), (57, .aload_n 0, 1, 0), (58, .bipush 16, 2, 11)]
theorem qUG : dtC (cX11_init.data.toList.drop 54) 54 qaFl = true := by decide +kernel
theorem dX11_init_60 : decode cX11_init 60 = .ok (.newarray .int, 2) := by decide +kernel
def qaKW : List dtR := [(62, .putfield 35, 3, 14), (65, .aload_n 0, 1, 0), (66, .bipush 12, 2, 11)]
theorem qTf : dtC (cX11_init.data.toList.drop 62) 62 qaKW = true := by decide +kernel
theorem dX11_init_68 : decode cX11_init 68 = .ok (.newarray .int, 2) := by decide +kernel
def qaFQ : List dtR := [(70, .putfield 38, 3, 14), (73, .aload_n 0, 1, 0), (74, .bipush 8, 2, 11)]
theorem qUh : dtC (cX11_init.data.toList.drop 70) 70 qaFQ = true := by decide +kernel
theorem dX11_init_76 : decode cX11_init 76 = .ok (.newarray .int, 2) := by decide +kernel
def qaJ5 : List dtR := [(78, .putfield 41, 3, 14), (81, .aload_n 0, 1, 0), (82, .sipush 150, 3, 33)]
theorem qUa : dtC (cX11_init.data.toList.drop 78) 78 qaJ5 = true := by decide +kernel
theorem dX11_init_85 : decode cX11_init 85 = .ok (.newarray .int, 2) := by decide +kernel
def qaHO : List dtR := [(87, .putfield 44, 3, 14), (90, .aload_n 0, 1, 0), (91, .sipush 150, 3, 33)]
theorem qUH : dtC (cX11_init.data.toList.drop 87) 87 qaHO = true := by decide +kernel
theorem dX11_init_94 : decode cX11_init 94 = .ok (.newarray .int, 2) := by decide +kernel
def qaII : List dtR := [(96, .putfield 47, 3, 14), (99, .aload_n 0, 1, 0), (100, .sipush 150, 3, 33)]
theorem qUd : dtC (cX11_init.data.toList.drop 96) 96 qaII = true := by decide +kernel
theorem dX11_init_103 : decode cX11_init 103 = .ok (.newarray .int, 2) := by decide +kernel
def qawr : List dtR := [(105, .putfield 50, 3, 14), (108, .aload_n 0, 1, 0), (109, .sipush 150, 3, 33)]
theorem qQ3 : dtC (cX11_init.data.toList.drop 105) 105 qawr = true := by decide +kernel
theorem dX11_init_112 : decode cX11_init 112 = .ok (.newarray .int, 2) := by decide +kernel
def qavs : List dtR := [(114, .putfield 53, 3, 14), (117, .aload_n 0, 1, 0), (118, .sipush 150, 3, 33)]
theorem qPj : dtC (cX11_init.data.toList.drop 114) 114 qavs = true := by decide +kernel
theorem dX11_init_121 : decode cX11_init 121 = .ok (.newarray .int, 2) := by decide +kernel
def qaxT : List dtR := [(123, .putfield 56, 3, 14), (126, .aload_n 0, 1, 0), (127, .bipush 8, 2, 11)]
theorem qQl : dtC (cX11_init.data.toList.drop 123) 123 qaxT = true := by decide +kernel
theorem dX11_init_129 : decode cX11_init 129 = .ok (.newarray .int, 2) := by decide +kernel
def qay5 : List dtR := [(131, .putfield 59, 3, 14), (134, .aload_n 0, 1, 0), (135, .sipush 200, 3, 33)]
theorem qQY : dtC (cX11_init.data.toList.drop 131) 131 qay5 = true := by decide +kernel
theorem dX11_init_138 : decode cX11_init 138 = .ok (.newarray .int, 2) := by decide +kernel
def qazt : List dtR := [(140, .putfield 62, 3, 14), (143, .aload_n 0, 1, 0), (144, .sipush 200, 3, 33)]
theorem qOO : dtC (cX11_init.data.toList.drop 140) 140 qazt = true := by decide +kernel
theorem dX11_init_147 : decode cX11_init 147 = .ok (.newarray .int, 2) := by decide +kernel
def qaCr : List dtR := [(149, .putfield 65, 3, 14), (152, .aload_n 0, 1, 0), (153, .bipush 68, 2, 11)]
theorem qPt : dtC (cX11_init.data.toList.drop 149) 149 qaCr = true := by decide +kernel
theorem dX11_init_155 : decode cX11_init 155 = .ok (.newarray .int, 2) := by decide +kernel
def qay8 : List dtR := [(157, .putfield 68, 3, 14), (160, .aload_n 0, 1, 0), (161, .bipush 68, 2, 11)]
theorem qRu : dtC (cX11_init.data.toList.drop 157) 157 qay8 = true := by decide +kernel
theorem dX11_init_163 : decode cX11_init 163 = .ok (.newarray .int, 2) := by decide +kernel
def qaDH : List dtR := [(165, .putfield 71, 3, 14), (168, .aload_n 0, 1, 0), (169, .sipush 1088, 3, 33)]
theorem qQJ : dtC (cX11_init.data.toList.drop 165) 165 qaDH = true := by decide +kernel
theorem dX11_init_172 : decode cX11_init 172 = .ok (.newarray .int, 2) := by decide +kernel
def qaz5 : List dtR := [(174, .putfield 74, 3, 14), (177, .aload_n 0, 1, 0), (178, .bipush 8, 2, 11)]
theorem qPG : dtC (cX11_init.data.toList.drop 174) 174 qaz5 = true := by decide +kernel
theorem dX11_init_180 : decode cX11_init 180 = .ok (.newarray .int, 2) := by decide +kernel
def qayx : List dtR := [(182, .putfield 77, 3, 14), (185, .aload_n 0, 1, 0), (186, .bipush 8, 2, 11)]
theorem qO1 : dtC (cX11_init.data.toList.drop 182) 182 qayx = true := by decide +kernel
theorem dX11_init_188 : decode cX11_init 188 = .ok (.newarray .int, 2) := by decide +kernel
def qaAI : List dtR := [(190, .putfield 80, 3, 14), (193, .aload_n 0, 1, 0), (194, .sipush 1792, 3, 33)]
theorem qPU : dtC (cX11_init.data.toList.drop 190) 190 qaAI = true := by decide +kernel
theorem dX11_init_197 : decode cX11_init 197 = .ok (.newarray .int, 2) := by decide +kernel
def qaBa : List dtR := [(199, .putfield 83, 3, 14), (202, .aload_n 0, 1, 0), (203, .bipush 6, 2, 11)]
theorem qPN : dtC (cX11_init.data.toList.drop 199) 199 qaBa = true := by decide +kernel
theorem dX11_init_205 : decode cX11_init 205 = .ok (.newarray .int, 2) := by decide +kernel
def qaBT : List dtR := [(207, .putfield 86, 3, 14), (210, .aload_n 0, 1, 0), (211, .bipush 6, 2, 11)]
theorem qQ6 : dtC (cX11_init.data.toList.drop 207) 207 qaBT = true := by decide +kernel
theorem dX11_init_213 : decode cX11_init 213 = .ok (.newarray .int, 2) := by decide +kernel
def qaxZ : List dtR := [(215, .putfield 89, 3, 14), (218, .aload_n 0, 1, 0), (219, .sipush 2048, 3, 33)]
theorem qQv : dtC (cX11_init.data.toList.drop 215) 215 qaxZ = true := by decide +kernel
theorem dX11_init_222 : decode cX11_init 222 = .ok (.newarray .int, 2) := by decide +kernel
def qaDN : List dtR := [(224, .putfield 92, 3, 14), (227, .aload_n 0, 1, 0), (228, .bipush 7, 2, 11)]
theorem qQH : dtC (cX11_init.data.toList.drop 224) 224 qaDN = true := by decide +kernel
theorem dX11_init_230 : decode cX11_init 230 = .ok (.newarray .int, 2) := by decide +kernel
def qavE : List dtR := [(232, .putfield 95, 3, 14), (235, .aload_n 0, 1, 0), (236, .bipush 14, 2, 11)]
theorem qO3 : dtC (cX11_init.data.toList.drop 232) 232 qavE = true := by decide +kernel
theorem dX11_init_238 : decode cX11_init 238 = .ok (.newarray .long, 2) := by decide +kernel
def qawS : List dtR := [(240, .putfield 98, 3, 14), (243, .aload_n 0, 1, 0), (244, .sipush 3471, 3, 33)]
theorem qPh : dtC (cX11_init.data.toList.drop 240) 240 qawS = true := by decide +kernel
theorem dX11_init_247 : decode cX11_init 247 = .ok (.newarray .int, 2) := by decide +kernel
def qaBU : List dtR := [(249, .putfield 102, 3, 14), (252, .aload_n 0, 1, 0), (253, .invokevirtual 105, 3, 2), (256, .aload_n 0, 1, 0), (257, .invokevirtual 108, 3, 2), (260, .return_, 1, 24)]
theorem qyq : dtC (cX11_init.data.toList.drop 249) 249 qaBU = true := by decide +kernel
def qaP3 : List dtR := [(0, .aload_n 0, 1, 0), (1, .iconst 0, 1, 3), (2, .putfield 3, 3, 14), (5, .aload_n 0, 1, 0), (6, .getfield 111, 3, 1), (9, .bipush 20, 2, 11), (11, .iadd, 1, 10), (12, .sipush 600, 3, 33), (15, .if_icmp .le 5, 3, 56), (18, .iconst (-1), 1, 28), (19, .ireturn, 1, 9), (20, .iconst 0, 1, 3), (21, .istore 6, 2, 15), (23, .iload 6, 2, 6), (25, .bipush 20, 2, 11), (27, .if_icmp .ge 93, 3, 18)]
theorem qlD : dtC (cX11_feed.data.toList.drop 0) 0 qaP3 = true := by decide +kernel
def qaJv : List dtR := [(30, .iload 6, 2, 6), (32, .iconst 4, 1, 43), (33, .if_icmp .ge 7, 3, 18), (36, .iload_n 1, 1, 4), (37, .goto 39, 3, 7), (40, .iload 6, 2, 6), (42, .bipush 8, 2, 11), (44, .if_icmp .ge 7, 3, 18), (47, .iload_n 2, 1, 8), (48, .goto 28, 3, 7), (51, .iload 6, 2, 6), (53, .bipush 12, 2, 11), (55, .if_icmp .ge 7, 3, 18), (58, .iload_n 3, 1, 13), (59, .goto 17, 3, 7), (62, .iload 6, 2, 6)]
theorem qjZ : dtC (cX11_feed.data.toList.drop 30) 30 qaJv = true := by decide +kernel
def qaK6 : List dtR := [(64, .bipush 16, 2, 11), (66, .if_icmp .ge 8, 3, 18), (69, .iload 4, 2, 6), (71, .goto 5, 3, 7), (74, .iload 5, 2, 6), (76, .istore 7, 2, 15), (78, .aload_n 0, 1, 0), (79, .getfield 20, 3, 1), (82, .aload_n 0, 1, 0), (83, .getfield 111, 3, 1), (86, .iload 7, 2, 6), (88, .bipush 24, 2, 11), (90, .bipush 8, 2, 11), (92, .iload 6, 2, 6), (94, .iconst 4, 1, 43), (95, .irem, 1, 63)]
theorem qje : dtC (cX11_feed.data.toList.drop 64) 64 qaK6 = true := by decide +kernel
def qaGl : List dtR := [(96, .imul, 1, 34), (97, .isub, 1, 27), (98, .ishr, 1, 54), (99, .sipush 255, 3, 33), (102, .iand, 1, 40), (103, .iastore, 1, 22), (104, .aload_n 0, 1, 0), (105, .dup, 1, 30), (106, .getfield 111, 3, 1), (109, .iconst 1, 1, 5), (110, .iadd, 1, 10), (111, .putfield 111, 3, 14), (114, .iinc 6 1, 3, 20), (117, .goto (-94), 3, 7), (120, .aload_n 0, 1, 0), (121, .getfield 111, 3, 1)]
theorem qjr : dtC (cX11_feed.data.toList.drop 96) 96 qaGl = true := by decide +kernel
def qaxz : List dtR := [(124, .ireturn, 1, 9)]
theorem qavt : dtC (cX11_feed.data.toList.drop 124) 124 qaxz = true := by decide +kernel
def qaPU : List dtR := [(0, .aload_n 0, 1, 0), (1, .getfield 114, 3, 1), (4, .iconst (-1), 1, 28), (5, .if_icmp .ne 7, 3, 23), (8, .iconst 1, 1, 5), (9, .goto 4, 3, 7), (12, .iconst 0, 1, 3), (13, .ireturn, 1, 9)]
theorem quZ : dtC (cX11_fine.data.toList.drop 0) 0 qaPU = true := by decide +kernel
def qaF4 : List dtR := [(0, .aload_n 0, 1, 0), (1, .getfield 114, 3, 1), (4, .iconst (-1), 1, 28), (5, .if_icmp .eq 4, 3, 39), (8, .return_, 1, 24), (9, .aload_n 0, 1, 0), (10, .iload_n 2, 1, 8), (11, .putfield 114, 3, 14), (14, .aload_n 0, 1, 0), (15, .iload_n 1, 1, 4), (16, .putfield 117, 3, 14), (19, .return_, 1, 24)]
theorem qpy : dtC (cX11_wrong.data.toList.drop 0) 0 qaF4 = true := by decide +kernel
def qaOY : List dtR := [(0, .aload_n 0, 1, 0), (1, .getfield 120, 3, 1), (4, .aload_n 0, 1, 0), (5, .getfield 123, 3, 1), (8, .if_icmp .ge 30, 3, 18), (11, .aload_n 0, 1, 0), (12, .getfield 20, 3, 1), (15, .aload_n 0, 1, 0), (16, .getfield 120, 3, 1), (19, .iaload, 1, 12), (20, .bipush 32, 2, 11), (22, .if_icmp .ne 16, 3, 23), (25, .aload_n 0, 1, 0), (26, .dup, 1, 30), (27, .getfield 120, 3, 1), (30, .iconst 1, 1, 5)]
theorem qmF : dtC (cX11_here.data.toList.drop 0) 0 qaOY = true := by decide +kernel
def qaGS : List dtR := [(31, .iadd, 1, 10), (32, .putfield 120, 3, 14), (35, .goto (-35), 3, 7), (38, .aload_n 0, 1, 0), (39, .getfield 120, 3, 1), (42, .aload_n 0, 1, 0), (43, .getfield 123, 3, 1), (46, .if_icmp .ge 15, 3, 18), (49, .aload_n 0, 1, 0), (50, .getfield 20, 3, 1), (53, .aload_n 0, 1, 0), (54, .getfield 120, 3, 1), (57, .iaload, 1, 12), (58, .goto 4, 3, 7), (61, .iconst 0, 1, 3), (62, .ireturn, 1, 9)]
theorem qh8 : dtC (cX11_here.data.toList.drop 31) 31 qaGS = true := by decide +kernel
def qaps : List dtR := [(0, .iload_n 0, 1, 35), (1, .bipush 97, 2, 11), (3, .if_icmp .lt 13, 3, 48), (6, .iload_n 0, 1, 35), (7, .bipush 122, 2, 11), (9, .if_icmp .gt 7, 3, 42), (12, .iconst 1, 1, 5), (13, .goto 4, 3, 7), (16, .iconst 0, 1, 3), (17, .ireturn, 1, 9)]
theorem qkH : dtC (cX11_isSmall.data.toList.drop 0) 0 qaps = true := by decide +kernel
def qarK : List dtR := [(0, .iload_n 0, 1, 35), (1, .bipush 48, 2, 11), (3, .if_icmp .lt 13, 3, 48), (6, .iload_n 0, 1, 35), (7, .bipush 57, 2, 11), (9, .if_icmp .gt 7, 3, 42), (12, .iconst 1, 1, 5), (13, .goto 4, 3, 7), (16, .iconst 0, 1, 3), (17, .ireturn, 1, 9)]
theorem qkL : dtC (cX11_isDigit.data.toList.drop 0) 0 qarK = true := by decide +kernel
def qaPp : List dtR := [(0, .aload_n 0, 1, 0), (1, .invokevirtual 126, 3, 2), (4, .pop, 1, 51), (5, .iconst 0, 1, 3), (6, .istore_n 1, 1, 37), (7, .iconst 0, 1, 3), (8, .istore_n 2, 1, 29), (9, .aload_n 0, 1, 0), (10, .getfield 120, 3, 1), (13, .istore_n 3, 1, 26), (14, .iload_n 3, 1, 13), (15, .aload_n 0, 1, 0), (16, .getfield 123, 3, 1), (19, .if_icmp .ge 48, 3, 18), (22, .aload_n 0, 1, 0), (23, .getfield 20, 3, 1)]
theorem qlu : dtC (cX11_word.data.toList.drop 0) 0 qaPp = true := by decide +kernel
def qaHL : List dtR := [(26, .iload_n 3, 1, 13), (27, .iaload, 1, 12), (28, .invokestatic 130, 3, 16), (31, .ifCond .eq 36, 3, 19), (34, .iload_n 2, 1, 8), (35, .bipush 6, 2, 11), (37, .if_icmp .ge 19, 3, 18), (40, .iload_n 1, 1, 4), (41, .iconst 5, 1, 49), (42, .ishl, 1, 32), (43, .aload_n 0, 1, 0), (44, .getfield 20, 3, 1), (47, .iload_n 3, 1, 13), (48, .iaload, 1, 12), (49, .bipush 96, 2, 11), (51, .isub, 1, 27)]
theorem qkv : dtC (cX11_word.data.toList.drop 26) 26 qaHL = true := by decide +kernel
def qaHa : List dtR := [(52, .ior, 1, 38), (53, .goto 4, 3, 7), (56, .iconst 0, 1, 3), (57, .istore_n 1, 1, 37), (58, .iinc 2 1, 3, 20), (61, .iinc 3 1, 3, 20), (64, .goto (-50), 3, 7), (67, .iload_n 2, 1, 8), (68, .bipush 6, 2, 11), (70, .if_icmp .le 7, 3, 56), (73, .iconst 0, 1, 3), (74, .goto 4, 3, 7), (77, .iload_n 1, 1, 4), (78, .ireturn, 1, 9)]
theorem qk7 : dtC (cX11_word.data.toList.drop 52) 52 qaHa = true := by decide +kernel
def qaZM : List dtR := [(0, .iconst 0, 1, 3), (1, .istore_n 1, 1, 37), (2, .iconst 0, 1, 3), (3, .istore_n 2, 1, 29), (4, .iload_n 2, 1, 8), (5, .aload_n 0, 1, 0), (6, .invokevirtual 134, 3, 2), (9, .if_icmp .ge 22, 3, 18), (12, .iload_n 1, 1, 4), (13, .iconst 5, 1, 49), (14, .ishl, 1, 32), (15, .aload_n 0, 1, 0), (16, .iload_n 2, 1, 8), (17, .invokevirtual 139, 3, 2), (20, .bipush 96, 2, 11), (22, .isub, 1, 27)]
theorem qqb : dtC (cX11_of.data.toList.drop 0) 0 qaZM = true := by decide +kernel
def qaVN : List dtR := [(23, .ior, 1, 38), (24, .istore_n 1, 1, 37), (25, .iinc 2 1, 3, 20), (28, .goto (-24), 3, 7), (31, .iload_n 1, 1, 4), (32, .ireturn, 1, 9)]
theorem qF9 : dtC (cX11_of.data.toList.drop 23) 23 qaVN = true := by decide +kernel
def qaRz : List dtR := [(0, .aload_n 0, 1, 0), (1, .getfield 120, 3, 1), (4, .aload_n 0, 1, 0), (5, .getfield 123, 3, 1), (8, .if_icmp .ge 31, 3, 18), (11, .aload_n 0, 1, 0), (12, .getfield 20, 3, 1), (15, .aload_n 0, 1, 0), (16, .getfield 120, 3, 1), (19, .iaload, 1, 12), (20, .invokestatic 130, 3, 16), (23, .ifCond .eq 16, 3, 19), (26, .aload_n 0, 1, 0), (27, .dup, 1, 30), (28, .getfield 120, 3, 1), (31, .iconst 1, 1, 5)]
theorem qlS : dtC (cX11_pass.data.toList.drop 0) 0 qaRz = true := by decide +kernel
def qaFa : List dtR := [(32, .iadd, 1, 10), (33, .putfield 120, 3, 14), (36, .goto (-36), 3, 7), (39, .return_, 1, 24)]
theorem qDY : dtC (cX11_pass.data.toList.drop 32) 32 qaFa = true := by decide +kernel
def q87 : List dtR := [(0, .aload_n 0, 1, 0), (1, .invokevirtual 143, 3, 2), (4, .ifCond .ne 5, 3, 21), (7, .iconst 0, 1, 3), (8, .ireturn, 1, 9), (9, .aload_n 0, 1, 0), (10, .invokevirtual 126, 3, 2), (13, .istore_n 3, 1, 26), (14, .aload_n 0, 1, 0), (15, .getfield 120, 3, 1), (18, .istore 4, 2, 15), (20, .iconst 0, 1, 3), (21, .istore 5, 2, 15), (23, .iload_n 3, 1, 13), (24, .invokestatic 147, 3, 16), (27, .ifCond .ne 14, 3, 21)]
theorem qcT : dtC (cX11_readNumber.data.toList.drop 0) 0 q87 = true := by decide +kernel
def q5D : List dtR := [(30, .aload_n 0, 1, 0), (31, .iconst 1, 1, 5), (32, .aload_n 0, 1, 0), (33, .getfield 120, 3, 1), (36, .invokevirtual 150, 3, 2), (39, .iconst 0, 1, 3), (40, .ireturn, 1, 9), (41, .aload_n 0, 1, 0), (42, .getfield 120, 3, 1), (45, .aload_n 0, 1, 0), (46, .getfield 123, 3, 1), (49, .if_icmp .ge 65, 3, 18), (52, .aload_n 0, 1, 0), (53, .getfield 20, 3, 1), (56, .aload_n 0, 1, 0), (57, .getfield 120, 3, 1)]
theorem qcr : dtC (cX11_readNumber.data.toList.drop 30) 30 q5D = true := by decide +kernel
def q5T : List dtR := [(60, .iaload, 1, 12), (61, .invokestatic 147, 3, 16), (64, .ifCond .eq 50, 3, 19), (67, .iload 5, 2, 6), (69, .sipush 9999, 3, 33), (72, .if_icmp .le 9, 3, 56), (75, .sipush 10000, 3, 33), (78, .goto 21, 3, 7), (81, .bipush 10, 2, 11), (83, .iload 5, 2, 6), (85, .imul, 1, 34), (86, .aload_n 0, 1, 0), (87, .getfield 20, 3, 1), (90, .aload_n 0, 1, 0), (91, .getfield 120, 3, 1), (94, .iaload, 1, 12)]
theorem qcx : dtC (cX11_readNumber.data.toList.drop 60) 60 q5T = true := by decide +kernel
def q6O : List dtR := [(95, .iadd, 1, 10), (96, .bipush 48, 2, 11), (98, .isub, 1, 27), (99, .istore 5, 2, 15), (101, .aload_n 0, 1, 0), (102, .dup, 1, 30), (103, .getfield 120, 3, 1), (106, .iconst 1, 1, 5), (107, .iadd, 1, 10), (108, .putfield 120, 3, 14), (111, .goto (-70), 3, 7), (114, .iload 5, 2, 6), (116, .iload_n 1, 1, 4), (117, .if_icmp .lt 9, 3, 48), (120, .iload 5, 2, 6), (122, .iload_n 2, 1, 8)]
theorem qcp : dtC (cX11_readNumber.data.toList.drop 95) 95 q6O = true := by decide +kernel
def q3m : List dtR := [(123, .if_icmp .le 12, 3, 56), (126, .aload_n 0, 1, 0), (127, .iconst 2, 1, 25), (128, .iload 4, 2, 6), (130, .invokevirtual 150, 3, 2), (133, .iconst 0, 1, 3), (134, .ireturn, 1, 9), (135, .iload 5, 2, 6), (137, .ireturn, 1, 9)]
theorem qkW : dtC (cX11_readNumber.data.toList.drop 123) 123 q3m = true := by decide +kernel
def qaPC : List dtR := [(0, .aload_n 0, 1, 0), (1, .invokevirtual 143, 3, 2), (4, .ifCond .eq 20, 3, 19), (7, .aload_n 0, 1, 0), (8, .invokevirtual 126, 3, 2), (11, .iload_n 1, 1, 4), (12, .if_icmp .eq 12, 3, 39), (15, .aload_n 0, 1, 0), (16, .iconst 1, 1, 5), (17, .aload_n 0, 1, 0), (18, .getfield 120, 3, 1), (21, .invokevirtual 150, 3, 2), (24, .aload_n 0, 1, 0), (25, .invokevirtual 143, 3, 2), (28, .ifCond .eq 13, 3, 19), (31, .aload_n 0, 1, 0)]
theorem qlU : dtC (cX11_sign.data.toList.drop 0) 0 qaPC = true := by decide +kernel
def qaFh : List dtR := [(32, .dup, 1, 30), (33, .getfield 120, 3, 1), (36, .iconst 1, 1, 5), (37, .iadd, 1, 10), (38, .putfield 120, 3, 14), (41, .return_, 1, 24)]
theorem qxB : dtC (cX11_sign.data.toList.drop 32) 32 qaFh = true := by decide +kernel
def qaBL : List dtR := [(0, .aload_n 0, 1, 0), (1, .invokevirtual 126, 3, 2), (4, .pop, 1, 51), (5, .aload_n 0, 1, 0), (6, .getfield 120, 3, 1), (9, .aload_n 0, 1, 0), (10, .getfield 123, 3, 1), (13, .if_icmp .ge 7, 3, 18), (16, .iconst 1, 1, 5), (17, .goto 4, 3, 7), (20, .iconst 0, 1, 3), (21, .ireturn, 1, 9)]
theorem qm5 : dtC (cX11_isMore.data.toList.drop 0) 0 qaBL = true := by decide +kernel
def qaBu : List dtR := [(0, .aload_n 0, 1, 0), (1, .iconst 0, 1, 3), (2, .putfield 111, 3, 14), (5, .aload_n 0, 1, 0), (6, .iconst (-1), 1, 28), (7, .putfield 17, 3, 14), (10, .aload_n 0, 1, 0), (11, .iload_n 1, 1, 4), (12, .putfield 123, 3, 14), (15, .aload_n 0, 1, 0), (16, .iconst 0, 1, 3), (17, .putfield 120, 3, 14), (20, .aload_n 0, 1, 0), (21, .iconst (-1), 1, 28), (22, .putfield 114, 3, 14), (25, .aload_n 0, 1, 0)]
theorem qgP : dtC (cX11_begins.data.toList.drop 0) 0 qaBu = true := by decide +kernel
def qaq3 : List dtR := [(26, .iconst 0, 1, 3), (27, .putfield 154, 3, 14), (30, .return_, 1, 24)]
theorem qMt : dtC (cX11_begins.data.toList.drop 26) 26 qaq3 = true := by decide +kernel
def qaDb : List dtR := [(0, .aload_n 0, 1, 0), (1, .aload_n 0, 1, 0), (2, .getfield 114, 3, 1), (5, .putfield 17, 3, 14), (8, .aload_n 0, 1, 0), (9, .invokevirtual 143, 3, 2), (12, .ifCond .eq 7, 3, 19), (15, .iload_n 1, 1, 4), (16, .goto 10, 3, 7), (19, .aload_n 0, 1, 0), (20, .getfield 117, 3, 1), (23, .bipush 10, 2, 11), (25, .isub, 1, 27), (26, .ireturn, 1, 9)]
theorem qil : dtC (cX11_result.data.toList.drop 0) 0 qaDb = true := by decide +kernel
def qaHH : List dtR := [(0, .aload_n 0, 1, 0), (1, .iconst 0, 1, 3), (2, .putfield 3, 3, 14), (5, .aload_n 0, 1, 0), (6, .getfield 17, 3, 1), (9, .ireturn, 1, 9)]
theorem qAD : dtC (cX11_fault.data.toList.drop 0) 0 qaHH = true := by decide +kernel
def qaAR : List dtR := [(0, .iconst 0, 1, 3), (1, .istore 4, 2, 15), (3, .iload 4, 2, 6), (5, .iload_n 3, 1, 13), (6, .if_icmp .ge 17, 3, 18), (9, .aload_n 2, 1, 31), (10, .iload 4, 2, 6), (12, .aload_n 1, 1, 17), (13, .iload 4, 2, 6), (15, .iaload, 1, 12), (16, .iastore, 1, 22), (17, .iinc 4 1, 3, 20), (20, .goto (-17), 3, 7), (23, .return_, 1, 24)]
theorem qkV : dtC (cX11_copies.data.toList.drop 0) 0 qaAR = true := by decide +kernel
def qaA3 : List dtR := [(0, .aload_n 0, 1, 0), (1, .iconst 0, 1, 3), (2, .putfield 157, 3, 14), (5, .aload_n 0, 1, 0), (6, .iconst 0, 1, 3), (7, .putfield 160, 3, 14), (10, .aload_n 0, 1, 0), (11, .iconst 0, 1, 3), (12, .putfield 163, 3, 14), (15, .iconst 0, 1, 3), (16, .istore_n 1, 1, 37), (17, .iload_n 1, 1, 4), (18, .bipush 36, 2, 11), (20, .if_icmp .ge 16, 3, 18), (23, .aload_n 0, 1, 0), (24, .getfield 32, 3, 1)]
theorem qhH : dtC (cX11_clears.data.toList.drop 0) 0 qaA3 = true := by decide +kernel
def qase : List dtR := [(27, .iload_n 1, 1, 4), (28, .iconst 0, 1, 3), (29, .iastore, 1, 22), (30, .iinc 1 1, 3, 20), (33, .goto (-16), 3, 7), (36, .return_, 1, 24)]
theorem qwo : dtC (cX11_clears.data.toList.drop 27) 27 qase = true := by decide +kernel
def qaNv : List dtR := [(0, .aload_n 0, 1, 0), (1, .aload_n 0, 1, 0), (2, .getfield 157, 3, 1), (5, .putfield 166, 3, 14), (8, .aload_n 0, 1, 0), (9, .aload_n 0, 1, 0), (10, .getfield 160, 3, 1), (13, .putfield 169, 3, 14), (16, .aload_n 0, 1, 0), (17, .aload_n 0, 1, 0), (18, .getfield 163, 3, 1), (21, .putfield 172, 3, 14), (24, .aload_n 0, 1, 0), (25, .aload_n 0, 1, 0), (26, .getfield 23, 3, 1), (29, .aload_n 0, 1, 0)]
theorem qmJ : dtC (cX11_sets.data.toList.drop 0) 0 qaNv = true := by decide +kernel
def qaIE : List dtR := [(30, .getfield 35, 3, 1), (33, .bipush 16, 2, 11), (35, .invokevirtual 175, 3, 2), (38, .aload_n 0, 1, 0), (39, .aload_n 0, 1, 0), (40, .getfield 26, 3, 1), (43, .aload_n 0, 1, 0), (44, .getfield 38, 3, 1), (47, .bipush 12, 2, 11), (49, .invokevirtual 175, 3, 2), (52, .aload_n 0, 1, 0), (53, .aload_n 0, 1, 0), (54, .getfield 29, 3, 1), (57, .aload_n 0, 1, 0), (58, .getfield 41, 3, 1), (61, .bipush 8, 2, 11)]
theorem qjj : dtC (cX11_sets.data.toList.drop 30) 30 qaIE = true := by decide +kernel
def qaID : List dtR := [(63, .invokevirtual 175, 3, 2), (66, .aload_n 0, 1, 0), (67, .iconst 0, 1, 3), (68, .putfield 179, 3, 14), (71, .aload_n 0, 1, 0), (72, .iconst 0, 1, 3), (73, .putfield 182, 3, 14), (76, .aload_n 0, 1, 0), (77, .iconst 0, 1, 3), (78, .putfield 185, 3, 14), (81, .aload_n 0, 1, 0), (82, .iconst 0, 1, 3), (83, .putfield 188, 3, 14), (86, .aload_n 0, 1, 0), (87, .iconst 0, 1, 3), (88, .putfield 191, 3, 14)]
theorem qjF : dtC (cX11_sets.data.toList.drop 63) 63 qaID = true := by decide +kernel
def qaEI : List dtR := [(91, .iconst 0, 1, 3), (92, .istore_n 1, 1, 37), (93, .iload_n 1, 1, 4), (94, .bipush 8, 2, 11), (96, .if_icmp .ge 16, 3, 18), (99, .aload_n 0, 1, 0), (100, .getfield 80, 3, 1), (103, .iload_n 1, 1, 4), (104, .iconst (-1), 1, 28), (105, .iastore, 1, 22), (106, .iinc 1 1, 3, 20), (109, .goto (-16), 3, 7), (112, .iconst 0, 1, 3), (113, .istore_n 1, 1, 37), (114, .iload_n 1, 1, 4), (115, .bipush 68, 2, 11)]
theorem qky : dtC (cX11_sets.data.toList.drop 91) 91 qaEI = true := by decide +kernel
def qawA : List dtR := [(117, .if_icmp .ge 16, 3, 18), (120, .aload_n 0, 1, 0), (121, .getfield 68, 3, 1), (124, .iload_n 1, 1, 4), (125, .iconst 0, 1, 3), (126, .iastore, 1, 22), (127, .iinc 1 1, 3, 20), (130, .goto (-16), 3, 7), (133, .iconst 0, 1, 3), (134, .istore_n 1, 1, 37), (135, .iload_n 1, 1, 4), (136, .aload_n 0, 1, 0), (137, .getfield 169, 3, 1), (140, .if_icmp .ge 44, 3, 18), (143, .aload_n 0, 1, 0), (144, .getfield 68, 3, 1)]
theorem qhM : dtC (cX11_sets.data.toList.drop 117) 117 qawA = true := by decide +kernel
def qazJ : List dtR := [(147, .iconst 0, 1, 3), (148, .iload_n 1, 1, 4), (149, .iadd, 1, 10), (150, .aload_n 0, 1, 0), (151, .getfield 38, 3, 1), (154, .iconst 2, 1, 25), (155, .iload_n 1, 1, 4), (156, .imul, 1, 34), (157, .iaload, 1, 12), (158, .iastore, 1, 22), (159, .aload_n 0, 1, 0), (160, .getfield 68, 3, 1), (163, .bipush 6, 2, 11), (165, .iload_n 1, 1, 4), (166, .iadd, 1, 10), (167, .aload_n 0, 1, 0)]
theorem qhy : dtC (cX11_sets.data.toList.drop 147) 147 qazJ = true := by decide +kernel
def qaxL : List dtR := [(168, .getfield 38, 3, 1), (171, .iconst 2, 1, 25), (172, .iload_n 1, 1, 4), (173, .imul, 1, 34), (174, .iconst 1, 1, 5), (175, .iadd, 1, 10), (176, .iaload, 1, 12), (177, .iastore, 1, 22), (178, .iinc 1 1, 3, 20), (181, .goto (-46), 3, 7), (184, .iconst 0, 1, 3), (185, .istore_n 1, 1, 37), (186, .iload_n 1, 1, 4), (187, .bipush 36, 2, 11), (189, .if_icmp .ge 24, 3, 18), (192, .aload_n 0, 1, 0)]
theorem qhx : dtC (cX11_sets.data.toList.drop 168) 168 qaxL = true := by decide +kernel
def qaAn : List dtR := [(193, .getfield 68, 3, 1), (196, .bipush 30, 2, 11), (198, .iload_n 1, 1, 4), (199, .iadd, 1, 10), (200, .aload_n 0, 1, 0), (201, .getfield 32, 3, 1), (204, .iload_n 1, 1, 4), (205, .iaload, 1, 12), (206, .iastore, 1, 22), (207, .iinc 1 1, 3, 20), (210, .goto (-24), 3, 7), (213, .aload_n 0, 1, 0), (214, .getfield 68, 3, 1), (217, .bipush 66, 2, 11), (219, .iconst 1, 1, 5), (220, .iastore, 1, 22)]
theorem qg9 : dtC (cX11_sets.data.toList.drop 193) 193 qaAn = true := by decide +kernel
def qazs : List dtR := [(221, .return_, 1, 24)]
theorem qaCB : dtC (cX11_sets.data.toList.drop 221) 221 qazs = true := by decide +kernel
def qakK : List dtR := [(0, .aload_n 0, 1, 0), (1, .iconst 0, 1, 3), (2, .aload_n 0, 1, 0), (3, .getfield 160, 3, 1), (6, .iconst 1, 1, 5), (7, .isub, 1, 27), (8, .invokevirtual 194, 3, 2), (11, .ireturn, 1, 9)]
theorem qry : dtC (cX11_readHare.data.toList.drop 0) 0 qakK = true := by decide +kernel
def qalA : List dtR := [(0, .aload_n 0, 1, 0), (1, .invokevirtual 198, 3, 2), (4, .istore_n 1, 1, 37), (5, .aload_n 0, 1, 0), (6, .invokevirtual 126, 3, 2), (9, .pop, 1, 51), (10, .aload_n 0, 1, 0), (11, .getfield 120, 3, 1), (14, .istore_n 2, 1, 29), (15, .aload_n 0, 1, 0), (16, .invokevirtual 198, 3, 2), (19, .istore_n 3, 1, 26), (20, .aload_n 0, 1, 0), (21, .invokevirtual 143, 3, 2), (24, .ifCond .eq 14, 3, 19), (27, .iload_n 1, 1, 4)]
theorem qdV : dtC (cX11_readDebt.data.toList.drop 0) 0 qalA = true := by decide +kernel
def qadh : List dtR := [(28, .iload_n 3, 1, 13), (29, .if_icmp .ne 9, 3, 23), (32, .aload_n 0, 1, 0), (33, .iconst 2, 1, 25), (34, .iload_n 2, 1, 8), (35, .invokevirtual 150, 3, 2), (38, .aload_n 0, 1, 0), (39, .iconst 0, 1, 3), (40, .bipush 99, 2, 11), (42, .invokevirtual 194, 3, 2), (45, .istore 4, 2, 15), (47, .aload_n 0, 1, 0), (48, .invokevirtual 143, 3, 2), (51, .ifCond .eq 16, 3, 19), (54, .aload_n 0, 1, 0), (55, .getfield 32, 3, 1)]
theorem qdd : dtC (cX11_readDebt.data.toList.drop 28) 28 qadh = true := by decide +kernel
def qaeW : List dtR := [(58, .bipush 6, 2, 11), (60, .iload_n 1, 1, 4), (61, .imul, 1, 34), (62, .iload_n 3, 1, 13), (63, .iadd, 1, 10), (64, .iload 4, 2, 6), (66, .iastore, 1, 22), (67, .return_, 1, 24)]
theorem qoN : dtC (cX11_readDebt.data.toList.drop 58) 58 qaeW = true := by decide +kernel
def qaK3 : List dtR := [(0, .iload_n 0, 1, 35), (1, .ldc 201, 2, 45), (3, .invokestatic 202, 3, 16), (6, .if_icmp .eq 30, 3, 39), (9, .iload_n 0, 1, 35), (10, .ldc 206, 2, 45), (12, .invokestatic 202, 3, 16), (15, .if_icmp .eq 21, 3, 39), (18, .iload_n 0, 1, 35), (19, .ldc 207, 2, 45), (21, .invokestatic 202, 3, 16), (24, .if_icmp .eq 12, 3, 39), (27, .iload_n 0, 1, 35), (28, .ldc 208, 2, 45), (30, .invokestatic 202, 3, 16), (33, .if_icmp .ne 7, 3, 23)]
theorem qkg : dtC (cX11_isRow.data.toList.drop 0) 0 qaK3 = true := by decide +kernel
def qayU : List dtR := [(36, .iconst 1, 1, 5), (37, .goto 4, 3, 7), (40, .iconst 0, 1, 3), (41, .ireturn, 1, 9)]
theorem qBR : dtC (cX11_isRow.data.toList.drop 36) 36 qayU = true := by decide +kernel
def qazk : List dtR := [(0, .iload_n 1, 1, 4), (1, .ldc 201, 2, 45), (3, .invokestatic 202, 3, 16), (6, .if_icmp .ne 20, 3, 23), (9, .aload_n 0, 1, 0), (10, .getfield 157, 3, 1), (13, .bipush 8, 2, 11), (15, .if_icmp .ne 7, 3, 23), (18, .iconst 1, 1, 5), (19, .goto 55, 3, 7), (22, .iconst 0, 1, 3), (23, .goto 51, 3, 7), (26, .iload_n 1, 1, 4), (27, .ldc 206, 2, 45), (29, .invokestatic 202, 3, 16), (32, .if_icmp .ne 20, 3, 23)]
theorem qhU : dtC (cX11_isFull.data.toList.drop 0) 0 qazk = true := by decide +kernel
def qarq : List dtR := [(35, .aload_n 0, 1, 0), (36, .getfield 160, 3, 1), (39, .bipush 6, 2, 11), (41, .if_icmp .ne 7, 3, 23), (44, .iconst 1, 1, 5), (45, .goto 29, 3, 7), (48, .iconst 0, 1, 3), (49, .goto 25, 3, 7), (52, .iload_n 1, 1, 4), (53, .ldc 207, 2, 45), (55, .invokestatic 202, 3, 16), (58, .if_icmp .ne 15, 3, 23), (61, .aload_n 0, 1, 0), (62, .getfield 163, 3, 1), (65, .iconst 4, 1, 43), (66, .if_icmp .ne 7, 3, 23)]
theorem qfe : dtC (cX11_isFull.data.toList.drop 35) 35 qarq = true := by decide +kernel
def qao6 : List dtR := [(69, .iconst 1, 1, 5), (70, .goto 4, 3, 7), (73, .iconst 0, 1, 3), (74, .ireturn, 1, 9)]
theorem qn6 : dtC (cX11_isFull.data.toList.drop 69) 69 qao6 = true := by decide +kernel
def qauU : List dtR := [(0, .iload_n 1, 1, 4), (1, .ldc 201, 2, 45), (3, .invokestatic 202, 3, 16), (6, .if_icmp .ne 54, 3, 23), (9, .aload_n 0, 1, 0), (10, .getfield 23, 3, 1), (13, .iconst 2, 1, 25), (14, .aload_n 0, 1, 0), (15, .getfield 157, 3, 1), (18, .imul, 1, 34), (19, .aload_n 0, 1, 0), (20, .iconst 0, 1, 3), (21, .bipush 30, 2, 11), (23, .invokevirtual 194, 3, 2), (26, .iastore, 1, 22), (27, .aload_n 0, 1, 0)]
theorem qfD : dtC (cX11_readRow.data.toList.drop 0) 0 qauU = true := by decide +kernel
def qajM : List dtR := [(28, .getfield 23, 3, 1), (31, .iconst 2, 1, 25), (32, .aload_n 0, 1, 0), (33, .getfield 157, 3, 1), (36, .imul, 1, 34), (37, .iconst 1, 1, 5), (38, .iadd, 1, 10), (39, .aload_n 0, 1, 0), (40, .iconst 0, 1, 3), (41, .bipush 30, 2, 11), (43, .invokevirtual 194, 3, 2), (46, .iastore, 1, 22), (47, .aload_n 0, 1, 0), (48, .dup, 1, 30), (49, .getfield 157, 3, 1), (52, .iconst 1, 1, 5)]
theorem qeG : dtC (cX11_readRow.data.toList.drop 28) 28 qajM = true := by decide +kernel
def qajq : List dtR := [(53, .iadd, 1, 10), (54, .putfield 157, 3, 14), (57, .goto 131, 3, 7), (60, .iload_n 1, 1, 4), (61, .ldc 206, 2, 45), (63, .invokestatic 202, 3, 16), (66, .if_icmp .ne 58, 3, 23), (69, .aload_n 0, 1, 0), (70, .getfield 26, 3, 1), (73, .iconst 2, 1, 25), (74, .aload_n 0, 1, 0), (75, .getfield 160, 3, 1), (78, .imul, 1, 34), (79, .aload_n 0, 1, 0), (80, .iconst 0, 1, 3), (81, .aload_n 0, 1, 0)]
theorem qel : dtC (cX11_readRow.data.toList.drop 53) 53 qajq = true := by decide +kernel
def qams : List dtR := [(82, .getfield 157, 3, 1), (85, .iconst 1, 1, 5), (86, .isub, 1, 27), (87, .invokevirtual 194, 3, 2), (90, .iastore, 1, 22), (91, .aload_n 0, 1, 0), (92, .getfield 26, 3, 1), (95, .iconst 2, 1, 25), (96, .aload_n 0, 1, 0), (97, .getfield 160, 3, 1), (100, .imul, 1, 34), (101, .iconst 1, 1, 5), (102, .iadd, 1, 10), (103, .aload_n 0, 1, 0), (104, .iconst 1, 1, 5), (105, .bipush 9, 2, 11)]
theorem qeA : dtC (cX11_readRow.data.toList.drop 82) 82 qams = true := by decide +kernel
def qagU : List dtR := [(107, .invokevirtual 194, 3, 2), (110, .iastore, 1, 22), (111, .aload_n 0, 1, 0), (112, .dup, 1, 30), (113, .getfield 160, 3, 1), (116, .iconst 1, 1, 5), (117, .iadd, 1, 10), (118, .putfield 160, 3, 14), (121, .goto 67, 3, 7), (124, .iload_n 1, 1, 4), (125, .ldc 207, 2, 45), (127, .invokestatic 202, 3, 16), (130, .if_icmp .ne 54, 3, 23), (133, .aload_n 0, 1, 0), (134, .getfield 29, 3, 1), (137, .iconst 2, 1, 25)]
theorem qdr : dtC (cX11_readRow.data.toList.drop 107) 107 qagU = true := by decide +kernel
def qaeY : List dtR := [(138, .aload_n 0, 1, 0), (139, .getfield 163, 3, 1), (142, .imul, 1, 34), (143, .aload_n 0, 1, 0), (144, .iconst 0, 1, 3), (145, .bipush 30, 2, 11), (147, .invokevirtual 194, 3, 2), (150, .iastore, 1, 22), (151, .aload_n 0, 1, 0), (152, .getfield 29, 3, 1), (155, .iconst 2, 1, 25), (156, .aload_n 0, 1, 0), (157, .getfield 163, 3, 1), (160, .imul, 1, 34), (161, .iconst 1, 1, 5), (162, .iadd, 1, 10)]
theorem qdo : dtC (cX11_readRow.data.toList.drop 138) 138 qaeY = true := by decide +kernel
def qaei : List dtR := [(163, .aload_n 0, 1, 0), (164, .iconst 0, 1, 3), (165, .bipush 30, 2, 11), (167, .invokevirtual 194, 3, 2), (170, .iastore, 1, 22), (171, .aload_n 0, 1, 0), (172, .dup, 1, 30), (173, .getfield 163, 3, 1), (176, .iconst 1, 1, 5), (177, .iadd, 1, 10), (178, .putfield 163, 3, 14), (181, .goto 7, 3, 7), (184, .aload_n 0, 1, 0), (185, .invokevirtual 210, 3, 2), (188, .return_, 1, 24)]
theorem qcz : dtC (cX11_readRow.data.toList.drop 163) 163 qaei = true := by decide +kernel
def qaOd : List dtR := [(0, .aload_n 0, 1, 0), (1, .iconst 0, 1, 3), (2, .putfield 3, 3, 14), (5, .aload_n 0, 1, 0), (6, .iload_n 1, 1, 4), (7, .ifCond .lt 15, 3, 57), (10, .iload_n 1, 1, 4), (11, .aload_n 0, 1, 0), (12, .getfield 111, 3, 1), (15, .if_icmp .gt 7, 3, 42), (18, .iconst 1, 1, 5), (19, .goto 4, 3, 7), (22, .iconst 0, 1, 3), (23, .iconst 1, 1, 5), (24, .iconst 1, 1, 5), (25, .invokevirtual 213, 3, 2)]
theorem qlN : dtC (cX11_down.data.toList.drop 0) 0 qaOd = true := by decide +kernel
def qaJq : List dtR := [(28, .ifCond .ne 5, 3, 21), (31, .iconst 0, 1, 3), (32, .ireturn, 1, 9), (33, .aload_n 0, 1, 0), (34, .iload_n 1, 1, 4), (35, .invokevirtual 217, 3, 2), (38, .aload_n 0, 1, 0), (39, .invokevirtual 105, 3, 2), (42, .iconst 0, 1, 3), (43, .istore_n 2, 1, 29), (44, .aload_n 0, 1, 0), (45, .invokevirtual 143, 3, 2), (48, .ifCond .eq 88, 3, 19), (51, .aload_n 0, 1, 0), (52, .invokevirtual 221, 3, 2), (55, .ifCond .eq 81, 3, 19)]
theorem qjD : dtC (cX11_down.data.toList.drop 28) 28 qaJq = true := by decide +kernel
def qaGm : List dtR := [(58, .aload_n 0, 1, 0), (59, .invokevirtual 224, 3, 2), (62, .istore_n 3, 1, 26), (63, .iload_n 3, 1, 13), (64, .invokestatic 227, 3, 16), (67, .ifCond .ne 15, 3, 21), (70, .aload_n 0, 1, 0), (71, .iconst 1, 1, 5), (72, .aload_n 0, 1, 0), (73, .getfield 120, 3, 1), (76, .invokevirtual 150, 3, 2), (79, .goto 26, 3, 7), (82, .iload_n 2, 1, 8), (83, .bipush 60, 2, 11), (85, .if_icmp .eq 11, 3, 39), (88, .aload_n 0, 1, 0)]
theorem qjb : dtC (cX11_down.data.toList.drop 58) 58 qaGm = true := by decide +kernel
def qaGK : List dtR := [(89, .iload_n 3, 1, 13), (90, .invokevirtual 230, 3, 2), (93, .ifCond .eq 12, 3, 19), (96, .aload_n 0, 1, 0), (97, .iconst 3, 1, 36), (98, .aload_n 0, 1, 0), (99, .getfield 120, 3, 1), (102, .invokevirtual 150, 3, 2), (105, .aload_n 0, 1, 0), (106, .invokevirtual 143, 3, 2), (109, .ifCond .ne 6, 3, 21), (112, .goto 24, 3, 7), (115, .aload_n 0, 1, 0), (116, .invokevirtual 233, 3, 2), (119, .aload_n 0, 1, 0), (120, .iload_n 3, 1, 13)]
theorem qjE : dtC (cX11_down.data.toList.drop 89) 89 qaGK = true := by decide +kernel
def qayq : List dtR := [(121, .invokevirtual 236, 3, 2), (124, .aload_n 0, 1, 0), (125, .bipush 59, 2, 11), (127, .invokevirtual 239, 3, 2), (130, .iinc 2 1, 3, 20), (133, .goto (-89), 3, 7), (136, .aload_n 0, 1, 0), (137, .aload_n 0, 1, 0), (138, .getfield 160, 3, 1), (141, .invokevirtual 242, 3, 2), (144, .istore_n 3, 1, 26), (145, .aload_n 0, 1, 0), (146, .getfield 114, 3, 1), (149, .iconst (-1), 1, 28), (150, .if_icmp .ne 7, 3, 23), (153, .aload_n 0, 1, 0)]
theorem qhm : dtC (cX11_down.data.toList.drop 121) 121 qayq = true := by decide +kernel
def qaBn : List dtR := [(154, .invokevirtual 108, 3, 2), (157, .iload_n 3, 1, 13), (158, .ireturn, 1, 9)]
theorem qBM : dtC (cX11_down.data.toList.drop 154) 154 qaBn = true := by decide +kernel
def qaNg : List dtR := [(0, .aload_n 0, 1, 0), (1, .invokevirtual 143, 3, 2), (4, .ifCond .ne 4, 3, 21), (7, .return_, 1, 24), (8, .aload_n 0, 1, 0), (9, .getfield 44, 3, 1), (12, .aload_n 0, 1, 0), (13, .getfield 246, 3, 1), (16, .iload_n 1, 1, 4), (17, .iastore, 1, 22), (18, .aload_n 0, 1, 0), (19, .getfield 47, 3, 1), (22, .aload_n 0, 1, 0), (23, .getfield 246, 3, 1), (26, .iload_n 2, 1, 8), (27, .iastore, 1, 22)]
theorem qlA : dtC (cX11_emit.data.toList.drop 0) 0 qaNg = true := by decide +kernel
def qaLg : List dtR := [(28, .aload_n 0, 1, 0), (29, .dup, 1, 30), (30, .getfield 246, 3, 1), (33, .iconst 1, 1, 5), (34, .iadd, 1, 10), (35, .putfield 246, 3, 14), (38, .return_, 1, 24)]
theorem qxH : dtC (cX11_emit.data.toList.drop 28) 28 qaLg = true := by decide +kernel
def qanj : List dtR := [(0, .aload_n 0, 1, 0), (1, .invokevirtual 143, 3, 2), (4, .ifCond .eq 21, 3, 19), (7, .aload_n 0, 1, 0), (8, .getfield 154, 3, 1), (11, .bipush 6, 2, 11), (13, .if_icmp .ne 12, 3, 23), (16, .aload_n 0, 1, 0), (17, .iconst 3, 1, 36), (18, .aload_n 0, 1, 0), (19, .getfield 120, 3, 1), (22, .invokevirtual 150, 3, 2), (25, .aload_n 0, 1, 0), (26, .invokevirtual 143, 3, 2), (29, .ifCond .eq 13, 3, 19), (32, .aload_n 0, 1, 0)]
theorem qeb : dtC (cX11_opensOne.data.toList.drop 0) 0 qanj = true := by decide +kernel
def qafK : List dtR := [(33, .dup, 1, 30), (34, .getfield 120, 3, 1), (37, .iload_n 1, 1, 4), (38, .iadd, 1, 10), (39, .putfield 120, 3, 14), (42, .aload_n 0, 1, 0), (43, .dup, 1, 30), (44, .getfield 154, 3, 1), (47, .iconst 1, 1, 5), (48, .iadd, 1, 10), (49, .putfield 154, 3, 14), (52, .return_, 1, 24)]
theorem qii : dtC (cX11_opensOne.data.toList.drop 33) 33 qafK = true := by decide +kernel
def qasX : List dtR := [(0, .aload_n 0, 1, 0), (1, .invokevirtual 249, 3, 2), (4, .aload_n 0, 1, 0), (5, .invokevirtual 143, 3, 2), (8, .ifCond .eq 59, 3, 19), (11, .aload_n 0, 1, 0), (12, .invokevirtual 126, 3, 2), (15, .bipush 43, 2, 11), (17, .if_icmp .eq 12, 3, 39), (20, .aload_n 0, 1, 0), (21, .invokevirtual 126, 3, 2), (24, .bipush 45, 2, 11), (26, .if_icmp .ne 41, 3, 23), (29, .aload_n 0, 1, 0), (30, .invokevirtual 126, 3, 2), (33, .bipush 43, 2, 11)]
theorem qbp : dtC (cX11_readSum.data.toList.drop 0) 0 qasX = true := by decide +kernel
def qanQ : List dtR := [(35, .if_icmp .ne 7, 3, 23), (38, .iconst 2, 1, 25), (39, .goto 4, 3, 7), (42, .iconst 3, 1, 36), (43, .istore_n 1, 1, 37), (44, .aload_n 0, 1, 0), (45, .dup, 1, 30), (46, .getfield 120, 3, 1), (49, .iconst 1, 1, 5), (50, .iadd, 1, 10), (51, .putfield 120, 3, 14), (54, .aload_n 0, 1, 0), (55, .invokevirtual 249, 3, 2), (58, .aload_n 0, 1, 0), (59, .iload_n 1, 1, 4), (60, .iconst 0, 1, 3)]
theorem qba : dtC (cX11_readSum.data.toList.drop 35) 35 qanQ = true := by decide +kernel
def qan3 : List dtR := [(61, .invokevirtual 252, 3, 2), (64, .goto (-60), 3, 7), (67, .return_, 1, 24)]
theorem qrh : dtC (cX11_readSum.data.toList.drop 61) 61 qan3 = true := by decide +kernel
def q5H : List dtR := [(0, .aload_n 0, 1, 0), (1, .invokevirtual 255, 3, 2), (4, .aload_n 0, 1, 0), (5, .invokevirtual 143, 3, 2), (8, .ifCond .eq 82, 3, 19), (11, .aload_n 0, 1, 0), (12, .invokevirtual 126, 3, 2), (15, .bipush 42, 2, 11), (17, .if_icmp .eq 21, 3, 39), (20, .aload_n 0, 1, 0), (21, .invokevirtual 126, 3, 2), (24, .bipush 47, 2, 11), (26, .if_icmp .eq 12, 3, 39), (29, .aload_n 0, 1, 0), (30, .invokevirtual 126, 3, 2), (33, .bipush 37, 2, 11)]
theorem qaD : dtC (cX11_readProduct.data.toList.drop 0) 0 q5H = true := by decide +kernel
def q2h : List dtR := [(35, .if_icmp .ne 55, 3, 23), (38, .aload_n 0, 1, 0), (39, .invokevirtual 126, 3, 2), (42, .bipush 42, 2, 11), (44, .if_icmp .ne 7, 3, 23), (47, .iconst 4, 1, 43), (48, .goto 18, 3, 7), (51, .aload_n 0, 1, 0), (52, .invokevirtual 126, 3, 2), (55, .bipush 47, 2, 11), (57, .if_icmp .ne 7, 3, 23), (60, .iconst 5, 1, 49), (61, .goto 5, 3, 7), (64, .bipush 8, 2, 11), (66, .istore_n 1, 1, 37), (67, .aload_n 0, 1, 0)]
theorem qaA : dtC (cX11_readProduct.data.toList.drop 35) 35 q2h = true := by decide +kernel
def q3I : List dtR := [(68, .dup, 1, 30), (69, .getfield 120, 3, 1), (72, .iconst 1, 1, 5), (73, .iadd, 1, 10), (74, .putfield 120, 3, 14), (77, .aload_n 0, 1, 0), (78, .invokevirtual 255, 3, 2), (81, .aload_n 0, 1, 0), (82, .iload_n 1, 1, 4), (83, .iconst 0, 1, 3), (84, .invokevirtual 252, 3, 2), (87, .goto (-83), 3, 7), (90, .return_, 1, 24)]
theorem qaU : dtC (cX11_readProduct.data.toList.drop 68) 68 q3I = true := by decide +kernel
def qaqk : List dtR := [(0, .aload_n 0, 1, 0), (1, .iload_n 1, 1, 4), (2, .invokevirtual 258, 3, 2), (5, .aload_n 0, 1, 0), (6, .bipush 91, 2, 11), (8, .invokevirtual 239, 3, 2), (11, .aload_n 0, 1, 0), (12, .invokevirtual 261, 3, 2), (15, .aload_n 0, 1, 0), (16, .bipush 44, 2, 11), (18, .invokevirtual 239, 3, 2), (21, .aload_n 0, 1, 0), (22, .invokevirtual 261, 3, 2), (25, .aload_n 0, 1, 0), (26, .bipush 93, 2, 11), (28, .invokevirtual 239, 3, 2)]
theorem qb7 : dtC (cX11_readTwo.data.toList.drop 0) 0 qaqk = true := by decide +kernel
def qak9 : List dtR := [(31, .aload_n 0, 1, 0), (32, .dup, 1, 30), (33, .getfield 154, 3, 1), (36, .iconst 1, 1, 5), (37, .isub, 1, 27), (38, .putfield 154, 3, 14), (41, .aload_n 0, 1, 0), (42, .iload_n 2, 1, 8), (43, .iconst 0, 1, 3), (44, .invokevirtual 252, 3, 2), (47, .return_, 1, 24)]
theorem qm4 : dtC (cX11_readTwo.data.toList.drop 31) 31 qak9 = true := by decide +kernel
def qaiS : List dtR := [(0, .aload_n 0, 1, 0), (1, .invokevirtual 224, 3, 2), (4, .istore_n 1, 1, 37), (5, .iload_n 1, 1, 4), (6, .ldc_w 264, 3, 50), (9, .invokestatic 202, 3, 16), (12, .if_icmp .ne 7, 3, 23), (15, .iconst 0, 1, 3), (16, .goto 103, 3, 7), (19, .iload_n 1, 1, 4), (20, .ldc_w 266, 3, 50), (23, .invokestatic 202, 3, 16), (26, .if_icmp .ne 7, 3, 23), (29, .iconst 1, 1, 5), (30, .goto 89, 3, 7), (33, .iload_n 1, 1, 4)]
theorem qef : dtC (cX11_factHere.data.toList.drop 0) 0 qaiS = true := by decide +kernel
def qag7 : List dtR := [(34, .ldc_w 268, 3, 50), (37, .invokestatic 202, 3, 16), (40, .if_icmp .ne 7, 3, 23), (43, .iconst 2, 1, 25), (44, .goto 75, 3, 7), (47, .iload_n 1, 1, 4), (48, .ldc_w 270, 3, 50), (51, .invokestatic 202, 3, 16), (54, .if_icmp .ne 7, 3, 23), (57, .iconst 3, 1, 36), (58, .goto 61, 3, 7), (61, .iload_n 1, 1, 4), (62, .ldc_w 272, 3, 50), (65, .invokestatic 202, 3, 16), (68, .if_icmp .ne 7, 3, 23), (71, .iconst 4, 1, 43)]
theorem qc9 : dtC (cX11_factHere.data.toList.drop 34) 34 qag7 = true := by decide +kernel
def qaeX : List dtR := [(72, .goto 47, 3, 7), (75, .iload_n 1, 1, 4), (76, .ldc_w 274, 3, 50), (79, .invokestatic 202, 3, 16), (82, .if_icmp .ne 7, 3, 23), (85, .iconst 5, 1, 49), (86, .goto 33, 3, 7), (89, .iload_n 1, 1, 4), (90, .ldc 206, 2, 45), (92, .invokestatic 202, 3, 16), (95, .if_icmp .ne 8, 3, 23), (98, .bipush 6, 2, 11), (100, .goto 19, 3, 7), (103, .iload_n 1, 1, 4), (104, .ldc_w 276, 3, 50), (107, .invokestatic 202, 3, 16)]
theorem qda : dtC (cX11_factHere.data.toList.drop 72) 72 qaeX = true := by decide +kernel
def qabG : List dtR := [(110, .if_icmp .ne 8, 3, 23), (113, .bipush 7, 2, 11), (115, .goto 4, 3, 7), (118, .iconst (-1), 1, 28), (119, .ireturn, 1, 9)]
theorem qe5 : dtC (cX11_factHere.data.toList.drop 110) 110 qabG = true := by decide +kernel
def qaiq : List dtR := [(0, .aload_n 0, 1, 0), (1, .invokevirtual 143, 3, 2), (4, .ifCond .ne 4, 3, 21), (7, .return_, 1, 24), (8, .aload_n 0, 1, 0), (9, .invokevirtual 126, 3, 2), (12, .bipush 40, 2, 11), (14, .if_icmp .ne 31, 3, 23), (17, .aload_n 0, 1, 0), (18, .iconst 1, 1, 5), (19, .invokevirtual 258, 3, 2), (22, .aload_n 0, 1, 0), (23, .invokevirtual 261, 3, 2), (26, .aload_n 0, 1, 0), (27, .bipush 41, 2, 11), (29, .invokevirtual 239, 3, 2)]
theorem qby : dtC (cX11_readUnit.data.toList.drop 0) 0 qaiq = true := by decide +kernel
def qae6 : List dtR := [(32, .aload_n 0, 1, 0), (33, .dup, 1, 30), (34, .getfield 154, 3, 1), (37, .iconst 1, 1, 5), (38, .isub, 1, 27), (39, .putfield 154, 3, 14), (42, .goto 112, 3, 7), (45, .aload_n 0, 1, 0), (46, .invokevirtual 126, 3, 2), (49, .invokestatic 147, 3, 16), (52, .ifCond .eq 19, 3, 19), (55, .aload_n 0, 1, 0), (56, .iconst 0, 1, 3), (57, .aload_n 0, 1, 0), (58, .iconst 0, 1, 3), (59, .sipush 999, 3, 33)]
theorem qbH : dtC (cX11_readUnit.data.toList.drop 32) 32 qae6 = true := by decide +kernel
def qac7 : List dtR := [(62, .invokevirtual 194, 3, 2), (65, .invokevirtual 252, 3, 2), (68, .goto 86, 3, 7), (71, .aload_n 0, 1, 0), (72, .invokevirtual 224, 3, 2), (75, .ldc_w 278, 3, 50), (78, .invokestatic 202, 3, 16), (81, .if_icmp .ne 13, 3, 23), (84, .aload_n 0, 1, 0), (85, .iconst 5, 1, 49), (86, .bipush 6, 2, 11), (88, .invokevirtual 280, 3, 2), (91, .goto 63, 3, 7), (94, .aload_n 0, 1, 0), (95, .invokevirtual 224, 3, 2), (98, .ldc_w 283, 3, 50)]
theorem qa3 : dtC (cX11_readUnit.data.toList.drop 62) 62 qac7 = true := by decide +kernel
def q9g : List dtR := [(101, .invokestatic 202, 3, 16), (104, .if_icmp .ne 13, 3, 23), (107, .aload_n 0, 1, 0), (108, .iconst 4, 1, 43), (109, .bipush 7, 2, 11), (111, .invokevirtual 280, 3, 2), (114, .goto 40, 3, 7), (117, .aload_n 0, 1, 0), (118, .invokevirtual 285, 3, 2), (121, .istore_n 1, 1, 37), (122, .iload_n 1, 1, 4), (123, .iconst (-1), 1, 28), (124, .if_icmp .ne 12, 3, 23), (127, .aload_n 0, 1, 0), (128, .iconst 1, 1, 5), (129, .aload_n 0, 1, 0)]
theorem qaM : dtC (cX11_readUnit.data.toList.drop 101) 101 q9g = true := by decide +kernel
def q8M : List dtR := [(130, .getfield 120, 3, 1), (133, .invokevirtual 150, 3, 2), (136, .aload_n 0, 1, 0), (137, .invokevirtual 143, 3, 2), (140, .ifCond .ne 4, 3, 21), (143, .return_, 1, 24), (144, .aload_n 0, 1, 0), (145, .invokevirtual 233, 3, 2), (148, .aload_n 0, 1, 0), (149, .iconst 1, 1, 5), (150, .iload_n 1, 1, 4), (151, .invokevirtual 252, 3, 2), (154, .return_, 1, 24)]
theorem qaI : dtC (cX11_readUnit.data.toList.drop 130) 130 q8M = true := by decide +kernel
def qaTg : List dtR := [(0, .aload_n 0, 1, 0), (1, .iconst 0, 1, 3), (2, .putfield 3, 3, 14), (5, .aload_n 0, 1, 0), (6, .iload_n 1, 1, 4), (7, .ifCond .lt 22, 3, 57), (10, .iload_n 1, 1, 4), (11, .aload_n 0, 1, 0), (12, .getfield 111, 3, 1), (15, .if_icmp .gt 14, 3, 42), (18, .iload_n 1, 1, 4), (19, .sipush 150, 3, 33), (22, .if_icmp .gt 7, 3, 42), (25, .iconst 1, 1, 5), (26, .goto 4, 3, 7), (29, .iconst 0, 1, 3)]
theorem qoC : dtC (cX11_law.data.toList.drop 0) 0 qaTg = true := by decide +kernel
def qaQA : List dtR := [(30, .iconst 1, 1, 5), (31, .iconst 1, 1, 5), (32, .invokevirtual 213, 3, 2), (35, .ifCond .ne 5, 3, 21), (38, .iconst 0, 1, 3), (39, .ireturn, 1, 9), (40, .aload_n 0, 1, 0), (41, .iload_n 1, 1, 4), (42, .invokevirtual 217, 3, 2), (45, .aload_n 0, 1, 0), (46, .iconst 0, 1, 3), (47, .putfield 246, 3, 14), (50, .aload_n 0, 1, 0), (51, .invokevirtual 261, 3, 2), (54, .aload_n 0, 1, 0), (55, .invokevirtual 143, 3, 2)]
theorem qmM : dtC (cX11_law.data.toList.drop 30) 30 qaQA = true := by decide +kernel
def qaQX : List dtR := [(58, .ifCond .eq 19, 3, 19), (61, .aload_n 0, 1, 0), (62, .invokevirtual 221, 3, 2), (65, .ifCond .eq 12, 3, 19), (68, .aload_n 0, 1, 0), (69, .iconst 1, 1, 5), (70, .aload_n 0, 1, 0), (71, .getfield 120, 3, 1), (74, .invokevirtual 150, 3, 2), (77, .aload_n 0, 1, 0), (78, .iconst 1, 1, 5), (79, .invokevirtual 242, 3, 2), (82, .istore_n 2, 1, 29), (83, .aload_n 0, 1, 0), (84, .getfield 114, 3, 1), (87, .iconst (-1), 1, 28)]
theorem qmV : dtC (cX11_law.data.toList.drop 58) 58 qaQX = true := by decide +kernel
def qaPs : List dtR := [(88, .if_icmp .eq 5, 3, 39), (91, .iload_n 2, 1, 8), (92, .ireturn, 1, 9), (93, .aload_n 0, 1, 0), (94, .aload_n 0, 1, 0), (95, .getfield 246, 3, 1), (98, .putfield 179, 3, 14), (101, .aload_n 0, 1, 0), (102, .aload_n 0, 1, 0), (103, .getfield 44, 3, 1), (106, .aload_n 0, 1, 0), (107, .getfield 50, 3, 1), (110, .aload_n 0, 1, 0), (111, .getfield 246, 3, 1), (114, .invokevirtual 175, 3, 2), (117, .aload_n 0, 1, 0)]
theorem qmx : dtC (cX11_law.data.toList.drop 88) 88 qaPs = true := by decide +kernel
def qaGJ : List dtR := [(118, .aload_n 0, 1, 0), (119, .getfield 47, 3, 1), (122, .aload_n 0, 1, 0), (123, .getfield 53, 3, 1), (126, .aload_n 0, 1, 0), (127, .getfield 246, 3, 1), (130, .invokevirtual 175, 3, 2), (133, .iload_n 2, 1, 8), (134, .ireturn, 1, 9)]
theorem qtT : dtC (cX11_law.data.toList.drop 118) 118 qaGJ = true := by decide +kernel
def qale : List dtR := [(0, .iconst 0, 1, 3), (1, .istore_n 1, 1, 37), (2, .iconst 0, 1, 3), (3, .istore_n 2, 1, 29), (4, .iload_n 2, 1, 8), (5, .aload_n 0, 1, 0), (6, .getfield 179, 3, 1), (9, .if_icmp .ge 86, 3, 18), (12, .aload_n 0, 1, 0), (13, .getfield 50, 3, 1), (16, .iload_n 2, 1, 8), (17, .iaload, 1, 12), (18, .istore_n 3, 1, 26), (19, .iload_n 3, 1, 13), (20, .iconst 1, 1, 5), (21, .if_icmp .gt 39, 3, 42)]
theorem qev : dtC (cX11_valueNow.data.toList.drop 0) 0 qale = true := by decide +kernel
def qafw : List dtR := [(24, .aload_n 0, 1, 0), (25, .getfield 56, 3, 1), (28, .iload_n 1, 1, 4), (29, .iload_n 3, 1, 13), (30, .ifCond .ne 12, 3, 21), (33, .aload_n 0, 1, 0), (34, .getfield 53, 3, 1), (37, .iload_n 2, 1, 8), (38, .iaload, 1, 12), (39, .goto 14, 3, 7), (42, .aload_n 0, 1, 0), (43, .getfield 59, 3, 1), (46, .aload_n 0, 1, 0), (47, .getfield 53, 3, 1), (50, .iload_n 2, 1, 8), (51, .iaload, 1, 12)]
theorem qdq : dtC (cX11_valueNow.data.toList.drop 24) 24 qafw = true := by decide +kernel
def qahs : List dtR := [(52, .iaload, 1, 12), (53, .iastore, 1, 22), (54, .iinc 1 1, 3, 20), (57, .goto 32, 3, 7), (60, .iinc 1 (-1), 3, 20), (63, .aload_n 0, 1, 0), (64, .getfield 56, 3, 1), (67, .iload_n 1, 1, 4), (68, .iconst 1, 1, 5), (69, .isub, 1, 27), (70, .iload_n 3, 1, 13), (71, .aload_n 0, 1, 0), (72, .getfield 56, 3, 1), (75, .iload_n 1, 1, 4), (76, .iconst 1, 1, 5), (77, .isub, 1, 27)]
theorem qdy : dtC (cX11_valueNow.data.toList.drop 52) 52 qahs = true := by decide +kernel
def qadG : List dtR := [(78, .iaload, 1, 12), (79, .aload_n 0, 1, 0), (80, .getfield 56, 3, 1), (83, .iload_n 1, 1, 4), (84, .iaload, 1, 12), (85, .invokestatic 288, 3, 16), (88, .iastore, 1, 22), (89, .iinc 2 1, 3, 20), (92, .goto (-88), 3, 7), (95, .aload_n 0, 1, 0), (96, .getfield 56, 3, 1), (99, .iconst 0, 1, 3), (100, .iaload, 1, 12), (101, .ireturn, 1, 9)]
theorem qe1 : dtC (cX11_valueNow.data.toList.drop 78) 78 qadG = true := by decide +kernel
def qaQe : List dtR := [(0, .iload_n 0, 1, 35), (1, .iconst 2, 1, 25), (2, .if_icmp .ne 7, 3, 23), (5, .iload_n 1, 1, 4), (6, .iload_n 2, 1, 8), (7, .iadd, 1, 10), (8, .ireturn, 1, 9), (9, .iload_n 0, 1, 35), (10, .iconst 3, 1, 36), (11, .if_icmp .ne 7, 3, 23), (14, .iload_n 1, 1, 4), (15, .iload_n 2, 1, 8), (16, .isub, 1, 27), (17, .ireturn, 1, 9), (18, .iload_n 0, 1, 35), (19, .iconst 4, 1, 43)]
theorem ql1 : dtC (cX11_both.data.toList.drop 0) 0 qaQe = true := by decide +kernel
def qaIQ : List dtR := [(20, .if_icmp .ne 7, 3, 23), (23, .iload_n 1, 1, 4), (24, .iload_n 2, 1, 8), (25, .imul, 1, 34)]
theorem qKM : dtC (cX11_both.data.toList.drop 20) 20 qaIQ = true := by decide +kernel
