def qaA8 : List dtR := [(72, .iload_n 1, 1, 4), (73, .iload_n 2, 1, 8), (74, .irem, 1, 63), (75, .ireturn, 1, 9), (76, .iload_n 1, 1, 4), (77, .iload_n 2, 1, 8), (78, .if_icmp .ge 7, 3, 18), (81, .iload_n 1, 1, 4), (82, .goto 4, 3, 7), (85, .iload_n 2, 1, 8), (86, .ireturn, 1, 9), (87, .iload_n 1, 1, 4), (88, .iload_n 2, 1, 8), (89, .if_icmp .le 7, 3, 56), (92, .iload_n 1, 1, 4), (93, .goto 4, 3, 7)]
theorem qeX : dtC (cX4_joined.data.toList.drop 72) 72 qaA8 = true := by decide +kernel
def qaBB : List dtR := [(96, .iload_n 2, 1, 8), (97, .ireturn, 1, 9)]
theorem qPW : dtC (cX4_joined.data.toList.drop 96) 96 qaBB = true := by decide +kernel
def qaTD : List dtR := [(0, .aload_n 0, 1, 0), (1, .invokespecial 3, 3, 44), (4, .aload_n 0, 1, 0), (5, .sipush 1088, 3, 33)]
theorem qSG : dtC (cX5_init.data.toList.drop 0) 0 qaTD = true := by decide +kernel
theorem dX5_init_8 : decode cX5_init 8 = .ok (.newarray .int, 2) := by decide +kernel
def qaRo : List dtR := [(10, .putfield 11, 3, 14), (13, .return_, 1, 24)]
theorem qagB : dtC (cX5_init.data.toList.drop 10) 10 qaRo = true := by decide +kernel
def qaVi : List dtR := [(0, .aload_n 0, 1, 0), (1, .getfield 17, 3, 1), (4, .bipush 16, 2, 11), (6, .if_icmp .gt 34, 3, 42), (9, .aload_n 1, 1, 17), (10, .getfield 21, 3, 1), (13, .iconst 0, 1, 3), (14, .aload_n 0, 1, 0), (15, .getfield 11, 3, 1), (18, .aload_n 0, 1, 0), (19, .getfield 17, 3, 1), (22, .bipush 64, 2, 11), (24, .imul, 1, 34), (25, .bipush 64, 2, 11), (27, .invokestatic 24, 3, 16), (30, .aload_n 0, 1, 0)]
theorem qoy : dtC (cX5_push.data.toList.drop 0) 0 qaVi = true := by decide +kernel
def qaMr : List dtR := [(31, .dup, 1, 30), (32, .getfield 17, 3, 1), (35, .iconst 1, 1, 5), (36, .iadd, 1, 10), (37, .putfield 17, 3, 14), (40, .return_, 1, 24)]
theorem qzp : dtC (cX5_push.data.toList.drop 31) 31 qaMr = true := by decide +kernel
def qaYA : List dtR := [(0, .aload_n 0, 1, 0), (1, .getfield 17, 3, 1), (4, .ifCond .le 34, 3, 62), (7, .aload_n 0, 1, 0), (8, .dup, 1, 30), (9, .getfield 17, 3, 1), (12, .iconst 1, 1, 5), (13, .isub, 1, 27), (14, .putfield 17, 3, 14), (17, .aload_n 0, 1, 0), (18, .getfield 11, 3, 1), (21, .aload_n 0, 1, 0), (22, .getfield 17, 3, 1), (25, .bipush 64, 2, 11), (27, .imul, 1, 34), (28, .aload_n 1, 1, 17)]
theorem qpW : dtC (cX5_pop.data.toList.drop 0) 0 qaYA = true := by decide +kernel
def qaVD : List dtR := [(29, .getfield 21, 3, 1), (32, .iconst 0, 1, 3), (33, .bipush 64, 2, 11), (35, .invokestatic 24, 3, 16), (38, .return_, 1, 24)]
theorem qGk : dtC (cX5_pop.data.toList.drop 29) 29 qaVD = true := by decide +kernel
def qauA : List dtR := [(0, .aload_n 1, 1, 17), (1, .getfield 11, 3, 1), (4, .iconst 0, 1, 3), (5, .aload_n 0, 1, 0), (6, .getfield 11, 3, 1), (9, .iconst 0, 1, 3), (10, .aload_n 1, 1, 17), (11, .getfield 17, 3, 1), (14, .bipush 64, 2, 11), (16, .imul, 1, 34), (17, .invokestatic 24, 3, 16), (20, .aload_n 0, 1, 0), (21, .aload_n 1, 1, 17), (22, .getfield 17, 3, 1), (25, .putfield 17, 3, 14), (28, .return_, 1, 24)]
theorem qf2 : dtC (cX5_copyFrom.data.toList.drop 0) 0 qauA = true := by decide +kernel
def qaVv : List dtR := [(0, .aload_n 0, 1, 0), (1, .invokespecial 3, 3, 44), (4, .aload_n 0, 1, 0), (5, .sipush 1024, 3, 33)]
theorem qSe : dtC (cX6_init.data.toList.drop 0) 0 qaVv = true := by decide +kernel
theorem dX6_init_8 : decode cX6_init 8 = .ok (.newarray .int, 2) := by decide +kernel
def qaNa : List dtR := [(10, .putfield 9, 3, 14), (13, .aload_n 0, 1, 0), (14, .bipush 8, 2, 11)]
theorem qYE : dtC (cX6_init.data.toList.drop 10) 10 qaNa = true := by decide +kernel
theorem dX6_init_16 : decode cX6_init 16 = .ok (.newarray .int, 2) := by decide +kernel
def qaRM : List dtR := [(18, .putfield 15, 3, 14), (21, .return_, 1, 24)]
theorem qahf : dtC (cX6_init.data.toList.drop 18) 18 qaRM = true := by decide +kernel
def qaEY : List dtR := [(0, .aload_n 0, 1, 0), (1, .iconst 0, 1, 3), (2, .putfield 18, 3, 14), (5, .aload_n 1, 1, 17), (6, .getfield 22, 3, 1), (9, .ifCond .ne 4, 3, 21), (12, .return_, 1, 24), (13, .iconst 1, 1, 5), (14, .aload_n 1, 1, 17), (15, .getfield 22, 3, 1), (18, .iconst 1, 1, 5), (19, .isub, 1, 27), (20, .ishl, 1, 32), (21, .iconst 1, 1, 5), (22, .isub, 1, 27), (23, .istore_n 2, 1, 29)]
theorem qj7 : dtC (cX6_settle.data.toList.drop 0) 0 qaEY = true := by decide +kernel
def qaxX : List dtR := [(24, .iconst 0, 1, 3), (25, .istore_n 3, 1, 26), (26, .iload_n 3, 1, 13), (27, .iload_n 2, 1, 8), (28, .if_icmp .gt 15, 3, 42), (31, .aload_n 0, 1, 0), (32, .aload_n 1, 1, 17), (33, .iload_n 3, 1, 13), (34, .invokevirtual 27, 3, 2), (37, .iinc 3 1, 3, 20), (40, .goto (-14), 3, 7), (43, .aload_n 0, 1, 0), (44, .getfield 9, 3, 1), (47, .iload_n 2, 1, 8), (48, .bipush 8, 2, 11), (50, .imul, 1, 34)]
theorem qg8 : dtC (cX6_settle.data.toList.drop 24) 24 qaxX = true := by decide +kernel
def qawN : List dtR := [(51, .aload_n 0, 1, 0), (52, .aload_n 1, 1, 17), (53, .iload_n 2, 1, 8), (54, .iconst 0, 1, 3), (55, .invokevirtual 31, 3, 2), (58, .iastore, 1, 22), (59, .aload_n 0, 1, 0), (60, .aload_n 0, 1, 0), (61, .getfield 9, 3, 1), (64, .iload_n 2, 1, 8), (65, .bipush 8, 2, 11), (67, .imul, 1, 34), (68, .iaload, 1, 12), (69, .putfield 18, 3, 14), (72, .aload_n 0, 1, 0), (73, .aload_n 1, 1, 17)]
theorem qgW : dtC (cX6_settle.data.toList.drop 51) 51 qawN = true := by decide +kernel
def qaAt : List dtR := [(74, .iload_n 2, 1, 8), (75, .invokevirtual 35, 3, 2), (78, .return_, 1, 24)]
theorem qOT : dtC (cX6_settle.data.toList.drop 74) 74 qaAt = true := by decide +kernel
def qakV : List dtR := [(0, .iconst 1, 1, 5), (1, .istore_n 3, 1, 26), (2, .iload_n 3, 1, 13), (3, .aload_n 1, 1, 17), (4, .getfield 22, 3, 1), (7, .if_icmp .ge 37, 3, 18), (10, .iload_n 2, 1, 8), (11, .iload_n 3, 1, 13), (12, .iconst 1, 1, 5), (13, .isub, 1, 27), (14, .invokestatic 38, 3, 16), (17, .ifCond .ne 21, 3, 21), (20, .aload_n 0, 1, 0), (21, .getfield 9, 3, 1), (24, .iload_n 2, 1, 8), (25, .bipush 8, 2, 11)]
theorem qet : dtC (cX6_settleFor.data.toList.drop 0) 0 qakV = true := by decide +kernel
def qagb : List dtR := [(27, .imul, 1, 34), (28, .iload_n 3, 1, 13), (29, .iadd, 1, 10), (30, .aload_n 0, 1, 0), (31, .aload_n 1, 1, 17), (32, .iload_n 2, 1, 8), (33, .iload_n 3, 1, 13), (34, .invokevirtual 31, 3, 2), (37, .iastore, 1, 22), (38, .iinc 3 1, 3, 20), (41, .goto (-39), 3, 7), (44, .return_, 1, 24)]
theorem qij : dtC (cX6_settleFor.data.toList.drop 27) 27 qagb = true := by decide +kernel
def qasi : List dtR := [(0, .iload_n 2, 1, 8), (1, .ifCond .ne 10, 3, 21), (4, .aload_n 1, 1, 17), (5, .iload_n 3, 1, 13), (6, .iconst 0, 1, 3), (7, .invokevirtual 42, 3, 2), (10, .ireturn, 1, 9), (11, .ldc 48, 2, 45), (13, .istore 4, 2, 15), (15, .iconst 1, 1, 5), (16, .istore 5, 2, 15), (18, .iload 5, 2, 6), (20, .aload_n 1, 1, 17), (21, .getfield 22, 3, 1), (24, .if_icmp .ge 36, 3, 18), (27, .iload_n 2, 1, 8)]
theorem qfb : dtC (cX6_leastWay.data.toList.drop 0) 0 qasi = true := by decide +kernel
def qaj3 : List dtR := [(28, .iload 5, 2, 6), (30, .iconst 1, 1, 5), (31, .isub, 1, 27), (32, .invokestatic 38, 3, 16), (35, .ifCond .eq 19, 3, 19), (38, .iload 4, 2, 6), (40, .aload_n 0, 1, 0), (41, .aload_n 1, 1, 17), (42, .iload_n 2, 1, 8), (43, .iload_n 3, 1, 13), (44, .iload 5, 2, 6), (46, .invokevirtual 49, 3, 2), (49, .invokestatic 53, 3, 16), (52, .istore 4, 2, 15), (54, .iinc 5 1, 3, 20), (57, .goto (-39), 3, 7)]
theorem qd4 : dtC (cX6_leastWay.data.toList.drop 28) 28 qaj3 = true := by decide +kernel
def qaiu : List dtR := [(60, .iload 4, 2, 6), (62, .ireturn, 1, 9)]
theorem qVo : dtC (cX6_leastWay.data.toList.drop 60) 60 qaiu = true := by decide +kernel
def qaxw : List dtR := [(0, .iload_n 2, 1, 8), (1, .iconst 1, 1, 5), (2, .iload 4, 2, 6), (4, .iconst 1, 1, 5), (5, .isub, 1, 27), (6, .ishl, 1, 32), (7, .iconst (-1), 1, 28), (8, .ixor, 1, 59), (9, .iand, 1, 40), (10, .istore 5, 2, 15), (12, .aload_n 1, 1, 17), (13, .iload_n 3, 1, 13), (14, .iload 4, 2, 6), (16, .invokevirtual 42, 3, 2), (19, .aload_n 0, 1, 0), (20, .getfield 9, 3, 1)]
theorem qhT : dtC (cX6_wayOver.data.toList.drop 0) 0 qaxw = true := by decide +kernel
def qaoU : List dtR := [(23, .iload 5, 2, 6), (25, .bipush 8, 2, 11), (27, .imul, 1, 34), (28, .iload 4, 2, 6), (30, .iadd, 1, 10), (31, .iaload, 1, 12), (32, .iadd, 1, 10), (33, .ireturn, 1, 9)]
theorem qsy : dtC (cX6_wayOver.data.toList.drop 23) 23 qaoU = true := by decide +kernel
def qaSX : List dtR := [(0, .iload_n 2, 1, 8), (1, .istore_n 3, 1, 26), (2, .iconst 0, 1, 3), (3, .istore 4, 2, 15), (5, .aload_n 0, 1, 0), (6, .getfield 15, 3, 1), (9, .iconst 0, 1, 3), (10, .iconst 0, 1, 3), (11, .iastore, 1, 22), (12, .iconst 1, 1, 5), (13, .istore 5, 2, 15), (15, .iload 5, 2, 6), (17, .aload_n 1, 1, 17), (18, .getfield 22, 3, 1), (21, .if_icmp .ge 39, 3, 18), (24, .aload_n 0, 1, 0)]
theorem qot : dtC (cX6_walk.data.toList.drop 0) 0 qaSX = true := by decide +kernel
def qaNW : List dtR := [(25, .aload_n 1, 1, 17), (26, .iload_n 3, 1, 13), (27, .iload 4, 2, 6), (29, .invokevirtual 58, 3, 2), (32, .istore 4, 2, 15), (34, .iload_n 3, 1, 13), (35, .iconst 1, 1, 5), (36, .iload 4, 2, 6), (38, .iconst 1, 1, 5), (39, .isub, 1, 27), (40, .ishl, 1, 32), (41, .iconst (-1), 1, 28), (42, .ixor, 1, 59), (43, .iand, 1, 40), (44, .istore_n 3, 1, 26), (45, .aload_n 0, 1, 0)]
theorem ql8 : dtC (cX6_walk.data.toList.drop 25) 25 qaNW = true := by decide +kernel
def qaOH : List dtR := [(46, .getfield 15, 3, 1), (49, .iload 5, 2, 6), (51, .iload 4, 2, 6), (53, .iastore, 1, 22), (54, .iinc 5 1, 3, 20), (57, .goto (-42), 3, 7), (60, .return_, 1, 24)]
theorem qzO : dtC (cX6_walk.data.toList.drop 46) 46 qaOH = true := by decide +kernel
def qakn : List dtR := [(0, .aload_n 0, 1, 0), (1, .getfield 9, 3, 1), (4, .iload_n 2, 1, 8), (5, .bipush 8, 2, 11), (7, .imul, 1, 34), (8, .iload_n 3, 1, 13), (9, .iadd, 1, 10), (10, .iaload, 1, 12), (11, .istore 4, 2, 15), (13, .iconst 1, 1, 5), (14, .istore 5, 2, 15), (16, .iload 5, 2, 6), (18, .aload_n 1, 1, 17), (19, .getfield 22, 3, 1), (22, .if_icmp .ge 37, 3, 18), (25, .iload_n 2, 1, 8)]
theorem qdY : dtC (cX6_firstBest.data.toList.drop 0) 0 qakn = true := by decide +kernel
def qagz : List dtR := [(26, .iload 5, 2, 6), (28, .iconst 1, 1, 5), (29, .isub, 1, 27), (30, .invokestatic 38, 3, 16), (33, .ifCond .eq 20, 3, 19), (36, .aload_n 0, 1, 0), (37, .aload_n 1, 1, 17), (38, .iload_n 2, 1, 8), (39, .iload_n 3, 1, 13), (40, .iload 5, 2, 6), (42, .invokevirtual 49, 3, 2), (45, .iload 4, 2, 6), (47, .if_icmp .ne 6, 3, 23), (50, .iload 5, 2, 6), (52, .ireturn, 1, 9), (53, .iinc 5 1, 3, 20)]
theorem qds : dtC (cX6_firstBest.data.toList.drop 26) 26 qagz = true := by decide +kernel
def qae5 : List dtR := [(56, .goto (-40), 3, 7), (59, .iload_n 3, 1, 13), (60, .ireturn, 1, 9)]
theorem qHH : dtC (cX6_firstBest.data.toList.drop 56) 56 qae5 = true := by decide +kernel
def qaSY : List dtR := [(0, .aload_n 0, 1, 0), (1, .invokespecial 3, 3, 44), (4, .aload_n 0, 1, 0), (5, .sipush 1792, 3, 33)]
theorem qSh : dtC (cX7_init.data.toList.drop 0) 0 qaSY = true := by decide +kernel
theorem dX7_init_8 : decode cX7_init 8 = .ok (.newarray .int, 2) := by decide +kernel
def qaPF : List dtR := [(10, .putfield 9, 3, 14), (13, .aload_n 0, 1, 0), (14, .bipush 6, 2, 11)]
theorem qXJ : dtC (cX7_init.data.toList.drop 10) 10 qaPF = true := by decide +kernel
theorem dX7_init_16 : decode cX7_init 16 = .ok (.newarray .int, 2) := by decide +kernel
def qaOF : List dtR := [(18, .putfield 15, 3, 14), (21, .aload_n 0, 1, 0), (22, .bipush 6, 2, 11)]
theorem qXe : dtC (cX7_init.data.toList.drop 18) 18 qaOF = true := by decide +kernel
theorem dX7_init_24 : decode cX7_init 24 = .ok (.newarray .int, 2) := by decide +kernel
def qaOW : List dtR := [(26, .putfield 18, 3, 14), (29, .return_, 1, 24)]
theorem qagu : dtC (cX7_init.data.toList.drop 26) 26 qaOW = true := by decide +kernel
def qaHf : List dtR := [(0, .aload_n 1, 1, 17), (1, .getfield 21, 3, 1), (4, .getfield 27, 3, 1), (7, .istore_n 2, 1, 29), (8, .iconst 1, 1, 5), (9, .aload_n 1, 1, 17), (10, .getfield 21, 3, 1), (13, .getfield 33, 3, 1), (16, .ishl, 1, 32), (17, .istore_n 3, 1, 26), (18, .iconst 0, 1, 3), (19, .istore 4, 2, 15), (21, .iload 4, 2, 6), (23, .iload_n 3, 1, 13), (24, .if_icmp .ge 22, 3, 18), (27, .aload_n 0, 1, 0)]
theorem qi1 : dtC (cX7_settle.data.toList.drop 0) 0 qaHf = true := by decide +kernel
def qaA2 : List dtR := [(28, .getfield 9, 3, 1), (31, .iload_n 2, 1, 8), (32, .bipush 8, 2, 11), (34, .ishl, 1, 32), (35, .iload 4, 2, 6), (37, .iadd, 1, 10), (38, .iconst 0, 1, 3), (39, .iastore, 1, 22), (40, .iinc 4 1, 3, 20), (43, .goto (-22), 3, 7), (46, .iload_n 2, 1, 8), (47, .iconst 1, 1, 5), (48, .isub, 1, 27), (49, .istore 4, 2, 15), (51, .iload 4, 2, 6), (53, .ifCond .lt 59, 3, 57)]
theorem qhP : dtC (cX7_settle.data.toList.drop 28) 28 qaA2 = true := by decide +kernel
def qax1 : List dtR := [(56, .aload_n 0, 1, 0), (57, .getfield 15, 3, 1), (60, .iload 4, 2, 6), (62, .aload_n 0, 1, 0), (63, .aload_n 1, 1, 17), (64, .iload 4, 2, 6), (66, .invokevirtual 36, 3, 2), (69, .iastore, 1, 22), (70, .iconst 0, 1, 3), (71, .istore 5, 2, 15), (73, .iload 5, 2, 6), (75, .iload_n 3, 1, 13), (76, .if_icmp .ge 30, 3, 18), (79, .aload_n 0, 1, 0), (80, .getfield 9, 3, 1), (83, .iload 4, 2, 6)]
theorem qgD : dtC (cX7_settle.data.toList.drop 56) 56 qax1 = true := by decide +kernel
def qaAC : List dtR := [(85, .bipush 8, 2, 11), (87, .ishl, 1, 32), (88, .iload 5, 2, 6), (90, .iadd, 1, 10), (91, .aload_n 0, 1, 0), (92, .iload 4, 2, 6), (94, .iload 5, 2, 6), (96, .invokevirtual 40, 3, 2), (99, .iastore, 1, 22), (100, .iinc 5 1, 3, 20), (103, .goto (-30), 3, 7), (106, .iinc 4 (-1), 3, 20), (109, .goto (-58), 3, 7), (112, .aload_n 0, 1, 0), (113, .aload_n 0, 1, 0), (114, .getfield 9, 3, 1)]
theorem qhK : dtC (cX7_settle.data.toList.drop 85) 85 qaAC = true := by decide +kernel
def qaqb : List dtR := [(117, .iconst 0, 1, 3), (118, .iaload, 1, 12), (119, .putfield 44, 3, 14), (122, .aload_n 0, 1, 0), (123, .iload_n 2, 1, 8), (124, .invokevirtual 47, 3, 2), (127, .return_, 1, 24)]
theorem quB : dtC (cX7_settle.data.toList.drop 117) 117 qaqb = true := by decide +kernel
def qanf : List dtR := [(0, .aload_n 1, 1, 17), (1, .iload_n 2, 1, 8), (2, .invokevirtual 51, 3, 2), (5, .ifCond .eq 5, 3, 19), (8, .iconst 0, 1, 3), (9, .ireturn, 1, 9), (10, .aload_n 1, 1, 17), (11, .iload_n 2, 1, 8), (12, .invokevirtual 55, 3, 2), (15, .iconst 1, 1, 5), (16, .aload_n 1, 1, 17), (17, .iload_n 2, 1, 8), (18, .invokevirtual 59, 3, 2), (21, .ishl, 1, 32), (22, .ior, 1, 38), (23, .aload_n 1, 1, 17)]
theorem qeF : dtC (cX7_allowedTo.data.toList.drop 0) 0 qanf = true := by decide +kernel
def qafG : List dtR := [(24, .getfield 21, 3, 1), (27, .getfield 62, 3, 1), (30, .iand, 1, 40), (31, .ireturn, 1, 9)]
theorem qA5 : dtC (cX7_allowedTo.data.toList.drop 24) 24 qafG = true := by decide +kernel
def qaqy : List dtR := [(0, .aload_n 0, 1, 0), (1, .getfield 15, 3, 1), (4, .iload_n 1, 1, 4), (5, .iaload, 1, 12), (6, .iload_n 2, 1, 8), (7, .iconst (-1), 1, 28), (8, .ixor, 1, 59), (9, .iand, 1, 40), (10, .istore_n 3, 1, 26), (11, .aload_n 0, 1, 0), (12, .iload_n 1, 1, 4), (13, .iload_n 2, 1, 8), (14, .invokevirtual 65, 3, 2), (17, .istore 4, 2, 15), (19, .iconst 0, 1, 3), (20, .istore 5, 2, 15)]
theorem qfM : dtC (cX7_mostFrom.data.toList.drop 0) 0 qaqy = true := by decide +kernel
def qanr : List dtR := [(22, .iload 5, 2, 6), (24, .bipush 8, 2, 11), (26, .if_icmp .ge 38, 3, 18), (29, .iload_n 3, 1, 13), (30, .iload 5, 2, 6), (32, .invokestatic 68, 3, 16), (35, .ifCond .eq 23, 3, 19), (38, .iload 4, 2, 6), (40, .iconst 1, 1, 5), (41, .aload_n 0, 1, 0), (42, .iload_n 1, 1, 4), (43, .iload_n 2, 1, 8), (44, .iconst 1, 1, 5), (45, .iload 5, 2, 6), (47, .ishl, 1, 32), (48, .ior, 1, 38)]
theorem qei : dtC (cX7_mostFrom.data.toList.drop 22) 22 qanr = true := by decide +kernel
def qakP : List dtR := [(49, .invokevirtual 65, 3, 2), (52, .iadd, 1, 10), (53, .invokestatic 72, 3, 16), (56, .istore 4, 2, 15), (58, .iinc 5 1, 3, 20), (61, .goto (-39), 3, 7), (64, .iload 4, 2, 6), (66, .ireturn, 1, 9)]
theorem qri : dtC (cX7_mostFrom.data.toList.drop 49) 49 qakP = true := by decide +kernel
def qacV : List dtR := [(0, .aload_n 0, 1, 0), (1, .getfield 9, 3, 1), (4, .iload_n 1, 1, 4), (5, .iconst 1, 1, 5), (6, .iadd, 1, 10), (7, .bipush 8, 2, 11), (9, .ishl, 1, 32), (10, .iload_n 2, 1, 8), (11, .iadd, 1, 10), (12, .iaload, 1, 12), (13, .ireturn, 1, 9)]
theorem qkR : dtC (cX7_mostBehind.data.toList.drop 0) 0 qacV = true := by decide +kernel
def qaU7 : List dtR := [(0, .iconst 0, 1, 3), (1, .istore_n 2, 1, 29), (2, .iconst 0, 1, 3), (3, .istore_n 3, 1, 26), (4, .iload_n 3, 1, 13), (5, .iload_n 1, 1, 4), (6, .if_icmp .ge 42, 3, 18), (9, .aload_n 0, 1, 0), (10, .getfield 18, 3, 1), (13, .iload_n 3, 1, 13), (14, .aload_n 0, 1, 0), (15, .iload_n 3, 1, 13), (16, .iload_n 2, 1, 8), (17, .invokevirtual 77, 3, 2), (20, .iastore, 1, 22), (21, .aload_n 0, 1, 0)]
theorem qol : dtC (cX7_give.data.toList.drop 0) 0 qaU7 = true := by decide +kernel
def qaNC : List dtR := [(22, .getfield 18, 3, 1), (25, .iload_n 3, 1, 13), (26, .iaload, 1, 12), (27, .iconst (-1), 1, 28), (28, .if_icmp .eq 14, 3, 39), (31, .iload_n 2, 1, 8), (32, .iconst 1, 1, 5), (33, .aload_n 0, 1, 0), (34, .getfield 18, 3, 1), (37, .iload_n 3, 1, 13), (38, .iaload, 1, 12), (39, .ishl, 1, 32), (40, .ior, 1, 38), (41, .istore_n 2, 1, 29), (42, .iinc 3 1, 3, 20), (45, .goto (-41), 3, 7)]
theorem qmu : dtC (cX7_give.data.toList.drop 22) 22 qaNC = true := by decide +kernel
def qaO8 : List dtR := [(48, .return_, 1, 24)]
theorem qaRa : dtC (cX7_give.data.toList.drop 48) 48 qaO8 = true := by decide +kernel
def qamW : List dtR := [(0, .aload_n 0, 1, 0), (1, .getfield 15, 3, 1), (4, .iload_n 1, 1, 4), (5, .iaload, 1, 12), (6, .iload_n 2, 1, 8), (7, .iconst (-1), 1, 28), (8, .ixor, 1, 59), (9, .iand, 1, 40), (10, .istore_n 3, 1, 26), (11, .aload_n 0, 1, 0), (12, .getfield 9, 3, 1), (15, .iload_n 1, 1, 4), (16, .bipush 8, 2, 11), (18, .ishl, 1, 32), (19, .iload_n 2, 1, 8), (20, .iadd, 1, 10)]
theorem qew : dtC (cX7_firstBest.data.toList.drop 0) 0 qamW = true := by decide +kernel
def qagp : List dtR := [(21, .iaload, 1, 12), (22, .istore 4, 2, 15), (24, .iconst 0, 1, 3), (25, .istore 5, 2, 15), (27, .iload 5, 2, 6), (29, .bipush 8, 2, 11), (31, .if_icmp .ge 39, 3, 18), (34, .iload_n 3, 1, 13), (35, .iload 5, 2, 6), (37, .invokestatic 68, 3, 16), (40, .ifCond .eq 24, 3, 19), (43, .iconst 1, 1, 5), (44, .aload_n 0, 1, 0), (45, .iload_n 1, 1, 4), (46, .iload_n 2, 1, 8), (47, .iconst 1, 1, 5)]
theorem qdx : dtC (cX7_firstBest.data.toList.drop 21) 21 qagp = true := by decide +kernel
def qac6 : List dtR := [(48, .iload 5, 2, 6), (50, .ishl, 1, 32), (51, .ior, 1, 38), (52, .invokevirtual 65, 3, 2), (55, .iadd, 1, 10), (56, .iload 4, 2, 6), (58, .if_icmp .ne 6, 3, 23), (61, .iload 5, 2, 6), (63, .ireturn, 1, 9), (64, .iinc 5 1, 3, 20), (67, .goto (-40), 3, 7), (70, .iconst (-1), 1, 28), (71, .ireturn, 1, 9)]
theorem qgo : dtC (cX7_firstBest.data.toList.drop 48) 48 qac6 = true := by decide +kernel
def qaT0 : List dtR := [(0, .aload_n 0, 1, 0), (1, .invokespecial 3, 3, 44), (4, .aload_n 0, 1, 0), (5, .sipush 600, 3, 33)]
theorem qSL : dtC (cX8_init.data.toList.drop 0) 0 qaT0 = true := by decide +kernel
theorem dX8_init_8 : decode cX8_init 8 = .ok (.newarray .byte, 2) := by decide +kernel
def qaNj : List dtR := [(10, .putfield 11, 3, 14), (13, .aload_n 0, 1, 0), (14, .iconst (-1), 1, 28), (15, .putfield 15, 3, 14), (18, .return_, 1, 24)]
theorem qHN : dtC (cX8_init.data.toList.drop 10) 10 qaNj = true := by decide +kernel
def qaz3 : List dtR := [(0, .aload_n 0, 1, 0), (1, .getfield 19, 3, 1), (4, .bipush 20, 2, 11), (6, .iadd, 1, 10), (7, .sipush 600, 3, 33), (10, .if_icmp .gt 7, 3, 42), (13, .iconst 1, 1, 5), (14, .goto 4, 3, 7), (17, .iconst 0, 1, 3), (18, .ireturn, 1, 9)]
theorem qo5 : dtC (cX8_hasRoom.data.toList.drop 0) 0 qaz3 = true := by decide +kernel
def qaXk : List dtR := [(0, .bipush 24, 2, 11), (2, .istore_n 2, 1, 29), (3, .iload_n 2, 1, 8), (4, .ifCond .lt 42, 3, 57), (7, .aload_n 0, 1, 0), (8, .getfield 19, 3, 1), (11, .sipush 600, 3, 33), (14, .if_icmp .ge 26, 3, 18), (17, .aload_n 0, 1, 0), (18, .getfield 11, 3, 1), (21, .aload_n 0, 1, 0), (22, .getfield 19, 3, 1), (25, .iload_n 1, 1, 4), (26, .iload_n 2, 1, 8), (27, .ishr, 1, 54), (28, .i2b, 1, 91)]
theorem qqf : dtC (cX8_put.data.toList.drop 0) 0 qaXk = true := by decide +kernel
def qaVQ : List dtR := [(29, .bastore, 1, 92), (30, .aload_n 0, 1, 0), (31, .dup, 1, 30), (32, .getfield 19, 3, 1), (35, .iconst 1, 1, 5), (36, .iadd, 1, 10), (37, .putfield 19, 3, 14), (40, .iinc 2 (-8), 3, 20), (43, .goto (-40), 3, 7), (46, .return_, 1, 24)]
theorem qvc : dtC (cX8_put.data.toList.drop 29) 29 qaVQ = true := by decide +kernel
def qaTq : List dtR := [(0, .aload_n 0, 1, 0), (1, .iload_n 1, 1, 4), (2, .sipush 600, 3, 33), (5, .invokestatic 22, 3, 16), (8, .putfield 28, 3, 14), (11, .aload_n 0, 1, 0), (12, .iconst 0, 1, 3), (13, .putfield 31, 3, 14), (16, .aload_n 0, 1, 0), (17, .iconst 0, 1, 3), (18, .putfield 34, 3, 14), (21, .aload_n 0, 1, 0), (22, .iconst 0, 1, 3), (23, .putfield 19, 3, 14), (26, .aload_n 0, 1, 0), (27, .iconst 0, 1, 3)]
theorem qoB : dtC (cX8_open.data.toList.drop 0) 0 qaTq = true := by decide +kernel
def qaPP : List dtR := [(28, .putfield 37, 3, 14), (31, .aload_n 0, 1, 0), (32, .iconst (-1), 1, 28), (33, .putfield 15, 3, 14), (36, .return_, 1, 24)]
theorem qHu : dtC (cX8_open.data.toList.drop 28) 28 qaPP = true := by decide +kernel
def qapp : List dtR := [(0, .aload_n 0, 1, 0), (1, .getfield 37, 3, 1), (4, .ifCond .eq 7, 3, 19), (7, .iconst 1, 1, 5), (8, .goto 4, 3, 7), (11, .iconst 0, 1, 3), (12, .ireturn, 1, 9)]
theorem qsv : dtC (cX8_isFaulty.data.toList.drop 0) 0 qapp = true := by decide +kernel
def qaQ4 : List dtR := [(0, .aload_n 0, 1, 0), (1, .getfield 37, 3, 1), (4, .ifCond .ne 13, 3, 21), (7, .aload_n 0, 1, 0), (8, .iload_n 1, 1, 4), (9, .putfield 37, 3, 14), (12, .aload_n 0, 1, 0), (13, .iload_n 2, 1, 8), (14, .putfield 15, 3, 14), (17, .return_, 1, 24)]
theorem qr8 : dtC (cX8_blame.data.toList.drop 0) 0 qaQ4 = true := by decide +kernel
def qak5 : List dtR := [(0, .aload_n 0, 1, 0), (1, .invokevirtual 40, 3, 2), (4, .aload_n 0, 1, 0), (5, .iconst 1, 1, 5), (6, .aload_n 0, 1, 0), (7, .getfield 31, 3, 1), (10, .invokevirtual 43, 3, 2), (13, .return_, 1, 24)]
theorem qrB : dtC (cX8_blameSign.data.toList.drop 0) 0 qak5 = true := by decide +kernel
def qaeV : List dtR := [(0, .aload_n 0, 1, 0), (1, .iload_n 1, 1, 4), (2, .aload_n 0, 1, 0), (3, .getfield 34, 3, 1), (6, .invokevirtual 43, 3, 2), (9, .return_, 1, 24)]
theorem qum : dtC (cX8_blameToken.data.toList.drop 0) 0 qaeV = true := by decide +kernel
def qagq : List dtR := [(0, .aload_n 0, 1, 0), (1, .getfield 31, 3, 1), (4, .aload_n 0, 1, 0), (5, .getfield 28, 3, 1), (8, .if_icmp .ge 30, 3, 18), (11, .aload_n 0, 1, 0), (12, .getfield 11, 3, 1), (15, .aload_n 0, 1, 0), (16, .getfield 31, 3, 1), (19, .baload, 1, 64), (20, .bipush 32, 2, 11), (22, .if_icmp .ne 16, 3, 23), (25, .aload_n 0, 1, 0), (26, .dup, 1, 30), (27, .getfield 31, 3, 1), (30, .iconst 1, 1, 5)]
theorem qde : dtC (cX8_skipBlanks.data.toList.drop 0) 0 qagq = true := by decide +kernel
def q9p : List dtR := [(31, .iadd, 1, 10), (32, .putfield 31, 3, 14), (35, .goto (-35), 3, 7), (38, .return_, 1, 24)]
theorem qv1 : dtC (cX8_skipBlanks.data.toList.drop 31) 31 q9p = true := by decide +kernel
def qaxk : List dtR := [(0, .aload_n 0, 1, 0), (1, .invokevirtual 40, 3, 2), (4, .aload_n 0, 1, 0), (5, .getfield 31, 3, 1), (8, .aload_n 0, 1, 0), (9, .getfield 28, 3, 1), (12, .if_icmp .lt 7, 3, 48), (15, .iconst 1, 1, 5), (16, .goto 4, 3, 7), (19, .iconst 0, 1, 3), (20, .ireturn, 1, 9)]
theorem qnT : dtC (cX8_isEnded.data.toList.drop 0) 0 qaxk = true := by decide +kernel
def qakM : List dtR := [(0, .aload_n 0, 1, 0), (1, .invokevirtual 40, 3, 2), (4, .aload_n 0, 1, 0), (5, .aload_n 0, 1, 0), (6, .getfield 31, 3, 1), (9, .invokevirtual 47, 3, 2), (12, .ifCond .lt 7, 3, 57), (15, .iconst 1, 1, 5), (16, .goto 4, 3, 7), (19, .iconst 0, 1, 3), (20, .ireturn, 1, 9)]
theorem qkF : dtC (cX8_seesDigit.data.toList.drop 0) 0 qakM = true := by decide +kernel
def qaDf : List dtR := [(0, .iload_n 1, 1, 4), (1, .aload_n 0, 1, 0), (2, .getfield 28, 3, 1), (5, .if_icmp .ge 25, 3, 18), (8, .aload_n 0, 1, 0), (9, .getfield 11, 3, 1), (12, .iload_n 1, 1, 4), (13, .baload, 1, 64), (14, .bipush 48, 2, 11), (16, .if_icmp .lt 14, 3, 48), (19, .aload_n 0, 1, 0), (20, .getfield 11, 3, 1), (23, .iload_n 1, 1, 4), (24, .baload, 1, 64), (25, .bipush 57, 2, 11), (27, .if_icmp .le 5, 3, 56)]
theorem qhY : dtC (cX8_digitAt.data.toList.drop 0) 0 qaDf = true := by decide +kernel
def qarI : List dtR := [(30, .iconst (-1), 1, 28), (31, .ireturn, 1, 9), (32, .aload_n 0, 1, 0), (33, .getfield 11, 3, 1), (36, .iload_n 1, 1, 4), (37, .baload, 1, 64), (38, .bipush 48, 2, 11), (40, .isub, 1, 27), (41, .ireturn, 1, 9)]
theorem qkG : dtC (cX8_digitAt.data.toList.drop 30) 30 qarI = true := by decide +kernel
def qauq : List dtR := [(0, .iload_n 1, 1, 4), (1, .aload_n 0, 1, 0), (2, .getfield 28, 3, 1), (5, .if_icmp .ge 29, 3, 18), (8, .aload_n 0, 1, 0), (9, .getfield 11, 3, 1), (12, .iload_n 1, 1, 4), (13, .baload, 1, 64), (14, .bipush 97, 2, 11), (16, .if_icmp .lt 18, 3, 48), (19, .aload_n 0, 1, 0), (20, .getfield 11, 3, 1), (23, .iload_n 1, 1, 4), (24, .baload, 1, 64), (25, .bipush 122, 2, 11), (27, .if_icmp .gt 7, 3, 42)]
theorem qfs : dtC (cX8_isLetter.data.toList.drop 0) 0 qauq = true := by decide +kernel
def qajL : List dtR := [(30, .iconst 1, 1, 5), (31, .goto 4, 3, 7), (34, .iconst 0, 1, 3), (35, .ireturn, 1, 9)]
theorem qpL : dtC (cX8_isLetter.data.toList.drop 30) 30 qajL = true := by decide +kernel
def qaR8 : List dtR := [(0, .aload_n 0, 1, 0), (1, .invokevirtual 40, 3, 2), (4, .aload_n 0, 1, 0), (5, .invokevirtual 51, 3, 2), (8, .ifCond .ne 27, 3, 21), (11, .aload_n 0, 1, 0), (12, .getfield 31, 3, 1), (15, .aload_n 0, 1, 0), (16, .getfield 28, 3, 1), (19, .if_icmp .ge 16, 3, 18), (22, .aload_n 0, 1, 0), (23, .getfield 11, 3, 1), (26, .aload_n 0, 1, 0), (27, .getfield 31, 3, 1), (30, .baload, 1, 64), (31, .iload_n 1, 1, 4)]
theorem qmN : dtC (cX8_takes.data.toList.drop 0) 0 qaR8 = true := by decide +kernel
def qaKA : List dtR := [(32, .if_icmp .eq 5, 3, 39), (35, .iconst 0, 1, 3), (36, .ireturn, 1, 9), (37, .aload_n 0, 1, 0), (38, .aload_n 0, 1, 0), (39, .getfield 31, 3, 1), (42, .putfield 34, 3, 14), (45, .aload_n 0, 1, 0), (46, .dup, 1, 30), (47, .getfield 31, 3, 1), (50, .iconst 1, 1, 5), (51, .iadd, 1, 10), (52, .putfield 31, 3, 14), (55, .iconst 1, 1, 5), (56, .ireturn, 1, 9)]
theorem qgd : dtC (cX8_takes.data.toList.drop 32) 32 qaKA = true := by decide +kernel
def qaPu : List dtR := [(0, .aload_n 0, 1, 0), (1, .iload_n 1, 1, 4), (2, .invokevirtual 55, 3, 2), (5, .ifCond .ne 7, 3, 21), (8, .aload_n 0, 1, 0), (9, .invokevirtual 59, 3, 2), (12, .return_, 1, 24)]
theorem qxf : dtC (cX8_needs.data.toList.drop 0) 0 qaPu = true := by decide +kernel
def qas8 : List dtR := [(0, .aload_n 0, 1, 0), (1, .invokevirtual 62, 3, 2), (4, .ifCond .ne 7, 3, 21), (7, .aload_n 0, 1, 0), (8, .invokevirtual 59, 3, 2), (11, .return_, 1, 24)]
theorem quG : dtC (cX8_needsEnd.data.toList.drop 0) 0 qas8 = true := by decide +kernel
def qanU : List dtR := [(0, .aload_n 0, 1, 0), (1, .invokevirtual 40, 3, 2), (4, .aload_n 0, 1, 0), (5, .getfield 31, 3, 1), (8, .aload_n 1, 1, 17), (9, .invokevirtual 65, 3, 2), (12, .iadd, 1, 10), (13, .istore_n 2, 1, 29), (14, .aload_n 0, 1, 0), (15, .invokevirtual 51, 3, 2), (18, .ifCond .ne 19, 3, 21), (21, .iload_n 2, 1, 8), (22, .aload_n 0, 1, 0), (23, .getfield 28, 3, 1), (26, .if_icmp .gt 11, 3, 42), (29, .aload_n 0, 1, 0)]
theorem qeL : dtC (cX8_takesWord.data.toList.drop 0) 0 qanU = true := by decide +kernel
def qahT : List dtR := [(30, .iload_n 2, 1, 8), (31, .invokevirtual 70, 3, 2), (34, .ifCond .eq 5, 3, 19), (37, .iconst 0, 1, 3), (38, .ireturn, 1, 9), (39, .iconst 0, 1, 3), (40, .istore_n 3, 1, 26), (41, .iload_n 3, 1, 13), (42, .aload_n 1, 1, 17), (43, .invokevirtual 65, 3, 2), (46, .if_icmp .ge 30, 3, 18), (49, .aload_n 0, 1, 0), (50, .getfield 11, 3, 1), (53, .aload_n 0, 1, 0), (54, .getfield 31, 3, 1), (57, .iload_n 3, 1, 13)]
theorem qb5 : dtC (cX8_takesWord.data.toList.drop 30) 30 qahT = true := by decide +kernel
def qadV : List dtR := [(58, .iadd, 1, 10), (59, .baload, 1, 64), (60, .aload_n 1, 1, 17), (61, .iload_n 3, 1, 13), (62, .invokevirtual 74, 3, 2), (65, .if_icmp .eq 5, 3, 39), (68, .iconst 0, 1, 3), (69, .ireturn, 1, 9), (70, .iinc 3 1, 3, 20), (73, .goto (-32), 3, 7), (76, .aload_n 0, 1, 0), (77, .aload_n 0, 1, 0), (78, .getfield 31, 3, 1), (81, .putfield 34, 3, 14), (84, .aload_n 0, 1, 0), (85, .iload_n 2, 1, 8)]
theorem qc3 : dtC (cX8_takesWord.data.toList.drop 58) 58 qadV = true := by decide +kernel
def qaee : List dtR := [(86, .putfield 31, 3, 14), (89, .iconst 1, 1, 5), (90, .ireturn, 1, 9)]
theorem qHA : dtC (cX8_takesWord.data.toList.drop 86) 86 qaee = true := by decide +kernel
def qaGI : List dtR := [(0, .aload_n 0, 1, 0), (1, .invokevirtual 40, 3, 2), (4, .aload_n 0, 1, 0), (5, .aload_n 0, 1, 0), (6, .getfield 31, 3, 1), (9, .invokevirtual 47, 3, 2), (12, .ifCond .ge 12, 3, 76), (15, .aload_n 0, 1, 0), (16, .iconst 1, 1, 5), (17, .aload_n 0, 1, 0), (18, .getfield 31, 3, 1), (21, .invokevirtual 43, 3, 2), (24, .aload_n 0, 1, 0), (25, .invokevirtual 51, 3, 2), (28, .ifCond .eq 5, 3, 19), (31, .iconst 0, 1, 3)]
theorem qjt : dtC (cX8_number.data.toList.drop 0) 0 qaGI = true := by decide +kernel
def qaz4 : List dtR := [(32, .ireturn, 1, 9), (33, .aload_n 0, 1, 0), (34, .aload_n 0, 1, 0), (35, .getfield 31, 3, 1), (38, .putfield 34, 3, 14), (41, .iconst 0, 1, 3), (42, .istore_n 3, 1, 26), (43, .aload_n 0, 1, 0), (44, .getfield 31, 3, 1), (47, .aload_n 0, 1, 0), (48, .getfield 28, 3, 1), (51, .if_icmp .ge 46, 3, 18), (54, .aload_n 0, 1, 0), (55, .aload_n 0, 1, 0), (56, .getfield 31, 3, 1), (59, .invokevirtual 47, 3, 2)]
theorem qhp : dtC (cX8_number.data.toList.drop 32) 32 qaz4 = true := by decide +kernel
def qay4 : List dtR := [(62, .ifCond .lt 35, 3, 57), (65, .ldc 78, 2, 45), (67, .iload_n 3, 1, 13), (68, .bipush 10, 2, 11), (70, .imul, 1, 34), (71, .aload_n 0, 1, 0), (72, .aload_n 0, 1, 0), (73, .getfield 31, 3, 1), (76, .invokevirtual 47, 3, 2), (79, .iadd, 1, 10), (80, .invokestatic 22, 3, 16), (83, .istore_n 3, 1, 26), (84, .aload_n 0, 1, 0), (85, .dup, 1, 30), (86, .getfield 31, 3, 1), (89, .iconst 1, 1, 5)]
theorem qhz : dtC (cX8_number.data.toList.drop 62) 62 qay4 = true := by decide +kernel
def qaCt : List dtR := [(90, .iadd, 1, 10), (91, .putfield 31, 3, 14), (94, .goto (-51), 3, 7), (97, .iload_n 3, 1, 13), (98, .iload_n 1, 1, 4), (99, .iload_n 2, 1, 8), (100, .invokestatic 79, 3, 16), (103, .ifCond .ne 12, 3, 21), (106, .aload_n 0, 1, 0), (107, .iconst 2, 1, 25), (108, .aload_n 0, 1, 0), (109, .getfield 34, 3, 1), (112, .invokevirtual 43, 3, 2), (115, .iload_n 3, 1, 13), (116, .ireturn, 1, 9)]
theorem qge : dtC (cX8_number.data.toList.drop 90) 90 qaCt = true := by decide +kernel
def qaWf : List dtR := [(0, .aload_n 0, 1, 0), (1, .invokespecial 3, 3, 44), (4, .aload_n 0, 1, 0), (5, .bipush 50, 2, 11)]
theorem qSi : dtC (cX9_init.data.toList.drop 0) 0 qaWf = true := by decide +kernel
theorem dX9_init_7 : decode cX9_init 7 = .ok (.newarray .int, 2) := by decide +kernel
def qaTI : List dtR := [(9, .putfield 11, 3, 14), (12, .aload_n 0, 1, 0), (13, .bipush 50, 2, 11)]
theorem q3t : dtC (cX9_init.data.toList.drop 9) 9 qaTI = true := by decide +kernel
theorem dX9_init_15 : decode cX9_init 15 = .ok (.newarray .int, 2) := by decide +kernel
def qaO0 : List dtR := [(17, .putfield 15, 3, 14), (20, .aload_n 0, 1, 0), (21, .bipush 50, 2, 11)]
theorem qXa : dtC (cX9_init.data.toList.drop 17) 17 qaO0 = true := by decide +kernel
theorem dX9_init_23 : decode cX9_init 23 = .ok (.newarray .int, 2) := by decide +kernel
def qaPY : List dtR := [(25, .putfield 18, 3, 14), (28, .aload_n 0, 1, 0), (29, .bipush 50, 2, 11)]
theorem qXt : dtC (cX9_init.data.toList.drop 25) 25 qaPY = true := by decide +kernel
theorem dX9_init_31 : decode cX9_init 31 = .ok (.newarray .int, 2) := by decide +kernel
def qaOD : List dtR := [(33, .putfield 21, 3, 14), (36, .aload_n 0, 1, 0), (37, .bipush 6, 2, 11)]
theorem qYj : dtC (cX9_init.data.toList.drop 33) 33 qaOD = true := by decide +kernel
theorem dX9_init_39 : decode cX9_init 39 = .ok (.newarray .int, 2) := by decide +kernel
def qaNx : List dtR := [(41, .putfield 24, 3, 14), (44, .aload_n 0, 1, 0), (45, .bipush 6, 2, 11)]
theorem qX5 : dtC (cX9_init.data.toList.drop 41) 41 qaNx = true := by decide +kernel
theorem dX9_init_47 : decode cX9_init 47 = .ok (.newarray .int, 2) := by decide +kernel
def qaOR : List dtR := [(49, .putfield 27, 3, 14), (52, .return_, 1, 24)]
theorem qafY : dtC (cX9_init.data.toList.drop 49) 49 qaOR = true := by decide +kernel
def qasp : List dtR := [(0, .aload_n 0, 1, 0), (1, .iload_n 2, 1, 8), (2, .putfield 30, 3, 14), (5, .aload_n 0, 1, 0), (6, .iload_n 3, 1, 13), (7, .putfield 34, 3, 14), (10, .aload_n 0, 1, 0), (11, .iconst 0, 1, 3), (12, .putfield 37, 3, 14), (15, .aload_n 0, 1, 0), (16, .iconst 0, 1, 3), (17, .putfield 40, 3, 14), (20, .iconst 0, 1, 3), (21, .istore 4, 2, 15), (23, .iload 4, 2, 6), (25, .sipush 150, 3, 33)]
theorem qfl : dtC (cX9_readFrom.data.toList.drop 0) 0 qasp = true := by decide +kernel
def qalV : List dtR := [(28, .if_icmp .gt 65, 3, 42), (31, .aload_n 1, 1, 17), (32, .invokevirtual 43, 3, 2), (35, .ifCond .ne 58, 3, 21), (38, .aload_n 0, 1, 0), (39, .getfield 40, 3, 1), (42, .ifCond .ne 11, 3, 21), (45, .aload_n 1, 1, 17), (46, .invokevirtual 49, 3, 2), (49, .ifCond .eq 4, 3, 19), (52, .return_, 1, 24), (53, .aload_n 0, 1, 0), (54, .getfield 40, 3, 1), (57, .ifCond .le 25, 3, 62), (60, .aload_n 1, 1, 17), (61, .bipush 93, 2, 11)]
theorem qeC : dtC (cX9_readFrom.data.toList.drop 28) 28 qalV = true := by decide +kernel
def qalO : List dtR := [(63, .invokevirtual 52, 3, 2), (66, .ifCond .eq 16, 3, 19), (69, .aload_n 0, 1, 0), (70, .invokevirtual 56, 3, 2), (73, .aload_n 1, 1, 17), (74, .bipush 59, 2, 11), (76, .invokevirtual 59, 3, 2), (79, .goto 8, 3, 7), (82, .aload_n 0, 1, 0), (83, .aload_n 1, 1, 17), (84, .invokevirtual 63, 3, 2), (87, .iinc 4 1, 3, 20), (90, .goto (-67), 3, 7), (93, .return_, 1, 24)]
theorem qe9 : dtC (cX9_readFrom.data.toList.drop 63) 63 qalO = true := by decide +kernel
def qard : List dtR := [(0, .aload_n 1, 1, 17), (1, .ldc 67, 2, 45), (3, .invokevirtual 69, 3, 2), (6, .ifCond .eq 9, 3, 19), (9, .aload_n 0, 1, 0), (10, .aload_n 1, 1, 17), (11, .invokevirtual 73, 3, 2), (14, .return_, 1, 24), (15, .aload_n 1, 1, 17), (16, .ldc 76, 2, 45), (18, .invokevirtual 69, 3, 2), (21, .ifCond .eq 36, 3, 19), (24, .aload_n 1, 1, 17), (25, .iconst 0, 1, 3), (26, .aload_n 0, 1, 0), (27, .getfield 30, 3, 1)]
theorem qfu : dtC (cX9_readStep.data.toList.drop 0) 0 qard = true := by decide +kernel
def qaii : List dtR := [(30, .iconst 1, 1, 5), (31, .isub, 1, 27), (32, .invokevirtual 78, 3, 2), (35, .istore_n 2, 1, 29), (36, .aload_n 0, 1, 0), (37, .iconst 0, 1, 3), (38, .iload_n 2, 1, 8), (39, .aload_n 1, 1, 17), (40, .iconst 0, 1, 3), (41, .aload_n 0, 1, 0), (42, .getfield 34, 3, 1), (45, .iconst 1, 1, 5), (46, .isub, 1, 27), (47, .invokevirtual 78, 3, 2), (50, .iconst 0, 1, 3), (51, .invokevirtual 82, 3, 2)]
theorem qec : dtC (cX9_readStep.data.toList.drop 30) 30 qaii = true := by decide +kernel
def qanK : List dtR := [(54, .goto 119, 3, 7), (57, .aload_n 1, 1, 17), (58, .ldc 86, 2, 45), (60, .invokevirtual 69, 3, 2), (63, .ifCond .eq 36, 3, 19), (66, .aload_n 1, 1, 17), (67, .iconst 0, 1, 3), (68, .aload_n 0, 1, 0), (69, .getfield 30, 3, 1), (72, .iconst 1, 1, 5), (73, .isub, 1, 27), (74, .invokevirtual 78, 3, 2), (77, .istore_n 2, 1, 29), (78, .aload_n 0, 1, 0), (79, .iconst 1, 1, 5), (80, .iload_n 2, 1, 8)]
theorem qer : dtC (cX9_readStep.data.toList.drop 54) 54 qanK = true := by decide +kernel
def qamX : List dtR := [(81, .aload_n 1, 1, 17), (82, .iconst 0, 1, 3), (83, .aload_n 0, 1, 0), (84, .getfield 30, 3, 1), (87, .iconst 1, 1, 5), (88, .isub, 1, 27), (89, .invokevirtual 78, 3, 2), (92, .iconst 0, 1, 3), (93, .invokevirtual 82, 3, 2), (96, .goto 77, 3, 7), (99, .aload_n 1, 1, 17), (100, .ldc 88, 2, 45), (102, .invokevirtual 69, 3, 2), (105, .ifCond .eq 44, 3, 19), (108, .aload_n 1, 1, 17), (109, .iconst 0, 1, 3)]
theorem qee : dtC (cX9_readStep.data.toList.drop 81) 81 qamX = true := by decide +kernel
def qaff : List dtR := [(110, .aload_n 0, 1, 0), (111, .getfield 30, 3, 1), (114, .iconst 1, 1, 5), (115, .isub, 1, 27), (116, .invokevirtual 78, 3, 2), (119, .istore_n 2, 1, 29), (120, .aload_n 1, 1, 17), (121, .iconst 0, 1, 3), (122, .aload_n 0, 1, 0), (123, .getfield 30, 3, 1), (126, .iconst 1, 1, 5), (127, .isub, 1, 27), (128, .invokevirtual 78, 3, 2), (131, .istore_n 3, 1, 26), (132, .aload_n 0, 1, 0), (133, .iconst 2, 1, 25)]
theorem qdf : dtC (cX9_readStep.data.toList.drop 110) 110 qaff = true := by decide +kernel
def qahl : List dtR := [(134, .iload_n 2, 1, 8), (135, .iload_n 3, 1, 13), (136, .aload_n 1, 1, 17), (137, .iconst 1, 1, 5), (138, .bipush 99, 2, 11), (140, .invokevirtual 78, 3, 2), (143, .invokevirtual 82, 3, 2), (146, .goto 27, 3, 7), (149, .aload_n 1, 1, 17), (150, .ldc 90, 2, 45), (152, .invokevirtual 69, 3, 2), (155, .ifCond .eq 14, 3, 19), (158, .aload_n 0, 1, 0), (159, .iconst 3, 1, 36), (160, .iconst 0, 1, 3), (161, .iconst 0, 1, 3)]
theorem qdl : dtC (cX9_readStep.data.toList.drop 134) 134 qahl = true := by decide +kernel
def qadu : List dtR := [(162, .iconst 0, 1, 3), (163, .invokevirtual 82, 3, 2), (166, .goto 7, 3, 7), (169, .aload_n 1, 1, 17), (170, .invokevirtual 92, 3, 2), (173, .aload_n 1, 1, 17), (174, .bipush 59, 2, 11), (176, .invokevirtual 59, 3, 2), (179, .return_, 1, 24)]
theorem qoP : dtC (cX9_readStep.data.toList.drop 162) 162 qadu = true := by decide +kernel
def qarv : List dtR := [(0, .aload_n 0, 1, 0), (1, .getfield 40, 3, 1), (4, .bipush 6, 2, 11), (6, .if_icmp .lt 9, 3, 48), (9, .aload_n 1, 1, 17), (10, .iconst 3, 1, 36), (11, .invokevirtual 95, 3, 2), (14, .return_, 1, 24), (15, .aload_n 1, 1, 17), (16, .iconst 0, 1, 3), (17, .bipush 40, 2, 11), (19, .invokevirtual 78, 3, 2), (22, .istore_n 2, 1, 29), (23, .aload_n 1, 1, 17), (24, .bipush 91, 2, 11), (26, .invokevirtual 59, 3, 2)]
theorem qfN : dtC (cX9_openLoop.data.toList.drop 0) 0 qarv = true := by decide +kernel
def qanV : List dtR := [(29, .aload_n 0, 1, 0), (30, .getfield 24, 3, 1), (33, .aload_n 0, 1, 0), (34, .getfield 40, 3, 1), (37, .aload_n 0, 1, 0), (38, .getfield 37, 3, 1), (41, .iastore, 1, 22), (42, .aload_n 0, 1, 0), (43, .dup, 1, 30), (44, .getfield 40, 3, 1), (47, .iconst 1, 1, 5), (48, .iadd, 1, 10), (49, .putfield 40, 3, 14), (52, .aload_n 0, 1, 0), (53, .iconst 4, 1, 43), (54, .iload_n 2, 1, 8)]
theorem qeq : dtC (cX9_openLoop.data.toList.drop 29) 29 qanV = true := by decide +kernel
def qakw : List dtR := [(55, .iconst 0, 1, 3), (56, .iconst 0, 1, 3), (57, .invokevirtual 82, 3, 2), (60, .return_, 1, 24)]
theorem qCO : dtC (cX9_openLoop.data.toList.drop 55) 55 qakw = true := by decide +kernel
def qam7 : List dtR := [(0, .aload_n 0, 1, 0), (1, .dup, 1, 30), (2, .getfield 40, 3, 1), (5, .iconst 1, 1, 5), (6, .isub, 1, 27), (7, .putfield 40, 3, 14), (10, .aload_n 0, 1, 0), (11, .getfield 24, 3, 1), (14, .aload_n 0, 1, 0), (15, .getfield 40, 3, 1), (18, .iaload, 1, 12), (19, .istore_n 1, 1, 37), (20, .iload_n 1, 1, 4), (21, .bipush 50, 2, 11), (23, .if_icmp .ge 13, 3, 18), (26, .aload_n 0, 1, 0)]
theorem qeD : dtC (cX9_closeLoop.data.toList.drop 0) 0 qam7 = true := by decide +kernel
def qago : List dtR := [(27, .getfield 18, 3, 1), (30, .iload_n 1, 1, 4), (31, .aload_n 0, 1, 0), (32, .getfield 37, 3, 1), (35, .iastore, 1, 22), (36, .aload_n 0, 1, 0), (37, .iconst 5, 1, 49), (38, .iload_n 1, 1, 4), (39, .iconst 0, 1, 3), (40, .iconst 0, 1, 3), (41, .invokevirtual 82, 3, 2), (44, .return_, 1, 24)]
theorem qig : dtC (cX9_closeLoop.data.toList.drop 27) 27 qago = true := by decide +kernel
def qaWB : List dtR := [(0, .aload_n 0, 1, 0), (1, .getfield 37, 3, 1), (4, .bipush 50, 2, 11), (6, .if_icmp .ge 54, 3, 18), (9, .aload_n 0, 1, 0), (10, .getfield 11, 3, 1), (13, .aload_n 0, 1, 0), (14, .getfield 37, 3, 1), (17, .iload_n 1, 1, 4), (18, .iastore, 1, 22), (19, .aload_n 0, 1, 0), (20, .getfield 15, 3, 1), (23, .aload_n 0, 1, 0), (24, .getfield 37, 3, 1), (27, .iload_n 2, 1, 8), (28, .iastore, 1, 22)]
theorem qpV : dtC (cX9_add.data.toList.drop 0) 0 qaWB = true := by decide +kernel
def qaSV : List dtR := [(29, .aload_n 0, 1, 0), (30, .getfield 18, 3, 1), (33, .aload_n 0, 1, 0), (34, .getfield 37, 3, 1), (37, .iload_n 3, 1, 13), (38, .iastore, 1, 22), (39, .aload_n 0, 1, 0), (40, .getfield 21, 3, 1), (43, .aload_n 0, 1, 0), (44, .getfield 37, 3, 1), (47, .iload 4, 2, 6), (49, .iastore, 1, 22), (50, .aload_n 0, 1, 0), (51, .dup, 1, 30), (52, .getfield 37, 3, 1), (55, .iconst 1, 1, 5)]
theorem qox : dtC (cX9_add.data.toList.drop 29) 29 qaSV = true := by decide +kernel
def qaTv : List dtR := [(56, .iadd, 1, 10), (57, .putfield 37, 3, 14), (60, .return_, 1, 24)]
theorem qRW : dtC (cX9_add.data.toList.drop 56) 56 qaTv = true := by decide +kernel
def qaOn : List dtR := [(0, .aload_n 0, 1, 0), (1, .iconst 0, 1, 3), (2, .putfield 99, 3, 14), (5, .aload_n 0, 1, 0), (6, .iconst 0, 1, 3), (7, .putfield 102, 3, 14), (10, .aload_n 0, 1, 0), (11, .iconst 0, 1, 3), (12, .putfield 40, 3, 14), (15, .iconst 0, 1, 3), (16, .istore_n 2, 1, 29), (17, .iconst 0, 1, 3), (18, .istore_n 3, 1, 26), (19, .iconst 0, 1, 3), (20, .istore 4, 2, 15), (22, .iload 4, 2, 6)]
theorem qlo : dtC (cX9_runOn.data.toList.drop 0) 0 qaOn = true := by decide +kernel
def qaGD : List dtR := [(24, .sipush 20000, 3, 33), (27, .if_icmp .ge 106, 3, 18), (30, .iload_n 2, 1, 8), (31, .sipush 200, 3, 33), (34, .if_icmp .ge 99, 3, 18), (37, .iload_n 3, 1, 13), (38, .aload_n 0, 1, 0), (39, .getfield 37, 3, 1), (42, .if_icmp .ge 91, 3, 18), (45, .aload_n 0, 1, 0), (46, .getfield 11, 3, 1), (49, .iload_n 3, 1, 13), (50, .iaload, 1, 12), (51, .iconst 5, 1, 49), (52, .if_icmp .ne 12, 3, 23), (55, .aload_n 0, 1, 0)]
theorem qjy : dtC (cX9_runOn.data.toList.drop 24) 24 qaGD = true := by decide +kernel
def qaEN : List dtR := [(56, .iload_n 3, 1, 13), (57, .invokevirtual 105, 3, 2), (60, .istore_n 3, 1, 26), (61, .goto 66, 3, 7), (64, .iinc 2 1, 3, 20), (67, .aload_n 0, 1, 0), (68, .getfield 11, 3, 1), (71, .iload_n 3, 1, 13), (72, .iaload, 1, 12), (73, .iconst 4, 1, 43), (74, .if_icmp .ne 12, 3, 23), (77, .aload_n 0, 1, 0), (78, .iload_n 3, 1, 13), (79, .invokevirtual 109, 3, 2), (82, .istore_n 3, 1, 26), (83, .goto 44, 3, 7)]
theorem qi7 : dtC (cX9_runOn.data.toList.drop 56) 56 qaEN = true := by decide +kernel
def qaIH : List dtR := [(86, .aload_n 0, 1, 0), (87, .iload_n 3, 1, 13), (88, .aload_n 1, 1, 17), (89, .invokevirtual 112, 3, 2), (92, .ifCond .eq 22, 3, 19), (95, .aload_n 0, 1, 0), (96, .iload_n 3, 1, 13), (97, .aload_n 1, 1, 17), (98, .invokevirtual 116, 3, 2), (101, .aload_n 0, 1, 0), (102, .dup, 1, 30), (103, .getfield 99, 3, 1), (106, .iconst 1, 1, 5), (107, .iadd, 1, 10), (108, .putfield 99, 3, 14), (111, .goto 13, 3, 7)]
theorem qja : dtC (cX9_runOn.data.toList.drop 86) 86 qaIH = true := by decide +kernel
def qaD9 : List dtR := [(114, .aload_n 0, 1, 0), (115, .dup, 1, 30), (116, .getfield 102, 3, 1), (119, .iconst 1, 1, 5), (120, .iadd, 1, 10), (121, .putfield 102, 3, 14), (124, .iinc 3 1, 3, 20), (127, .iinc 4 1, 3, 20), (130, .goto (-108), 3, 7), (133, .return_, 1, 24)]
theorem qoa : dtC (cX9_runOn.data.toList.drop 114) 114 qaD9 = true := by decide +kernel
def qam9 : List dtR := [(0, .aload_n 0, 1, 0), (1, .getfield 40, 3, 1), (4, .ifCond .ne 7, 3, 21), (7, .iload_n 1, 1, 4), (8, .iconst 1, 1, 5), (9, .iadd, 1, 10), (10, .ireturn, 1, 9), (11, .aload_n 0, 1, 0), (12, .getfield 27, 3, 1), (15, .aload_n 0, 1, 0), (16, .getfield 40, 3, 1), (19, .iconst 1, 1, 5), (20, .isub, 1, 27), (21, .dup2, 1, 55), (22, .iaload, 1, 12), (23, .iconst 1, 1, 5)]
theorem qdT : dtC (cX9_behindEnd.data.toList.drop 0) 0 qam9 = true := by decide +kernel
def qaer : List dtR := [(24, .isub, 1, 27), (25, .iastore, 1, 22), (26, .aload_n 0, 1, 0), (27, .getfield 27, 3, 1), (30, .aload_n 0, 1, 0), (31, .getfield 40, 3, 1), (34, .iconst 1, 1, 5), (35, .isub, 1, 27), (36, .iaload, 1, 12), (37, .ifCond .le 12, 3, 62), (40, .aload_n 0, 1, 0), (41, .getfield 15, 3, 1), (44, .iload_n 1, 1, 4), (45, .iaload, 1, 12), (46, .iconst 1, 1, 5), (47, .iadd, 1, 10)]
theorem qdm : dtC (cX9_behindEnd.data.toList.drop 24) 24 qaer = true := by decide +kernel
def qahB : List dtR := [(48, .ireturn, 1, 9), (49, .aload_n 0, 1, 0), (50, .dup, 1, 30), (51, .getfield 40, 3, 1), (54, .iconst 1, 1, 5), (55, .isub, 1, 27), (56, .putfield 40, 3, 14), (59, .iload_n 1, 1, 4), (60, .iconst 1, 1, 5), (61, .iadd, 1, 10), (62, .ireturn, 1, 9)]
theorem qk5 : dtC (cX9_behindEnd.data.toList.drop 48) 48 qahB = true := by decide +kernel
def qaaM : List dtR := [(0, .aload_n 0, 1, 0), (1, .getfield 15, 3, 1), (4, .iload_n 1, 1, 4), (5, .iaload, 1, 12), (6, .ifCond .eq 12, 3, 19), (9, .aload_n 0, 1, 0), (10, .getfield 40, 3, 1), (13, .bipush 6, 2, 11), (15, .if_icmp .lt 12, 3, 48), (18, .aload_n 0, 1, 0), (19, .getfield 18, 3, 1), (22, .iload_n 1, 1, 4), (23, .iaload, 1, 12), (24, .iconst 1, 1, 5), (25, .iadd, 1, 10), (26, .ireturn, 1, 9)]
theorem qcM : dtC (cX9_behindAgain.data.toList.drop 0) 0 qaaM = true := by decide +kernel
def q5Q : List dtR := [(27, .aload_n 0, 1, 0), (28, .getfield 27, 3, 1), (31, .aload_n 0, 1, 0), (32, .getfield 40, 3, 1), (35, .aload_n 0, 1, 0), (36, .getfield 15, 3, 1), (39, .iload_n 1, 1, 4), (40, .iaload, 1, 12), (41, .iastore, 1, 22), (42, .aload_n 0, 1, 0), (43, .dup, 1, 30), (44, .getfield 40, 3, 1), (47, .iconst 1, 1, 5), (48, .iadd, 1, 10), (49, .putfield 40, 3, 14), (52, .iload_n 1, 1, 4)]
theorem qcw : dtC (cX9_behindAgain.data.toList.drop 27) 27 q5Q = true := by decide +kernel
def q6g : List dtR := [(53, .iconst 1, 1, 5), (54, .iadd, 1, 10), (55, .ireturn, 1, 9)]
theorem qDN : dtC (cX9_behindAgain.data.toList.drop 53) 53 q6g = true := by decide +kernel
def qaF8 : List dtR := [(0, .aload_n 0, 1, 0), (1, .getfield 11, 3, 1), (4, .iload_n 1, 1, 4), (5, .iaload, 1, 12)]
theorem qKZ : dtC (cX9_doStep.data.toList.drop 0) 0 qaF8 = true := by decide +kernel
theorem dX9_doStep_6 : decode cX9_doStep 6 = .ok (.tableswitch 89 0 2 #[26, 45, 64], 26) := by decide +kernel
def qazi : List dtR := [(32, .aload_n 2, 1, 31), (33, .aload_n 0, 1, 0), (34, .getfield 15, 3, 1), (37, .iload_n 1, 1, 4), (38, .iaload, 1, 12), (39, .aload_n 0, 1, 0), (40, .getfield 18, 3, 1), (43, .iload_n 1, 1, 4), (44, .iaload, 1, 12), (45, .invokevirtual 120, 3, 2), (48, .goto 51, 3, 7), (51, .aload_n 2, 1, 31), (52, .aload_n 0, 1, 0), (53, .getfield 15, 3, 1), (56, .iload_n 1, 1, 4), (57, .iaload, 1, 12)]
theorem qhi : dtC (cX9_doStep.data.toList.drop 32) 32 qazi = true := by decide +kernel
def qavD : List dtR := [(58, .aload_n 0, 1, 0), (59, .getfield 18, 3, 1), (62, .iload_n 1, 1, 4), (63, .iaload, 1, 12), (64, .invokevirtual 126, 3, 2), (67, .goto 32, 3, 7), (70, .aload_n 2, 1, 31), (71, .aload_n 0, 1, 0), (72, .getfield 15, 3, 1), (75, .iload_n 1, 1, 4), (76, .iaload, 1, 12), (77, .aload_n 0, 1, 0), (78, .getfield 18, 3, 1), (81, .iload_n 1, 1, 4), (82, .iaload, 1, 12), (83, .aload_n 0, 1, 0)]
theorem qhG : dtC (cX9_doStep.data.toList.drop 58) 58 qavD = true := by decide +kernel
def qazu : List dtR := [(84, .getfield 21, 3, 1), (87, .iload_n 1, 1, 4), (88, .iaload, 1, 12), (89, .invokevirtual 129, 3, 2), (92, .goto 7, 3, 7), (95, .aload_n 2, 1, 31), (96, .invokevirtual 133, 3, 2), (99, .return_, 1, 24)]
theorem qpe : dtC (cX9_doStep.data.toList.drop 84) 84 qazu = true := by decide +kernel
def qajd : List dtR := [(0, .aload_n 0, 1, 0), (1, .getfield 11, 3, 1), (4, .iload_n 1, 1, 4), (5, .iaload, 1, 12)]
theorem qCD : dtC (cX9_isAllowed.data.toList.drop 0) 0 qajd = true := by decide +kernel
theorem dX9_isAllowed_6 : decode cX9_isAllowed 6 = .ok (.tableswitch 83 0 2 #[26, 43, 60], 26) := by decide +kernel
def qafp : List dtR := [(32, .aload_n 2, 1, 31), (33, .aload_n 0, 1, 0), (34, .getfield 15, 3, 1), (37, .iload_n 1, 1, 4), (38, .iaload, 1, 12), (39, .aload_n 0, 1, 0), (40, .getfield 18, 3, 1), (43, .iload_n 1, 1, 4), (44, .iaload, 1, 12), (45, .invokevirtual 136, 3, 2), (48, .ireturn, 1, 9), (49, .aload_n 2, 1, 31), (50, .aload_n 0, 1, 0), (51, .getfield 15, 3, 1), (54, .iload_n 1, 1, 4), (55, .iaload, 1, 12)]
theorem qc8 : dtC (cX9_isAllowed.data.toList.drop 32) 32 qafp = true := by decide +kernel
def qaeq : List dtR := [(56, .aload_n 0, 1, 0), (57, .getfield 18, 3, 1), (60, .iload_n 1, 1, 4), (61, .iaload, 1, 12), (62, .invokevirtual 140, 3, 2), (65, .ireturn, 1, 9), (66, .aload_n 2, 1, 31), (67, .aload_n 0, 1, 0), (68, .getfield 15, 3, 1), (71, .iload_n 1, 1, 4), (72, .iaload, 1, 12), (73, .aload_n 0, 1, 0), (74, .getfield 18, 3, 1), (77, .iload_n 1, 1, 4), (78, .iaload, 1, 12), (79, .aload_n 0, 1, 0)]
theorem qdc : dtC (cX9_isAllowed.data.toList.drop 56) 56 qaeq = true := by decide +kernel
def qacO : List dtR := [(80, .getfield 21, 3, 1), (83, .iload_n 1, 1, 4), (84, .iaload, 1, 12), (85, .invokevirtual 143, 3, 2), (88, .ireturn, 1, 9), (89, .aload_n 2, 1, 31), (90, .invokevirtual 147, 3, 2), (93, .bipush 40, 2, 11), (95, .if_icmp .ge 7, 3, 18), (98, .iconst 1, 1, 5), (99, .goto 4, 3, 7), (102, .iconst 0, 1, 3), (103, .ireturn, 1, 9)]
theorem qe0 : dtC (cX9_isAllowed.data.toList.drop 80) 80 qacO = true := by decide +kernel
def qaOZ : List dtR := [(0, .aload_n 0, 1, 0), (1, .invokespecial 1, 3, 44), (4, .aload_n 0, 1, 0), (5, .new 7, 3, 52), (8, .dup, 1, 30), (9, .invokespecial 9, 3, 44), (12, .putfield 10, 3, 14), (15, .aload_n 0, 1, 0), (16, .new 16, 3, 52), (19, .dup, 1, 30), (20, .invokespecial 18, 3, 44), (23, .putfield 19, 3, 14), (26, .aload_n 0, 1, 0), (27, .new 16, 3, 52), (30, .dup, 1, 30), (31, .invokespecial 18, 3, 44)]
theorem qmE : dtC (cX10_init.data.toList.drop 0) 0 qaOZ = true := by decide +kernel
def qaHk : List dtR := [(34, .putfield 23, 3, 14), (37, .aload_n 0, 1, 0), (38, .new 26, 3, 52), (41, .dup, 1, 30), (42, .invokespecial 28, 3, 44), (45, .putfield 29, 3, 14), (48, .aload_n 0, 1, 0), (49, .new 26, 3, 52), (52, .dup, 1, 30), (53, .invokespecial 28, 3, 44), (56, .putfield 33, 3, 14), (59, .aload_n 0, 1, 0), (60, .new 36, 3, 52), (63, .dup, 1, 30), (64, .invokespecial 38, 3, 44), (67, .putfield 39, 3, 14)]
theorem qi8 : dtC (cX10_init.data.toList.drop 34) 34 qaHk = true := by decide +kernel
def qaKu : List dtR := [(70, .aload_n 0, 1, 0), (71, .new 36, 3, 52), (74, .dup, 1, 30), (75, .invokespecial 38, 3, 44), (78, .putfield 43, 3, 14), (81, .aload_n 0, 1, 0), (82, .new 46, 3, 52), (85, .dup, 1, 30), (86, .invokespecial 48, 3, 44), (89, .putfield 49, 3, 14), (92, .aload_n 0, 1, 0), (93, .new 53, 3, 52), (96, .dup, 1, 30), (97, .aload_n 0, 1, 0), (98, .getfield 19, 3, 1), (101, .aload_n 0, 1, 0)]
theorem qjJ : dtC (cX10_init.data.toList.drop 70) 70 qaKu = true := by decide +kernel
def qaBc : List dtR := [(102, .getfield 29, 3, 1), (105, .invokespecial 55, 3, 44), (108, .putfield 58, 3, 14), (111, .aload_n 0, 1, 0), (112, .new 53, 3, 52), (115, .dup, 1, 30), (116, .aload_n 0, 1, 0), (117, .getfield 19, 3, 1), (120, .aload_n 0, 1, 0), (121, .getfield 29, 3, 1), (124, .invokespecial 55, 3, 44), (127, .putfield 62, 3, 14), (130, .aload_n 0, 1, 0), (131, .new 65, 3, 52), (134, .dup, 1, 30), (135, .invokespecial 67, 3, 44)]
theorem qgO : dtC (cX10_init.data.toList.drop 102) 102 qaBc = true := by decide +kernel
def qaDW : List dtR := [(138, .putfield 68, 3, 14), (141, .aload_n 0, 1, 0), (142, .iconst 3, 1, 36), (143, .anewarray 65, 3, 93), (146, .putfield 72, 3, 14), (149, .iconst 0, 1, 3), (150, .istore_n 1, 1, 37), (151, .iload_n 1, 1, 4), (152, .iconst 3, 1, 36), (153, .if_icmp .ge 22, 3, 18), (156, .aload_n 0, 1, 0), (157, .getfield 72, 3, 1), (160, .iload_n 1, 1, 4), (161, .new 65, 3, 52), (164, .dup, 1, 30), (165, .invokespecial 67, 3, 44)]
theorem qbi : dtC (cX10_init.data.toList.drop 138) 138 qaDW = true := by decide +kernel
def qaxR : List dtR := [(168, .aastore, 1, 94), (169, .iinc 1 1, 3, 20), (172, .goto (-21), 3, 7), (175, .aload_n 0, 1, 0), (176, .new 76, 3, 52), (179, .dup, 1, 30), (180, .invokespecial 78, 3, 44), (183, .putfield 79, 3, 14), (186, .aload_n 0, 1, 0), (187, .new 83, 3, 52), (190, .dup, 1, 30), (191, .invokespecial 85, 3, 44), (194, .putfield 86, 3, 14), (197, .aload_n 0, 1, 0), (198, .new 90, 3, 52), (201, .dup, 1, 30)]
theorem qcD : dtC (cX10_init.data.toList.drop 168) 168 qaxR = true := by decide +kernel
def qaEo : List dtR := [(202, .invokespecial 92, 3, 44), (205, .putfield 93, 3, 14), (208, .return_, 1, 24)]
theorem qP6 : dtC (cX10_init.data.toList.drop 202) 202 qaEo = true := by decide +kernel
def qaRq : List dtR := [(0, .aload_n 0, 1, 0), (1, .getfield 10, 3, 1), (4, .invokevirtual 97, 3, 2), (7, .ifCond .ne 5, 3, 21), (10, .iconst (-1), 1, 28), (11, .ireturn, 1, 9), (12, .aload_n 0, 1, 0), (13, .getfield 10, 3, 1), (16, .iload_n 1, 1, 4), (17, .invokevirtual 101, 3, 2), (20, .aload_n 0, 1, 0), (21, .getfield 10, 3, 1), (24, .iload_n 2, 1, 8), (25, .invokevirtual 101, 3, 2), (28, .aload_n 0, 1, 0), (29, .getfield 10, 3, 1)]
theorem qlB : dtC (cX10_feed.data.toList.drop 0) 0 qaRq = true := by decide +kernel
def qaKt : List dtR := [(32, .iload_n 3, 1, 13), (33, .invokevirtual 101, 3, 2), (36, .aload_n 0, 1, 0), (37, .getfield 10, 3, 1), (40, .iload 4, 2, 6), (42, .invokevirtual 101, 3, 2), (45, .aload_n 0, 1, 0), (46, .getfield 10, 3, 1), (49, .iload 5, 2, 6), (51, .invokevirtual 101, 3, 2), (54, .aload_n 0, 1, 0), (55, .getfield 10, 3, 1), (58, .getfield 105, 3, 1), (61, .ireturn, 1, 9)]
theorem qns : dtC (cX10_feed.data.toList.drop 32) 32 qaKt = true := by decide +kernel
def qaNf : List dtR := [(0, .aload_n 0, 1, 0), (1, .iload_n 1, 1, 4), (2, .sipush 600, 3, 33), (5, .invokevirtual 109, 3, 2), (8, .aload_n 0, 1, 0), (9, .getfield 23, 3, 1), (12, .aload_n 0, 1, 0), (13, .getfield 10, 3, 1), (16, .invokevirtual 113, 3, 2), (19, .aload_n 0, 1, 0), (20, .getfield 10, 3, 1), (23, .invokevirtual 117, 3, 2), (26, .ifCond .eq 14, 3, 19), (29, .aload_n 0, 1, 0), (30, .getfield 10, 3, 1), (33, .getfield 120, 3, 1)]
theorem qlZ : dtC (cX10_down.data.toList.drop 0) 0 qaNf = true := by decide +kernel
def qaFm : List dtR := [(36, .bipush 10, 2, 11), (38, .isub, 1, 27), (39, .ireturn, 1, 9), (40, .aload_n 0, 1, 0), (41, .getfield 19, 3, 1), (44, .astore_n 2, 1, 78), (45, .aload_n 0, 1, 0), (46, .aload_n 0, 1, 0), (47, .getfield 23, 3, 1), (50, .putfield 19, 3, 14), (53, .aload_n 0, 1, 0), (54, .aload_n 2, 1, 31), (55, .putfield 23, 3, 14), (58, .aload_n 0, 1, 0), (59, .getfield 29, 3, 1), (62, .invokevirtual 123, 3, 2)]
theorem qkh : dtC (cX10_down.data.toList.drop 36) 36 qaFm = true := by decide +kernel
def qaIY : List dtR := [(65, .aload_n 0, 1, 0), (66, .getfield 39, 3, 1), (69, .invokevirtual 126, 3, 2), (72, .aload_n 0, 1, 0), (73, .getfield 58, 3, 1), (76, .aload_n 0, 1, 0), (77, .getfield 19, 3, 1), (80, .aload_n 0, 1, 0), (81, .getfield 29, 3, 1), (84, .invokevirtual 129, 3, 2), (87, .aload_n 0, 1, 0), (88, .getfield 68, 3, 1), (91, .iconst 0, 1, 3), (92, .putfield 132, 3, 14), (95, .aload_n 0, 1, 0), (96, .iconst 0, 1, 3)]
theorem qki : dtC (cX10_down.data.toList.drop 65) 65 qaIY = true := by decide +kernel
def qaFc : List dtR := [(97, .putfield 135, 3, 14), (100, .aload_n 0, 1, 0), (101, .iconst 0, 1, 3), (102, .putfield 138, 3, 14), (105, .aload_n 0, 1, 0), (106, .getfield 19, 3, 1), (109, .getfield 141, 3, 1), (112, .ireturn, 1, 9)]
theorem qvs : dtC (cX10_down.data.toList.drop 97) 97 qaFc = true := by decide +kernel
def qaVh : List dtR := [(0, .aload_n 0, 1, 0), (1, .iload_n 1, 1, 4), (2, .sipush 150, 3, 33), (5, .invokevirtual 109, 3, 2), (8, .aload_n 0, 1, 0), (9, .getfield 33, 3, 1), (12, .aload_n 0, 1, 0), (13, .getfield 10, 3, 1), (16, .invokevirtual 144, 3, 2), (19, .aload_n 0, 1, 0), (20, .getfield 10, 3, 1), (23, .invokevirtual 117, 3, 2), (26, .ifCond .eq 14, 3, 19), (29, .aload_n 0, 1, 0), (30, .getfield 10, 3, 1), (33, .getfield 120, 3, 1)]
theorem qoD : dtC (cX10_law.data.toList.drop 0) 0 qaVh = true := by decide +kernel
def qaRr : List dtR := [(36, .bipush 10, 2, 11), (38, .isub, 1, 27), (39, .ireturn, 1, 9), (40, .aload_n 0, 1, 0), (41, .getfield 29, 3, 1), (44, .astore_n 2, 1, 78), (45, .aload_n 0, 1, 0), (46, .aload_n 0, 1, 0), (47, .getfield 33, 3, 1), (50, .putfield 29, 3, 14), (53, .aload_n 0, 1, 0), (54, .aload_n 2, 1, 31), (55, .putfield 33, 3, 14), (58, .aload_n 0, 1, 0), (59, .getfield 58, 3, 1), (62, .aload_n 0, 1, 0)]
theorem qlT : dtC (cX10_law.data.toList.drop 36) 36 qaRr = true := by decide +kernel
def qaMB : List dtR := [(63, .getfield 29, 3, 1), (66, .invokevirtual 145, 3, 2), (69, .iconst 1, 1, 5), (70, .ireturn, 1, 9)]
theorem qOb : dtC (cX10_law.data.toList.drop 63) 63 qaMB = true := by decide +kernel
def qaNH : List dtR := [(0, .aload_n 0, 1, 0), (1, .iload_n 1, 1, 4), (2, .sipush 150, 3, 33), (5, .invokevirtual 109, 3, 2), (8, .aload_n 0, 1, 0), (9, .getfield 68, 3, 1), (12, .getfield 132, 3, 1), (15, .bipush 16, 2, 11), (17, .if_icmp .lt 6, 3, 48), (20, .bipush (-20), 2, 11), (22, .ireturn, 1, 9), (23, .aload_n 0, 1, 0), (24, .getfield 49, 3, 1), (27, .aload_n 0, 1, 0), (28, .getfield 10, 3, 1), (31, .aload_n 0, 1, 0)]
theorem qlF : dtC (cX10_work.data.toList.drop 0) 0 qaNH = true := by decide +kernel
def qaFL : List dtR := [(32, .getfield 19, 3, 1), (35, .getfield 141, 3, 1), (38, .aload_n 0, 1, 0), (39, .getfield 19, 3, 1), (42, .getfield 149, 3, 1), (45, .invokevirtual 152, 3, 2), (48, .aload_n 0, 1, 0), (49, .getfield 10, 3, 1), (52, .invokevirtual 117, 3, 2), (55, .ifCond .eq 14, 3, 19), (58, .aload_n 0, 1, 0), (59, .getfield 10, 3, 1), (62, .getfield 120, 3, 1), (65, .bipush 10, 2, 11), (67, .isub, 1, 27), (68, .ireturn, 1, 9)]
theorem qiP : dtC (cX10_work.data.toList.drop 32) 32 qaFL = true := by decide +kernel
def qaFd : List dtR := [(69, .aload_n 0, 1, 0), (70, .getfield 68, 3, 1), (73, .aload_n 0, 1, 0), (74, .getfield 58, 3, 1), (77, .invokevirtual 155, 3, 2), (80, .aload_n 0, 1, 0), (81, .getfield 49, 3, 1), (84, .aload_n 0, 1, 0), (85, .getfield 58, 3, 1), (88, .invokevirtual 159, 3, 2), (91, .aload_n 0, 1, 0), (92, .aload_n 0, 1, 0), (93, .getfield 49, 3, 1), (96, .getfield 162, 3, 1), (99, .putfield 138, 3, 14), (102, .aload_n 0, 1, 0)]
theorem qjY : dtC (cX10_work.data.toList.drop 69) 69 qaFd = true := by decide +kernel
def qaCV : List dtR := [(103, .getfield 49, 3, 1), (106, .getfield 165, 3, 1), (109, .ireturn, 1, 9)]
theorem qPV : dtC (cX10_work.data.toList.drop 103) 103 qaCV = true := by decide +kernel
def qaR1 : List dtR := [(0, .aload_n 0, 1, 0), (1, .iload_n 1, 1, 4), (2, .bipush 60, 2, 11), (4, .invokevirtual 109, 3, 2), (7, .aload_n 0, 1, 0), (8, .getfield 43, 3, 1), (11, .aload_n 0, 1, 0), (12, .getfield 10, 3, 1), (15, .aload_n 0, 1, 0), (16, .getfield 19, 3, 1), (19, .getfield 149, 3, 1), (22, .invokevirtual 168, 3, 2), (25, .aload_n 0, 1, 0), (26, .getfield 10, 3, 1), (29, .invokevirtual 117, 3, 2), (32, .ifCond .eq 14, 3, 19)]
theorem qmH : dtC (cX10_book.data.toList.drop 0) 0 qaR1 = true := by decide +kernel
def qaGn : List dtR := [(35, .aload_n 0, 1, 0), (36, .getfield 10, 3, 1), (39, .getfield 120, 3, 1), (42, .bipush 10, 2, 11), (44, .isub, 1, 27), (45, .ireturn, 1, 9), (46, .aload_n 0, 1, 0), (47, .getfield 39, 3, 1), (50, .astore_n 2, 1, 78), (51, .aload_n 0, 1, 0), (52, .aload_n 0, 1, 0), (53, .getfield 43, 3, 1), (56, .putfield 39, 3, 14), (59, .aload_n 0, 1, 0), (60, .aload_n 2, 1, 31), (61, .putfield 43, 3, 14)]
theorem qiZ : dtC (cX10_book.data.toList.drop 35) 35 qaGn = true := by decide +kernel
def qaGF : List dtR := [(64, .aload_n 0, 1, 0), (65, .getfield 39, 3, 1), (68, .getfield 171, 3, 1), (71, .ireturn, 1, 9)]
theorem qK4 : dtC (cX10_book.data.toList.drop 64) 64 qaGF = true := by decide +kernel
def qaKO : List dtR := [(0, .aload_n 0, 1, 0), (1, .getfield 10, 3, 1), (4, .getfield 174, 3, 1), (7, .ireturn, 1, 9)]
theorem qKO : dtC (cX10_fault.data.toList.drop 0) 0 qaKO = true := by decide +kernel
def qaMv : List dtR := [(0, .aload_n 0, 1, 0), (1, .getfield 68, 3, 1), (4, .getfield 132, 3, 1), (7, .ifCond .ne 5, 3, 21), (10, .iconst (-1), 1, 28), (11, .ireturn, 1, 9), (12, .aload_n 0, 1, 0), (13, .getfield 68, 3, 1), (16, .aload_n 0, 1, 0), (17, .getfield 58, 3, 1), (20, .invokevirtual 177, 3, 2), (23, .aload_n 0, 1, 0), (24, .iconst 0, 1, 3), (25, .putfield 138, 3, 14), (28, .aload_n 0, 1, 0), (29, .getfield 68, 3, 1)]
theorem qmn : dtC (cX10_undo.data.toList.drop 0) 0 qaMv = true := by decide +kernel
def qaJo : List dtR := [(32, .getfield 132, 3, 1), (35, .ireturn, 1, 9)]
theorem q71 : dtC (cX10_undo.data.toList.drop 32) 32 qaJo = true := by decide +kernel
def qaOi : List dtR := [(0, .aload_n 0, 1, 0), (1, .iload_n 1, 1, 4), (2, .iconst 0, 1, 3), (3, .bipush 11, 2, 11), (5, .invokevirtual 180, 3, 2), (8, .iload_n 1, 1, 4)]
theorem qCT : dtC (cX10_told.data.toList.drop 0) 0 qaOi = true := by decide +kernel
theorem dX10_told_9 : decode cX10_told 9 = .ok (.tableswitch 144 0 10 #[59, 67, 75, 83, 91, 99, 107, 115, 123, 131, 139], 59) := by decide +kernel
def qaEG : List dtR := [(68, .aload_n 0, 1, 0), (69, .getfield 19, 3, 1), (72, .getfield 149, 3, 1), (75, .ireturn, 1, 9), (76, .aload_n 0, 1, 0), (77, .getfield 19, 3, 1), (80, .getfield 141, 3, 1), (83, .ireturn, 1, 9), (84, .aload_n 0, 1, 0), (85, .getfield 19, 3, 1), (88, .getfield 184, 3, 1), (91, .ireturn, 1, 9), (92, .aload_n 0, 1, 0), (93, .getfield 58, 3, 1), (96, .invokevirtual 187, 3, 2), (99, .ireturn, 1, 9)]
theorem qkf : dtC (cX10_told.data.toList.drop 68) 68 qaEG = true := by decide +kernel
def qazU : List dtR := [(100, .aload_n 0, 1, 0), (101, .getfield 58, 3, 1), (104, .invokevirtual 191, 3, 2), (107, .ireturn, 1, 9), (108, .aload_n 0, 1, 0), (109, .getfield 58, 3, 1), (112, .invokevirtual 194, 3, 2), (115, .ireturn, 1, 9), (116, .aload_n 0, 1, 0), (117, .getfield 58, 3, 1), (120, .invokevirtual 197, 3, 2), (123, .ireturn, 1, 9), (124, .aload_n 0, 1, 0), (125, .getfield 19, 3, 1), (128, .getfield 200, 3, 1), (131, .ireturn, 1, 9)]
theorem qhg : dtC (cX10_told.data.toList.drop 100) 100 qazU = true := by decide +kernel
def qaBd : List dtR := [(132, .aload_n 0, 1, 0), (133, .getfield 58, 3, 1), (136, .invokevirtual 203, 3, 2), (139, .ireturn, 1, 9), (140, .aload_n 0, 1, 0), (141, .getfield 39, 3, 1), (144, .getfield 171, 3, 1), (147, .ireturn, 1, 9), (148, .aload_n 0, 1, 0), (149, .getfield 138, 3, 1), (152, .ireturn, 1, 9), (153, .aload_n 0, 1, 0), (154, .getfield 58, 3, 1), (157, .invokevirtual 206, 3, 2), (160, .ireturn, 1, 9)]
theorem qiq : dtC (cX10_told.data.toList.drop 132) 132 qaBd = true := by decide +kernel
def qaND : List dtR := [(0, .aload_n 0, 1, 0), (1, .iload_n 1, 1, 4), (2, .invokevirtual 209, 3, 2), (5, .aload_n 0, 1, 0), (6, .iload_n 2, 1, 8), (7, .iconst 0, 1, 3), (8, .iconst 3, 1, 36), (9, .invokevirtual 180, 3, 2), (12, .iload_n 2, 1, 8)]
theorem qu4 : dtC (cX10_form.data.toList.drop 0) 0 qaND = true := by decide +kernel
theorem dX10_form_13 : decode cX10_form 13 = .ok (.tableswitch 64 0 2 #[27, 37, 47], 27) := by decide +kernel
def qaKj : List dtR := [(40, .aload_n 0, 1, 0), (41, .getfield 19, 3, 1), (44, .getfield 212, 3, 1), (47, .iload_n 1, 1, 4), (48, .iaload, 1, 12), (49, .ireturn, 1, 9), (50, .aload_n 0, 1, 0), (51, .getfield 19, 3, 1), (54, .getfield 216, 3, 1), (57, .iload_n 1, 1, 4), (58, .iaload, 1, 12), (59, .ireturn, 1, 9), (60, .aload_n 0, 1, 0), (61, .getfield 19, 3, 1), (64, .iload_n 1, 1, 4), (65, .invokevirtual 219, 3, 2)]
theorem qkn : dtC (cX10_form.data.toList.drop 40) 40 qaKj = true := by decide +kernel
def qaIm : List dtR := [(68, .ifCond .eq 7, 3, 19), (71, .iconst 1, 1, 5), (72, .goto 4, 3, 7), (75, .iconst 0, 1, 3), (76, .ireturn, 1, 9), (77, .aload_n 0, 1, 0), (78, .getfield 58, 3, 1), (81, .iload_n 1, 1, 4), (82, .invokevirtual 223, 3, 2), (85, .ireturn, 1, 9)]
theorem qqA : dtC (cX10_form.data.toList.drop 68) 68 qaIm = true := by decide +kernel
def qaSO : List dtR := [(0, .aload_n 0, 1, 0), (1, .iload_n 1, 1, 4), (2, .invokevirtual 227, 3, 2), (5, .aload_n 0, 1, 0), (6, .iload_n 2, 1, 8), (7, .iconst 0, 1, 3), (8, .bipush 7, 2, 11), (10, .invokevirtual 180, 3, 2), (13, .iload_n 2, 1, 8)]
theorem quY : dtC (cX10_hare.data.toList.drop 0) 0 qaSO = true := by decide +kernel
theorem dX10_hare_14 : decode cX10_hare 14 = .ok (.tableswitch 121 0 6 #[42, 66, 75, 85, 94, 103, 112], 42) := by decide +kernel
def qaHp : List dtR := [(56, .aload_n 0, 1, 0), (57, .getfield 58, 3, 1), (60, .iload_n 1, 1, 4), (61, .invokevirtual 230, 3, 2), (64, .ifCond .eq 7, 3, 19), (67, .iconst (-1), 1, 28), (68, .goto 11, 3, 7), (71, .aload_n 0, 1, 0), (72, .getfield 58, 3, 1), (75, .iload_n 1, 1, 4), (76, .invokevirtual 233, 3, 2), (79, .ireturn, 1, 9), (80, .aload_n 0, 1, 0), (81, .getfield 58, 3, 1), (84, .iload_n 1, 1, 4), (85, .invokevirtual 236, 3, 2)]
theorem qh7 : dtC (cX10_hare.data.toList.drop 56) 56 qaHp = true := by decide +kernel
def qaFX : List dtR := [(88, .ireturn, 1, 9), (89, .aload_n 0, 1, 0), (90, .getfield 19, 3, 1), (93, .getfield 239, 3, 1), (96, .iload_n 1, 1, 4), (97, .iaload, 1, 12), (98, .ireturn, 1, 9), (99, .aload_n 0, 1, 0), (100, .getfield 58, 3, 1), (103, .iload_n 1, 1, 4), (104, .invokevirtual 242, 3, 2), (107, .ireturn, 1, 9), (108, .aload_n 0, 1, 0), (109, .getfield 58, 3, 1), (112, .iload_n 1, 1, 4), (113, .invokevirtual 245, 3, 2)]
theorem qj5 : dtC (cX10_hare.data.toList.drop 88) 88 qaFX = true := by decide +kernel
def qaBQ : List dtR := [(116, .ireturn, 1, 9), (117, .aload_n 0, 1, 0), (118, .getfield 58, 3, 1), (121, .iload_n 1, 1, 4), (122, .invokevirtual 248, 3, 2), (125, .ireturn, 1, 9), (126, .aload_n 0, 1, 0), (127, .getfield 58, 3, 1), (130, .iload_n 1, 1, 4), (131, .invokevirtual 251, 3, 2), (134, .ireturn, 1, 9), (135, .aload_n 0, 1, 0), (136, .getfield 58, 3, 1), (139, .iload_n 1, 1, 4), (140, .invokevirtual 230, 3, 2), (143, .ifCond .eq 7, 3, 19)]
theorem qg2 : dtC (cX10_hare.data.toList.drop 116) 116 qaBQ = true := by decide +kernel
def qaCP : List dtR := [(146, .iconst 0, 1, 3), (147, .goto 11, 3, 7), (150, .aload_n 0, 1, 0), (151, .getfield 58, 3, 1), (154, .iload_n 1, 1, 4), (155, .invokevirtual 254, 3, 2), (158, .ireturn, 1, 9)]
theorem qtZ : dtC (cX10_hare.data.toList.drop 146) 146 qaCP = true := by decide +kernel
def qaUV : List dtR := [(0, .iload_n 1, 1, 4), (1, .iconst 0, 1, 3), (2, .aload_n 0, 1, 0), (3, .getfield 19, 3, 1), (6, .getfield 184, 3, 1), (9, .iconst 1, 1, 5), (10, .isub, 1, 27), (11, .invokestatic 257, 3, 16), (14, .ifCond .ne 24, 3, 21), (17, .aload_n 0, 1, 0), (18, .dup, 1, 30), (19, .getfield 261, 3, 1), (22, .iconst 1, 1, 5), (23, .iadd, 1, 10), (24, .putfield 261, 3, 14), (27, .new 264, 3, 52)]
theorem qoj : dtC (cX10_fox.data.toList.drop 0) 0 qaUV = true := by decide +kernel
def qaNG : List dtR := [(30, .dup, 1, 30), (31, .ldc_w 266, 3, 50), (34, .invokespecial 268, 3, 44), (37, .athrow, 1, 70), (38, .aload_n 0, 1, 0), (39, .iload_n 2, 1, 8), (40, .iconst 0, 1, 3), (41, .iconst 1, 1, 5), (42, .invokevirtual 180, 3, 2), (45, .iload_n 2, 1, 8), (46, .ifCond .ne 15, 3, 21), (49, .aload_n 0, 1, 0), (50, .getfield 19, 3, 1), (53, .getfield 271, 3, 1), (56, .iload_n 1, 1, 4), (57, .iaload, 1, 12)]
theorem qmI : dtC (cX10_fox.data.toList.drop 30) 30 qaNG = true := by decide +kernel
def qaOM : List dtR := [(58, .goto 12, 3, 7), (61, .aload_n 0, 1, 0), (62, .getfield 19, 3, 1), (65, .getfield 274, 3, 1), (68, .iload_n 1, 1, 4), (69, .iaload, 1, 12), (70, .ireturn, 1, 9)]
theorem qxj : dtC (cX10_fox.data.toList.drop 58) 58 qaOM = true := by decide +kernel
def qaSL : List dtR := [(0, .aload_n 0, 1, 0), (1, .iload_n 1, 1, 4), (2, .invokevirtual 227, 3, 2), (5, .aload_n 0, 1, 0), (6, .iload_n 2, 1, 8), (7, .invokevirtual 227, 3, 2), (10, .aload_n 0, 1, 0), (11, .getfield 58, 3, 1), (14, .iload_n 1, 1, 4), (15, .iload_n 2, 1, 8), (16, .invokevirtual 277, 3, 2), (19, .ireturn, 1, 9)]
theorem qqX : dtC (cX10_debt.data.toList.drop 0) 0 qaSL = true := by decide +kernel
def qaTX : List dtR := [(0, .aload_n 0, 1, 0), (1, .iload_n 1, 1, 4), (2, .invokevirtual 209, 3, 2), (5, .aload_n 0, 1, 0), (6, .iload_n 2, 1, 8), (7, .invokevirtual 209, 3, 2), (10, .aload_n 0, 1, 0), (11, .getfield 19, 3, 1), (14, .iload_n 1, 1, 4), (15, .iload_n 2, 1, 8), (16, .invokevirtual 281, 3, 2), (19, .ireturn, 1, 9)]
theorem qsK : dtC (cX10_far.data.toList.drop 0) 0 qaTX = true := by decide +kernel
def qaFF : List dtR := [(0, .aload_n 0, 1, 0), (1, .iload_n 1, 1, 4), (2, .iconst 0, 1, 3), (3, .bipush 9, 2, 11), (5, .invokevirtual 180, 3, 2), (8, .aload_n 0, 1, 0), (9, .iload_n 2, 1, 8), (10, .iconst 0, 1, 3), (11, .sipush 999, 3, 33), (14, .invokevirtual 180, 3, 2), (17, .aload_n 0, 1, 0), (18, .iload_n 3, 1, 13), (19, .iconst 0, 1, 3), (20, .sipush 999, 3, 33), (23, .invokevirtual 180, 3, 2), (26, .aload_n 0, 1, 0)]
theorem qjn : dtC (cX10_would.data.toList.drop 0) 0 qaFF = true := by decide +kernel
def qaBN : List dtR := [(27, .iload 4, 2, 6), (29, .iconst 0, 1, 3), (30, .sipush 999, 3, 33), (33, .invokevirtual 180, 3, 2), (36, .aload_n 0, 1, 0), (37, .iload 5, 2, 6), (39, .iconst 0, 1, 3), (40, .iconst 5, 1, 49), (41, .invokevirtual 180, 3, 2), (44, .aload_n 0, 1, 0), (45, .iload 6, 2, 6), (47, .iconst 1, 1, 5), (48, .bipush 31, 2, 11), (50, .invokevirtual 180, 3, 2), (53, .aload_n 0, 1, 0), (54, .iload 7, 2, 6)]
theorem qhu : dtC (cX10_would.data.toList.drop 27) 27 qaBN = true := by decide +kernel
def qavC : List dtR := [(56, .iconst 0, 1, 3), (57, .iconst 5, 1, 49), (58, .invokevirtual 180, 3, 2), (61, .aload_n 0, 1, 0), (62, .iload 8, 2, 6), (64, .iconst 0, 1, 3), (65, .sipush 999, 3, 33), (68, .invokevirtual 180, 3, 2), (71, .aload_n 0, 1, 0), (72, .getfield 29, 3, 1), (75, .iload_n 1, 1, 4), (76, .iload_n 2, 1, 8), (77, .iload_n 3, 1, 13), (78, .iload 4, 2, 6), (80, .iload 5, 2, 6), (82, .invokevirtual 284, 3, 2)]
theorem qhB : dtC (cX10_would.data.toList.drop 56) 56 qavC = true := by decide +kernel
def qaDO : List dtR := [(85, .aload_n 0, 1, 0), (86, .getfield 29, 3, 1), (89, .iload 6, 2, 6), (91, .iload 7, 2, 6), (93, .iload 8, 2, 6), (95, .invokevirtual 288, 3, 2), (98, .aload_n 0, 1, 0), (99, .getfield 29, 3, 1), (102, .invokevirtual 291, 3, 2), (105, .ireturn, 1, 9)]
theorem qqD : dtC (cX10_would.data.toList.drop 85) 85 qaDO = true := by decide +kernel
def qaVU : List dtR := [(0, .aload_n 0, 1, 0), (1, .iload_n 1, 1, 4), (2, .invokevirtual 227, 3, 2), (5, .aload_n 0, 1, 0), (6, .iload_n 2, 1, 8), (7, .invokevirtual 209, 3, 2), (10, .aload_n 0, 1, 0), (11, .getfield 58, 3, 1), (14, .iload_n 1, 1, 4), (15, .iload_n 2, 1, 8), (16, .invokevirtual 293, 3, 2), (19, .ireturn, 1, 9)]
theorem qsG : dtC (cX10_can.data.toList.drop 0) 0 qaVU = true := by decide +kernel
def qaJg : List dtR := [(0, .aload_n 0, 1, 0), (1, .iload_n 1, 1, 4), (2, .iconst 0, 1, 3), (3, .bipush 99, 2, 11), (5, .invokevirtual 180, 3, 2), (8, .aload_n 0, 1, 0), (9, .iload_n 2, 1, 8), (10, .iconst 0, 1, 3), (11, .iconst 2, 1, 25), (12, .invokevirtual 180, 3, 2), (15, .aload_n 0, 1, 0), (16, .getfield 62, 3, 1), (19, .aload_n 0, 1, 0), (20, .getfield 58, 3, 1), (23, .invokevirtual 297, 3, 2), (26, .iconst 0, 1, 3)]
theorem qiH : dtC (cX10_ahead.data.toList.drop 0) 0 qaJg = true := by decide +kernel
def qayA : List dtR := [(27, .istore_n 3, 1, 26), (28, .iload_n 3, 1, 13), (29, .iload_n 1, 1, 4), (30, .if_icmp .ge 16, 3, 18), (33, .aload_n 0, 1, 0), (34, .getfield 62, 3, 1), (37, .invokevirtual 300, 3, 2), (40, .iinc 3 1, 3, 20), (43, .goto (-15), 3, 7), (46, .iload_n 2, 1, 8)]
theorem qqC : dtC (cX10_ahead.data.toList.drop 27) 27 qayA = true := by decide +kernel
theorem dX10_ahead_47 : decode cX10_ahead 47 = .ok (.lookupswitch 41 #[(0, 25), (1, 33)], 25) := by decide +kernel
def qaDM : List dtR := [(72, .aload_n 0, 1, 0), (73, .getfield 62, 3, 1), (76, .invokevirtual 187, 3, 2), (79, .ireturn, 1, 9), (80, .aload_n 0, 1, 0), (81, .getfield 62, 3, 1), (84, .invokevirtual 194, 3, 2), (87, .ireturn, 1, 9), (88, .aload_n 0, 1, 0), (89, .getfield 62, 3, 1), (92, .invokevirtual 203, 3, 2), (95, .ireturn, 1, 9)]
theorem qn8 : dtC (cX10_ahead.data.toList.drop 72) 72 qaDM = true := by decide +kernel
def qaRg : List dtR := [(0, .aload_n 0, 1, 0), (1, .iload_n 1, 1, 4), (2, .invokevirtual 227, 3, 2), (5, .aload_n 0, 1, 0), (6, .iload_n 2, 1, 8), (7, .invokevirtual 209, 3, 2), (10, .aload_n 0, 1, 0), (11, .getfield 58, 3, 1), (14, .iload_n 1, 1, 4), (15, .invokevirtual 230, 3, 2), (18, .ifCond .eq 5, 3, 19), (21, .iconst (-1), 1, 28), (22, .ireturn, 1, 9), (23, .aload_n 0, 1, 0), (24, .getfield 19, 3, 1), (27, .aload_n 0, 1, 0)]
theorem qlH : dtC (cX10_hops.data.toList.drop 0) 0 qaRg = true := by decide +kernel
def qaFJ : List dtR := [(28, .getfield 58, 3, 1), (31, .iload_n 1, 1, 4), (32, .invokevirtual 233, 3, 2), (35, .iload_n 2, 1, 8), (36, .aload_n 0, 1, 0), (37, .getfield 58, 3, 1), (40, .iload_n 1, 1, 4), (41, .invokevirtual 254, 3, 2), (44, .invokevirtual 303, 3, 2), (47, .ireturn, 1, 9)]
theorem qrN : dtC (cX10_hops.data.toList.drop 28) 28 qaFJ = true := by decide +kernel
def qaKM : List dtR := [(0, .aload_n 0, 1, 0), (1, .getfield 86, 3, 1), (4, .aload_n 0, 1, 0), (5, .getfield 58, 3, 1), (8, .invokevirtual 307, 3, 2), (11, .aload_n 0, 1, 0), (12, .getfield 86, 3, 1), (15, .getfield 310, 3, 1), (18, .ireturn, 1, 9)]
theorem qtK : dtC (cX10_seats.data.toList.drop 0) 0 qaKM = true := by decide +kernel
def qaQm : List dtR := [(0, .aload_n 0, 1, 0), (1, .iload_n 1, 1, 4), (2, .invokevirtual 227, 3, 2), (5, .aload_n 0, 1, 0), (6, .getfield 86, 3, 1), (9, .aload_n 0, 1, 0), (10, .getfield 58, 3, 1), (13, .invokevirtual 307, 3, 2), (16, .aload_n 0, 1, 0), (17, .getfield 86, 3, 1), (20, .getfield 313, 3, 1), (23, .iload_n 1, 1, 4), (24, .iaload, 1, 12), (25, .ireturn, 1, 9)]
theorem qoW : dtC (cX10_seat.data.toList.drop 0) 0 qaQm = true := by decide +kernel
def qaQI : List dtR := [(0, .aload_n 0, 1, 0), (1, .getfield 79, 3, 1), (4, .aload_n 0, 1, 0), (5, .getfield 19, 3, 1), (8, .invokevirtual 316, 3, 2), (11, .aload_n 0, 1, 0), (12, .getfield 79, 3, 1), (15, .getfield 319, 3, 1), (18, .ireturn, 1, 9)]
theorem qu3 : dtC (cX10_ring.data.toList.drop 0) 0 qaQI = true := by decide +kernel
def qay3 : List dtR := [(0, .aload_n 0, 1, 0), (1, .iload_n 1, 1, 4), (2, .ifCond .lt 7, 3, 57), (5, .iconst 1, 1, 5), (6, .goto 4, 3, 7), (9, .iconst 0, 1, 3), (10, .invokevirtual 322, 3, 2), (13, .iload_n 1, 1, 4), (14, .aload_n 0, 1, 0), (15, .getfield 19, 3, 1), (18, .getfield 149, 3, 1), (21, .if_icmp .lt 5, 3, 48), (24, .iconst (-1), 1, 28), (25, .ireturn, 1, 9), (26, .aload_n 0, 1, 0), (27, .getfield 79, 3, 1)]
theorem qhZ : dtC (cX10_ringed.data.toList.drop 0) 0 qay3 = true := by decide +kernel
def qarp : List dtR := [(30, .aload_n 0, 1, 0), (31, .getfield 19, 3, 1), (34, .invokevirtual 316, 3, 2), (37, .aload_n 0, 1, 0), (38, .getfield 79, 3, 1), (41, .getfield 326, 3, 1), (44, .iload_n 1, 1, 4), (45, .iaload, 1, 12), (46, .ireturn, 1, 9)]
theorem qqQ : dtC (cX10_ringed.data.toList.drop 30) 30 qarp = true := by decide +kernel
def qaK8 : List dtR := [(0, .aload_n 0, 1, 0), (1, .iload_n 1, 1, 4), (2, .invokevirtual 227, 3, 2), (5, .aload_n 0, 1, 0), (6, .getfield 58, 3, 1), (9, .iload_n 1, 1, 4), (10, .invokevirtual 230, 3, 2), (13, .ifCond .eq 5, 3, 19), (16, .iconst 0, 1, 3), (17, .ireturn, 1, 9), (18, .aload_n 0, 1, 0), (19, .getfield 58, 3, 1), (22, .invokevirtual 329, 3, 2), (25, .istore_n 2, 1, 29), (26, .iconst 0, 1, 3), (27, .istore_n 3, 1, 26)]
theorem qj9 : dtC (cX10_bouts.data.toList.drop 0) 0 qaK8 = true := by decide +kernel
def qayT : List dtR := [(28, .iconst 0, 1, 3), (29, .istore 4, 2, 15), (31, .iload 4, 2, 6), (33, .aload_n 0, 1, 0), (34, .getfield 19, 3, 1), (37, .getfield 141, 3, 1), (40, .if_icmp .ge 46, 3, 18), (43, .iload_n 2, 1, 8), (44, .iload 4, 2, 6), (46, .invokestatic 332, 3, 16), (49, .ifCond .eq 31, 3, 19), (52, .iload_n 3, 1, 13), (53, .aload_n 0, 1, 0), (54, .getfield 58, 3, 1), (57, .iload_n 1, 1, 4), (58, .iload 4, 2, 6)]
theorem qhE : dtC (cX10_bouts.data.toList.drop 28) 28 qayT = true := by decide +kernel
def qazq : List dtR := [(60, .aload_n 0, 1, 0), (61, .getfield 58, 3, 1), (64, .iload 4, 2, 6), (66, .invokevirtual 236, 3, 2), (69, .iload_n 2, 1, 8), (70, .iconst 1, 1, 5), (71, .iload 4, 2, 6), (73, .ishl, 1, 32), (74, .ixor, 1, 59), (75, .invokestatic 335, 3, 16), (78, .iadd, 1, 10), (79, .istore_n 3, 1, 26), (80, .iinc 4 1, 3, 20), (83, .goto (-52), 3, 7), (86, .iload_n 3, 1, 13), (87, .ireturn, 1, 9)]
theorem qgE : dtC (cX10_bouts.data.toList.drop 60) 60 qazq = true := by decide +kernel
def qaRH : List dtR := [(0, .aload_n 0, 1, 0), (1, .iload_n 1, 1, 4), (2, .iconst 0, 1, 3), (3, .iconst 1, 1, 5), (4, .invokevirtual 180, 3, 2), (7, .aload_n 0, 1, 0), (8, .getfield 93, 3, 1), (11, .aload_n 0, 1, 0), (12, .getfield 58, 3, 1), (15, .aload_n 0, 1, 0), (16, .getfield 39, 3, 1), (19, .invokevirtual 339, 3, 2), (22, .iload_n 1, 1, 4), (23, .ifCond .ne 13, 3, 21), (26, .aload_n 0, 1, 0), (27, .getfield 93, 3, 1)]
theorem qmQ : dtC (cX10_fits.data.toList.drop 0) 0 qaRH = true := by decide +kernel
def qaH2 : List dtR := [(30, .getfield 342, 3, 1), (33, .goto 10, 3, 7), (36, .aload_n 0, 1, 0), (37, .getfield 93, 3, 1), (40, .getfield 343, 3, 1), (43, .ireturn, 1, 9)]
theorem qxQ : dtC (cX10_fits.data.toList.drop 30) 30 qaH2 = true := by decide +kernel
def qaRO : List dtR := [(0, .aload_n 0, 1, 0), (1, .iload_n 1, 1, 4), (2, .iconst 0, 1, 3), (3, .iconst 1, 1, 5), (4, .invokevirtual 180, 3, 2), (7, .aload_n 0, 1, 0), (8, .getfield 93, 3, 1), (11, .aload_n 0, 1, 0), (12, .getfield 58, 3, 1), (15, .aload_n 0, 1, 0), (16, .getfield 39, 3, 1), (19, .invokevirtual 339, 3, 2), (22, .aload_n 0, 1, 0), (23, .getfield 93, 3, 1), (26, .invokevirtual 346, 3, 2), (29, .iload_n 1, 1, 4)]
theorem qlx : dtC (cX10_look.data.toList.drop 0) 0 qaRO = true := by decide +kernel
def qaG1 : List dtR := [(30, .ifCond .ne 13, 3, 21), (33, .aload_n 0, 1, 0), (34, .getfield 93, 3, 1), (37, .getfield 349, 3, 1), (40, .goto 10, 3, 7)]
theorem qEf : dtC (cX10_look.data.toList.drop 30) 30 qaG1 = true := by decide +kernel
