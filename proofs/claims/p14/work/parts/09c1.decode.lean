def tdX4_joined_k72 : List dkR := [(72, .iload_n 1, 1), (73, .iload_n 2, 1), (74, .irem, 1), (75, .ireturn, 1), (76, .iload_n 1, 1), (77, .iload_n 2, 1), (78, .if_icmp .ge 7, 3), (81, .iload_n 1, 1), (82, .goto 4, 3), (85, .iload_n 2, 1), (86, .ireturn, 1), (87, .iload_n 1, 1), (88, .iload_n 2, 1), (89, .if_icmp .le 7, 3), (92, .iload_n 1, 1), (93, .goto 4, 3)]
theorem tkX4_joined_k72 : dkC cX4_joined tdX4_joined_k72 = true := by decide +kernel
def tdX4_joined_k96 : List dkR := [(96, .iload_n 2, 1), (97, .ireturn, 1)]
theorem tkX4_joined_k96 : dkC cX4_joined tdX4_joined_k96 = true := by decide +kernel
def tdX5_init_k0 : List dkR := [(0, .aload_n 0, 1), (1, .invokespecial 3, 3), (4, .aload_n 0, 1), (5, .sipush 1088, 3), (8, .newarray .int, 2), (10, .putfield 11, 3), (13, .return_, 1)]
theorem tkX5_init_k0 : dkC cX5_init tdX5_init_k0 = true := by decide +kernel
def tdX5_push_k0 : List dkR := [(0, .aload_n 0, 1), (1, .getfield 17, 3), (4, .bipush 16, 2), (6, .if_icmp .gt 34, 3), (9, .aload_n 1, 1), (10, .getfield 21, 3), (13, .iconst 0, 1), (14, .aload_n 0, 1), (15, .getfield 11, 3), (18, .aload_n 0, 1), (19, .getfield 17, 3), (22, .bipush 64, 2), (24, .imul, 1), (25, .bipush 64, 2), (27, .invokestatic 24, 3), (30, .aload_n 0, 1)]
theorem tkX5_push_k0 : dkC cX5_push tdX5_push_k0 = true := by decide +kernel
def tdX5_push_k31 : List dkR := [(31, .dup, 1), (32, .getfield 17, 3), (35, .iconst 1, 1), (36, .iadd, 1), (37, .putfield 17, 3), (40, .return_, 1)]
theorem tkX5_push_k31 : dkC cX5_push tdX5_push_k31 = true := by decide +kernel
def tdX5_pop_k0 : List dkR := [(0, .aload_n 0, 1), (1, .getfield 17, 3), (4, .ifCond .le 34, 3), (7, .aload_n 0, 1), (8, .dup, 1), (9, .getfield 17, 3), (12, .iconst 1, 1), (13, .isub, 1), (14, .putfield 17, 3), (17, .aload_n 0, 1), (18, .getfield 11, 3), (21, .aload_n 0, 1), (22, .getfield 17, 3), (25, .bipush 64, 2), (27, .imul, 1), (28, .aload_n 1, 1)]
theorem tkX5_pop_k0 : dkC cX5_pop tdX5_pop_k0 = true := by decide +kernel
def tdX5_pop_k29 : List dkR := [(29, .getfield 21, 3), (32, .iconst 0, 1), (33, .bipush 64, 2), (35, .invokestatic 24, 3), (38, .return_, 1)]
theorem tkX5_pop_k29 : dkC cX5_pop tdX5_pop_k29 = true := by decide +kernel
def tdX5_copyFrom_k0 : List dkR := [(0, .aload_n 1, 1), (1, .getfield 11, 3), (4, .iconst 0, 1), (5, .aload_n 0, 1), (6, .getfield 11, 3), (9, .iconst 0, 1), (10, .aload_n 1, 1), (11, .getfield 17, 3), (14, .bipush 64, 2), (16, .imul, 1), (17, .invokestatic 24, 3), (20, .aload_n 0, 1), (21, .aload_n 1, 1), (22, .getfield 17, 3), (25, .putfield 17, 3), (28, .return_, 1)]
theorem tkX5_copyFrom_k0 : dkC cX5_copyFrom tdX5_copyFrom_k0 = true := by decide +kernel
def tdX6_init_k0 : List dkR := [(0, .aload_n 0, 1), (1, .invokespecial 3, 3), (4, .aload_n 0, 1), (5, .sipush 1024, 3), (8, .newarray .int, 2), (10, .putfield 9, 3), (13, .aload_n 0, 1), (14, .bipush 8, 2), (16, .newarray .int, 2), (18, .putfield 15, 3), (21, .return_, 1)]
theorem tkX6_init_k0 : dkC cX6_init tdX6_init_k0 = true := by decide +kernel
def tdX6_settle_k0 : List dkR := [(0, .aload_n 0, 1), (1, .iconst 0, 1), (2, .putfield 18, 3), (5, .aload_n 1, 1), (6, .getfield 22, 3), (9, .ifCond .ne 4, 3), (12, .return_, 1), (13, .iconst 1, 1), (14, .aload_n 1, 1), (15, .getfield 22, 3), (18, .iconst 1, 1), (19, .isub, 1), (20, .ishl, 1), (21, .iconst 1, 1), (22, .isub, 1), (23, .istore_n 2, 1)]
theorem tkX6_settle_k0 : dkC cX6_settle tdX6_settle_k0 = true := by decide +kernel
def tdX6_settle_k24 : List dkR := [(24, .iconst 0, 1), (25, .istore_n 3, 1), (26, .iload_n 3, 1), (27, .iload_n 2, 1), (28, .if_icmp .gt 15, 3), (31, .aload_n 0, 1), (32, .aload_n 1, 1), (33, .iload_n 3, 1), (34, .invokevirtual 27, 3), (37, .iinc 3 1, 3), (40, .goto (-14), 3), (43, .aload_n 0, 1), (44, .getfield 9, 3), (47, .iload_n 2, 1), (48, .bipush 8, 2), (50, .imul, 1)]
theorem tkX6_settle_k24 : dkC cX6_settle tdX6_settle_k24 = true := by decide +kernel
def tdX6_settle_k51 : List dkR := [(51, .aload_n 0, 1), (52, .aload_n 1, 1), (53, .iload_n 2, 1), (54, .iconst 0, 1), (55, .invokevirtual 31, 3), (58, .iastore, 1), (59, .aload_n 0, 1), (60, .aload_n 0, 1), (61, .getfield 9, 3), (64, .iload_n 2, 1), (65, .bipush 8, 2), (67, .imul, 1), (68, .iaload, 1), (69, .putfield 18, 3), (72, .aload_n 0, 1), (73, .aload_n 1, 1)]
theorem tkX6_settle_k51 : dkC cX6_settle tdX6_settle_k51 = true := by decide +kernel
def tdX6_settle_k74 : List dkR := [(74, .iload_n 2, 1), (75, .invokevirtual 35, 3), (78, .return_, 1)]
theorem tkX6_settle_k74 : dkC cX6_settle tdX6_settle_k74 = true := by decide +kernel
def tdX6_settleFor_k0 : List dkR := [(0, .iconst 1, 1), (1, .istore_n 3, 1), (2, .iload_n 3, 1), (3, .aload_n 1, 1), (4, .getfield 22, 3), (7, .if_icmp .ge 37, 3), (10, .iload_n 2, 1), (11, .iload_n 3, 1), (12, .iconst 1, 1), (13, .isub, 1), (14, .invokestatic 38, 3), (17, .ifCond .ne 21, 3), (20, .aload_n 0, 1), (21, .getfield 9, 3), (24, .iload_n 2, 1), (25, .bipush 8, 2)]
theorem tkX6_settleFor_k0 : dkC cX6_settleFor tdX6_settleFor_k0 = true := by decide +kernel
def tdX6_settleFor_k27 : List dkR := [(27, .imul, 1), (28, .iload_n 3, 1), (29, .iadd, 1), (30, .aload_n 0, 1), (31, .aload_n 1, 1), (32, .iload_n 2, 1), (33, .iload_n 3, 1), (34, .invokevirtual 31, 3), (37, .iastore, 1), (38, .iinc 3 1, 3), (41, .goto (-39), 3), (44, .return_, 1)]
theorem tkX6_settleFor_k27 : dkC cX6_settleFor tdX6_settleFor_k27 = true := by decide +kernel
def tdX6_leastWay_k0 : List dkR := [(0, .iload_n 2, 1), (1, .ifCond .ne 10, 3), (4, .aload_n 1, 1), (5, .iload_n 3, 1), (6, .iconst 0, 1), (7, .invokevirtual 42, 3), (10, .ireturn, 1), (11, .ldc 48, 2), (13, .istore 4, 2), (15, .iconst 1, 1), (16, .istore 5, 2), (18, .iload 5, 2), (20, .aload_n 1, 1), (21, .getfield 22, 3), (24, .if_icmp .ge 36, 3), (27, .iload_n 2, 1)]
theorem tkX6_leastWay_k0 : dkC cX6_leastWay tdX6_leastWay_k0 = true := by decide +kernel
def tdX6_leastWay_k28 : List dkR := [(28, .iload 5, 2), (30, .iconst 1, 1), (31, .isub, 1), (32, .invokestatic 38, 3), (35, .ifCond .eq 19, 3), (38, .iload 4, 2), (40, .aload_n 0, 1), (41, .aload_n 1, 1), (42, .iload_n 2, 1), (43, .iload_n 3, 1), (44, .iload 5, 2), (46, .invokevirtual 49, 3), (49, .invokestatic 53, 3), (52, .istore 4, 2), (54, .iinc 5 1, 3), (57, .goto (-39), 3)]
theorem tkX6_leastWay_k28 : dkC cX6_leastWay tdX6_leastWay_k28 = true := by decide +kernel
def tdX6_leastWay_k60 : List dkR := [(60, .iload 4, 2), (62, .ireturn, 1)]
theorem tkX6_leastWay_k60 : dkC cX6_leastWay tdX6_leastWay_k60 = true := by decide +kernel
def tdX6_wayOver_k0 : List dkR := [(0, .iload_n 2, 1), (1, .iconst 1, 1), (2, .iload 4, 2), (4, .iconst 1, 1), (5, .isub, 1), (6, .ishl, 1), (7, .iconst (-1), 1), (8, .ixor, 1), (9, .iand, 1), (10, .istore 5, 2), (12, .aload_n 1, 1), (13, .iload_n 3, 1), (14, .iload 4, 2), (16, .invokevirtual 42, 3), (19, .aload_n 0, 1), (20, .getfield 9, 3)]
theorem tkX6_wayOver_k0 : dkC cX6_wayOver tdX6_wayOver_k0 = true := by decide +kernel
def tdX6_wayOver_k23 : List dkR := [(23, .iload 5, 2), (25, .bipush 8, 2), (27, .imul, 1), (28, .iload 4, 2), (30, .iadd, 1), (31, .iaload, 1), (32, .iadd, 1), (33, .ireturn, 1)]
theorem tkX6_wayOver_k23 : dkC cX6_wayOver tdX6_wayOver_k23 = true := by decide +kernel
def tdX6_walk_k0 : List dkR := [(0, .iload_n 2, 1), (1, .istore_n 3, 1), (2, .iconst 0, 1), (3, .istore 4, 2), (5, .aload_n 0, 1), (6, .getfield 15, 3), (9, .iconst 0, 1), (10, .iconst 0, 1), (11, .iastore, 1), (12, .iconst 1, 1), (13, .istore 5, 2), (15, .iload 5, 2), (17, .aload_n 1, 1), (18, .getfield 22, 3), (21, .if_icmp .ge 39, 3), (24, .aload_n 0, 1)]
theorem tkX6_walk_k0 : dkC cX6_walk tdX6_walk_k0 = true := by decide +kernel
def tdX6_walk_k25 : List dkR := [(25, .aload_n 1, 1), (26, .iload_n 3, 1), (27, .iload 4, 2), (29, .invokevirtual 58, 3), (32, .istore 4, 2), (34, .iload_n 3, 1), (35, .iconst 1, 1), (36, .iload 4, 2), (38, .iconst 1, 1), (39, .isub, 1), (40, .ishl, 1), (41, .iconst (-1), 1), (42, .ixor, 1), (43, .iand, 1), (44, .istore_n 3, 1), (45, .aload_n 0, 1)]
theorem tkX6_walk_k25 : dkC cX6_walk tdX6_walk_k25 = true := by decide +kernel
def tdX6_walk_k46 : List dkR := [(46, .getfield 15, 3), (49, .iload 5, 2), (51, .iload 4, 2), (53, .iastore, 1), (54, .iinc 5 1, 3), (57, .goto (-42), 3), (60, .return_, 1)]
theorem tkX6_walk_k46 : dkC cX6_walk tdX6_walk_k46 = true := by decide +kernel
def tdX6_firstBest_k0 : List dkR := [(0, .aload_n 0, 1), (1, .getfield 9, 3), (4, .iload_n 2, 1), (5, .bipush 8, 2), (7, .imul, 1), (8, .iload_n 3, 1), (9, .iadd, 1), (10, .iaload, 1), (11, .istore 4, 2), (13, .iconst 1, 1), (14, .istore 5, 2), (16, .iload 5, 2), (18, .aload_n 1, 1), (19, .getfield 22, 3), (22, .if_icmp .ge 37, 3), (25, .iload_n 2, 1)]
theorem tkX6_firstBest_k0 : dkC cX6_firstBest tdX6_firstBest_k0 = true := by decide +kernel
def tdX6_firstBest_k26 : List dkR := [(26, .iload 5, 2), (28, .iconst 1, 1), (29, .isub, 1), (30, .invokestatic 38, 3), (33, .ifCond .eq 20, 3), (36, .aload_n 0, 1), (37, .aload_n 1, 1), (38, .iload_n 2, 1), (39, .iload_n 3, 1), (40, .iload 5, 2), (42, .invokevirtual 49, 3), (45, .iload 4, 2), (47, .if_icmp .ne 6, 3), (50, .iload 5, 2), (52, .ireturn, 1), (53, .iinc 5 1, 3)]
theorem tkX6_firstBest_k26 : dkC cX6_firstBest tdX6_firstBest_k26 = true := by decide +kernel
def tdX6_firstBest_k56 : List dkR := [(56, .goto (-40), 3), (59, .iload_n 3, 1), (60, .ireturn, 1)]
theorem tkX6_firstBest_k56 : dkC cX6_firstBest tdX6_firstBest_k56 = true := by decide +kernel
def tdX7_init_k0 : List dkR := [(0, .aload_n 0, 1), (1, .invokespecial 3, 3), (4, .aload_n 0, 1), (5, .sipush 1792, 3), (8, .newarray .int, 2), (10, .putfield 9, 3), (13, .aload_n 0, 1), (14, .bipush 6, 2), (16, .newarray .int, 2), (18, .putfield 15, 3), (21, .aload_n 0, 1), (22, .bipush 6, 2), (24, .newarray .int, 2), (26, .putfield 18, 3), (29, .return_, 1)]
theorem tkX7_init_k0 : dkC cX7_init tdX7_init_k0 = true := by decide +kernel
def tdX7_settle_k0 : List dkR := [(0, .aload_n 1, 1), (1, .getfield 21, 3), (4, .getfield 27, 3), (7, .istore_n 2, 1), (8, .iconst 1, 1), (9, .aload_n 1, 1), (10, .getfield 21, 3), (13, .getfield 33, 3), (16, .ishl, 1), (17, .istore_n 3, 1), (18, .iconst 0, 1), (19, .istore 4, 2), (21, .iload 4, 2), (23, .iload_n 3, 1), (24, .if_icmp .ge 22, 3), (27, .aload_n 0, 1)]
theorem tkX7_settle_k0 : dkC cX7_settle tdX7_settle_k0 = true := by decide +kernel
def tdX7_settle_k28 : List dkR := [(28, .getfield 9, 3), (31, .iload_n 2, 1), (32, .bipush 8, 2), (34, .ishl, 1), (35, .iload 4, 2), (37, .iadd, 1), (38, .iconst 0, 1), (39, .iastore, 1), (40, .iinc 4 1, 3), (43, .goto (-22), 3), (46, .iload_n 2, 1), (47, .iconst 1, 1), (48, .isub, 1), (49, .istore 4, 2), (51, .iload 4, 2), (53, .ifCond .lt 59, 3)]
theorem tkX7_settle_k28 : dkC cX7_settle tdX7_settle_k28 = true := by decide +kernel
def tdX7_settle_k56 : List dkR := [(56, .aload_n 0, 1), (57, .getfield 15, 3), (60, .iload 4, 2), (62, .aload_n 0, 1), (63, .aload_n 1, 1), (64, .iload 4, 2), (66, .invokevirtual 36, 3), (69, .iastore, 1), (70, .iconst 0, 1), (71, .istore 5, 2), (73, .iload 5, 2), (75, .iload_n 3, 1), (76, .if_icmp .ge 30, 3), (79, .aload_n 0, 1), (80, .getfield 9, 3), (83, .iload 4, 2)]
theorem tkX7_settle_k56 : dkC cX7_settle tdX7_settle_k56 = true := by decide +kernel
def tdX7_settle_k85 : List dkR := [(85, .bipush 8, 2), (87, .ishl, 1), (88, .iload 5, 2), (90, .iadd, 1), (91, .aload_n 0, 1), (92, .iload 4, 2), (94, .iload 5, 2), (96, .invokevirtual 40, 3), (99, .iastore, 1), (100, .iinc 5 1, 3), (103, .goto (-30), 3), (106, .iinc 4 (-1), 3), (109, .goto (-58), 3), (112, .aload_n 0, 1), (113, .aload_n 0, 1), (114, .getfield 9, 3)]
theorem tkX7_settle_k85 : dkC cX7_settle tdX7_settle_k85 = true := by decide +kernel
def tdX7_settle_k117 : List dkR := [(117, .iconst 0, 1), (118, .iaload, 1), (119, .putfield 44, 3), (122, .aload_n 0, 1), (123, .iload_n 2, 1), (124, .invokevirtual 47, 3), (127, .return_, 1)]
theorem tkX7_settle_k117 : dkC cX7_settle tdX7_settle_k117 = true := by decide +kernel
def tdX7_allowedTo_k0 : List dkR := [(0, .aload_n 1, 1), (1, .iload_n 2, 1), (2, .invokevirtual 51, 3), (5, .ifCond .eq 5, 3), (8, .iconst 0, 1), (9, .ireturn, 1), (10, .aload_n 1, 1), (11, .iload_n 2, 1), (12, .invokevirtual 55, 3), (15, .iconst 1, 1), (16, .aload_n 1, 1), (17, .iload_n 2, 1), (18, .invokevirtual 59, 3), (21, .ishl, 1), (22, .ior, 1), (23, .aload_n 1, 1)]
theorem tkX7_allowedTo_k0 : dkC cX7_allowedTo tdX7_allowedTo_k0 = true := by decide +kernel
def tdX7_allowedTo_k24 : List dkR := [(24, .getfield 21, 3), (27, .getfield 62, 3), (30, .iand, 1), (31, .ireturn, 1)]
theorem tkX7_allowedTo_k24 : dkC cX7_allowedTo tdX7_allowedTo_k24 = true := by decide +kernel
def tdX7_mostFrom_k0 : List dkR := [(0, .aload_n 0, 1), (1, .getfield 15, 3), (4, .iload_n 1, 1), (5, .iaload, 1), (6, .iload_n 2, 1), (7, .iconst (-1), 1), (8, .ixor, 1), (9, .iand, 1), (10, .istore_n 3, 1), (11, .aload_n 0, 1), (12, .iload_n 1, 1), (13, .iload_n 2, 1), (14, .invokevirtual 65, 3), (17, .istore 4, 2), (19, .iconst 0, 1), (20, .istore 5, 2)]
theorem tkX7_mostFrom_k0 : dkC cX7_mostFrom tdX7_mostFrom_k0 = true := by decide +kernel
def tdX7_mostFrom_k22 : List dkR := [(22, .iload 5, 2), (24, .bipush 8, 2), (26, .if_icmp .ge 38, 3), (29, .iload_n 3, 1), (30, .iload 5, 2), (32, .invokestatic 68, 3), (35, .ifCond .eq 23, 3), (38, .iload 4, 2), (40, .iconst 1, 1), (41, .aload_n 0, 1), (42, .iload_n 1, 1), (43, .iload_n 2, 1), (44, .iconst 1, 1), (45, .iload 5, 2), (47, .ishl, 1), (48, .ior, 1)]
theorem tkX7_mostFrom_k22 : dkC cX7_mostFrom tdX7_mostFrom_k22 = true := by decide +kernel
def tdX7_mostFrom_k49 : List dkR := [(49, .invokevirtual 65, 3), (52, .iadd, 1), (53, .invokestatic 72, 3), (56, .istore 4, 2), (58, .iinc 5 1, 3), (61, .goto (-39), 3), (64, .iload 4, 2), (66, .ireturn, 1)]
theorem tkX7_mostFrom_k49 : dkC cX7_mostFrom tdX7_mostFrom_k49 = true := by decide +kernel
def tdX7_mostBehind_k0 : List dkR := [(0, .aload_n 0, 1), (1, .getfield 9, 3), (4, .iload_n 1, 1), (5, .iconst 1, 1), (6, .iadd, 1), (7, .bipush 8, 2), (9, .ishl, 1), (10, .iload_n 2, 1), (11, .iadd, 1), (12, .iaload, 1), (13, .ireturn, 1)]
theorem tkX7_mostBehind_k0 : dkC cX7_mostBehind tdX7_mostBehind_k0 = true := by decide +kernel
def tdX7_give_k0 : List dkR := [(0, .iconst 0, 1), (1, .istore_n 2, 1), (2, .iconst 0, 1), (3, .istore_n 3, 1), (4, .iload_n 3, 1), (5, .iload_n 1, 1), (6, .if_icmp .ge 42, 3), (9, .aload_n 0, 1), (10, .getfield 18, 3), (13, .iload_n 3, 1), (14, .aload_n 0, 1), (15, .iload_n 3, 1), (16, .iload_n 2, 1), (17, .invokevirtual 77, 3), (20, .iastore, 1), (21, .aload_n 0, 1)]
theorem tkX7_give_k0 : dkC cX7_give tdX7_give_k0 = true := by decide +kernel
def tdX7_give_k22 : List dkR := [(22, .getfield 18, 3), (25, .iload_n 3, 1), (26, .iaload, 1), (27, .iconst (-1), 1), (28, .if_icmp .eq 14, 3), (31, .iload_n 2, 1), (32, .iconst 1, 1), (33, .aload_n 0, 1), (34, .getfield 18, 3), (37, .iload_n 3, 1), (38, .iaload, 1), (39, .ishl, 1), (40, .ior, 1), (41, .istore_n 2, 1), (42, .iinc 3 1, 3), (45, .goto (-41), 3)]
theorem tkX7_give_k22 : dkC cX7_give tdX7_give_k22 = true := by decide +kernel
def tdX7_give_k48 : List dkR := [(48, .return_, 1)]
theorem tkX7_give_k48 : dkC cX7_give tdX7_give_k48 = true := by decide +kernel
def tdX7_firstBest_k0 : List dkR := [(0, .aload_n 0, 1), (1, .getfield 15, 3), (4, .iload_n 1, 1), (5, .iaload, 1), (6, .iload_n 2, 1), (7, .iconst (-1), 1), (8, .ixor, 1), (9, .iand, 1), (10, .istore_n 3, 1), (11, .aload_n 0, 1), (12, .getfield 9, 3), (15, .iload_n 1, 1), (16, .bipush 8, 2), (18, .ishl, 1), (19, .iload_n 2, 1), (20, .iadd, 1)]
theorem tkX7_firstBest_k0 : dkC cX7_firstBest tdX7_firstBest_k0 = true := by decide +kernel
def tdX7_firstBest_k21 : List dkR := [(21, .iaload, 1), (22, .istore 4, 2), (24, .iconst 0, 1), (25, .istore 5, 2), (27, .iload 5, 2), (29, .bipush 8, 2), (31, .if_icmp .ge 39, 3), (34, .iload_n 3, 1), (35, .iload 5, 2), (37, .invokestatic 68, 3), (40, .ifCond .eq 24, 3), (43, .iconst 1, 1), (44, .aload_n 0, 1), (45, .iload_n 1, 1), (46, .iload_n 2, 1), (47, .iconst 1, 1)]
theorem tkX7_firstBest_k21 : dkC cX7_firstBest tdX7_firstBest_k21 = true := by decide +kernel
def tdX7_firstBest_k48 : List dkR := [(48, .iload 5, 2), (50, .ishl, 1), (51, .ior, 1), (52, .invokevirtual 65, 3), (55, .iadd, 1), (56, .iload 4, 2), (58, .if_icmp .ne 6, 3), (61, .iload 5, 2), (63, .ireturn, 1), (64, .iinc 5 1, 3), (67, .goto (-40), 3), (70, .iconst (-1), 1), (71, .ireturn, 1)]
theorem tkX7_firstBest_k48 : dkC cX7_firstBest tdX7_firstBest_k48 = true := by decide +kernel
def tdX8_init_k0 : List dkR := [(0, .aload_n 0, 1), (1, .invokespecial 3, 3), (4, .aload_n 0, 1), (5, .sipush 600, 3), (8, .newarray .byte, 2), (10, .putfield 11, 3), (13, .aload_n 0, 1), (14, .iconst (-1), 1), (15, .putfield 15, 3), (18, .return_, 1)]
theorem tkX8_init_k0 : dkC cX8_init tdX8_init_k0 = true := by decide +kernel
def tdX8_hasRoom_k0 : List dkR := [(0, .aload_n 0, 1), (1, .getfield 19, 3), (4, .bipush 20, 2), (6, .iadd, 1), (7, .sipush 600, 3), (10, .if_icmp .gt 7, 3), (13, .iconst 1, 1), (14, .goto 4, 3), (17, .iconst 0, 1), (18, .ireturn, 1)]
theorem tkX8_hasRoom_k0 : dkC cX8_hasRoom tdX8_hasRoom_k0 = true := by decide +kernel
def tdX8_put_k0 : List dkR := [(0, .bipush 24, 2), (2, .istore_n 2, 1), (3, .iload_n 2, 1), (4, .ifCond .lt 42, 3), (7, .aload_n 0, 1), (8, .getfield 19, 3), (11, .sipush 600, 3), (14, .if_icmp .ge 26, 3), (17, .aload_n 0, 1), (18, .getfield 11, 3), (21, .aload_n 0, 1), (22, .getfield 19, 3), (25, .iload_n 1, 1), (26, .iload_n 2, 1), (27, .ishr, 1), (28, .i2b, 1)]
theorem tkX8_put_k0 : dkC cX8_put tdX8_put_k0 = true := by decide +kernel
def tdX8_put_k29 : List dkR := [(29, .bastore, 1), (30, .aload_n 0, 1), (31, .dup, 1), (32, .getfield 19, 3), (35, .iconst 1, 1), (36, .iadd, 1), (37, .putfield 19, 3), (40, .iinc 2 (-8), 3), (43, .goto (-40), 3), (46, .return_, 1)]
theorem tkX8_put_k29 : dkC cX8_put tdX8_put_k29 = true := by decide +kernel
def tdX8_open_k0 : List dkR := [(0, .aload_n 0, 1), (1, .iload_n 1, 1), (2, .sipush 600, 3), (5, .invokestatic 22, 3), (8, .putfield 28, 3), (11, .aload_n 0, 1), (12, .iconst 0, 1), (13, .putfield 31, 3), (16, .aload_n 0, 1), (17, .iconst 0, 1), (18, .putfield 34, 3), (21, .aload_n 0, 1), (22, .iconst 0, 1), (23, .putfield 19, 3), (26, .aload_n 0, 1), (27, .iconst 0, 1)]
theorem tkX8_open_k0 : dkC cX8_open tdX8_open_k0 = true := by decide +kernel
def tdX8_open_k28 : List dkR := [(28, .putfield 37, 3), (31, .aload_n 0, 1), (32, .iconst (-1), 1), (33, .putfield 15, 3), (36, .return_, 1)]
theorem tkX8_open_k28 : dkC cX8_open tdX8_open_k28 = true := by decide +kernel
def tdX8_isFaulty_k0 : List dkR := [(0, .aload_n 0, 1), (1, .getfield 37, 3), (4, .ifCond .eq 7, 3), (7, .iconst 1, 1), (8, .goto 4, 3), (11, .iconst 0, 1), (12, .ireturn, 1)]
theorem tkX8_isFaulty_k0 : dkC cX8_isFaulty tdX8_isFaulty_k0 = true := by decide +kernel
def tdX8_blame_k0 : List dkR := [(0, .aload_n 0, 1), (1, .getfield 37, 3), (4, .ifCond .ne 13, 3), (7, .aload_n 0, 1), (8, .iload_n 1, 1), (9, .putfield 37, 3), (12, .aload_n 0, 1), (13, .iload_n 2, 1), (14, .putfield 15, 3), (17, .return_, 1)]
theorem tkX8_blame_k0 : dkC cX8_blame tdX8_blame_k0 = true := by decide +kernel
def tdX8_blameSign_k0 : List dkR := [(0, .aload_n 0, 1), (1, .invokevirtual 40, 3), (4, .aload_n 0, 1), (5, .iconst 1, 1), (6, .aload_n 0, 1), (7, .getfield 31, 3), (10, .invokevirtual 43, 3), (13, .return_, 1)]
theorem tkX8_blameSign_k0 : dkC cX8_blameSign tdX8_blameSign_k0 = true := by decide +kernel
def tdX8_blameToken_k0 : List dkR := [(0, .aload_n 0, 1), (1, .iload_n 1, 1), (2, .aload_n 0, 1), (3, .getfield 34, 3), (6, .invokevirtual 43, 3), (9, .return_, 1)]
theorem tkX8_blameToken_k0 : dkC cX8_blameToken tdX8_blameToken_k0 = true := by decide +kernel
def tdX8_skipBlanks_k0 : List dkR := [(0, .aload_n 0, 1), (1, .getfield 31, 3), (4, .aload_n 0, 1), (5, .getfield 28, 3), (8, .if_icmp .ge 30, 3), (11, .aload_n 0, 1), (12, .getfield 11, 3), (15, .aload_n 0, 1), (16, .getfield 31, 3), (19, .baload, 1), (20, .bipush 32, 2), (22, .if_icmp .ne 16, 3), (25, .aload_n 0, 1), (26, .dup, 1), (27, .getfield 31, 3), (30, .iconst 1, 1)]
theorem tkX8_skipBlanks_k0 : dkC cX8_skipBlanks tdX8_skipBlanks_k0 = true := by decide +kernel
def tdX8_skipBlanks_k31 : List dkR := [(31, .iadd, 1), (32, .putfield 31, 3), (35, .goto (-35), 3), (38, .return_, 1)]
theorem tkX8_skipBlanks_k31 : dkC cX8_skipBlanks tdX8_skipBlanks_k31 = true := by decide +kernel
def tdX8_isEnded_k0 : List dkR := [(0, .aload_n 0, 1), (1, .invokevirtual 40, 3), (4, .aload_n 0, 1), (5, .getfield 31, 3), (8, .aload_n 0, 1), (9, .getfield 28, 3), (12, .if_icmp .lt 7, 3), (15, .iconst 1, 1), (16, .goto 4, 3), (19, .iconst 0, 1), (20, .ireturn, 1)]
theorem tkX8_isEnded_k0 : dkC cX8_isEnded tdX8_isEnded_k0 = true := by decide +kernel
def tdX8_seesDigit_k0 : List dkR := [(0, .aload_n 0, 1), (1, .invokevirtual 40, 3), (4, .aload_n 0, 1), (5, .aload_n 0, 1), (6, .getfield 31, 3), (9, .invokevirtual 47, 3), (12, .ifCond .lt 7, 3), (15, .iconst 1, 1), (16, .goto 4, 3), (19, .iconst 0, 1), (20, .ireturn, 1)]
theorem tkX8_seesDigit_k0 : dkC cX8_seesDigit tdX8_seesDigit_k0 = true := by decide +kernel
def tdX8_digitAt_k0 : List dkR := [(0, .iload_n 1, 1), (1, .aload_n 0, 1), (2, .getfield 28, 3), (5, .if_icmp .ge 25, 3), (8, .aload_n 0, 1), (9, .getfield 11, 3), (12, .iload_n 1, 1), (13, .baload, 1), (14, .bipush 48, 2), (16, .if_icmp .lt 14, 3), (19, .aload_n 0, 1), (20, .getfield 11, 3), (23, .iload_n 1, 1), (24, .baload, 1), (25, .bipush 57, 2), (27, .if_icmp .le 5, 3)]
theorem tkX8_digitAt_k0 : dkC cX8_digitAt tdX8_digitAt_k0 = true := by decide +kernel
def tdX8_digitAt_k30 : List dkR := [(30, .iconst (-1), 1), (31, .ireturn, 1), (32, .aload_n 0, 1), (33, .getfield 11, 3), (36, .iload_n 1, 1), (37, .baload, 1), (38, .bipush 48, 2), (40, .isub, 1), (41, .ireturn, 1)]
theorem tkX8_digitAt_k30 : dkC cX8_digitAt tdX8_digitAt_k30 = true := by decide +kernel
def tdX8_isLetter_k0 : List dkR := [(0, .iload_n 1, 1), (1, .aload_n 0, 1), (2, .getfield 28, 3), (5, .if_icmp .ge 29, 3), (8, .aload_n 0, 1), (9, .getfield 11, 3), (12, .iload_n 1, 1), (13, .baload, 1), (14, .bipush 97, 2), (16, .if_icmp .lt 18, 3), (19, .aload_n 0, 1), (20, .getfield 11, 3), (23, .iload_n 1, 1), (24, .baload, 1), (25, .bipush 122, 2), (27, .if_icmp .gt 7, 3)]
theorem tkX8_isLetter_k0 : dkC cX8_isLetter tdX8_isLetter_k0 = true := by decide +kernel
def tdX8_isLetter_k30 : List dkR := [(30, .iconst 1, 1), (31, .goto 4, 3), (34, .iconst 0, 1), (35, .ireturn, 1)]
theorem tkX8_isLetter_k30 : dkC cX8_isLetter tdX8_isLetter_k30 = true := by decide +kernel
def tdX8_takes_k0 : List dkR := [(0, .aload_n 0, 1), (1, .invokevirtual 40, 3), (4, .aload_n 0, 1), (5, .invokevirtual 51, 3), (8, .ifCond .ne 27, 3), (11, .aload_n 0, 1), (12, .getfield 31, 3), (15, .aload_n 0, 1), (16, .getfield 28, 3), (19, .if_icmp .ge 16, 3), (22, .aload_n 0, 1), (23, .getfield 11, 3), (26, .aload_n 0, 1), (27, .getfield 31, 3), (30, .baload, 1), (31, .iload_n 1, 1)]
theorem tkX8_takes_k0 : dkC cX8_takes tdX8_takes_k0 = true := by decide +kernel
def tdX8_takes_k32 : List dkR := [(32, .if_icmp .eq 5, 3), (35, .iconst 0, 1), (36, .ireturn, 1), (37, .aload_n 0, 1), (38, .aload_n 0, 1), (39, .getfield 31, 3), (42, .putfield 34, 3), (45, .aload_n 0, 1), (46, .dup, 1), (47, .getfield 31, 3), (50, .iconst 1, 1), (51, .iadd, 1), (52, .putfield 31, 3), (55, .iconst 1, 1), (56, .ireturn, 1)]
theorem tkX8_takes_k32 : dkC cX8_takes tdX8_takes_k32 = true := by decide +kernel
def tdX8_needs_k0 : List dkR := [(0, .aload_n 0, 1), (1, .iload_n 1, 1), (2, .invokevirtual 55, 3), (5, .ifCond .ne 7, 3), (8, .aload_n 0, 1), (9, .invokevirtual 59, 3), (12, .return_, 1)]
theorem tkX8_needs_k0 : dkC cX8_needs tdX8_needs_k0 = true := by decide +kernel
def tdX8_needsEnd_k0 : List dkR := [(0, .aload_n 0, 1), (1, .invokevirtual 62, 3), (4, .ifCond .ne 7, 3), (7, .aload_n 0, 1), (8, .invokevirtual 59, 3), (11, .return_, 1)]
theorem tkX8_needsEnd_k0 : dkC cX8_needsEnd tdX8_needsEnd_k0 = true := by decide +kernel
def tdX8_takesWord_k0 : List dkR := [(0, .aload_n 0, 1), (1, .invokevirtual 40, 3), (4, .aload_n 0, 1), (5, .getfield 31, 3), (8, .aload_n 1, 1), (9, .invokevirtual 65, 3), (12, .iadd, 1), (13, .istore_n 2, 1), (14, .aload_n 0, 1), (15, .invokevirtual 51, 3), (18, .ifCond .ne 19, 3), (21, .iload_n 2, 1), (22, .aload_n 0, 1), (23, .getfield 28, 3), (26, .if_icmp .gt 11, 3), (29, .aload_n 0, 1)]
theorem tkX8_takesWord_k0 : dkC cX8_takesWord tdX8_takesWord_k0 = true := by decide +kernel
def tdX8_takesWord_k30 : List dkR := [(30, .iload_n 2, 1), (31, .invokevirtual 70, 3), (34, .ifCond .eq 5, 3), (37, .iconst 0, 1), (38, .ireturn, 1), (39, .iconst 0, 1), (40, .istore_n 3, 1), (41, .iload_n 3, 1), (42, .aload_n 1, 1), (43, .invokevirtual 65, 3), (46, .if_icmp .ge 30, 3), (49, .aload_n 0, 1), (50, .getfield 11, 3), (53, .aload_n 0, 1), (54, .getfield 31, 3), (57, .iload_n 3, 1)]
theorem tkX8_takesWord_k30 : dkC cX8_takesWord tdX8_takesWord_k30 = true := by decide +kernel
def tdX8_takesWord_k58 : List dkR := [(58, .iadd, 1), (59, .baload, 1), (60, .aload_n 1, 1), (61, .iload_n 3, 1), (62, .invokevirtual 74, 3), (65, .if_icmp .eq 5, 3), (68, .iconst 0, 1), (69, .ireturn, 1), (70, .iinc 3 1, 3), (73, .goto (-32), 3), (76, .aload_n 0, 1), (77, .aload_n 0, 1), (78, .getfield 31, 3), (81, .putfield 34, 3), (84, .aload_n 0, 1), (85, .iload_n 2, 1)]
theorem tkX8_takesWord_k58 : dkC cX8_takesWord tdX8_takesWord_k58 = true := by decide +kernel
def tdX8_takesWord_k86 : List dkR := [(86, .putfield 31, 3), (89, .iconst 1, 1), (90, .ireturn, 1)]
theorem tkX8_takesWord_k86 : dkC cX8_takesWord tdX8_takesWord_k86 = true := by decide +kernel
def tdX8_number_k0 : List dkR := [(0, .aload_n 0, 1), (1, .invokevirtual 40, 3), (4, .aload_n 0, 1), (5, .aload_n 0, 1), (6, .getfield 31, 3), (9, .invokevirtual 47, 3), (12, .ifCond .ge 12, 3), (15, .aload_n 0, 1), (16, .iconst 1, 1), (17, .aload_n 0, 1), (18, .getfield 31, 3), (21, .invokevirtual 43, 3), (24, .aload_n 0, 1), (25, .invokevirtual 51, 3), (28, .ifCond .eq 5, 3), (31, .iconst 0, 1)]
theorem tkX8_number_k0 : dkC cX8_number tdX8_number_k0 = true := by decide +kernel
def tdX8_number_k32 : List dkR := [(32, .ireturn, 1), (33, .aload_n 0, 1), (34, .aload_n 0, 1), (35, .getfield 31, 3), (38, .putfield 34, 3), (41, .iconst 0, 1), (42, .istore_n 3, 1), (43, .aload_n 0, 1), (44, .getfield 31, 3), (47, .aload_n 0, 1), (48, .getfield 28, 3), (51, .if_icmp .ge 46, 3), (54, .aload_n 0, 1), (55, .aload_n 0, 1), (56, .getfield 31, 3), (59, .invokevirtual 47, 3)]
theorem tkX8_number_k32 : dkC cX8_number tdX8_number_k32 = true := by decide +kernel
def tdX8_number_k62 : List dkR := [(62, .ifCond .lt 35, 3), (65, .ldc 78, 2), (67, .iload_n 3, 1), (68, .bipush 10, 2), (70, .imul, 1), (71, .aload_n 0, 1), (72, .aload_n 0, 1), (73, .getfield 31, 3), (76, .invokevirtual 47, 3), (79, .iadd, 1), (80, .invokestatic 22, 3), (83, .istore_n 3, 1), (84, .aload_n 0, 1), (85, .dup, 1), (86, .getfield 31, 3), (89, .iconst 1, 1)]
theorem tkX8_number_k62 : dkC cX8_number tdX8_number_k62 = true := by decide +kernel
def tdX8_number_k90 : List dkR := [(90, .iadd, 1), (91, .putfield 31, 3), (94, .goto (-51), 3), (97, .iload_n 3, 1), (98, .iload_n 1, 1), (99, .iload_n 2, 1), (100, .invokestatic 79, 3), (103, .ifCond .ne 12, 3), (106, .aload_n 0, 1), (107, .iconst 2, 1), (108, .aload_n 0, 1), (109, .getfield 34, 3), (112, .invokevirtual 43, 3), (115, .iload_n 3, 1), (116, .ireturn, 1)]
theorem tkX8_number_k90 : dkC cX8_number tdX8_number_k90 = true := by decide +kernel
def tdX9_init_k0 : List dkR := [(0, .aload_n 0, 1), (1, .invokespecial 3, 3), (4, .aload_n 0, 1), (5, .bipush 50, 2), (7, .newarray .int, 2), (9, .putfield 11, 3), (12, .aload_n 0, 1), (13, .bipush 50, 2), (15, .newarray .int, 2), (17, .putfield 15, 3), (20, .aload_n 0, 1), (21, .bipush 50, 2), (23, .newarray .int, 2), (25, .putfield 18, 3), (28, .aload_n 0, 1), (29, .bipush 50, 2)]
theorem tkX9_init_k0 : dkC cX9_init tdX9_init_k0 = true := by decide +kernel
def tdX9_init_k31 : List dkR := [(31, .newarray .int, 2), (33, .putfield 21, 3), (36, .aload_n 0, 1), (37, .bipush 6, 2), (39, .newarray .int, 2), (41, .putfield 24, 3), (44, .aload_n 0, 1), (45, .bipush 6, 2), (47, .newarray .int, 2), (49, .putfield 27, 3), (52, .return_, 1)]
theorem tkX9_init_k31 : dkC cX9_init tdX9_init_k31 = true := by decide +kernel
def tdX9_readFrom_k0 : List dkR := [(0, .aload_n 0, 1), (1, .iload_n 2, 1), (2, .putfield 30, 3), (5, .aload_n 0, 1), (6, .iload_n 3, 1), (7, .putfield 34, 3), (10, .aload_n 0, 1), (11, .iconst 0, 1), (12, .putfield 37, 3), (15, .aload_n 0, 1), (16, .iconst 0, 1), (17, .putfield 40, 3), (20, .iconst 0, 1), (21, .istore 4, 2), (23, .iload 4, 2), (25, .sipush 150, 3)]
theorem tkX9_readFrom_k0 : dkC cX9_readFrom tdX9_readFrom_k0 = true := by decide +kernel
def tdX9_readFrom_k28 : List dkR := [(28, .if_icmp .gt 65, 3), (31, .aload_n 1, 1), (32, .invokevirtual 43, 3), (35, .ifCond .ne 58, 3), (38, .aload_n 0, 1), (39, .getfield 40, 3), (42, .ifCond .ne 11, 3), (45, .aload_n 1, 1), (46, .invokevirtual 49, 3), (49, .ifCond .eq 4, 3), (52, .return_, 1), (53, .aload_n 0, 1), (54, .getfield 40, 3), (57, .ifCond .le 25, 3), (60, .aload_n 1, 1), (61, .bipush 93, 2)]
theorem tkX9_readFrom_k28 : dkC cX9_readFrom tdX9_readFrom_k28 = true := by decide +kernel
def tdX9_readFrom_k63 : List dkR := [(63, .invokevirtual 52, 3), (66, .ifCond .eq 16, 3), (69, .aload_n 0, 1), (70, .invokevirtual 56, 3), (73, .aload_n 1, 1), (74, .bipush 59, 2), (76, .invokevirtual 59, 3), (79, .goto 8, 3), (82, .aload_n 0, 1), (83, .aload_n 1, 1), (84, .invokevirtual 63, 3), (87, .iinc 4 1, 3), (90, .goto (-67), 3), (93, .return_, 1)]
theorem tkX9_readFrom_k63 : dkC cX9_readFrom tdX9_readFrom_k63 = true := by decide +kernel
def tdX9_readStep_k0 : List dkR := [(0, .aload_n 1, 1), (1, .ldc 67, 2), (3, .invokevirtual 69, 3), (6, .ifCond .eq 9, 3), (9, .aload_n 0, 1), (10, .aload_n 1, 1), (11, .invokevirtual 73, 3), (14, .return_, 1), (15, .aload_n 1, 1), (16, .ldc 76, 2), (18, .invokevirtual 69, 3), (21, .ifCond .eq 36, 3), (24, .aload_n 1, 1), (25, .iconst 0, 1), (26, .aload_n 0, 1), (27, .getfield 30, 3)]
theorem tkX9_readStep_k0 : dkC cX9_readStep tdX9_readStep_k0 = true := by decide +kernel
def tdX9_readStep_k30 : List dkR := [(30, .iconst 1, 1), (31, .isub, 1), (32, .invokevirtual 78, 3), (35, .istore_n 2, 1), (36, .aload_n 0, 1), (37, .iconst 0, 1), (38, .iload_n 2, 1), (39, .aload_n 1, 1), (40, .iconst 0, 1), (41, .aload_n 0, 1), (42, .getfield 34, 3), (45, .iconst 1, 1), (46, .isub, 1), (47, .invokevirtual 78, 3), (50, .iconst 0, 1), (51, .invokevirtual 82, 3)]
theorem tkX9_readStep_k30 : dkC cX9_readStep tdX9_readStep_k30 = true := by decide +kernel
def tdX9_readStep_k54 : List dkR := [(54, .goto 119, 3), (57, .aload_n 1, 1), (58, .ldc 86, 2), (60, .invokevirtual 69, 3), (63, .ifCond .eq 36, 3), (66, .aload_n 1, 1), (67, .iconst 0, 1), (68, .aload_n 0, 1), (69, .getfield 30, 3), (72, .iconst 1, 1), (73, .isub, 1), (74, .invokevirtual 78, 3), (77, .istore_n 2, 1), (78, .aload_n 0, 1), (79, .iconst 1, 1), (80, .iload_n 2, 1)]
theorem tkX9_readStep_k54 : dkC cX9_readStep tdX9_readStep_k54 = true := by decide +kernel
def tdX9_readStep_k81 : List dkR := [(81, .aload_n 1, 1), (82, .iconst 0, 1), (83, .aload_n 0, 1), (84, .getfield 30, 3), (87, .iconst 1, 1), (88, .isub, 1), (89, .invokevirtual 78, 3), (92, .iconst 0, 1), (93, .invokevirtual 82, 3), (96, .goto 77, 3), (99, .aload_n 1, 1), (100, .ldc 88, 2), (102, .invokevirtual 69, 3), (105, .ifCond .eq 44, 3), (108, .aload_n 1, 1), (109, .iconst 0, 1)]
theorem tkX9_readStep_k81 : dkC cX9_readStep tdX9_readStep_k81 = true := by decide +kernel
def tdX9_readStep_k110 : List dkR := [(110, .aload_n 0, 1), (111, .getfield 30, 3), (114, .iconst 1, 1), (115, .isub, 1), (116, .invokevirtual 78, 3), (119, .istore_n 2, 1), (120, .aload_n 1, 1), (121, .iconst 0, 1), (122, .aload_n 0, 1), (123, .getfield 30, 3), (126, .iconst 1, 1), (127, .isub, 1), (128, .invokevirtual 78, 3), (131, .istore_n 3, 1), (132, .aload_n 0, 1), (133, .iconst 2, 1)]
theorem tkX9_readStep_k110 : dkC cX9_readStep tdX9_readStep_k110 = true := by decide +kernel
def tdX9_readStep_k134 : List dkR := [(134, .iload_n 2, 1), (135, .iload_n 3, 1), (136, .aload_n 1, 1), (137, .iconst 1, 1), (138, .bipush 99, 2), (140, .invokevirtual 78, 3), (143, .invokevirtual 82, 3), (146, .goto 27, 3), (149, .aload_n 1, 1), (150, .ldc 90, 2), (152, .invokevirtual 69, 3), (155, .ifCond .eq 14, 3), (158, .aload_n 0, 1), (159, .iconst 3, 1), (160, .iconst 0, 1), (161, .iconst 0, 1)]
theorem tkX9_readStep_k134 : dkC cX9_readStep tdX9_readStep_k134 = true := by decide +kernel
def tdX9_readStep_k162 : List dkR := [(162, .iconst 0, 1), (163, .invokevirtual 82, 3), (166, .goto 7, 3), (169, .aload_n 1, 1), (170, .invokevirtual 92, 3), (173, .aload_n 1, 1), (174, .bipush 59, 2), (176, .invokevirtual 59, 3), (179, .return_, 1)]
theorem tkX9_readStep_k162 : dkC cX9_readStep tdX9_readStep_k162 = true := by decide +kernel
def tdX9_openLoop_k0 : List dkR := [(0, .aload_n 0, 1), (1, .getfield 40, 3), (4, .bipush 6, 2), (6, .if_icmp .lt 9, 3), (9, .aload_n 1, 1), (10, .iconst 3, 1), (11, .invokevirtual 95, 3), (14, .return_, 1), (15, .aload_n 1, 1), (16, .iconst 0, 1), (17, .bipush 40, 2), (19, .invokevirtual 78, 3), (22, .istore_n 2, 1), (23, .aload_n 1, 1), (24, .bipush 91, 2), (26, .invokevirtual 59, 3)]
theorem tkX9_openLoop_k0 : dkC cX9_openLoop tdX9_openLoop_k0 = true := by decide +kernel
def tdX9_openLoop_k29 : List dkR := [(29, .aload_n 0, 1), (30, .getfield 24, 3), (33, .aload_n 0, 1), (34, .getfield 40, 3), (37, .aload_n 0, 1), (38, .getfield 37, 3), (41, .iastore, 1), (42, .aload_n 0, 1), (43, .dup, 1), (44, .getfield 40, 3), (47, .iconst 1, 1), (48, .iadd, 1), (49, .putfield 40, 3), (52, .aload_n 0, 1), (53, .iconst 4, 1), (54, .iload_n 2, 1)]
theorem tkX9_openLoop_k29 : dkC cX9_openLoop tdX9_openLoop_k29 = true := by decide +kernel
def tdX9_openLoop_k55 : List dkR := [(55, .iconst 0, 1), (56, .iconst 0, 1), (57, .invokevirtual 82, 3), (60, .return_, 1)]
theorem tkX9_openLoop_k55 : dkC cX9_openLoop tdX9_openLoop_k55 = true := by decide +kernel
def tdX9_closeLoop_k0 : List dkR := [(0, .aload_n 0, 1), (1, .dup, 1), (2, .getfield 40, 3), (5, .iconst 1, 1), (6, .isub, 1), (7, .putfield 40, 3), (10, .aload_n 0, 1), (11, .getfield 24, 3), (14, .aload_n 0, 1), (15, .getfield 40, 3), (18, .iaload, 1), (19, .istore_n 1, 1), (20, .iload_n 1, 1), (21, .bipush 50, 2), (23, .if_icmp .ge 13, 3), (26, .aload_n 0, 1)]
theorem tkX9_closeLoop_k0 : dkC cX9_closeLoop tdX9_closeLoop_k0 = true := by decide +kernel
def tdX9_closeLoop_k27 : List dkR := [(27, .getfield 18, 3), (30, .iload_n 1, 1), (31, .aload_n 0, 1), (32, .getfield 37, 3), (35, .iastore, 1), (36, .aload_n 0, 1), (37, .iconst 5, 1), (38, .iload_n 1, 1), (39, .iconst 0, 1), (40, .iconst 0, 1), (41, .invokevirtual 82, 3), (44, .return_, 1)]
theorem tkX9_closeLoop_k27 : dkC cX9_closeLoop tdX9_closeLoop_k27 = true := by decide +kernel
def tdX9_add_k0 : List dkR := [(0, .aload_n 0, 1), (1, .getfield 37, 3), (4, .bipush 50, 2), (6, .if_icmp .ge 54, 3), (9, .aload_n 0, 1), (10, .getfield 11, 3), (13, .aload_n 0, 1), (14, .getfield 37, 3), (17, .iload_n 1, 1), (18, .iastore, 1), (19, .aload_n 0, 1), (20, .getfield 15, 3), (23, .aload_n 0, 1), (24, .getfield 37, 3), (27, .iload_n 2, 1), (28, .iastore, 1)]
theorem tkX9_add_k0 : dkC cX9_add tdX9_add_k0 = true := by decide +kernel
def tdX9_add_k29 : List dkR := [(29, .aload_n 0, 1), (30, .getfield 18, 3), (33, .aload_n 0, 1), (34, .getfield 37, 3), (37, .iload_n 3, 1), (38, .iastore, 1), (39, .aload_n 0, 1), (40, .getfield 21, 3), (43, .aload_n 0, 1), (44, .getfield 37, 3), (47, .iload 4, 2), (49, .iastore, 1), (50, .aload_n 0, 1), (51, .dup, 1), (52, .getfield 37, 3), (55, .iconst 1, 1)]
theorem tkX9_add_k29 : dkC cX9_add tdX9_add_k29 = true := by decide +kernel
def tdX9_add_k56 : List dkR := [(56, .iadd, 1), (57, .putfield 37, 3), (60, .return_, 1)]
theorem tkX9_add_k56 : dkC cX9_add tdX9_add_k56 = true := by decide +kernel
def tdX9_runOn_k0 : List dkR := [(0, .aload_n 0, 1), (1, .iconst 0, 1), (2, .putfield 99, 3), (5, .aload_n 0, 1), (6, .iconst 0, 1), (7, .putfield 102, 3), (10, .aload_n 0, 1), (11, .iconst 0, 1), (12, .putfield 40, 3), (15, .iconst 0, 1), (16, .istore_n 2, 1), (17, .iconst 0, 1), (18, .istore_n 3, 1), (19, .iconst 0, 1), (20, .istore 4, 2), (22, .iload 4, 2)]
theorem tkX9_runOn_k0 : dkC cX9_runOn tdX9_runOn_k0 = true := by decide +kernel
def tdX9_runOn_k24 : List dkR := [(24, .sipush 20000, 3), (27, .if_icmp .ge 106, 3), (30, .iload_n 2, 1), (31, .sipush 200, 3), (34, .if_icmp .ge 99, 3), (37, .iload_n 3, 1), (38, .aload_n 0, 1), (39, .getfield 37, 3), (42, .if_icmp .ge 91, 3), (45, .aload_n 0, 1), (46, .getfield 11, 3), (49, .iload_n 3, 1), (50, .iaload, 1), (51, .iconst 5, 1), (52, .if_icmp .ne 12, 3), (55, .aload_n 0, 1)]
theorem tkX9_runOn_k24 : dkC cX9_runOn tdX9_runOn_k24 = true := by decide +kernel
def tdX9_runOn_k56 : List dkR := [(56, .iload_n 3, 1), (57, .invokevirtual 105, 3), (60, .istore_n 3, 1), (61, .goto 66, 3), (64, .iinc 2 1, 3), (67, .aload_n 0, 1), (68, .getfield 11, 3), (71, .iload_n 3, 1), (72, .iaload, 1), (73, .iconst 4, 1), (74, .if_icmp .ne 12, 3), (77, .aload_n 0, 1), (78, .iload_n 3, 1), (79, .invokevirtual 109, 3), (82, .istore_n 3, 1), (83, .goto 44, 3)]
theorem tkX9_runOn_k56 : dkC cX9_runOn tdX9_runOn_k56 = true := by decide +kernel
def tdX9_runOn_k86 : List dkR := [(86, .aload_n 0, 1), (87, .iload_n 3, 1), (88, .aload_n 1, 1), (89, .invokevirtual 112, 3), (92, .ifCond .eq 22, 3), (95, .aload_n 0, 1), (96, .iload_n 3, 1), (97, .aload_n 1, 1), (98, .invokevirtual 116, 3), (101, .aload_n 0, 1), (102, .dup, 1), (103, .getfield 99, 3), (106, .iconst 1, 1), (107, .iadd, 1), (108, .putfield 99, 3), (111, .goto 13, 3)]
theorem tkX9_runOn_k86 : dkC cX9_runOn tdX9_runOn_k86 = true := by decide +kernel
def tdX9_runOn_k114 : List dkR := [(114, .aload_n 0, 1), (115, .dup, 1), (116, .getfield 102, 3), (119, .iconst 1, 1), (120, .iadd, 1), (121, .putfield 102, 3), (124, .iinc 3 1, 3), (127, .iinc 4 1, 3), (130, .goto (-108), 3), (133, .return_, 1)]
theorem tkX9_runOn_k114 : dkC cX9_runOn tdX9_runOn_k114 = true := by decide +kernel
def tdX9_behindEnd_k0 : List dkR := [(0, .aload_n 0, 1), (1, .getfield 40, 3), (4, .ifCond .ne 7, 3), (7, .iload_n 1, 1), (8, .iconst 1, 1), (9, .iadd, 1), (10, .ireturn, 1), (11, .aload_n 0, 1), (12, .getfield 27, 3), (15, .aload_n 0, 1), (16, .getfield 40, 3), (19, .iconst 1, 1), (20, .isub, 1), (21, .dup2, 1), (22, .iaload, 1), (23, .iconst 1, 1)]
theorem tkX9_behindEnd_k0 : dkC cX9_behindEnd tdX9_behindEnd_k0 = true := by decide +kernel
def tdX9_behindEnd_k24 : List dkR := [(24, .isub, 1), (25, .iastore, 1), (26, .aload_n 0, 1), (27, .getfield 27, 3), (30, .aload_n 0, 1), (31, .getfield 40, 3), (34, .iconst 1, 1), (35, .isub, 1), (36, .iaload, 1), (37, .ifCond .le 12, 3), (40, .aload_n 0, 1), (41, .getfield 15, 3), (44, .iload_n 1, 1), (45, .iaload, 1), (46, .iconst 1, 1), (47, .iadd, 1)]
theorem tkX9_behindEnd_k24 : dkC cX9_behindEnd tdX9_behindEnd_k24 = true := by decide +kernel
def tdX9_behindEnd_k48 : List dkR := [(48, .ireturn, 1), (49, .aload_n 0, 1), (50, .dup, 1), (51, .getfield 40, 3), (54, .iconst 1, 1), (55, .isub, 1), (56, .putfield 40, 3), (59, .iload_n 1, 1), (60, .iconst 1, 1), (61, .iadd, 1), (62, .ireturn, 1)]
theorem tkX9_behindEnd_k48 : dkC cX9_behindEnd tdX9_behindEnd_k48 = true := by decide +kernel
def tdX9_behindAgain_k0 : List dkR := [(0, .aload_n 0, 1), (1, .getfield 15, 3), (4, .iload_n 1, 1), (5, .iaload, 1), (6, .ifCond .eq 12, 3), (9, .aload_n 0, 1), (10, .getfield 40, 3), (13, .bipush 6, 2), (15, .if_icmp .lt 12, 3), (18, .aload_n 0, 1), (19, .getfield 18, 3), (22, .iload_n 1, 1), (23, .iaload, 1), (24, .iconst 1, 1), (25, .iadd, 1), (26, .ireturn, 1)]
theorem tkX9_behindAgain_k0 : dkC cX9_behindAgain tdX9_behindAgain_k0 = true := by decide +kernel
def tdX9_behindAgain_k27 : List dkR := [(27, .aload_n 0, 1), (28, .getfield 27, 3), (31, .aload_n 0, 1), (32, .getfield 40, 3), (35, .aload_n 0, 1), (36, .getfield 15, 3), (39, .iload_n 1, 1), (40, .iaload, 1), (41, .iastore, 1), (42, .aload_n 0, 1), (43, .dup, 1), (44, .getfield 40, 3), (47, .iconst 1, 1), (48, .iadd, 1), (49, .putfield 40, 3), (52, .iload_n 1, 1)]
theorem tkX9_behindAgain_k27 : dkC cX9_behindAgain tdX9_behindAgain_k27 = true := by decide +kernel
def tdX9_behindAgain_k53 : List dkR := [(53, .iconst 1, 1), (54, .iadd, 1), (55, .ireturn, 1)]
theorem tkX9_behindAgain_k53 : dkC cX9_behindAgain tdX9_behindAgain_k53 = true := by decide +kernel
def tdX9_doStep_k0 : List dkR := [(0, .aload_n 0, 1), (1, .getfield 11, 3), (4, .iload_n 1, 1), (5, .iaload, 1), (6, .tableswitch 89 0 2 #[26, 45, 64], 26), (32, .aload_n 2, 1), (33, .aload_n 0, 1), (34, .getfield 15, 3), (37, .iload_n 1, 1), (38, .iaload, 1), (39, .aload_n 0, 1), (40, .getfield 18, 3), (43, .iload_n 1, 1), (44, .iaload, 1), (45, .invokevirtual 120, 3), (48, .goto 51, 3)]
theorem tkX9_doStep_k0 : dkC cX9_doStep tdX9_doStep_k0 = true := by decide +kernel
def tdX9_doStep_k51 : List dkR := [(51, .aload_n 2, 1), (52, .aload_n 0, 1), (53, .getfield 15, 3), (56, .iload_n 1, 1), (57, .iaload, 1), (58, .aload_n 0, 1), (59, .getfield 18, 3), (62, .iload_n 1, 1), (63, .iaload, 1), (64, .invokevirtual 126, 3), (67, .goto 32, 3), (70, .aload_n 2, 1), (71, .aload_n 0, 1), (72, .getfield 15, 3), (75, .iload_n 1, 1), (76, .iaload, 1)]
theorem tkX9_doStep_k51 : dkC cX9_doStep tdX9_doStep_k51 = true := by decide +kernel
def tdX9_doStep_k77 : List dkR := [(77, .aload_n 0, 1), (78, .getfield 18, 3), (81, .iload_n 1, 1), (82, .iaload, 1), (83, .aload_n 0, 1), (84, .getfield 21, 3), (87, .iload_n 1, 1), (88, .iaload, 1), (89, .invokevirtual 129, 3), (92, .goto 7, 3), (95, .aload_n 2, 1), (96, .invokevirtual 133, 3), (99, .return_, 1)]
theorem tkX9_doStep_k77 : dkC cX9_doStep tdX9_doStep_k77 = true := by decide +kernel
def tdX9_isAllowed_k0 : List dkR := [(0, .aload_n 0, 1), (1, .getfield 11, 3), (4, .iload_n 1, 1), (5, .iaload, 1), (6, .tableswitch 83 0 2 #[26, 43, 60], 26), (32, .aload_n 2, 1), (33, .aload_n 0, 1), (34, .getfield 15, 3), (37, .iload_n 1, 1), (38, .iaload, 1), (39, .aload_n 0, 1), (40, .getfield 18, 3), (43, .iload_n 1, 1), (44, .iaload, 1), (45, .invokevirtual 136, 3), (48, .ireturn, 1)]
theorem tkX9_isAllowed_k0 : dkC cX9_isAllowed tdX9_isAllowed_k0 = true := by decide +kernel
def tdX9_isAllowed_k49 : List dkR := [(49, .aload_n 2, 1), (50, .aload_n 0, 1), (51, .getfield 15, 3), (54, .iload_n 1, 1), (55, .iaload, 1), (56, .aload_n 0, 1), (57, .getfield 18, 3), (60, .iload_n 1, 1), (61, .iaload, 1), (62, .invokevirtual 140, 3), (65, .ireturn, 1), (66, .aload_n 2, 1), (67, .aload_n 0, 1), (68, .getfield 15, 3), (71, .iload_n 1, 1), (72, .iaload, 1)]
theorem tkX9_isAllowed_k49 : dkC cX9_isAllowed tdX9_isAllowed_k49 = true := by decide +kernel
def tdX9_isAllowed_k73 : List dkR := [(73, .aload_n 0, 1), (74, .getfield 18, 3), (77, .iload_n 1, 1), (78, .iaload, 1), (79, .aload_n 0, 1), (80, .getfield 21, 3), (83, .iload_n 1, 1), (84, .iaload, 1), (85, .invokevirtual 143, 3), (88, .ireturn, 1), (89, .aload_n 2, 1), (90, .invokevirtual 147, 3), (93, .bipush 40, 2), (95, .if_icmp .ge 7, 3), (98, .iconst 1, 1), (99, .goto 4, 3)]
theorem tkX9_isAllowed_k73 : dkC cX9_isAllowed tdX9_isAllowed_k73 = true := by decide +kernel
def tdX9_isAllowed_k102 : List dkR := [(102, .iconst 0, 1), (103, .ireturn, 1)]
theorem tkX9_isAllowed_k102 : dkC cX9_isAllowed tdX9_isAllowed_k102 = true := by decide +kernel
def tdX10_init_k0 : List dkR := [(0, .aload_n 0, 1), (1, .invokespecial 1, 3), (4, .aload_n 0, 1), (5, .new 7, 3), (8, .dup, 1), (9, .invokespecial 9, 3), (12, .putfield 10, 3), (15, .aload_n 0, 1), (16, .new 16, 3), (19, .dup, 1), (20, .invokespecial 18, 3), (23, .putfield 19, 3), (26, .aload_n 0, 1), (27, .new 16, 3), (30, .dup, 1), (31, .invokespecial 18, 3)]
theorem tkX10_init_k0 : dkC cX10_init tdX10_init_k0 = true := by decide +kernel
def tdX10_init_k34 : List dkR := [(34, .putfield 23, 3), (37, .aload_n 0, 1), (38, .new 26, 3), (41, .dup, 1), (42, .invokespecial 28, 3), (45, .putfield 29, 3), (48, .aload_n 0, 1), (49, .new 26, 3), (52, .dup, 1), (53, .invokespecial 28, 3), (56, .putfield 33, 3), (59, .aload_n 0, 1), (60, .new 36, 3), (63, .dup, 1), (64, .invokespecial 38, 3), (67, .putfield 39, 3)]
theorem tkX10_init_k34 : dkC cX10_init tdX10_init_k34 = true := by decide +kernel
def tdX10_init_k70 : List dkR := [(70, .aload_n 0, 1), (71, .new 36, 3), (74, .dup, 1), (75, .invokespecial 38, 3), (78, .putfield 43, 3), (81, .aload_n 0, 1), (82, .new 46, 3), (85, .dup, 1), (86, .invokespecial 48, 3), (89, .putfield 49, 3), (92, .aload_n 0, 1), (93, .new 53, 3), (96, .dup, 1), (97, .aload_n 0, 1), (98, .getfield 19, 3), (101, .aload_n 0, 1)]
theorem tkX10_init_k70 : dkC cX10_init tdX10_init_k70 = true := by decide +kernel
def tdX10_init_k102 : List dkR := [(102, .getfield 29, 3), (105, .invokespecial 55, 3), (108, .putfield 58, 3), (111, .aload_n 0, 1), (112, .new 53, 3), (115, .dup, 1), (116, .aload_n 0, 1), (117, .getfield 19, 3), (120, .aload_n 0, 1), (121, .getfield 29, 3), (124, .invokespecial 55, 3), (127, .putfield 62, 3), (130, .aload_n 0, 1), (131, .new 65, 3), (134, .dup, 1), (135, .invokespecial 67, 3)]
theorem tkX10_init_k102 : dkC cX10_init tdX10_init_k102 = true := by decide +kernel
def tdX10_init_k138 : List dkR := [(138, .putfield 68, 3), (141, .aload_n 0, 1), (142, .iconst 3, 1), (143, .anewarray 65, 3), (146, .putfield 72, 3), (149, .iconst 0, 1), (150, .istore_n 1, 1), (151, .iload_n 1, 1), (152, .iconst 3, 1), (153, .if_icmp .ge 22, 3), (156, .aload_n 0, 1), (157, .getfield 72, 3), (160, .iload_n 1, 1), (161, .new 65, 3), (164, .dup, 1), (165, .invokespecial 67, 3)]
theorem tkX10_init_k138 : dkC cX10_init tdX10_init_k138 = true := by decide +kernel
def tdX10_init_k168 : List dkR := [(168, .aastore, 1), (169, .iinc 1 1, 3), (172, .goto (-21), 3), (175, .aload_n 0, 1), (176, .new 76, 3), (179, .dup, 1), (180, .invokespecial 78, 3), (183, .putfield 79, 3), (186, .aload_n 0, 1), (187, .new 83, 3), (190, .dup, 1), (191, .invokespecial 85, 3), (194, .putfield 86, 3), (197, .aload_n 0, 1), (198, .new 90, 3), (201, .dup, 1)]
theorem tkX10_init_k168 : dkC cX10_init tdX10_init_k168 = true := by decide +kernel
def tdX10_init_k202 : List dkR := [(202, .invokespecial 92, 3), (205, .putfield 93, 3), (208, .return_, 1)]
theorem tkX10_init_k202 : dkC cX10_init tdX10_init_k202 = true := by decide +kernel
def tdX10_feed_k0 : List dkR := [(0, .aload_n 0, 1), (1, .getfield 10, 3), (4, .invokevirtual 97, 3), (7, .ifCond .ne 5, 3), (10, .iconst (-1), 1), (11, .ireturn, 1), (12, .aload_n 0, 1), (13, .getfield 10, 3), (16, .iload_n 1, 1), (17, .invokevirtual 101, 3), (20, .aload_n 0, 1), (21, .getfield 10, 3), (24, .iload_n 2, 1), (25, .invokevirtual 101, 3), (28, .aload_n 0, 1), (29, .getfield 10, 3)]
theorem tkX10_feed_k0 : dkC cX10_feed tdX10_feed_k0 = true := by decide +kernel
def tdX10_feed_k32 : List dkR := [(32, .iload_n 3, 1), (33, .invokevirtual 101, 3), (36, .aload_n 0, 1), (37, .getfield 10, 3), (40, .iload 4, 2), (42, .invokevirtual 101, 3), (45, .aload_n 0, 1), (46, .getfield 10, 3), (49, .iload 5, 2), (51, .invokevirtual 101, 3), (54, .aload_n 0, 1), (55, .getfield 10, 3), (58, .getfield 105, 3), (61, .ireturn, 1)]
theorem tkX10_feed_k32 : dkC cX10_feed tdX10_feed_k32 = true := by decide +kernel
def tdX10_down_k0 : List dkR := [(0, .aload_n 0, 1), (1, .iload_n 1, 1), (2, .sipush 600, 3), (5, .invokevirtual 109, 3), (8, .aload_n 0, 1), (9, .getfield 23, 3), (12, .aload_n 0, 1), (13, .getfield 10, 3), (16, .invokevirtual 113, 3), (19, .aload_n 0, 1), (20, .getfield 10, 3), (23, .invokevirtual 117, 3), (26, .ifCond .eq 14, 3), (29, .aload_n 0, 1), (30, .getfield 10, 3), (33, .getfield 120, 3)]
theorem tkX10_down_k0 : dkC cX10_down tdX10_down_k0 = true := by decide +kernel
def tdX10_down_k36 : List dkR := [(36, .bipush 10, 2), (38, .isub, 1), (39, .ireturn, 1), (40, .aload_n 0, 1), (41, .getfield 19, 3), (44, .astore_n 2, 1), (45, .aload_n 0, 1), (46, .aload_n 0, 1), (47, .getfield 23, 3), (50, .putfield 19, 3), (53, .aload_n 0, 1), (54, .aload_n 2, 1), (55, .putfield 23, 3), (58, .aload_n 0, 1), (59, .getfield 29, 3), (62, .invokevirtual 123, 3)]
theorem tkX10_down_k36 : dkC cX10_down tdX10_down_k36 = true := by decide +kernel
def tdX10_down_k65 : List dkR := [(65, .aload_n 0, 1), (66, .getfield 39, 3), (69, .invokevirtual 126, 3), (72, .aload_n 0, 1), (73, .getfield 58, 3), (76, .aload_n 0, 1), (77, .getfield 19, 3), (80, .aload_n 0, 1), (81, .getfield 29, 3), (84, .invokevirtual 129, 3), (87, .aload_n 0, 1), (88, .getfield 68, 3), (91, .iconst 0, 1), (92, .putfield 132, 3), (95, .aload_n 0, 1), (96, .iconst 0, 1)]
theorem tkX10_down_k65 : dkC cX10_down tdX10_down_k65 = true := by decide +kernel
def tdX10_down_k97 : List dkR := [(97, .putfield 135, 3), (100, .aload_n 0, 1), (101, .iconst 0, 1), (102, .putfield 138, 3), (105, .aload_n 0, 1), (106, .getfield 19, 3), (109, .getfield 141, 3), (112, .ireturn, 1)]
theorem tkX10_down_k97 : dkC cX10_down tdX10_down_k97 = true := by decide +kernel
def tdX10_law_k0 : List dkR := [(0, .aload_n 0, 1), (1, .iload_n 1, 1), (2, .sipush 150, 3), (5, .invokevirtual 109, 3), (8, .aload_n 0, 1), (9, .getfield 33, 3), (12, .aload_n 0, 1), (13, .getfield 10, 3), (16, .invokevirtual 144, 3), (19, .aload_n 0, 1), (20, .getfield 10, 3), (23, .invokevirtual 117, 3), (26, .ifCond .eq 14, 3), (29, .aload_n 0, 1), (30, .getfield 10, 3), (33, .getfield 120, 3)]
theorem tkX10_law_k0 : dkC cX10_law tdX10_law_k0 = true := by decide +kernel
def tdX10_law_k36 : List dkR := [(36, .bipush 10, 2), (38, .isub, 1), (39, .ireturn, 1), (40, .aload_n 0, 1), (41, .getfield 29, 3), (44, .astore_n 2, 1), (45, .aload_n 0, 1), (46, .aload_n 0, 1), (47, .getfield 33, 3), (50, .putfield 29, 3), (53, .aload_n 0, 1), (54, .aload_n 2, 1), (55, .putfield 33, 3), (58, .aload_n 0, 1), (59, .getfield 58, 3), (62, .aload_n 0, 1)]
theorem tkX10_law_k36 : dkC cX10_law tdX10_law_k36 = true := by decide +kernel
def tdX10_law_k63 : List dkR := [(63, .getfield 29, 3), (66, .invokevirtual 145, 3), (69, .iconst 1, 1), (70, .ireturn, 1)]
theorem tkX10_law_k63 : dkC cX10_law tdX10_law_k63 = true := by decide +kernel
def tdX10_work_k0 : List dkR := [(0, .aload_n 0, 1), (1, .iload_n 1, 1), (2, .sipush 150, 3), (5, .invokevirtual 109, 3), (8, .aload_n 0, 1), (9, .getfield 68, 3), (12, .getfield 132, 3), (15, .bipush 16, 2), (17, .if_icmp .lt 6, 3), (20, .bipush (-20), 2), (22, .ireturn, 1), (23, .aload_n 0, 1), (24, .getfield 49, 3), (27, .aload_n 0, 1), (28, .getfield 10, 3), (31, .aload_n 0, 1)]
theorem tkX10_work_k0 : dkC cX10_work tdX10_work_k0 = true := by decide +kernel
def tdX10_work_k32 : List dkR := [(32, .getfield 19, 3), (35, .getfield 141, 3), (38, .aload_n 0, 1), (39, .getfield 19, 3), (42, .getfield 149, 3), (45, .invokevirtual 152, 3), (48, .aload_n 0, 1), (49, .getfield 10, 3), (52, .invokevirtual 117, 3), (55, .ifCond .eq 14, 3), (58, .aload_n 0, 1), (59, .getfield 10, 3), (62, .getfield 120, 3), (65, .bipush 10, 2), (67, .isub, 1), (68, .ireturn, 1)]
theorem tkX10_work_k32 : dkC cX10_work tdX10_work_k32 = true := by decide +kernel
def tdX10_work_k69 : List dkR := [(69, .aload_n 0, 1), (70, .getfield 68, 3), (73, .aload_n 0, 1), (74, .getfield 58, 3), (77, .invokevirtual 155, 3), (80, .aload_n 0, 1), (81, .getfield 49, 3), (84, .aload_n 0, 1), (85, .getfield 58, 3), (88, .invokevirtual 159, 3), (91, .aload_n 0, 1), (92, .aload_n 0, 1), (93, .getfield 49, 3), (96, .getfield 162, 3), (99, .putfield 138, 3), (102, .aload_n 0, 1)]
theorem tkX10_work_k69 : dkC cX10_work tdX10_work_k69 = true := by decide +kernel
def tdX10_work_k103 : List dkR := [(103, .getfield 49, 3), (106, .getfield 165, 3), (109, .ireturn, 1)]
theorem tkX10_work_k103 : dkC cX10_work tdX10_work_k103 = true := by decide +kernel
def tdX10_book_k0 : List dkR := [(0, .aload_n 0, 1), (1, .iload_n 1, 1), (2, .bipush 60, 2), (4, .invokevirtual 109, 3), (7, .aload_n 0, 1), (8, .getfield 43, 3), (11, .aload_n 0, 1), (12, .getfield 10, 3), (15, .aload_n 0, 1), (16, .getfield 19, 3), (19, .getfield 149, 3), (22, .invokevirtual 168, 3), (25, .aload_n 0, 1), (26, .getfield 10, 3), (29, .invokevirtual 117, 3), (32, .ifCond .eq 14, 3)]
theorem tkX10_book_k0 : dkC cX10_book tdX10_book_k0 = true := by decide +kernel
def tdX10_book_k35 : List dkR := [(35, .aload_n 0, 1), (36, .getfield 10, 3), (39, .getfield 120, 3), (42, .bipush 10, 2), (44, .isub, 1), (45, .ireturn, 1), (46, .aload_n 0, 1), (47, .getfield 39, 3), (50, .astore_n 2, 1), (51, .aload_n 0, 1), (52, .aload_n 0, 1), (53, .getfield 43, 3), (56, .putfield 39, 3), (59, .aload_n 0, 1), (60, .aload_n 2, 1), (61, .putfield 43, 3)]
theorem tkX10_book_k35 : dkC cX10_book tdX10_book_k35 = true := by decide +kernel
def tdX10_book_k64 : List dkR := [(64, .aload_n 0, 1), (65, .getfield 39, 3), (68, .getfield 171, 3), (71, .ireturn, 1)]
theorem tkX10_book_k64 : dkC cX10_book tdX10_book_k64 = true := by decide +kernel
def tdX10_fault_k0 : List dkR := [(0, .aload_n 0, 1), (1, .getfield 10, 3), (4, .getfield 174, 3), (7, .ireturn, 1)]
theorem tkX10_fault_k0 : dkC cX10_fault tdX10_fault_k0 = true := by decide +kernel
def tdX10_undo_k0 : List dkR := [(0, .aload_n 0, 1), (1, .getfield 68, 3), (4, .getfield 132, 3), (7, .ifCond .ne 5, 3), (10, .iconst (-1), 1), (11, .ireturn, 1), (12, .aload_n 0, 1), (13, .getfield 68, 3), (16, .aload_n 0, 1), (17, .getfield 58, 3), (20, .invokevirtual 177, 3), (23, .aload_n 0, 1), (24, .iconst 0, 1), (25, .putfield 138, 3), (28, .aload_n 0, 1), (29, .getfield 68, 3)]
theorem tkX10_undo_k0 : dkC cX10_undo tdX10_undo_k0 = true := by decide +kernel
def tdX10_undo_k32 : List dkR := [(32, .getfield 132, 3), (35, .ireturn, 1)]
theorem tkX10_undo_k32 : dkC cX10_undo tdX10_undo_k32 = true := by decide +kernel
def tdX10_told_k0 : List dkR := [(0, .aload_n 0, 1), (1, .iload_n 1, 1), (2, .iconst 0, 1), (3, .bipush 11, 2), (5, .invokevirtual 180, 3), (8, .iload_n 1, 1), (9, .tableswitch 144 0 10 #[59, 67, 75, 83, 91, 99, 107, 115, 123, 131, 139], 59), (68, .aload_n 0, 1), (69, .getfield 19, 3), (72, .getfield 149, 3), (75, .ireturn, 1), (76, .aload_n 0, 1), (77, .getfield 19, 3), (80, .getfield 141, 3), (83, .ireturn, 1), (84, .aload_n 0, 1)]
theorem tkX10_told_k0 : dkC cX10_told tdX10_told_k0 = true := by decide +kernel
def tdX10_told_k85 : List dkR := [(85, .getfield 19, 3), (88, .getfield 184, 3), (91, .ireturn, 1), (92, .aload_n 0, 1), (93, .getfield 58, 3), (96, .invokevirtual 187, 3), (99, .ireturn, 1), (100, .aload_n 0, 1), (101, .getfield 58, 3), (104, .invokevirtual 191, 3), (107, .ireturn, 1), (108, .aload_n 0, 1), (109, .getfield 58, 3), (112, .invokevirtual 194, 3), (115, .ireturn, 1), (116, .aload_n 0, 1)]
theorem tkX10_told_k85 : dkC cX10_told tdX10_told_k85 = true := by decide +kernel
def tdX10_told_k117 : List dkR := [(117, .getfield 58, 3), (120, .invokevirtual 197, 3), (123, .ireturn, 1), (124, .aload_n 0, 1), (125, .getfield 19, 3), (128, .getfield 200, 3), (131, .ireturn, 1), (132, .aload_n 0, 1), (133, .getfield 58, 3), (136, .invokevirtual 203, 3), (139, .ireturn, 1), (140, .aload_n 0, 1), (141, .getfield 39, 3), (144, .getfield 171, 3), (147, .ireturn, 1), (148, .aload_n 0, 1)]
theorem tkX10_told_k117 : dkC cX10_told tdX10_told_k117 = true := by decide +kernel
def tdX10_told_k149 : List dkR := [(149, .getfield 138, 3), (152, .ireturn, 1), (153, .aload_n 0, 1), (154, .getfield 58, 3), (157, .invokevirtual 206, 3), (160, .ireturn, 1)]
theorem tkX10_told_k149 : dkC cX10_told tdX10_told_k149 = true := by decide +kernel
def tdX10_form_k0 : List dkR := [(0, .aload_n 0, 1), (1, .iload_n 1, 1), (2, .invokevirtual 209, 3), (5, .aload_n 0, 1), (6, .iload_n 2, 1), (7, .iconst 0, 1), (8, .iconst 3, 1), (9, .invokevirtual 180, 3), (12, .iload_n 2, 1), (13, .tableswitch 64 0 2 #[27, 37, 47], 27), (40, .aload_n 0, 1), (41, .getfield 19, 3), (44, .getfield 212, 3), (47, .iload_n 1, 1), (48, .iaload, 1), (49, .ireturn, 1)]
theorem tkX10_form_k0 : dkC cX10_form tdX10_form_k0 = true := by decide +kernel
def tdX10_form_k50 : List dkR := [(50, .aload_n 0, 1), (51, .getfield 19, 3), (54, .getfield 216, 3), (57, .iload_n 1, 1), (58, .iaload, 1), (59, .ireturn, 1), (60, .aload_n 0, 1), (61, .getfield 19, 3), (64, .iload_n 1, 1), (65, .invokevirtual 219, 3), (68, .ifCond .eq 7, 3), (71, .iconst 1, 1), (72, .goto 4, 3), (75, .iconst 0, 1), (76, .ireturn, 1), (77, .aload_n 0, 1)]
theorem tkX10_form_k50 : dkC cX10_form tdX10_form_k50 = true := by decide +kernel
def tdX10_form_k78 : List dkR := [(78, .getfield 58, 3), (81, .iload_n 1, 1), (82, .invokevirtual 223, 3), (85, .ireturn, 1)]
theorem tkX10_form_k78 : dkC cX10_form tdX10_form_k78 = true := by decide +kernel
def tdX10_hare_k0 : List dkR := [(0, .aload_n 0, 1), (1, .iload_n 1, 1), (2, .invokevirtual 227, 3), (5, .aload_n 0, 1), (6, .iload_n 2, 1), (7, .iconst 0, 1), (8, .bipush 7, 2), (10, .invokevirtual 180, 3), (13, .iload_n 2, 1), (14, .tableswitch 121 0 6 #[42, 66, 75, 85, 94, 103, 112], 42), (56, .aload_n 0, 1), (57, .getfield 58, 3), (60, .iload_n 1, 1), (61, .invokevirtual 230, 3), (64, .ifCond .eq 7, 3), (67, .iconst (-1), 1)]
theorem tkX10_hare_k0 : dkC cX10_hare tdX10_hare_k0 = true := by decide +kernel
def tdX10_hare_k68 : List dkR := [(68, .goto 11, 3), (71, .aload_n 0, 1), (72, .getfield 58, 3), (75, .iload_n 1, 1), (76, .invokevirtual 233, 3), (79, .ireturn, 1), (80, .aload_n 0, 1), (81, .getfield 58, 3), (84, .iload_n 1, 1), (85, .invokevirtual 236, 3), (88, .ireturn, 1), (89, .aload_n 0, 1), (90, .getfield 19, 3), (93, .getfield 239, 3), (96, .iload_n 1, 1), (97, .iaload, 1)]
theorem tkX10_hare_k68 : dkC cX10_hare tdX10_hare_k68 = true := by decide +kernel
def tdX10_hare_k98 : List dkR := [(98, .ireturn, 1), (99, .aload_n 0, 1), (100, .getfield 58, 3), (103, .iload_n 1, 1), (104, .invokevirtual 242, 3), (107, .ireturn, 1), (108, .aload_n 0, 1), (109, .getfield 58, 3), (112, .iload_n 1, 1), (113, .invokevirtual 245, 3), (116, .ireturn, 1), (117, .aload_n 0, 1), (118, .getfield 58, 3), (121, .iload_n 1, 1), (122, .invokevirtual 248, 3), (125, .ireturn, 1)]
theorem tkX10_hare_k98 : dkC cX10_hare tdX10_hare_k98 = true := by decide +kernel
def tdX10_hare_k126 : List dkR := [(126, .aload_n 0, 1), (127, .getfield 58, 3), (130, .iload_n 1, 1), (131, .invokevirtual 251, 3), (134, .ireturn, 1), (135, .aload_n 0, 1), (136, .getfield 58, 3), (139, .iload_n 1, 1), (140, .invokevirtual 230, 3), (143, .ifCond .eq 7, 3), (146, .iconst 0, 1), (147, .goto 11, 3), (150, .aload_n 0, 1), (151, .getfield 58, 3), (154, .iload_n 1, 1), (155, .invokevirtual 254, 3)]
theorem tkX10_hare_k126 : dkC cX10_hare tdX10_hare_k126 = true := by decide +kernel
def tdX10_hare_k158 : List dkR := [(158, .ireturn, 1)]
theorem tkX10_hare_k158 : dkC cX10_hare tdX10_hare_k158 = true := by decide +kernel
def tdX10_fox_k0 : List dkR := [(0, .iload_n 1, 1), (1, .iconst 0, 1), (2, .aload_n 0, 1), (3, .getfield 19, 3), (6, .getfield 184, 3), (9, .iconst 1, 1), (10, .isub, 1), (11, .invokestatic 257, 3), (14, .ifCond .ne 24, 3), (17, .aload_n 0, 1), (18, .dup, 1), (19, .getfield 261, 3), (22, .iconst 1, 1), (23, .iadd, 1), (24, .putfield 261, 3), (27, .new 264, 3)]
theorem tkX10_fox_k0 : dkC cX10_fox tdX10_fox_k0 = true := by decide +kernel
def tdX10_fox_k30 : List dkR := [(30, .dup, 1), (31, .ldc_w 266, 3), (34, .invokespecial 268, 3), (37, .athrow, 1), (38, .aload_n 0, 1), (39, .iload_n 2, 1), (40, .iconst 0, 1), (41, .iconst 1, 1), (42, .invokevirtual 180, 3), (45, .iload_n 2, 1), (46, .ifCond .ne 15, 3), (49, .aload_n 0, 1), (50, .getfield 19, 3), (53, .getfield 271, 3), (56, .iload_n 1, 1), (57, .iaload, 1)]
theorem tkX10_fox_k30 : dkC cX10_fox tdX10_fox_k30 = true := by decide +kernel
def tdX10_fox_k58 : List dkR := [(58, .goto 12, 3), (61, .aload_n 0, 1), (62, .getfield 19, 3), (65, .getfield 274, 3), (68, .iload_n 1, 1), (69, .iaload, 1), (70, .ireturn, 1)]
theorem tkX10_fox_k58 : dkC cX10_fox tdX10_fox_k58 = true := by decide +kernel
def tdX10_debt_k0 : List dkR := [(0, .aload_n 0, 1), (1, .iload_n 1, 1), (2, .invokevirtual 227, 3), (5, .aload_n 0, 1), (6, .iload_n 2, 1), (7, .invokevirtual 227, 3), (10, .aload_n 0, 1), (11, .getfield 58, 3), (14, .iload_n 1, 1), (15, .iload_n 2, 1), (16, .invokevirtual 277, 3), (19, .ireturn, 1)]
theorem tkX10_debt_k0 : dkC cX10_debt tdX10_debt_k0 = true := by decide +kernel
def tdX10_far_k0 : List dkR := [(0, .aload_n 0, 1), (1, .iload_n 1, 1), (2, .invokevirtual 209, 3), (5, .aload_n 0, 1), (6, .iload_n 2, 1), (7, .invokevirtual 209, 3), (10, .aload_n 0, 1), (11, .getfield 19, 3), (14, .iload_n 1, 1), (15, .iload_n 2, 1), (16, .invokevirtual 281, 3), (19, .ireturn, 1)]
theorem tkX10_far_k0 : dkC cX10_far tdX10_far_k0 = true := by decide +kernel
def tdX10_would_k0 : List dkR := [(0, .aload_n 0, 1), (1, .iload_n 1, 1), (2, .iconst 0, 1), (3, .bipush 9, 2), (5, .invokevirtual 180, 3), (8, .aload_n 0, 1), (9, .iload_n 2, 1), (10, .iconst 0, 1), (11, .sipush 999, 3), (14, .invokevirtual 180, 3), (17, .aload_n 0, 1), (18, .iload_n 3, 1), (19, .iconst 0, 1), (20, .sipush 999, 3), (23, .invokevirtual 180, 3), (26, .aload_n 0, 1)]
theorem tkX10_would_k0 : dkC cX10_would tdX10_would_k0 = true := by decide +kernel
def tdX10_would_k27 : List dkR := [(27, .iload 4, 2), (29, .iconst 0, 1), (30, .sipush 999, 3), (33, .invokevirtual 180, 3), (36, .aload_n 0, 1), (37, .iload 5, 2), (39, .iconst 0, 1), (40, .iconst 5, 1), (41, .invokevirtual 180, 3), (44, .aload_n 0, 1), (45, .iload 6, 2), (47, .iconst 1, 1), (48, .bipush 31, 2), (50, .invokevirtual 180, 3), (53, .aload_n 0, 1), (54, .iload 7, 2)]
theorem tkX10_would_k27 : dkC cX10_would tdX10_would_k27 = true := by decide +kernel
def tdX10_would_k56 : List dkR := [(56, .iconst 0, 1), (57, .iconst 5, 1), (58, .invokevirtual 180, 3), (61, .aload_n 0, 1), (62, .iload 8, 2), (64, .iconst 0, 1), (65, .sipush 999, 3), (68, .invokevirtual 180, 3), (71, .aload_n 0, 1), (72, .getfield 29, 3), (75, .iload_n 1, 1), (76, .iload_n 2, 1), (77, .iload_n 3, 1), (78, .iload 4, 2), (80, .iload 5, 2), (82, .invokevirtual 284, 3)]
theorem tkX10_would_k56 : dkC cX10_would tdX10_would_k56 = true := by decide +kernel
def tdX10_would_k85 : List dkR := [(85, .aload_n 0, 1), (86, .getfield 29, 3), (89, .iload 6, 2), (91, .iload 7, 2), (93, .iload 8, 2), (95, .invokevirtual 288, 3), (98, .aload_n 0, 1), (99, .getfield 29, 3), (102, .invokevirtual 291, 3), (105, .ireturn, 1)]
theorem tkX10_would_k85 : dkC cX10_would tdX10_would_k85 = true := by decide +kernel
def tdX10_can_k0 : List dkR := [(0, .aload_n 0, 1), (1, .iload_n 1, 1), (2, .invokevirtual 227, 3), (5, .aload_n 0, 1), (6, .iload_n 2, 1), (7, .invokevirtual 209, 3), (10, .aload_n 0, 1), (11, .getfield 58, 3), (14, .iload_n 1, 1), (15, .iload_n 2, 1), (16, .invokevirtual 293, 3), (19, .ireturn, 1)]
theorem tkX10_can_k0 : dkC cX10_can tdX10_can_k0 = true := by decide +kernel
def tdX10_ahead_k0 : List dkR := [(0, .aload_n 0, 1), (1, .iload_n 1, 1), (2, .iconst 0, 1), (3, .bipush 99, 2), (5, .invokevirtual 180, 3), (8, .aload_n 0, 1), (9, .iload_n 2, 1), (10, .iconst 0, 1), (11, .iconst 2, 1), (12, .invokevirtual 180, 3), (15, .aload_n 0, 1), (16, .getfield 62, 3), (19, .aload_n 0, 1), (20, .getfield 58, 3), (23, .invokevirtual 297, 3), (26, .iconst 0, 1)]
theorem tkX10_ahead_k0 : dkC cX10_ahead tdX10_ahead_k0 = true := by decide +kernel
def tdX10_ahead_k27 : List dkR := [(27, .istore_n 3, 1), (28, .iload_n 3, 1), (29, .iload_n 1, 1), (30, .if_icmp .ge 16, 3), (33, .aload_n 0, 1), (34, .getfield 62, 3), (37, .invokevirtual 300, 3), (40, .iinc 3 1, 3), (43, .goto (-15), 3), (46, .iload_n 2, 1), (47, .lookupswitch 41 #[(0, 25), (1, 33)], 25), (72, .aload_n 0, 1), (73, .getfield 62, 3), (76, .invokevirtual 187, 3), (79, .ireturn, 1), (80, .aload_n 0, 1)]
theorem tkX10_ahead_k27 : dkC cX10_ahead tdX10_ahead_k27 = true := by decide +kernel
def tdX10_ahead_k81 : List dkR := [(81, .getfield 62, 3), (84, .invokevirtual 194, 3), (87, .ireturn, 1), (88, .aload_n 0, 1), (89, .getfield 62, 3), (92, .invokevirtual 203, 3), (95, .ireturn, 1)]
theorem tkX10_ahead_k81 : dkC cX10_ahead tdX10_ahead_k81 = true := by decide +kernel
def tdX10_hops_k0 : List dkR := [(0, .aload_n 0, 1), (1, .iload_n 1, 1), (2, .invokevirtual 227, 3), (5, .aload_n 0, 1), (6, .iload_n 2, 1), (7, .invokevirtual 209, 3), (10, .aload_n 0, 1), (11, .getfield 58, 3), (14, .iload_n 1, 1), (15, .invokevirtual 230, 3), (18, .ifCond .eq 5, 3), (21, .iconst (-1), 1), (22, .ireturn, 1), (23, .aload_n 0, 1), (24, .getfield 19, 3), (27, .aload_n 0, 1)]
theorem tkX10_hops_k0 : dkC cX10_hops tdX10_hops_k0 = true := by decide +kernel
def tdX10_hops_k28 : List dkR := [(28, .getfield 58, 3), (31, .iload_n 1, 1), (32, .invokevirtual 233, 3), (35, .iload_n 2, 1), (36, .aload_n 0, 1), (37, .getfield 58, 3), (40, .iload_n 1, 1), (41, .invokevirtual 254, 3), (44, .invokevirtual 303, 3), (47, .ireturn, 1)]
theorem tkX10_hops_k28 : dkC cX10_hops tdX10_hops_k28 = true := by decide +kernel
def tdX10_seats_k0 : List dkR := [(0, .aload_n 0, 1), (1, .getfield 86, 3), (4, .aload_n 0, 1), (5, .getfield 58, 3), (8, .invokevirtual 307, 3), (11, .aload_n 0, 1), (12, .getfield 86, 3), (15, .getfield 310, 3), (18, .ireturn, 1)]
theorem tkX10_seats_k0 : dkC cX10_seats tdX10_seats_k0 = true := by decide +kernel
def tdX10_seat_k0 : List dkR := [(0, .aload_n 0, 1), (1, .iload_n 1, 1), (2, .invokevirtual 227, 3), (5, .aload_n 0, 1), (6, .getfield 86, 3), (9, .aload_n 0, 1), (10, .getfield 58, 3), (13, .invokevirtual 307, 3), (16, .aload_n 0, 1), (17, .getfield 86, 3), (20, .getfield 313, 3), (23, .iload_n 1, 1), (24, .iaload, 1), (25, .ireturn, 1)]
theorem tkX10_seat_k0 : dkC cX10_seat tdX10_seat_k0 = true := by decide +kernel
def tdX10_ring_k0 : List dkR := [(0, .aload_n 0, 1), (1, .getfield 79, 3), (4, .aload_n 0, 1), (5, .getfield 19, 3), (8, .invokevirtual 316, 3), (11, .aload_n 0, 1), (12, .getfield 79, 3), (15, .getfield 319, 3), (18, .ireturn, 1)]
theorem tkX10_ring_k0 : dkC cX10_ring tdX10_ring_k0 = true := by decide +kernel
def tdX10_ringed_k0 : List dkR := [(0, .aload_n 0, 1), (1, .iload_n 1, 1), (2, .ifCond .lt 7, 3), (5, .iconst 1, 1), (6, .goto 4, 3), (9, .iconst 0, 1), (10, .invokevirtual 322, 3), (13, .iload_n 1, 1), (14, .aload_n 0, 1), (15, .getfield 19, 3), (18, .getfield 149, 3), (21, .if_icmp .lt 5, 3), (24, .iconst (-1), 1), (25, .ireturn, 1), (26, .aload_n 0, 1), (27, .getfield 79, 3)]
theorem tkX10_ringed_k0 : dkC cX10_ringed tdX10_ringed_k0 = true := by decide +kernel
def tdX10_ringed_k30 : List dkR := [(30, .aload_n 0, 1), (31, .getfield 19, 3), (34, .invokevirtual 316, 3), (37, .aload_n 0, 1), (38, .getfield 79, 3), (41, .getfield 326, 3), (44, .iload_n 1, 1), (45, .iaload, 1), (46, .ireturn, 1)]
theorem tkX10_ringed_k30 : dkC cX10_ringed tdX10_ringed_k30 = true := by decide +kernel
def tdX10_bouts_k0 : List dkR := [(0, .aload_n 0, 1), (1, .iload_n 1, 1), (2, .invokevirtual 227, 3), (5, .aload_n 0, 1), (6, .getfield 58, 3), (9, .iload_n 1, 1), (10, .invokevirtual 230, 3), (13, .ifCond .eq 5, 3), (16, .iconst 0, 1), (17, .ireturn, 1), (18, .aload_n 0, 1), (19, .getfield 58, 3), (22, .invokevirtual 329, 3), (25, .istore_n 2, 1), (26, .iconst 0, 1), (27, .istore_n 3, 1)]
theorem tkX10_bouts_k0 : dkC cX10_bouts tdX10_bouts_k0 = true := by decide +kernel
def tdX10_bouts_k28 : List dkR := [(28, .iconst 0, 1), (29, .istore 4, 2), (31, .iload 4, 2), (33, .aload_n 0, 1), (34, .getfield 19, 3), (37, .getfield 141, 3), (40, .if_icmp .ge 46, 3), (43, .iload_n 2, 1), (44, .iload 4, 2), (46, .invokestatic 332, 3), (49, .ifCond .eq 31, 3), (52, .iload_n 3, 1), (53, .aload_n 0, 1), (54, .getfield 58, 3), (57, .iload_n 1, 1), (58, .iload 4, 2)]
theorem tkX10_bouts_k28 : dkC cX10_bouts tdX10_bouts_k28 = true := by decide +kernel
def tdX10_bouts_k60 : List dkR := [(60, .aload_n 0, 1), (61, .getfield 58, 3), (64, .iload 4, 2), (66, .invokevirtual 236, 3), (69, .iload_n 2, 1), (70, .iconst 1, 1), (71, .iload 4, 2), (73, .ishl, 1), (74, .ixor, 1), (75, .invokestatic 335, 3), (78, .iadd, 1), (79, .istore_n 3, 1), (80, .iinc 4 1, 3), (83, .goto (-52), 3), (86, .iload_n 3, 1), (87, .ireturn, 1)]
theorem tkX10_bouts_k60 : dkC cX10_bouts tdX10_bouts_k60 = true := by decide +kernel
def tdX10_fits_k0 : List dkR := [(0, .aload_n 0, 1), (1, .iload_n 1, 1), (2, .iconst 0, 1), (3, .iconst 1, 1), (4, .invokevirtual 180, 3), (7, .aload_n 0, 1), (8, .getfield 93, 3), (11, .aload_n 0, 1), (12, .getfield 58, 3), (15, .aload_n 0, 1), (16, .getfield 39, 3), (19, .invokevirtual 339, 3), (22, .iload_n 1, 1), (23, .ifCond .ne 13, 3), (26, .aload_n 0, 1), (27, .getfield 93, 3)]
theorem tkX10_fits_k0 : dkC cX10_fits tdX10_fits_k0 = true := by decide +kernel
def tdX10_fits_k30 : List dkR := [(30, .getfield 342, 3), (33, .goto 10, 3), (36, .aload_n 0, 1), (37, .getfield 93, 3), (40, .getfield 343, 3), (43, .ireturn, 1)]
theorem tkX10_fits_k30 : dkC cX10_fits tdX10_fits_k30 = true := by decide +kernel
def tdX10_look_k0 : List dkR := [(0, .aload_n 0, 1), (1, .iload_n 1, 1), (2, .iconst 0, 1), (3, .iconst 1, 1), (4, .invokevirtual 180, 3), (7, .aload_n 0, 1), (8, .getfield 93, 3), (11, .aload_n 0, 1), (12, .getfield 58, 3), (15, .aload_n 0, 1), (16, .getfield 39, 3), (19, .invokevirtual 339, 3), (22, .aload_n 0, 1), (23, .getfield 93, 3), (26, .invokevirtual 346, 3), (29, .iload_n 1, 1)]
theorem tkX10_look_k0 : dkC cX10_look tdX10_look_k0 = true := by decide +kernel
def tdX10_look_k30 : List dkR := [(30, .ifCond .ne 13, 3), (33, .aload_n 0, 1), (34, .getfield 93, 3), (37, .getfield 349, 3), (40, .goto 10, 3)]
theorem tkX10_look_k30 : dkC cX10_look tdX10_look_k30 = true := by decide +kernel
