def tdX0_init_k0 : List dkR := [(0, .aload_n 0, 1), (1, .invokespecial 3, 3), (4, .aload_n 0, 1), (5, .bipush 8, 2), (7, .newarray .int, 2), (9, .putfield 9, 3), (12, .aload_n 0, 1), (13, .invokevirtual 15, 3), (16, .return_, 1)]
theorem tkX0_init_k0 : dkC cX0_init tdX0_init_k0 = true := by decide +kernel
def tdX0_clear_k0 : List dkR := [(0, .aload_n 0, 1), (1, .iconst 0, 1), (2, .putfield 18, 3), (5, .iconst 0, 1), (6, .istore_n 1, 1), (7, .iload_n 1, 1), (8, .bipush 8, 2), (10, .if_icmp .ge 16, 3), (13, .aload_n 0, 1), (14, .getfield 9, 3), (17, .iload_n 1, 1), (18, .iconst (-1), 1), (19, .iastore, 1), (20, .iinc 1 1, 3), (23, .goto (-16), 3), (26, .return_, 1)]
theorem tkX0_clear_k0 : dkC cX0_clear tdX0_clear_k0 = true := by decide +kernel
def tdX0_readFrom_k0 : List dkR := [(0, .aload_n 0, 1), (1, .invokevirtual 15, 3), (4, .iconst 0, 1), (5, .istore_n 3, 1), (6, .iload_n 3, 1), (7, .bipush 8, 2), (9, .if_icmp .gt 29, 3), (12, .aload_n 1, 1), (13, .invokevirtual 22, 3), (16, .ifCond .ne 22, 3), (19, .aload_n 1, 1), (20, .invokevirtual 28, 3), (23, .ifCond .ne 15, 3), (26, .aload_n 0, 1), (27, .aload_n 1, 1), (28, .iload_n 2, 1)]
theorem tkX0_readFrom_k0 : dkC cX0_readFrom tdX0_readFrom_k0 = true := by decide +kernel
def tdX0_readFrom_k29 : List dkR := [(29, .invokevirtual 31, 3), (32, .iinc 3 1, 3), (35, .goto (-29), 3), (38, .return_, 1)]
theorem tkX0_readFrom_k29 : dkC cX0_readFrom tdX0_readFrom_k29 = true := by decide +kernel
def tdX0_readLine_k0 : List dkR := [(0, .aload_n 1, 1), (1, .iconst 0, 1), (2, .iload_n 2, 1), (3, .iconst 1, 1), (4, .isub, 1), (5, .invokevirtual 35, 3), (8, .istore_n 3, 1), (9, .iload_n 3, 1), (10, .iconst 0, 1), (11, .iload_n 2, 1), (12, .iconst 1, 1), (13, .isub, 1), (14, .invokestatic 39, 3), (17, .ifCond .eq 16, 3), (20, .aload_n 0, 1), (21, .iload_n 3, 1)]
theorem tkX0_readLine_k0 : dkC cX0_readLine tdX0_readLine_k0 = true := by decide +kernel
def tdX0_readLine_k22 : List dkR := [(22, .invokevirtual 43, 3), (25, .ifCond .eq 8, 3), (28, .aload_n 1, 1), (29, .iconst 2, 1), (30, .invokevirtual 47, 3), (33, .aload_n 1, 1), (34, .iconst 0, 1), (35, .bipush 6, 2), (37, .invokevirtual 35, 3), (40, .istore 4, 2), (42, .aload_n 1, 1), (43, .bipush 59, 2), (45, .invokevirtual 51, 3), (48, .aload_n 1, 1), (49, .invokevirtual 22, 3), (52, .ifCond .ne 21, 3)]
theorem tkX0_readLine_k22 : dkC cX0_readLine tdX0_readLine_k22 = true := by decide +kernel
def tdX0_readLine_k55 : List dkR := [(55, .aload_n 0, 1), (56, .getfield 9, 3), (59, .iload_n 3, 1), (60, .iload 4, 2), (62, .iastore, 1), (63, .aload_n 0, 1), (64, .dup, 1), (65, .getfield 18, 3), (68, .iconst 1, 1), (69, .iadd, 1), (70, .putfield 18, 3), (73, .return_, 1)]
theorem tkX0_readLine_k55 : dkC cX0_readLine tdX0_readLine_k55 = true := by decide +kernel
def tdX0_tells_k0 : List dkR := [(0, .aload_n 0, 1), (1, .getfield 9, 3), (4, .iload_n 1, 1), (5, .iaload, 1), (6, .iconst (-1), 1), (7, .if_icmp .eq 7, 3), (10, .iconst 1, 1), (11, .goto 4, 3), (14, .iconst 0, 1), (15, .ireturn, 1)]
theorem tkX0_tells_k0 : dkC cX0_tells tdX0_tells_k0 = true := by decide +kernel
def tdX0_agrees_k0 : List dkR := [(0, .aload_n 0, 1), (1, .getfield 9, 3), (4, .iload_n 1, 1), (5, .iaload, 1), (6, .iconst (-1), 1), (7, .if_icmp .eq 13, 3), (10, .aload_n 0, 1), (11, .getfield 9, 3), (14, .iload_n 1, 1), (15, .iaload, 1), (16, .iload_n 2, 1), (17, .if_icmp .ne 7, 3), (20, .iconst 1, 1), (21, .goto 4, 3), (24, .iconst 0, 1), (25, .ireturn, 1)]
theorem tkX0_agrees_k0 : dkC cX0_agrees tdX0_agrees_k0 = true := by decide +kernel
def tdX1_init_k0 : List dkR := [(0, .aload_n 0, 1), (1, .invokespecial 7, 3), (4, .aload_n 0, 1), (5, .bipush 64, 2), (7, .newarray .int, 2), (9, .putfield 13, 3), (12, .aload_n 0, 1), (13, .bipush 6, 2), (15, .newarray .int, 2), (17, .putfield 17, 3), (20, .aload_n 0, 1), (21, .aload_n 1, 1), (22, .aload_n 2, 1), (23, .invokevirtual 20, 3), (26, .return_, 1)]
theorem tkX1_init_k0 : dkC cX1_init tdX1_init_k0 = true := by decide +kernel
def tdX1_begin_k0 : List dkR := [(0, .aload_n 0, 1), (1, .aload_n 1, 1), (2, .putfield 24, 3), (5, .aload_n 0, 1), (6, .aload_n 2, 1), (7, .putfield 28, 3), (10, .iconst 0, 1), (11, .istore_n 3, 1), (12, .iload_n 3, 1), (13, .bipush 64, 2), (15, .if_icmp .ge 16, 3), (18, .aload_n 0, 1), (19, .getfield 13, 3), (22, .iload_n 3, 1), (23, .iconst 0, 1), (24, .iastore, 1)]
theorem tkX1_begin_k0 : dkC cX1_begin tdX1_begin_k0 = true := by decide +kernel
def tdX1_begin_k25 : List dkR := [(25, .iinc 3 1, 3), (28, .goto (-16), 3), (31, .aload_n 0, 1), (32, .getfield 13, 3), (35, .iconst 0, 1), (36, .iconst 1, 1), (37, .iastore, 1), (38, .iconst 0, 1), (39, .istore_n 3, 1), (40, .iload_n 3, 1), (41, .aload_n 1, 1), (42, .getfield 32, 3), (45, .if_icmp .ge 38, 3), (48, .aload_n 0, 1), (49, .getfield 13, 3), (52, .iconst 4, 1)]
theorem tkX1_begin_k25 : dkC cX1_begin tdX1_begin_k25 = true := by decide +kernel
def tdX1_begin_k53 : List dkR := [(53, .iload_n 3, 1), (54, .iadd, 1), (55, .aload_n 1, 1), (56, .getfield 36, 3), (59, .iload_n 3, 1), (60, .iaload, 1), (61, .iastore, 1), (62, .aload_n 0, 1), (63, .getfield 13, 3), (66, .bipush 10, 2), (68, .iload_n 3, 1), (69, .iadd, 1), (70, .aload_n 1, 1), (71, .getfield 39, 3), (74, .iload_n 3, 1), (75, .iaload, 1)]
theorem tkX1_begin_k53 : dkC cX1_begin tdX1_begin_k53 = true := by decide +kernel
def tdX1_begin_k76 : List dkR := [(76, .iastore, 1), (77, .iinc 3 1, 3), (80, .goto (-40), 3), (83, .aload_n 1, 1), (84, .getfield 42, 3), (87, .iconst 0, 1), (88, .aload_n 0, 1), (89, .getfield 13, 3), (92, .bipush 28, 2), (94, .bipush 36, 2), (96, .invokestatic 45, 3), (99, .return_, 1)]
theorem tkX1_begin_k76 : dkC cX1_begin tdX1_begin_k76 = true := by decide +kernel
def tdX1_obey_k0 : List dkR := [(0, .aload_n 0, 1), (1, .aload_n 1, 1), (2, .putfield 28, 3), (5, .return_, 1)]
theorem tkX1_obey_k0 : dkC cX1_obey tdX1_obey_k0 = true := by decide +kernel
def tdX1_copyFrom_k0 : List dkR := [(0, .aload_n 0, 1), (1, .aload_n 1, 1), (2, .getfield 24, 3), (5, .putfield 24, 3), (8, .aload_n 0, 1), (9, .aload_n 1, 1), (10, .getfield 28, 3), (13, .putfield 28, 3), (16, .aload_n 1, 1), (17, .getfield 13, 3), (20, .iconst 0, 1), (21, .aload_n 0, 1), (22, .getfield 13, 3), (25, .iconst 0, 1), (26, .bipush 64, 2), (28, .invokestatic 45, 3)]
theorem tkX1_copyFrom_k0 : dkC cX1_copyFrom tdX1_copyFrom_k0 = true := by decide +kernel
def tdX1_copyFrom_k31 : List dkR := [(31, .return_, 1)]
theorem tkX1_copyFrom_k31 : dkC cX1_copyFrom tdX1_copyFrom_k31 = true := by decide +kernel
def tdX1_day_k0 : List dkR := [(0, .aload_n 0, 1), (1, .getfield 13, 3), (4, .iconst 0, 1), (5, .iaload, 1), (6, .ireturn, 1)]
theorem tkX1_day_k0 : dkC cX1_day tdX1_day_k0 = true := by decide +kernel
def tdX1_year_k0 : List dkR := [(0, .aload_n 0, 1), (1, .getfield 13, 3), (4, .iconst 1, 1), (5, .iaload, 1), (6, .ireturn, 1)]
theorem tkX1_year_k0 : dkC cX1_year tdX1_year_k0 = true := by decide +kernel
def tdX1_caughtOnes_k0 : List dkR := [(0, .aload_n 0, 1), (1, .getfield 13, 3), (4, .iconst 2, 1), (5, .iaload, 1), (6, .ireturn, 1)]
theorem tkX1_caughtOnes_k0 : dkC cX1_caughtOnes tdX1_caughtOnes_k0 = true := by decide +kernel
def tdX1_leaptOnes_k0 : List dkR := [(0, .aload_n 0, 1), (1, .getfield 13, 3), (4, .iconst 3, 1), (5, .iaload, 1), (6, .ireturn, 1)]
theorem tkX1_leaptOnes_k0 : dkC cX1_leaptOnes tdX1_leaptOnes_k0 = true := by decide +kernel
def tdX1_freeOnes_k0 : List dkR := [(0, .iconst 1, 1), (1, .aload_n 0, 1), (2, .getfield 24, 3), (5, .getfield 32, 3), (8, .ishl, 1), (9, .iconst 1, 1), (10, .isub, 1), (11, .aload_n 0, 1), (12, .getfield 13, 3), (15, .iconst 2, 1), (16, .iaload, 1), (17, .iconst (-1), 1), (18, .ixor, 1), (19, .iand, 1), (20, .ireturn, 1)]
theorem tkX1_freeOnes_k0 : dkC cX1_freeOnes tdX1_freeOnes_k0 = true := by decide +kernel
def tdX1_isCaught_k0 : List dkR := [(0, .aload_n 0, 1), (1, .getfield 13, 3), (4, .iconst 2, 1), (5, .iaload, 1), (6, .iload_n 1, 1), (7, .ishr, 1), (8, .iconst 1, 1), (9, .iand, 1), (10, .iconst 1, 1), (11, .if_icmp .ne 7, 3), (14, .iconst 1, 1), (15, .goto 4, 3), (18, .iconst 0, 1), (19, .ireturn, 1)]
theorem tkX1_isCaught_k0 : dkC cX1_isCaught tdX1_isCaught_k0 = true := by decide +kernel
def tdX1_sits_k0 : List dkR := [(0, .aload_n 0, 1), (1, .getfield 13, 3), (4, .iconst 4, 1), (5, .iload_n 1, 1), (6, .iadd, 1), (7, .iaload, 1), (8, .ireturn, 1)]
theorem tkX1_sits_k0 : dkC cX1_sits tdX1_sits_k0 = true := by decide +kernel
def tdX1_strong_k0 : List dkR := [(0, .aload_n 0, 1), (1, .getfield 13, 3), (4, .bipush 10, 2), (6, .iload_n 1, 1), (7, .iadd, 1), (8, .iaload, 1), (9, .ireturn, 1)]
theorem tkX1_strong_k0 : dkC cX1_strong tdX1_strong_k0 = true := by decide +kernel
def tdX1_still_k0 : List dkR := [(0, .aload_n 0, 1), (1, .getfield 13, 3), (4, .bipush 16, 2), (6, .iload_n 1, 1), (7, .iadd, 1), (8, .iaload, 1), (9, .ireturn, 1)]
theorem tkX1_still_k0 : dkC cX1_still tdX1_still_k0 = true := by decide +kernel
def tdX1_leaps_k0 : List dkR := [(0, .aload_n 0, 1), (1, .getfield 13, 3), (4, .bipush 22, 2), (6, .iload_n 1, 1), (7, .iadd, 1), (8, .iaload, 1), (9, .ireturn, 1)]
theorem tkX1_leaps_k0 : dkC cX1_leaps tdX1_leaps_k0 = true := by decide +kernel
def tdX1_owesTo_k0 : List dkR := [(0, .aload_n 0, 1), (1, .getfield 13, 3), (4, .bipush 28, 2), (6, .iload_n 1, 1), (7, .bipush 6, 2), (9, .imul, 1), (10, .iadd, 1), (11, .iload_n 2, 1), (12, .iadd, 1), (13, .iaload, 1), (14, .ireturn, 1)]
theorem tkX1_owesTo_k0 : dkC cX1_owesTo tdX1_owesTo_k0 = true := by decide +kernel
def tdX1_owes_k0 : List dkR := [(0, .iconst 0, 1), (1, .istore_n 2, 1), (2, .iconst 0, 1), (3, .istore_n 3, 1), (4, .iload_n 3, 1), (5, .aload_n 0, 1), (6, .getfield 24, 3), (9, .getfield 32, 3), (12, .if_icmp .ge 18, 3), (15, .iload_n 2, 1), (16, .aload_n 0, 1), (17, .iload_n 1, 1), (18, .iload_n 3, 1), (19, .invokevirtual 51, 3), (22, .iadd, 1), (23, .istore_n 2, 1)]
theorem tkX1_owes_k0 : dkC cX1_owes tdX1_owes_k0 = true := by decide +kernel
def tdX1_owes_k24 : List dkR := [(24, .iinc 3 1, 3), (27, .goto (-23), 3), (30, .iload_n 2, 1), (31, .ireturn, 1)]
theorem tkX1_owes_k24 : dkC cX1_owes tdX1_owes_k24 = true := by decide +kernel
def tdX1_owed_k0 : List dkR := [(0, .iconst 0, 1), (1, .istore_n 2, 1), (2, .iconst 0, 1), (3, .istore_n 3, 1), (4, .iload_n 3, 1), (5, .aload_n 0, 1), (6, .getfield 24, 3), (9, .getfield 32, 3), (12, .if_icmp .ge 18, 3), (15, .iload_n 2, 1), (16, .aload_n 0, 1), (17, .iload_n 3, 1), (18, .iload_n 1, 1), (19, .invokevirtual 51, 3), (22, .iadd, 1), (23, .istore_n 2, 1)]
theorem tkX1_owed_k0 : dkC cX1_owed tdX1_owed_k0 = true := by decide +kernel
def tdX1_owed_k24 : List dkR := [(24, .iinc 3 1, 3), (27, .goto (-23), 3), (30, .iload_n 2, 1), (31, .ireturn, 1)]
theorem tkX1_owed_k24 : dkC cX1_owed tdX1_owed_k24 = true := by decide +kernel
def tdX1_allDebts_k0 : List dkR := [(0, .iconst 0, 1), (1, .istore_n 1, 1), (2, .iconst 0, 1), (3, .istore_n 2, 1), (4, .iload_n 2, 1), (5, .aload_n 0, 1), (6, .getfield 24, 3), (9, .getfield 32, 3), (12, .if_icmp .ge 17, 3), (15, .iload_n 1, 1), (16, .aload_n 0, 1), (17, .iload_n 2, 1), (18, .invokevirtual 55, 3), (21, .iadd, 1), (22, .istore_n 1, 1), (23, .iinc 2 1, 3)]
theorem tkX1_allDebts_k0 : dkC cX1_allDebts tdX1_allDebts_k0 = true := by decide +kernel
def tdX1_allDebts_k26 : List dkR := [(26, .goto (-22), 3), (29, .iload_n 1, 1), (30, .ireturn, 1)]
theorem tkX1_allDebts_k26 : dkC cX1_allDebts tdX1_allDebts_k26 = true := by decide +kernel
def tdX1_seatedIn_k0 : List dkR := [(0, .iconst 0, 1), (1, .istore_n 2, 1), (2, .iconst 0, 1), (3, .istore_n 3, 1), (4, .iload_n 3, 1), (5, .aload_n 0, 1), (6, .getfield 24, 3), (9, .getfield 32, 3), (12, .if_icmp .ge 32, 3), (15, .aload_n 0, 1), (16, .iload_n 3, 1), (17, .invokevirtual 59, 3), (20, .ifCond .ne 18, 3), (23, .aload_n 0, 1), (24, .iload_n 3, 1), (25, .invokevirtual 63, 3)]
theorem tkX1_seatedIn_k0 : dkC cX1_seatedIn tdX1_seatedIn_k0 = true := by decide +kernel
def tdX1_seatedIn_k28 : List dkR := [(28, .iload_n 1, 1), (29, .if_icmp .ne 9, 3), (32, .iload_n 2, 1), (33, .iconst 1, 1), (34, .iload_n 3, 1), (35, .ishl, 1), (36, .ior, 1), (37, .istore_n 2, 1), (38, .iinc 3 1, 3), (41, .goto (-37), 3), (44, .iload_n 2, 1), (45, .ireturn, 1)]
theorem tkX1_seatedIn_k28 : dkC cX1_seatedIn tdX1_seatedIn_k28 = true := by decide +kernel
def tdX1_strongTogether_k0 : List dkR := [(0, .iconst 0, 1), (1, .istore_n 1, 1), (2, .iconst 0, 1), (3, .istore_n 2, 1), (4, .iload_n 2, 1), (5, .aload_n 0, 1), (6, .getfield 24, 3), (9, .getfield 32, 3), (12, .if_icmp .ge 29, 3), (15, .iload_n 1, 1), (16, .aload_n 0, 1), (17, .iload_n 2, 1), (18, .invokevirtual 59, 3), (21, .ifCond .eq 7, 3), (24, .iconst 0, 1), (25, .goto 8, 3)]
theorem tkX1_strongTogether_k0 : dkC cX1_strongTogether tdX1_strongTogether_k0 = true := by decide +kernel
def tdX1_strongTogether_k28 : List dkR := [(28, .aload_n 0, 1), (29, .iload_n 2, 1), (30, .invokevirtual 66, 3), (33, .iadd, 1), (34, .istore_n 1, 1), (35, .iinc 2 1, 3), (38, .goto (-34), 3), (41, .iload_n 1, 1), (42, .ireturn, 1)]
theorem tkX1_strongTogether_k28 : dkC cX1_strongTogether tdX1_strongTogether_k28 = true := by decide +kernel
def tdX1_reach_k0 : List dkR := [(0, .aload_n 0, 1), (1, .aload_n 0, 1), (2, .iload_n 1, 1), (3, .invokevirtual 63, 3), (6, .invokevirtual 69, 3), (9, .iconst 1, 1), (10, .iload_n 1, 1), (11, .ishl, 1), (12, .iconst (-1), 1), (13, .ixor, 1), (14, .iand, 1), (15, .invokestatic 72, 3), (18, .istore_n 2, 1), (19, .aload_n 0, 1), (20, .getfield 28, 3), (23, .aload_n 0, 1)]
theorem tkX1_reach_k0 : dkC cX1_reach tdX1_reach_k0 = true := by decide +kernel
def tdX1_reach_k24 : List dkR := [(24, .iload_n 1, 1), (25, .invokevirtual 66, 3), (28, .aload_n 0, 1), (29, .iload_n 1, 1), (30, .invokevirtual 77, 3), (33, .aload_n 0, 1), (34, .iload_n 1, 1), (35, .invokevirtual 55, 3), (38, .aload_n 0, 1), (39, .iload_n 1, 1), (40, .invokevirtual 80, 3), (43, .iload_n 2, 1), (44, .invokevirtual 83, 3), (47, .aload_n 0, 1), (48, .getfield 28, 3), (51, .aload_n 0, 1)]
theorem tkX1_reach_k24 : dkC cX1_reach tdX1_reach_k24 = true := by decide +kernel
def tdX1_reach_k52 : List dkR := [(52, .invokevirtual 89, 3), (55, .iload_n 1, 1), (56, .aload_n 0, 1), (57, .iload_n 1, 1), (58, .invokevirtual 93, 3), (61, .invokevirtual 96, 3), (64, .aload_n 0, 1), (65, .getfield 28, 3), (68, .invokevirtual 100, 3), (71, .ireturn, 1)]
theorem tkX1_reach_k52 : dkC cX1_reach tdX1_reach_k52 = true := by decide +kernel
def tdX1_couldLeap_k0 : List dkR := [(0, .aload_n 0, 1), (1, .iload_n 1, 1), (2, .invokevirtual 59, 3), (5, .ifCond .ne 37, 3), (8, .aload_n 0, 1), (9, .iload_n 1, 1), (10, .invokevirtual 63, 3), (13, .iload_n 2, 1), (14, .if_icmp .eq 28, 3), (17, .aload_n 0, 1), (18, .getfield 24, 3), (21, .aload_n 0, 1), (22, .iload_n 1, 1), (23, .invokevirtual 63, 3), (26, .iload_n 2, 1), (27, .invokevirtual 103, 3)]
theorem tkX1_couldLeap_k0 : dkC cX1_couldLeap tdX1_couldLeap_k0 = true := by decide +kernel
def tdX1_couldLeap_k30 : List dkR := [(30, .aload_n 0, 1), (31, .iload_n 1, 1), (32, .invokevirtual 106, 3), (35, .if_icmp .gt 7, 3), (38, .iconst 1, 1), (39, .goto 4, 3), (42, .iconst 0, 1), (43, .ireturn, 1)]
theorem tkX1_couldLeap_k30 : dkC cX1_couldLeap tdX1_couldLeap_k30 = true := by decide +kernel
def tdX1_leapable_k0 : List dkR := [(0, .aload_n 0, 1), (1, .iload_n 1, 1), (2, .invokevirtual 59, 3), (5, .ifCond .eq 5, 3), (8, .iconst 0, 1), (9, .ireturn, 1), (10, .aload_n 0, 1), (11, .getfield 24, 3), (14, .aload_n 0, 1), (15, .iload_n 1, 1), (16, .invokevirtual 63, 3), (19, .aload_n 0, 1), (20, .iload_n 1, 1), (21, .invokevirtual 106, 3), (24, .invokevirtual 108, 3), (27, .iconst 1, 1)]
theorem tkX1_leapable_k0 : dkC cX1_leapable tdX1_leapable_k0 = true := by decide +kernel
def tdX1_leapable_k28 : List dkR := [(28, .aload_n 0, 1), (29, .iload_n 1, 1), (30, .invokevirtual 63, 3), (33, .ishl, 1), (34, .iconst (-1), 1), (35, .ixor, 1), (36, .iand, 1), (37, .ireturn, 1)]
theorem tkX1_leapable_k28 : dkC cX1_leapable tdX1_leapable_k28 = true := by decide +kernel
def tdX1_leapTo_k0 : List dkR := [(0, .aload_n 0, 1), (1, .getfield 13, 3), (4, .iconst 4, 1), (5, .iload_n 1, 1), (6, .iadd, 1), (7, .iload_n 2, 1), (8, .iastore, 1), (9, .aload_n 0, 1), (10, .getfield 13, 3), (13, .bipush 22, 2), (15, .iload_n 1, 1), (16, .iadd, 1), (17, .dup2, 1), (18, .iaload, 1), (19, .iconst 1, 1), (20, .iadd, 1)]
theorem tkX1_leapTo_k0 : dkC cX1_leapTo tdX1_leapTo_k0 = true := by decide +kernel
def tdX1_leapTo_k21 : List dkR := [(21, .iastore, 1), (22, .aload_n 0, 1), (23, .iload_n 1, 1), (24, .invokevirtual 111, 3), (27, .return_, 1)]
theorem tkX1_leapTo_k21 : dkC cX1_leapTo tdX1_leapTo_k21 = true := by decide +kernel
def tdX1_stir_k0 : List dkR := [(0, .aload_n 0, 1), (1, .getfield 13, 3), (4, .bipush 16, 2), (6, .iload_n 1, 1), (7, .iadd, 1), (8, .iconst 0, 1), (9, .iastore, 1), (10, .aload_n 0, 1), (11, .getfield 13, 3), (14, .iconst 3, 1), (15, .dup2, 1), (16, .iaload, 1), (17, .iconst 1, 1), (18, .iload_n 1, 1), (19, .ishl, 1), (20, .ior, 1)]
theorem tkX1_stir_k0 : dkC cX1_stir tdX1_stir_k0 = true := by decide +kernel
def tdX1_stir_k21 : List dkR := [(21, .iastore, 1), (22, .return_, 1)]
theorem tkX1_stir_k21 : dkC cX1_stir tdX1_stir_k21 = true := by decide +kernel
def tdX1_couldFight_k0 : List dkR := [(0, .iload_n 1, 1), (1, .iload_n 2, 1), (2, .if_icmp .eq 36, 3), (5, .aload_n 0, 1), (6, .iload_n 1, 1), (7, .invokevirtual 59, 3), (10, .ifCond .ne 28, 3), (13, .aload_n 0, 1), (14, .iload_n 2, 1), (15, .invokevirtual 59, 3), (18, .ifCond .ne 20, 3), (21, .aload_n 0, 1), (22, .iload_n 1, 1), (23, .invokevirtual 63, 3), (26, .aload_n 0, 1), (27, .iload_n 2, 1)]
theorem tkX1_couldFight_k0 : dkC cX1_couldFight tdX1_couldFight_k0 = true := by decide +kernel
def tdX1_couldFight_k28 : List dkR := [(28, .invokevirtual 63, 3), (31, .if_icmp .ne 7, 3), (34, .iconst 1, 1), (35, .goto 4, 3), (38, .iconst 0, 1), (39, .ireturn, 1)]
theorem tkX1_couldFight_k28 : dkC cX1_couldFight tdX1_couldFight_k28 = true := by decide +kernel
def tdX1_fight_k0 : List dkR := [(0, .aload_n 0, 1), (1, .iload_n 1, 1), (2, .invokevirtual 66, 3), (5, .aload_n 0, 1), (6, .iload_n 2, 1), (7, .invokevirtual 66, 3), (10, .if_icmp .lt 7, 3), (13, .iload_n 2, 1), (14, .goto 4, 3), (17, .iload_n 1, 1), (18, .istore_n 3, 1), (19, .aload_n 0, 1), (20, .getfield 13, 3), (23, .bipush 10, 2), (25, .iload_n 3, 1), (26, .iadd, 1)]
theorem tkX1_fight_k0 : dkC cX1_fight tdX1_fight_k0 = true := by decide +kernel
def tdX1_fight_k27 : List dkR := [(27, .iconst 0, 1), (28, .aload_n 0, 1), (29, .iload_n 3, 1), (30, .invokevirtual 66, 3), (33, .iconst 1, 1), (34, .isub, 1), (35, .invokestatic 115, 3), (38, .iastore, 1), (39, .aload_n 0, 1), (40, .iload_n 1, 1), (41, .invokevirtual 111, 3), (44, .aload_n 0, 1), (45, .iload_n 2, 1), (46, .invokevirtual 111, 3), (49, .return_, 1)]
theorem tkX1_fight_k27 : dkC cX1_fight tdX1_fight_k27 = true := by decide +kernel
def tdX1_couldPay_k0 : List dkR := [(0, .aload_n 0, 1), (1, .iload_n 1, 1), (2, .invokevirtual 59, 3), (5, .ifCond .ne 25, 3), (8, .aload_n 0, 1), (9, .iload_n 2, 1), (10, .invokevirtual 59, 3), (13, .ifCond .ne 17, 3), (16, .aload_n 0, 1), (17, .iload_n 1, 1), (18, .iload_n 2, 1), (19, .invokevirtual 51, 3), (22, .iload_n 3, 1), (23, .if_icmp .lt 7, 3), (26, .iconst 1, 1), (27, .goto 4, 3)]
theorem tkX1_couldPay_k0 : dkC cX1_couldPay tdX1_couldPay_k0 = true := by decide +kernel
def tdX1_couldPay_k30 : List dkR := [(30, .iconst 0, 1), (31, .ireturn, 1)]
theorem tkX1_couldPay_k30 : dkC cX1_couldPay tdX1_couldPay_k30 = true := by decide +kernel
def tdX1_payBack_k0 : List dkR := [(0, .aload_n 0, 1), (1, .getfield 13, 3), (4, .bipush 28, 2), (6, .iload_n 1, 1), (7, .bipush 6, 2), (9, .imul, 1), (10, .iadd, 1), (11, .iload_n 2, 1), (12, .iadd, 1), (13, .dup2, 1), (14, .iaload, 1), (15, .iload_n 3, 1), (16, .isub, 1), (17, .iastore, 1), (18, .return_, 1)]
theorem tkX1_payBack_k0 : dkC cX1_payBack tdX1_payBack_k0 = true := by decide +kernel
def tdX1_passDay_k0 : List dkR := [(0, .iconst 0, 1), (1, .istore_n 1, 1), (2, .iload_n 1, 1), (3, .aload_n 0, 1), (4, .getfield 24, 3), (7, .getfield 32, 3), (10, .if_icmp .ge 42, 3), (13, .aload_n 0, 1), (14, .getfield 13, 3), (17, .iconst 2, 1), (18, .iaload, 1), (19, .aload_n 0, 1), (20, .getfield 13, 3), (23, .iconst 3, 1), (24, .iaload, 1), (25, .ior, 1)]
theorem tkX1_passDay_k0 : dkC cX1_passDay tdX1_passDay_k0 = true := by decide +kernel
def tdX1_passDay_k26 : List dkR := [(26, .iload_n 1, 1), (27, .invokestatic 120, 3), (30, .ifCond .ne 16, 3), (33, .aload_n 0, 1), (34, .getfield 13, 3), (37, .bipush 16, 2), (39, .iload_n 1, 1), (40, .iadd, 1), (41, .dup2, 1), (42, .iaload, 1), (43, .iconst 1, 1), (44, .iadd, 1), (45, .iastore, 1), (46, .iinc 1 1, 3), (49, .goto (-47), 3), (52, .aload_n 0, 1)]
theorem tkX1_passDay_k26 : dkC cX1_passDay tdX1_passDay_k26 = true := by decide +kernel
def tdX1_passDay_k53 : List dkR := [(53, .getfield 13, 3), (56, .iconst 3, 1), (57, .iconst 0, 1), (58, .iastore, 1), (59, .aload_n 0, 1), (60, .getfield 13, 3), (63, .iconst 0, 1), (64, .dup2, 1), (65, .iaload, 1), (66, .iconst 1, 1), (67, .iadd, 1), (68, .iastore, 1), (69, .aload_n 0, 1), (70, .getfield 13, 3), (73, .iconst 0, 1), (74, .iaload, 1)]
theorem tkX1_passDay_k53 : dkC cX1_passDay tdX1_passDay_k53 = true := by decide +kernel
def tdX1_passDay_k75 : List dkR := [(75, .bipush 31, 2), (77, .if_icmp .le 24, 3), (80, .aload_n 0, 1), (81, .invokevirtual 124, 3), (84, .aload_n 0, 1), (85, .getfield 13, 3), (88, .iconst 0, 1), (89, .iconst 1, 1), (90, .iastore, 1), (91, .aload_n 0, 1), (92, .getfield 13, 3), (95, .iconst 1, 1), (96, .dup2, 1), (97, .iaload, 1), (98, .iconst 1, 1), (99, .iadd, 1)]
theorem tkX1_passDay_k75 : dkC cX1_passDay tdX1_passDay_k75 = true := by decide +kernel
def tdX1_passDay_k100 : List dkR := [(100, .iastore, 1), (101, .return_, 1)]
theorem tkX1_passDay_k100 : dkC cX1_passDay tdX1_passDay_k100 = true := by decide +kernel
def tdX1_strike_k0 : List dkR := [(0, .aload_n 0, 1), (1, .invokevirtual 127, 3), (4, .istore_n 1, 1), (5, .iconst 0, 1), (6, .istore_n 2, 1), (7, .iload_n 2, 1), (8, .aload_n 0, 1), (9, .getfield 24, 3), (12, .getfield 32, 3), (15, .if_icmp .ge 65, 3), (18, .iload_n 1, 1), (19, .iload_n 2, 1), (20, .invokestatic 120, 3), (23, .ifCond .eq 23, 3), (26, .aload_n 0, 1), (27, .getfield 13, 3)]
theorem tkX1_strike_k0 : dkC cX1_strike tdX1_strike_k0 = true := by decide +kernel
def tdX1_strike_k30 : List dkR := [(30, .iconst 2, 1), (31, .dup2, 1), (32, .iaload, 1), (33, .iconst 1, 1), (34, .iload_n 2, 1), (35, .ishl, 1), (36, .ior, 1), (37, .iastore, 1), (38, .aload_n 0, 1), (39, .iload_n 2, 1), (40, .invokevirtual 130, 3), (43, .goto 31, 3), (46, .aload_n 0, 1), (47, .getfield 13, 3), (50, .bipush 10, 2), (52, .iload_n 2, 1)]
theorem tkX1_strike_k30 : dkC cX1_strike tdX1_strike_k30 = true := by decide +kernel
def tdX1_strike_k53 : List dkR := [(53, .iadd, 1), (54, .aload_n 0, 1), (55, .getfield 24, 3), (58, .getfield 39, 3), (61, .iload_n 2, 1), (62, .iaload, 1), (63, .iastore, 1), (64, .aload_n 0, 1), (65, .getfield 13, 3), (68, .bipush 16, 2), (70, .iload_n 2, 1), (71, .iadd, 1), (72, .iconst 0, 1), (73, .iastore, 1), (74, .iinc 2 1, 3), (77, .goto (-70), 3)]
theorem tkX1_strike_k53 : dkC cX1_strike tdX1_strike_k53 = true := by decide +kernel
def tdX1_strike_k80 : List dkR := [(80, .return_, 1)]
theorem tkX1_strike_k80 : dkC cX1_strike tdX1_strike_k80 = true := by decide +kernel
def tdX1_endangered_k0 : List dkR := [(0, .iconst 0, 1), (1, .istore_n 1, 1), (2, .iconst 0, 1), (3, .istore_n 2, 1), (4, .iload_n 2, 1), (5, .aload_n 0, 1), (6, .getfield 24, 3), (9, .getfield 32, 3), (12, .if_icmp .ge 47, 3), (15, .aload_n 0, 1), (16, .iload_n 2, 1), (17, .invokevirtual 59, 3), (20, .ifCond .ne 33, 3), (23, .aload_n 0, 1), (24, .getfield 24, 3), (27, .aload_n 0, 1)]
theorem tkX1_endangered_k0 : dkC cX1_endangered tdX1_endangered_k0 = true := by decide +kernel
def tdX1_endangered_k28 : List dkR := [(28, .iload_n 2, 1), (29, .invokevirtual 63, 3), (32, .invokevirtual 133, 3), (35, .ifCond .ne 18, 3), (38, .aload_n 0, 1), (39, .iload_n 2, 1), (40, .invokevirtual 77, 3), (43, .iconst 3, 1), (44, .if_icmp .ge 9, 3), (47, .iload_n 1, 1), (48, .iconst 1, 1), (49, .iload_n 2, 1), (50, .ishl, 1), (51, .ior, 1), (52, .istore_n 1, 1), (53, .iinc 2 1, 3)]
theorem tkX1_endangered_k28 : dkC cX1_endangered tdX1_endangered_k28 = true := by decide +kernel
def tdX1_endangered_k56 : List dkR := [(56, .goto (-52), 3), (59, .iload_n 1, 1), (60, .ireturn, 1)]
theorem tkX1_endangered_k56 : dkC cX1_endangered tdX1_endangered_k56 = true := by decide +kernel
def tdX1_dropDebts_k0 : List dkR := [(0, .iconst 0, 1), (1, .istore_n 2, 1), (2, .iload_n 2, 1), (3, .aload_n 0, 1), (4, .getfield 24, 3), (7, .getfield 32, 3), (10, .if_icmp .ge 39, 3), (13, .aload_n 0, 1), (14, .getfield 13, 3), (17, .bipush 28, 2), (19, .iload_n 1, 1), (20, .bipush 6, 2), (22, .imul, 1), (23, .iadd, 1), (24, .iload_n 2, 1), (25, .iadd, 1)]
theorem tkX1_dropDebts_k0 : dkC cX1_dropDebts tdX1_dropDebts_k0 = true := by decide +kernel
def tdX1_dropDebts_k26 : List dkR := [(26, .iconst 0, 1), (27, .iastore, 1), (28, .aload_n 0, 1), (29, .getfield 13, 3), (32, .bipush 28, 2), (34, .iload_n 2, 1), (35, .bipush 6, 2), (37, .imul, 1), (38, .iadd, 1), (39, .iload_n 1, 1), (40, .iadd, 1), (41, .iconst 0, 1), (42, .iastore, 1), (43, .iinc 2 1, 3), (46, .goto (-44), 3), (49, .return_, 1)]
theorem tkX1_dropDebts_k26 : dkC cX1_dropDebts tdX1_dropDebts_k26 = true := by decide +kernel
def tdX1_drawDays_k0 : List dkR := [(0, .iload_n 1, 1), (1, .istore_n 3, 1), (2, .iconst 0, 1), (3, .istore 4, 2), (5, .iconst 0, 1), (6, .istore 5, 2), (8, .iload 5, 2), (10, .iload_n 2, 1), (11, .if_icmp .ge 103, 3), (14, .aload_n 0, 1), (15, .getfield 24, 3), (18, .getfield 32, 3), (21, .ifCond .le 83, 3), (24, .aload_n 0, 1), (25, .getfield 24, 3), (28, .getfield 136, 3)]
theorem tkX1_drawDays_k0 : dkC cX1_drawDays tdX1_drawDays_k0 = true := by decide +kernel
def tdX1_drawDays_k31 : List dkR := [(31, .ifCond .le 73, 3), (34, .iload_n 3, 1), (35, .invokestatic 139, 3), (38, .istore_n 3, 1), (39, .iload_n 3, 1), (40, .invokestatic 142, 3), (43, .aload_n 0, 1), (44, .getfield 24, 3), (47, .getfield 32, 3), (50, .irem, 1), (51, .istore 6, 2), (53, .iload_n 3, 1), (54, .invokestatic 139, 3), (57, .istore_n 3, 1), (58, .iload 4, 2), (60, .aload_n 0, 1)]
theorem tkX1_drawDays_k31 : dkC cX1_drawDays tdX1_drawDays_k31 = true := by decide +kernel
def tdX1_drawDays_k61 : List dkR := [(61, .iload 6, 2), (63, .iload_n 3, 1), (64, .invokestatic 142, 3), (67, .aload_n 0, 1), (68, .getfield 24, 3), (71, .getfield 136, 3), (74, .irem, 1), (75, .invokevirtual 145, 3), (78, .iadd, 1), (79, .istore 4, 2), (81, .iload_n 3, 1), (82, .invokestatic 139, 3), (85, .istore_n 3, 1), (86, .aload_n 0, 1), (87, .iload 6, 2), (89, .iload_n 3, 1)]
theorem tkX1_drawDays_k61 : dkC cX1_drawDays tdX1_drawDays_k61 = true := by decide +kernel
def tdX1_drawDays_k90 : List dkR := [(90, .invokestatic 142, 3), (93, .aload_n 0, 1), (94, .getfield 24, 3), (97, .getfield 32, 3), (100, .irem, 1), (101, .invokevirtual 148, 3), (104, .aload_n 0, 1), (105, .invokevirtual 152, 3), (108, .iinc 5 1, 3), (111, .goto (-103), 3), (114, .iload 4, 2), (116, .ireturn, 1)]
theorem tkX1_drawDays_k90 : dkC cX1_drawDays tdX1_drawDays_k90 = true := by decide +kernel
def tdX1_leapIfAllowed_k0 : List dkR := [(0, .aload_n 0, 1), (1, .iload_n 1, 1), (2, .iload_n 2, 1), (3, .invokevirtual 155, 3), (6, .ifCond .ne 5, 3), (9, .iconst 0, 1), (10, .ireturn, 1), (11, .aload_n 0, 1), (12, .iload_n 1, 1), (13, .iload_n 2, 1), (14, .invokevirtual 158, 3), (17, .iconst 1, 1), (18, .ireturn, 1)]
theorem tkX1_leapIfAllowed_k0 : dkC cX1_leapIfAllowed tdX1_leapIfAllowed_k0 = true := by decide +kernel
def tdX1_fightIfAllowed_k0 : List dkR := [(0, .aload_n 0, 1), (1, .iload_n 1, 1), (2, .iload_n 2, 1), (3, .invokevirtual 161, 3), (6, .ifCond .eq 9, 3), (9, .aload_n 0, 1), (10, .iload_n 1, 1), (11, .iload_n 2, 1), (12, .invokevirtual 164, 3), (15, .return_, 1)]
theorem tkX1_fightIfAllowed_k0 : dkC cX1_fightIfAllowed tdX1_fightIfAllowed_k0 = true := by decide +kernel
def tdX1_nextSeed_k0 : List dkR := [(0, .iload_n 0, 1), (1, .ldc 167, 2), (3, .imul, 1), (4, .sipush 12345, 3), (7, .iadd, 1), (8, .ireturn, 1)]
theorem tkX1_nextSeed_k0 : dkC cX1_nextSeed tdX1_nextSeed_k0 = true := by decide +kernel
def tdX1_drawnBits_k0 : List dkR := [(0, .iload_n 0, 1), (1, .bipush 16, 2), (3, .iushr, 1), (4, .sipush 32767, 3), (7, .iand, 1), (8, .ireturn, 1)]
theorem tkX1_drawnBits_k0 : dkC cX1_drawnBits tdX1_drawnBits_k0 = true := by decide +kernel
def tdX1_cloverFor_k0 : List dkR := [(0, .iconst 0, 1), (1, .istore 4, 2), (3, .iload 4, 2), (5, .aload_n 0, 1), (6, .getfield 24, 3), (9, .getfield 32, 3), (12, .if_icmp .ge 35, 3), (15, .aload_n 0, 1), (16, .getfield 17, 3), (19, .iload 4, 2), (21, .iload_n 2, 1), (22, .iload 4, 2), (24, .invokestatic 120, 3), (27, .ifCond .eq 12, 3), (30, .aload_n 0, 1), (31, .iload 4, 2)]
theorem tkX1_cloverFor_k0 : dkC cX1_cloverFor tdX1_cloverFor_k0 = true := by decide +kernel
def tdX1_cloverFor_k33 : List dkR := [(33, .invokevirtual 80, 3), (36, .goto 4, 3), (39, .iconst 0, 1), (40, .iastore, 1), (41, .iinc 4 1, 3), (44, .goto (-41), 3), (47, .iconst 0, 1), (48, .istore 4, 2), (50, .iload 4, 2), (52, .sipush 495, 3), (55, .if_icmp .ge 21, 3), (58, .aload_n 0, 1), (59, .iload 4, 2), (61, .iconst 1, 1), (62, .iadd, 1), (63, .invokevirtual 168, 3)]
theorem tkX1_cloverFor_k33 : dkC cX1_cloverFor tdX1_cloverFor_k33 = true := by decide +kernel
def tdX1_cloverFor_k66 : List dkR := [(66, .iload_n 3, 1), (67, .if_icmp .gt 9, 3), (70, .iinc 4 1, 3), (73, .goto (-23), 3), (76, .iload 4, 2), (78, .aload_n 0, 1), (79, .getfield 17, 3), (82, .iload_n 1, 1), (83, .iaload, 1), (84, .invokestatic 171, 3), (87, .ireturn, 1)]
theorem tkX1_cloverFor_k66 : dkC cX1_cloverFor tdX1_cloverFor_k66 = true := by decide +kernel
def tdX1_givenBy_k0 : List dkR := [(0, .iconst 0, 1), (1, .istore_n 2, 1), (2, .iconst 0, 1), (3, .istore_n 3, 1), (4, .iload_n 3, 1), (5, .aload_n 0, 1), (6, .getfield 24, 3), (9, .getfield 32, 3), (12, .if_icmp .ge 22, 3), (15, .iload_n 2, 1), (16, .iload_n 1, 1), (17, .aload_n 0, 1), (18, .getfield 17, 3), (21, .iload_n 3, 1), (22, .iaload, 1), (23, .invokestatic 171, 3)]
theorem tkX1_givenBy_k0 : dkC cX1_givenBy tdX1_givenBy_k0 = true := by decide +kernel
def tdX1_givenBy_k26 : List dkR := [(26, .iadd, 1), (27, .istore_n 2, 1), (28, .iinc 3 1, 3), (31, .goto (-27), 3), (34, .iload_n 2, 1), (35, .ireturn, 1)]
theorem tkX1_givenBy_k26 : dkC cX1_givenBy tdX1_givenBy_k26 = true := by decide +kernel
def tdX2_init_k0 : List dkR := [(0, .aload_n 0, 1), (1, .invokespecial 3, 3), (4, .aload_n 0, 1), (5, .bipush 8, 2), (7, .newarray .int, 2), (9, .putfield 9, 3), (12, .aload_n 0, 1), (13, .bipush 8, 2), (15, .newarray .int, 2), (17, .putfield 15, 3), (20, .aload_n 0, 1), (21, .iconst 4, 1), (22, .newarray .int, 2), (24, .putfield 18, 3), (27, .aload_n 0, 1), (28, .iconst 4, 1)]
theorem tkX2_init_k0 : dkC cX2_init tdX2_init_k0 = true := by decide +kernel
def tdX2_init_k29 : List dkR := [(29, .newarray .int, 2), (31, .putfield 21, 3), (34, .aload_n 0, 1), (35, .bipush 6, 2), (37, .newarray .int, 2), (39, .putfield 24, 3), (42, .aload_n 0, 1), (43, .bipush 6, 2), (45, .newarray .int, 2), (47, .putfield 27, 3), (50, .aload_n 0, 1), (51, .bipush 36, 2), (53, .newarray .int, 2), (55, .putfield 30, 3), (58, .aload_n 0, 1), (59, .bipush 8, 2)]
theorem tkX2_init_k29 : dkC cX2_init tdX2_init_k29 = true := by decide +kernel
def tdX2_init_k61 : List dkR := [(61, .newarray .int, 2), (63, .putfield 33, 3), (66, .return_, 1)]
theorem tkX2_init_k61 : dkC cX2_init tdX2_init_k61 = true := by decide +kernel
def tdX2_readFrom_k0 : List dkR := [(0, .aload_n 0, 1), (1, .iconst 0, 1), (2, .putfield 36, 3), (5, .aload_n 0, 1), (6, .iconst 0, 1), (7, .putfield 40, 3), (10, .aload_n 0, 1), (11, .iconst 0, 1), (12, .putfield 43, 3), (15, .iconst 0, 1), (16, .istore_n 2, 1), (17, .iload_n 2, 1), (18, .aload_n 0, 1), (19, .getfield 30, 3), (22, .arraylength, 1), (23, .if_icmp .ge 16, 3)]
theorem tkX2_readFrom_k0 : dkC cX2_readFrom tdX2_readFrom_k0 = true := by decide +kernel
def tdX2_readFrom_k26 : List dkR := [(26, .aload_n 0, 1), (27, .getfield 30, 3), (30, .iload_n 2, 1), (31, .iconst 0, 1), (32, .iastore, 1), (33, .iinc 2 1, 3), (36, .goto (-19), 3), (39, .iconst 0, 1), (40, .istore_n 2, 1), (41, .iload_n 2, 1), (42, .bipush 60, 2), (44, .if_icmp .gt 39, 3), (47, .aload_n 1, 1), (48, .invokevirtual 46, 3), (51, .ifCond .ne 32, 3), (54, .aload_n 1, 1)]
theorem tkX2_readFrom_k26 : dkC cX2_readFrom tdX2_readFrom_k26 = true := by decide +kernel
def tdX2_readFrom_k55 : List dkR := [(55, .invokevirtual 52, 3), (58, .ifCond .ne 25, 3), (61, .aload_n 0, 1), (62, .aload_n 1, 1), (63, .iload_n 2, 1), (64, .bipush 60, 2), (66, .if_icmp .ne 7, 3), (69, .iconst 1, 1), (70, .goto 4, 3), (73, .iconst 0, 1), (74, .invokevirtual 55, 3), (77, .iinc 2 1, 3), (80, .goto (-39), 3), (83, .aload_n 0, 1), (84, .invokevirtual 59, 3), (87, .return_, 1)]
theorem tkX2_readFrom_k55 : dkC cX2_readFrom tdX2_readFrom_k55 = true := by decide +kernel
def tdX2_readClause_k0 : List dkR := [(0, .aload_n 1, 1), (1, .ldc 62, 2), (3, .invokevirtual 64, 3), (6, .ifCond .eq 12, 3), (9, .aload_n 0, 1), (10, .aload_n 1, 1), (11, .iload_n 2, 1), (12, .invokevirtual 68, 3), (15, .goto 61, 3), (18, .aload_n 1, 1), (19, .ldc 71, 2), (21, .invokevirtual 64, 3), (24, .ifCond .eq 12, 3), (27, .aload_n 0, 1), (28, .aload_n 1, 1), (29, .iload_n 2, 1)]
theorem tkX2_readClause_k0 : dkC cX2_readClause tdX2_readClause_k0 = true := by decide +kernel
def tdX2_readClause_k30 : List dkR := [(30, .invokevirtual 73, 3), (33, .goto 43, 3), (36, .aload_n 1, 1), (37, .ldc 76, 2), (39, .invokevirtual 64, 3), (42, .ifCond .eq 12, 3), (45, .aload_n 0, 1), (46, .aload_n 1, 1), (47, .iload_n 2, 1), (48, .invokevirtual 78, 3), (51, .goto 25, 3), (54, .aload_n 1, 1), (55, .ldc 81, 2), (57, .invokevirtual 64, 3), (60, .ifCond .eq 12, 3), (63, .aload_n 0, 1)]
theorem tkX2_readClause_k30 : dkC cX2_readClause tdX2_readClause_k30 = true := by decide +kernel
def tdX2_readClause_k64 : List dkR := [(64, .aload_n 1, 1), (65, .iload_n 2, 1), (66, .invokevirtual 83, 3), (69, .goto 7, 3), (72, .aload_n 1, 1), (73, .invokevirtual 86, 3), (76, .return_, 1)]
theorem tkX2_readClause_k64 : dkC cX2_readClause tdX2_readClause_k64 = true := by decide +kernel
def tdX2_readForm_k0 : List dkR := [(0, .iload_n 2, 1), (1, .ifCond .ne 12, 3), (4, .aload_n 0, 1), (5, .getfield 36, 3), (8, .bipush 8, 2), (10, .if_icmp .lt 9, 3), (13, .aload_n 1, 1), (14, .iconst 3, 1), (15, .invokevirtual 89, 3), (18, .return_, 1), (19, .aload_n 0, 1), (20, .getfield 9, 3), (23, .aload_n 0, 1), (24, .getfield 36, 3), (27, .aload_n 1, 1), (28, .iconst 0, 1)]
theorem tkX2_readForm_k0 : dkC cX2_readForm tdX2_readForm_k0 = true := by decide +kernel
def tdX2_readForm_k29 : List dkR := [(29, .bipush 30, 2), (31, .invokevirtual 93, 3), (34, .iastore, 1), (35, .aload_n 0, 1), (36, .getfield 15, 3), (39, .aload_n 0, 1), (40, .getfield 36, 3), (43, .aload_n 1, 1), (44, .iconst 0, 1), (45, .bipush 30, 2), (47, .invokevirtual 93, 3), (50, .iastore, 1), (51, .aload_n 1, 1), (52, .bipush 59, 2), (54, .invokevirtual 97, 3), (57, .aload_n 0, 1)]
theorem tkX2_readForm_k29 : dkC cX2_readForm tdX2_readForm_k29 = true := by decide +kernel
def tdX2_readForm_k58 : List dkR := [(58, .dup, 1), (59, .getfield 36, 3), (62, .iconst 1, 1), (63, .iadd, 1), (64, .putfield 36, 3), (67, .return_, 1)]
theorem tkX2_readForm_k58 : dkC cX2_readForm tdX2_readForm_k58 = true := by decide +kernel
def tdX2_readHare_k0 : List dkR := [(0, .iload_n 2, 1), (1, .ifCond .ne 12, 3), (4, .aload_n 0, 1), (5, .getfield 40, 3), (8, .bipush 6, 2), (10, .if_icmp .lt 9, 3), (13, .aload_n 1, 1), (14, .iconst 3, 1), (15, .invokevirtual 89, 3), (18, .return_, 1), (19, .aload_n 0, 1), (20, .getfield 24, 3), (23, .aload_n 0, 1), (24, .getfield 40, 3), (27, .aload_n 1, 1), (28, .iconst 0, 1)]
theorem tkX2_readHare_k0 : dkC cX2_readHare tdX2_readHare_k0 = true := by decide +kernel
def tdX2_readHare_k29 : List dkR := [(29, .aload_n 0, 1), (30, .getfield 36, 3), (33, .iconst 1, 1), (34, .isub, 1), (35, .invokevirtual 93, 3), (38, .iastore, 1), (39, .aload_n 0, 1), (40, .getfield 27, 3), (43, .aload_n 0, 1), (44, .getfield 40, 3), (47, .aload_n 1, 1), (48, .iconst 1, 1), (49, .bipush 9, 2), (51, .invokevirtual 93, 3), (54, .iastore, 1), (55, .aload_n 1, 1)]
theorem tkX2_readHare_k29 : dkC cX2_readHare tdX2_readHare_k29 = true := by decide +kernel
def tdX2_readHare_k56 : List dkR := [(56, .bipush 59, 2), (58, .invokevirtual 97, 3), (61, .aload_n 0, 1), (62, .dup, 1), (63, .getfield 40, 3), (66, .iconst 1, 1), (67, .iadd, 1), (68, .putfield 40, 3), (71, .return_, 1)]
theorem tkX2_readHare_k56 : dkC cX2_readHare tdX2_readHare_k56 = true := by decide +kernel
def tdX2_readFox_k0 : List dkR := [(0, .iload_n 2, 1), (1, .ifCond .ne 11, 3), (4, .aload_n 0, 1), (5, .getfield 43, 3), (8, .iconst 4, 1), (9, .if_icmp .lt 9, 3), (12, .aload_n 1, 1), (13, .iconst 3, 1), (14, .invokevirtual 89, 3), (17, .return_, 1), (18, .aload_n 0, 1), (19, .getfield 18, 3), (22, .aload_n 0, 1), (23, .getfield 43, 3), (26, .aload_n 1, 1), (27, .iconst 0, 1)]
theorem tkX2_readFox_k0 : dkC cX2_readFox tdX2_readFox_k0 = true := by decide +kernel
def tdX2_readFox_k28 : List dkR := [(28, .bipush 30, 2), (30, .invokevirtual 93, 3), (33, .iastore, 1), (34, .aload_n 0, 1), (35, .getfield 21, 3), (38, .aload_n 0, 1), (39, .getfield 43, 3), (42, .aload_n 1, 1), (43, .iconst 0, 1), (44, .bipush 30, 2), (46, .invokevirtual 93, 3), (49, .iastore, 1), (50, .aload_n 1, 1), (51, .bipush 59, 2), (53, .invokevirtual 97, 3), (56, .aload_n 0, 1)]
theorem tkX2_readFox_k28 : dkC cX2_readFox tdX2_readFox_k28 = true := by decide +kernel
def tdX2_readFox_k57 : List dkR := [(57, .dup, 1), (58, .getfield 43, 3), (61, .iconst 1, 1), (62, .iadd, 1), (63, .putfield 43, 3), (66, .return_, 1)]
theorem tkX2_readFox_k57 : dkC cX2_readFox tdX2_readFox_k57 = true := by decide +kernel
def tdX2_readDebt_k0 : List dkR := [(0, .iload_n 2, 1), (1, .ifCond .eq 9, 3), (4, .aload_n 1, 1), (5, .iconst 3, 1), (6, .invokevirtual 89, 3), (9, .return_, 1), (10, .aload_n 1, 1), (11, .iconst 0, 1), (12, .aload_n 0, 1), (13, .getfield 40, 3), (16, .iconst 1, 1), (17, .isub, 1), (18, .invokevirtual 93, 3), (21, .istore_n 3, 1), (22, .aload_n 1, 1), (23, .iconst 0, 1)]
theorem tkX2_readDebt_k0 : dkC cX2_readDebt tdX2_readDebt_k0 = true := by decide +kernel
def tdX2_readDebt_k24 : List dkR := [(24, .aload_n 0, 1), (25, .getfield 40, 3), (28, .iconst 1, 1), (29, .isub, 1), (30, .invokevirtual 93, 3), (33, .istore 4, 2), (35, .iload_n 3, 1), (36, .iload 4, 2), (38, .if_icmp .ne 8, 3), (41, .aload_n 1, 1), (42, .iconst 2, 1), (43, .invokevirtual 89, 3), (46, .aload_n 1, 1), (47, .iconst 0, 1), (48, .bipush 99, 2), (50, .invokevirtual 93, 3)]
theorem tkX2_readDebt_k24 : dkC cX2_readDebt tdX2_readDebt_k24 = true := by decide +kernel
def tdX2_readDebt_k53 : List dkR := [(53, .istore 5, 2), (55, .aload_n 1, 1), (56, .bipush 59, 2), (58, .invokevirtual 97, 3), (61, .aload_n 1, 1), (62, .invokevirtual 46, 3), (65, .ifCond .ne 17, 3), (68, .aload_n 0, 1), (69, .getfield 30, 3), (72, .iload_n 3, 1), (73, .bipush 6, 2), (75, .imul, 1), (76, .iload 4, 2), (78, .iadd, 1), (79, .iload 5, 2), (81, .iastore, 1)]
theorem tkX2_readDebt_k53 : dkC cX2_readDebt tdX2_readDebt_k53 = true := by decide +kernel
def tdX2_readDebt_k82 : List dkR := [(82, .return_, 1)]
theorem tkX2_readDebt_k82 : dkC cX2_readDebt tdX2_readDebt_k82 = true := by decide +kernel
def tdX2_findSafe_k0 : List dkR := [(0, .aload_n 0, 1), (1, .iconst 0, 1), (2, .putfield 101, 3), (5, .iconst 0, 1), (6, .istore_n 1, 1), (7, .iload_n 1, 1), (8, .aload_n 0, 1), (9, .getfield 36, 3), (12, .if_icmp .ge 29, 3), (15, .aload_n 0, 1), (16, .iload_n 1, 1), (17, .invokevirtual 104, 3), (20, .ifCond .ne 15, 3), (23, .aload_n 0, 1), (24, .dup, 1), (25, .getfield 101, 3)]
theorem tkX2_findSafe_k0 : dkC cX2_findSafe tdX2_findSafe_k0 = true := by decide +kernel
def tdX2_findSafe_k28 : List dkR := [(28, .iconst 1, 1), (29, .iload_n 1, 1), (30, .ishl, 1), (31, .ior, 1), (32, .putfield 101, 3), (35, .iinc 1 1, 3), (38, .goto (-31), 3), (41, .return_, 1)]
theorem tkX2_findSafe_k28 : dkC cX2_findSafe tdX2_findSafe_k28 = true := by decide +kernel
def tdX2_foxIsNear_k0 : List dkR := [(0, .iconst 0, 1), (1, .istore_n 2, 1), (2, .iload_n 2, 1), (3, .aload_n 0, 1), (4, .getfield 43, 3), (7, .if_icmp .ge 48, 3), (10, .aload_n 0, 1), (11, .getfield 9, 3), (14, .iload_n 1, 1), (15, .iaload, 1), (16, .aload_n 0, 1), (17, .getfield 18, 3), (20, .iload_n 2, 1), (21, .iaload, 1), (22, .isub, 1), (23, .invokestatic 108, 3)]
theorem tkX2_foxIsNear_k0 : dkC cX2_foxIsNear tdX2_foxIsNear_k0 = true := by decide +kernel
def tdX2_foxIsNear_k26 : List dkR := [(26, .aload_n 0, 1), (27, .getfield 15, 3), (30, .iload_n 1, 1), (31, .iaload, 1), (32, .aload_n 0, 1), (33, .getfield 21, 3), (36, .iload_n 2, 1), (37, .iaload, 1), (38, .isub, 1), (39, .invokestatic 108, 3), (42, .iadd, 1), (43, .iconst 3, 1), (44, .if_icmp .gt 5, 3), (47, .iconst 1, 1), (48, .ireturn, 1), (49, .iinc 2 1, 3)]
theorem tkX2_foxIsNear_k26 : dkC cX2_foxIsNear tdX2_foxIsNear_k26 = true := by decide +kernel
def tdX2_foxIsNear_k52 : List dkR := [(52, .goto (-50), 3), (55, .iconst 0, 1), (56, .ireturn, 1)]
theorem tkX2_foxIsNear_k52 : dkC cX2_foxIsNear tdX2_foxIsNear_k52 = true := by decide +kernel
def tdX2_isSafe_k0 : List dkR := [(0, .aload_n 0, 1), (1, .getfield 101, 3), (4, .iload_n 1, 1), (5, .invokestatic 114, 3), (8, .ireturn, 1)]
theorem tkX2_isSafe_k0 : dkC cX2_isSafe tdX2_isSafe_k0 = true := by decide +kernel
def tdX2_apart_k0 : List dkR := [(0, .aload_n 0, 1), (1, .getfield 9, 3), (4, .iload_n 1, 1), (5, .iaload, 1), (6, .aload_n 0, 1), (7, .getfield 9, 3), (10, .iload_n 2, 1), (11, .iaload, 1), (12, .isub, 1), (13, .invokestatic 108, 3), (16, .aload_n 0, 1), (17, .getfield 15, 3), (20, .iload_n 1, 1), (21, .iaload, 1), (22, .aload_n 0, 1), (23, .getfield 15, 3)]
theorem tkX2_apart_k0 : dkC cX2_apart tdX2_apart_k0 = true := by decide +kernel
def tdX2_apart_k26 : List dkR := [(26, .iload_n 2, 1), (27, .iaload, 1), (28, .isub, 1), (29, .invokestatic 108, 3), (32, .iadd, 1), (33, .ireturn, 1)]
theorem tkX2_apart_k26 : dkC cX2_apart tdX2_apart_k26 = true := by decide +kernel
def tdX2_formsWithin_k0 : List dkR := [(0, .iconst 0, 1), (1, .istore_n 3, 1), (2, .iconst 0, 1), (3, .istore 4, 2), (5, .iload 4, 2), (7, .aload_n 0, 1), (8, .getfield 36, 3), (11, .if_icmp .ge 27, 3), (14, .aload_n 0, 1), (15, .iload_n 1, 1), (16, .iload 4, 2), (18, .invokevirtual 118, 3), (21, .iload_n 2, 1), (22, .if_icmp .gt 10, 3), (25, .iload_n 3, 1), (26, .iconst 1, 1)]
theorem tkX2_formsWithin_k0 : dkC cX2_formsWithin tdX2_formsWithin_k0 = true := by decide +kernel
def tdX2_formsWithin_k27 : List dkR := [(27, .iload 4, 2), (29, .ishl, 1), (30, .ior, 1), (31, .istore_n 3, 1), (32, .iinc 4 1, 3), (35, .goto (-30), 3), (38, .iload_n 3, 1), (39, .ireturn, 1)]
theorem tkX2_formsWithin_k27 : dkC cX2_formsWithin tdX2_formsWithin_k27 = true := by decide +kernel
def tdX2_hopsBetween_k0 : List dkR := [(0, .iconst 1, 1), (1, .iload_n 1, 1), (2, .ishl, 1), (3, .istore 4, 2), (5, .iconst 0, 1), (6, .istore 5, 2), (8, .iload 5, 2), (10, .bipush 8, 2), (12, .if_icmp .ge 69, 3), (15, .iload 4, 2), (17, .iload_n 2, 1), (18, .invokestatic 114, 3), (21, .ifCond .eq 6, 3), (24, .iload 5, 2), (26, .ireturn, 1), (27, .iload 4, 2)]
theorem tkX2_hopsBetween_k0 : dkC cX2_hopsBetween tdX2_hopsBetween_k0 = true := by decide +kernel
def tdX2_hopsBetween_k29 : List dkR := [(29, .istore 6, 2), (31, .iconst 0, 1), (32, .istore 7, 2), (34, .iload 7, 2), (36, .aload_n 0, 1), (37, .getfield 36, 3), (40, .if_icmp .ge 31, 3), (43, .iload 4, 2), (45, .iload 7, 2), (47, .invokestatic 114, 3), (50, .ifCond .eq 15, 3), (53, .iload 6, 2), (55, .aload_n 0, 1), (56, .iload 7, 2), (58, .iload_n 3, 1), (59, .invokevirtual 121, 3)]
theorem tkX2_hopsBetween_k29 : dkC cX2_hopsBetween tdX2_hopsBetween_k29 = true := by decide +kernel
def tdX2_hopsBetween_k62 : List dkR := [(62, .ior, 1), (63, .istore 6, 2), (65, .iinc 7 1, 3), (68, .goto (-34), 3), (71, .iload 6, 2), (73, .istore 4, 2), (75, .iinc 5 1, 3), (78, .goto (-70), 3), (81, .iconst (-1), 1), (82, .ireturn, 1)]
theorem tkX2_hopsBetween_k62 : dkC cX2_hopsBetween tdX2_hopsBetween_k62 = true := by decide +kernel
def tdX2_watchers_k0 : List dkR := [(0, .iconst 0, 1), (1, .istore_n 2, 1), (2, .iload_n 2, 1), (3, .aload_n 0, 1), (4, .getfield 36, 3), (7, .if_icmp .ge 21, 3), (10, .aload_n 0, 1), (11, .getfield 33, 3), (14, .iload_n 2, 1), (15, .aload_n 0, 1), (16, .iload_n 2, 1), (17, .iload_n 1, 1), (18, .invokevirtual 121, 3), (21, .iastore, 1), (22, .iinc 2 1, 3), (25, .goto (-23), 3)]
theorem tkX2_watchers_k0 : dkC cX2_watchers tdX2_watchers_k0 = true := by decide +kernel
def tdX2_watchers_k28 : List dkR := [(28, .iconst 1, 1), (29, .aload_n 0, 1), (30, .getfield 36, 3), (33, .ishl, 1), (34, .iconst 1, 1), (35, .isub, 1), (36, .istore_n 2, 1), (37, .iload_n 2, 1), (38, .istore_n 3, 1), (39, .iconst 0, 1), (40, .istore 4, 2), (42, .iload 4, 2), (44, .iload_n 2, 1), (45, .if_icmp .ge 34, 3), (48, .iload 4, 2), (50, .invokestatic 124, 3)]
theorem tkX2_watchers_k28 : dkC cX2_watchers tdX2_watchers_k28 = true := by decide +kernel
def tdX2_watchers_k53 : List dkR := [(53, .iload_n 3, 1), (54, .invokestatic 124, 3), (57, .if_icmp .ge 16, 3), (60, .aload_n 0, 1), (61, .iload 4, 2), (63, .invokevirtual 129, 3), (66, .iload_n 2, 1), (67, .if_icmp .ne 6, 3), (70, .iload 4, 2), (72, .istore_n 3, 1), (73, .iinc 4 1, 3), (76, .goto (-34), 3), (79, .iload_n 3, 1), (80, .ireturn, 1)]
theorem tkX2_watchers_k53 : dkC cX2_watchers tdX2_watchers_k53 = true := by decide +kernel
def tdX2_seenFrom_k0 : List dkR := [(0, .iconst 0, 1), (1, .istore_n 2, 1), (2, .iconst 0, 1), (3, .istore_n 3, 1), (4, .iload_n 3, 1), (5, .aload_n 0, 1), (6, .getfield 36, 3), (9, .if_icmp .ge 26, 3), (12, .iload_n 1, 1), (13, .iload_n 3, 1), (14, .invokestatic 114, 3), (17, .ifCond .eq 12, 3), (20, .iload_n 2, 1), (21, .aload_n 0, 1), (22, .getfield 33, 3), (25, .iload_n 3, 1)]
theorem tkX2_seenFrom_k0 : dkC cX2_seenFrom tdX2_seenFrom_k0 = true := by decide +kernel
def tdX2_seenFrom_k26 : List dkR := [(26, .iaload, 1), (27, .ior, 1), (28, .istore_n 2, 1), (29, .iinc 3 1, 3), (32, .goto (-28), 3), (35, .iload_n 2, 1), (36, .ireturn, 1)]
theorem tkX2_seenFrom_k26 : dkC cX2_seenFrom tdX2_seenFrom_k26 = true := by decide +kernel
def tdX3_init_k0 : List dkR := [(0, .aload_n 0, 1), (1, .invokespecial 3, 3), (4, .aload_n 0, 1), (5, .bipush 8, 2), (7, .newarray .int, 2), (9, .putfield 9, 3), (12, .aload_n 0, 1), (13, .bipush 6, 2), (15, .newarray .int, 2), (17, .putfield 15, 3), (20, .aload_n 0, 1), (21, .bipush 6, 2), (23, .newarray .int, 2), (25, .putfield 18, 3), (28, .aload_n 0, 1), (29, .bipush 7, 2)]
theorem tkX3_init_k0 : dkC cX3_init tdX3_init_k0 = true := by decide +kernel
def tdX3_init_k31 : List dkR := [(31, .newarray .int, 2), (33, .putfield 21, 3), (36, .return_, 1)]
theorem tkX3_init_k31 : dkC cX3_init tdX3_init_k31 = true := by decide +kernel
def tdX3_settle_k0 : List dkR := [(0, .aload_n 0, 1), (1, .aload_n 1, 1), (2, .getfield 24, 3), (5, .getfield 30, 3), (8, .putfield 36, 3), (11, .aload_n 0, 1), (12, .aload_n 1, 1), (13, .getfield 24, 3), (16, .getfield 37, 3), (19, .putfield 40, 3), (22, .aload_n 0, 1), (23, .aload_n 2, 1), (24, .putfield 41, 3), (27, .aload_n 0, 1), (28, .iconst 0, 1), (29, .putfield 45, 3)]
theorem tkX3_settle_k0 : dkC cX3_settle tdX3_settle_k0 = true := by decide +kernel
def tdX3_settle_k32 : List dkR := [(32, .aload_n 0, 1), (33, .iconst (-1), 1), (34, .putfield 48, 3), (37, .iconst 0, 1), (38, .istore_n 3, 1), (39, .iload_n 3, 1), (40, .aload_n 0, 1), (41, .getfield 40, 3), (44, .if_icmp .ge 23, 3), (47, .aload_n 0, 1), (48, .getfield 9, 3), (51, .iload_n 3, 1), (52, .aload_n 1, 1), (53, .iload_n 3, 1), (54, .invokevirtual 51, 3), (57, .invokestatic 55, 3)]
theorem tkX3_settle_k32 : dkC cX3_settle tdX3_settle_k32 = true := by decide +kernel
def tdX3_settle_k60 : List dkR := [(60, .iastore, 1), (61, .iinc 3 1, 3), (64, .goto (-25), 3), (67, .iconst 0, 1), (68, .istore_n 3, 1), (69, .iload_n 3, 1), (70, .aload_n 0, 1), (71, .getfield 36, 3), (74, .if_icmp .ge 43, 3), (77, .aload_n 0, 1), (78, .getfield 15, 3), (81, .iload_n 3, 1), (82, .aload_n 1, 1), (83, .iload_n 3, 1), (84, .invokevirtual 60, 3), (87, .iastore, 1)]
theorem tkX3_settle_k60 : dkC cX3_settle tdX3_settle_k60 = true := by decide +kernel
def tdX3_settle_k88 : List dkR := [(88, .aload_n 0, 1), (89, .getfield 18, 3), (92, .iload_n 3, 1), (93, .aload_n 1, 1), (94, .iload_n 3, 1), (95, .invokevirtual 62, 3), (98, .ifCond .eq 7, 3), (101, .iconst 0, 1), (102, .goto 8, 3), (105, .aload_n 0, 1), (106, .iload_n 3, 1), (107, .invokevirtual 66, 3), (110, .iastore, 1), (111, .iinc 3 1, 3), (114, .goto (-45), 3), (117, .return_, 1)]
theorem tkX3_settle_k88 : dkC cX3_settle tdX3_settle_k88 = true := by decide +kernel
def tdX3_formsFor_k0 : List dkR := [(0, .iconst 0, 1), (1, .istore_n 2, 1), (2, .iconst 0, 1), (3, .istore_n 3, 1), (4, .iload_n 3, 1), (5, .aload_n 0, 1), (6, .getfield 40, 3), (9, .if_icmp .ge 58, 3), (12, .aload_n 0, 1), (13, .iload_n 1, 1), (14, .iload_n 3, 1), (15, .invokevirtual 69, 3), (18, .ifCond .eq 43, 3), (21, .iload_n 2, 1), (22, .iconst 1, 1), (23, .iload_n 3, 1)]
theorem tkX3_formsFor_k0 : dkC cX3_formsFor tdX3_formsFor_k0 = true := by decide +kernel
def tdX3_formsFor_k24 : List dkR := [(24, .ishl, 1), (25, .ior, 1), (26, .istore_n 2, 1), (27, .aload_n 0, 1), (28, .aload_n 0, 1), (29, .getfield 45, 3), (32, .ifCond .ne 12, 3), (35, .bipush 10, 2), (37, .iload_n 1, 1), (38, .imul, 1), (39, .iload_n 3, 1), (40, .iadd, 1), (41, .goto 7, 3), (44, .aload_n 0, 1), (45, .getfield 48, 3), (48, .putfield 48, 3)]
theorem tkX3_formsFor_k24 : dkC cX3_formsFor tdX3_formsFor_k24 = true := by decide +kernel
def tdX3_formsFor_k51 : List dkR := [(51, .aload_n 0, 1), (52, .dup, 1), (53, .getfield 45, 3), (56, .iconst 1, 1), (57, .iadd, 1), (58, .putfield 45, 3), (61, .iinc 3 1, 3), (64, .goto (-60), 3), (67, .iload_n 2, 1), (68, .ireturn, 1)]
theorem tkX3_formsFor_k51 : dkC cX3_formsFor tdX3_formsFor_k51 = true := by decide +kernel
def tdX3_allRight_k0 : List dkR := [(0, .iconst 0, 1), (1, .istore_n 3, 1), (2, .iload_n 3, 1), (3, .aload_n 0, 1), (4, .getfield 40, 3), (7, .if_icmp .ge 36, 3), (10, .aload_n 0, 1), (11, .getfield 41, 3), (14, .ifnull 21, 3), (17, .aload_n 0, 1), (18, .getfield 41, 3), (21, .iload_n 3, 1), (22, .aload_n 0, 1), (23, .iload_n 3, 1), (24, .iload_n 1, 1), (25, .iload_n 2, 1)]
theorem tkX3_allRight_k0 : dkC cX3_allRight tdX3_allRight_k0 = true := by decide +kernel
def tdX3_allRight_k26 : List dkR := [(26, .invokevirtual 73, 3), (29, .invokevirtual 77, 3), (32, .ifCond .ne 5, 3), (35, .iconst 0, 1), (36, .ireturn, 1), (37, .iinc 3 1, 3), (40, .goto (-38), 3), (43, .iconst 1, 1), (44, .ireturn, 1)]
theorem tkX3_allRight_k26 : dkC cX3_allRight tdX3_allRight_k26 = true := by decide +kernel
def tdX3_seatedThen_k0 : List dkR := [(0, .aload_n 0, 1), (1, .getfield 9, 3), (4, .iload_n 1, 1), (5, .iaload, 1), (6, .aload_n 0, 1), (7, .getfield 15, 3), (10, .iload_n 2, 1), (11, .iaload, 1), (12, .iload_n 1, 1), (13, .if_icmp .ne 7, 3), (16, .iconst 1, 1), (17, .goto 4, 3), (20, .iconst 0, 1), (21, .isub, 1), (22, .iload_n 3, 1), (23, .iload_n 1, 1)]
theorem tkX3_seatedThen_k0 : dkC cX3_seatedThen tdX3_seatedThen_k0 = true := by decide +kernel
def tdX3_seatedThen_k24 : List dkR := [(24, .if_icmp .ne 7, 3), (27, .iconst 1, 1), (28, .goto 4, 3), (31, .iconst 0, 1), (32, .iadd, 1), (33, .ireturn, 1)]
theorem tkX3_seatedThen_k24 : dkC cX3_seatedThen tdX3_seatedThen_k24 = true := by decide +kernel
def tdX3_lookAhead_k0 : List dkR := [(0, .aload_n 0, 1), (1, .iconst (-1), 1), (2, .putfield 82, 3), (5, .aload_n 0, 1), (6, .iconst (-1), 1), (7, .putfield 85, 3), (10, .iconst 0, 1), (11, .istore_n 1, 1), (12, .iload_n 1, 1), (13, .aload_n 0, 1), (14, .getfield 40, 3), (17, .if_icmp .ge 59, 3), (20, .aload_n 0, 1), (21, .getfield 41, 3), (24, .ifnull 46, 3), (27, .aload_n 0, 1)]
theorem tkX3_lookAhead_k0 : dkC cX3_lookAhead tdX3_lookAhead_k0 = true := by decide +kernel
def tdX3_lookAhead_k28 : List dkR := [(28, .getfield 41, 3), (31, .iload_n 1, 1), (32, .invokevirtual 88, 3), (35, .ifCond .ne 35, 3), (38, .aload_n 0, 1), (39, .iload_n 1, 1), (40, .invokevirtual 91, 3), (43, .istore_n 2, 1), (44, .aload_n 0, 1), (45, .getfield 82, 3), (48, .iconst (-1), 1), (49, .if_icmp .eq 11, 3), (52, .iload_n 2, 1), (53, .aload_n 0, 1), (54, .getfield 85, 3), (57, .if_icmp .ge 13, 3)]
theorem tkX3_lookAhead_k28 : dkC cX3_lookAhead tdX3_lookAhead_k28 = true := by decide +kernel
def tdX3_lookAhead_k60 : List dkR := [(60, .aload_n 0, 1), (61, .iload_n 1, 1), (62, .putfield 82, 3), (65, .aload_n 0, 1), (66, .iload_n 2, 1), (67, .putfield 85, 3), (70, .iinc 1 1, 3), (73, .goto (-61), 3), (76, .return_, 1)]
theorem tkX3_lookAhead_k60 : dkC cX3_lookAhead tdX3_lookAhead_k60 = true := by decide +kernel
def tdX3_worstAt_k0 : List dkR := [(0, .iconst 0, 1), (1, .istore_n 2, 1), (2, .iload_n 2, 1), (3, .bipush 6, 2), (5, .if_icmp .gt 16, 3), (8, .aload_n 0, 1), (9, .getfield 21, 3), (12, .iload_n 2, 1), (13, .iconst 0, 1), (14, .iastore, 1), (15, .iinc 2 1, 3), (18, .goto (-16), 3), (21, .iconst 0, 1), (22, .istore_n 2, 1), (23, .iconst 0, 1), (24, .istore_n 3, 1)]
theorem tkX3_worstAt_k0 : dkC cX3_worstAt tdX3_worstAt_k0 = true := by decide +kernel
def tdX3_worstAt_k25 : List dkR := [(25, .iload_n 3, 1), (26, .aload_n 0, 1), (27, .getfield 36, 3), (30, .if_icmp .ge 58, 3), (33, .iconst 0, 1), (34, .istore 4, 2), (36, .iload 4, 2), (38, .aload_n 0, 1), (39, .getfield 40, 3), (42, .if_icmp .ge 40, 3), (45, .aload_n 0, 1), (46, .getfield 18, 3), (49, .iload_n 3, 1), (50, .iaload, 1), (51, .iload 4, 2), (53, .invokestatic 94, 3)]
theorem tkX3_worstAt_k25 : dkC cX3_worstAt tdX3_worstAt_k25 = true := by decide +kernel
def tdX3_worstAt_k56 : List dkR := [(56, .ifCond .eq 20, 3), (59, .iload_n 2, 1), (60, .aload_n 0, 1), (61, .aload_n 0, 1), (62, .iload_n 1, 1), (63, .iload_n 3, 1), (64, .iload 4, 2), (66, .invokevirtual 73, 3), (69, .invokevirtual 97, 3), (72, .invokestatic 100, 3), (75, .istore_n 2, 1), (76, .iinc 4 1, 3), (79, .goto (-43), 3), (82, .iinc 3 1, 3), (85, .goto (-60), 3), (88, .iload_n 2, 1)]
theorem tkX3_worstAt_k56 : dkC cX3_worstAt tdX3_worstAt_k56 = true := by decide +kernel
def tdX3_worstAt_k89 : List dkR := [(89, .ireturn, 1)]
theorem tkX3_worstAt_k89 : dkC cX3_worstAt tdX3_worstAt_k89 = true := by decide +kernel
def tdX3_tallied_k0 : List dkR := [(0, .iload_n 1, 1), (1, .iconst 0, 1), (2, .bipush 6, 2), (4, .invokestatic 106, 3), (7, .ifCond .ne 5, 3), (10, .iconst 0, 1), (11, .ireturn, 1), (12, .aload_n 0, 1), (13, .getfield 21, 3), (16, .iload_n 1, 1), (17, .dup2, 1), (18, .iaload, 1), (19, .iconst 1, 1), (20, .iadd, 1), (21, .iastore, 1), (22, .aload_n 0, 1)]
theorem tkX3_tallied_k0 : dkC cX3_tallied tdX3_tallied_k0 = true := by decide +kernel
def tdX3_tallied_k23 : List dkR := [(23, .getfield 21, 3), (26, .iload_n 1, 1), (27, .iaload, 1), (28, .ireturn, 1)]
theorem tkX3_tallied_k23 : dkC cX3_tallied tdX3_tallied_k23 = true := by decide +kernel
def tdX4_init_k0 : List dkR := [(0, .aload_n 0, 1), (1, .invokespecial 3, 3), (4, .aload_n 0, 1), (5, .sipush 150, 3), (8, .newarray .int, 2), (10, .putfield 9, 3), (13, .aload_n 0, 1), (14, .sipush 150, 3), (17, .newarray .int, 2), (19, .putfield 15, 3), (22, .aload_n 0, 1), (23, .sipush 150, 3), (26, .newarray .int, 2), (28, .putfield 18, 3), (31, .aload_n 0, 1), (32, .bipush 8, 2)]
theorem tkX4_init_k0 : dkC cX4_init tdX4_init_k0 = true := by decide +kernel
def tdX4_init_k34 : List dkR := [(34, .newarray .int, 2), (36, .putfield 21, 3), (39, .aload_n 0, 1), (40, .invokevirtual 24, 3), (43, .return_, 1)]
theorem tkX4_init_k34 : dkC cX4_init tdX4_init_k34 = true := by decide +kernel
def tdX4_setPlain_k0 : List dkR := [(0, .aload_n 0, 1), (1, .iconst 0, 1), (2, .putfield 27, 3), (5, .aload_n 0, 1), (6, .iconst 0, 1), (7, .iconst 4, 1), (8, .invokevirtual 31, 3), (11, .aload_n 0, 1), (12, .iconst 1, 1), (13, .iconst 0, 1), (14, .invokevirtual 31, 3), (17, .aload_n 0, 1), (18, .iconst 2, 1), (19, .iconst 0, 1), (20, .invokevirtual 31, 3), (23, .aload_n 0, 1)]
theorem tkX4_setPlain_k0 : dkC cX4_setPlain tdX4_setPlain_k0 = true := by decide +kernel
def tdX4_setPlain_k24 : List dkR := [(24, .iconst 1, 1), (25, .iconst 1, 1), (26, .invokevirtual 31, 3), (29, .aload_n 0, 1), (30, .iconst 3, 1), (31, .iconst 0, 1), (32, .invokevirtual 31, 3), (35, .return_, 1)]
theorem tkX4_setPlain_k24 : dkC cX4_setPlain tdX4_setPlain_k24 = true := by decide +kernel
def tdX4_add_k0 : List dkR := [(0, .aload_n 0, 1), (1, .getfield 27, 3), (4, .sipush 150, 3), (7, .if_icmp .ge 33, 3), (10, .aload_n 0, 1), (11, .getfield 9, 3), (14, .aload_n 0, 1), (15, .getfield 27, 3), (18, .iload_n 1, 1), (19, .iastore, 1), (20, .aload_n 0, 1), (21, .getfield 15, 3), (24, .aload_n 0, 1), (25, .getfield 27, 3), (28, .iload_n 2, 1), (29, .iastore, 1)]
theorem tkX4_add_k0 : dkC cX4_add tdX4_add_k0 = true := by decide +kernel
def tdX4_add_k30 : List dkR := [(30, .aload_n 0, 1), (31, .dup, 1), (32, .getfield 27, 3), (35, .iconst 1, 1), (36, .iadd, 1), (37, .putfield 27, 3), (40, .return_, 1)]
theorem tkX4_add_k30 : dkC cX4_add tdX4_add_k30 = true := by decide +kernel
def tdX4_readFrom_k0 : List dkR := [(0, .aload_n 0, 1), (1, .iconst 0, 1), (2, .putfield 27, 3), (5, .aload_n 0, 1), (6, .aload_n 1, 1), (7, .iconst 0, 1), (8, .invokevirtual 35, 3), (11, .aload_n 1, 1), (12, .invokevirtual 39, 3), (15, .return_, 1)]
theorem tkX4_readFrom_k0 : dkC cX4_readFrom tdX4_readFrom_k0 = true := by decide +kernel
def tdX4_readSum_k0 : List dkR := [(0, .aload_n 0, 1), (1, .aload_n 1, 1), (2, .iload_n 2, 1), (3, .invokevirtual 44, 3), (6, .iconst 0, 1), (7, .istore_n 3, 1), (8, .iload_n 3, 1), (9, .sipush 150, 3), (12, .if_icmp .ge 65, 3), (15, .aload_n 1, 1), (16, .invokevirtual 47, 3), (19, .ifCond .ne 58, 3), (22, .aload_n 1, 1), (23, .bipush 43, 2), (25, .invokevirtual 51, 3), (28, .ifCond .eq 7, 3)]
theorem tkX4_readSum_k0 : dkC cX4_readSum tdX4_readSum_k0 = true := by decide +kernel
def tdX4_readSum_k31 : List dkR := [(31, .iconst 2, 1), (32, .goto 17, 3), (35, .aload_n 1, 1), (36, .bipush 45, 2), (38, .invokevirtual 51, 3), (41, .ifCond .eq 7, 3), (44, .iconst 3, 1), (45, .goto 4, 3), (48, .iconst (-1), 1), (49, .istore 4, 2), (51, .iload 4, 2), (53, .iconst (-1), 1), (54, .if_icmp .ne 4, 3), (57, .return_, 1), (58, .aload_n 0, 1), (59, .aload_n 1, 1)]
theorem tkX4_readSum_k31 : dkC cX4_readSum tdX4_readSum_k31 = true := by decide +kernel
def tdX4_readSum_k60 : List dkR := [(60, .iload_n 2, 1), (61, .invokevirtual 44, 3), (64, .aload_n 0, 1), (65, .iload 4, 2), (67, .iconst 0, 1), (68, .invokevirtual 31, 3), (71, .iinc 3 1, 3), (74, .goto (-66), 3), (77, .return_, 1)]
theorem tkX4_readSum_k60 : dkC cX4_readSum tdX4_readSum_k60 = true := by decide +kernel
def tdX4_readProduct_k0 : List dkR := [(0, .aload_n 0, 1), (1, .aload_n 1, 1), (2, .iload_n 2, 1), (3, .invokevirtual 55, 3), (6, .iconst 0, 1), (7, .istore_n 3, 1), (8, .iload_n 3, 1), (9, .sipush 150, 3), (12, .if_icmp .ge 79, 3), (15, .aload_n 1, 1), (16, .invokevirtual 47, 3), (19, .ifCond .ne 72, 3), (22, .aload_n 1, 1), (23, .bipush 42, 2), (25, .invokevirtual 51, 3), (28, .ifCond .eq 7, 3)]
theorem tkX4_readProduct_k0 : dkC cX4_readProduct tdX4_readProduct_k0 = true := by decide +kernel
def tdX4_readProduct_k31 : List dkR := [(31, .iconst 4, 1), (32, .goto 31, 3), (35, .aload_n 1, 1), (36, .bipush 47, 2), (38, .invokevirtual 51, 3), (41, .ifCond .eq 7, 3), (44, .iconst 5, 1), (45, .goto 18, 3), (48, .aload_n 1, 1), (49, .bipush 37, 2), (51, .invokevirtual 51, 3), (54, .ifCond .eq 8, 3), (57, .bipush 6, 2), (59, .goto 4, 3), (62, .iconst (-1), 1), (63, .istore 4, 2)]
theorem tkX4_readProduct_k31 : dkC cX4_readProduct tdX4_readProduct_k31 = true := by decide +kernel
def tdX4_readProduct_k65 : List dkR := [(65, .iload 4, 2), (67, .iconst (-1), 1), (68, .if_icmp .ne 4, 3), (71, .return_, 1), (72, .aload_n 0, 1), (73, .aload_n 1, 1), (74, .iload_n 2, 1), (75, .invokevirtual 55, 3), (78, .aload_n 0, 1), (79, .iload 4, 2), (81, .iconst 0, 1), (82, .invokevirtual 31, 3), (85, .iinc 3 1, 3), (88, .goto (-80), 3), (91, .return_, 1)]
theorem tkX4_readProduct_k65 : dkC cX4_readProduct tdX4_readProduct_k65 = true := by decide +kernel
def tdX4_readUnit_k0 : List dkR := [(0, .aload_n 1, 1), (1, .invokevirtual 58, 3), (4, .ifCond .eq 19, 3), (7, .aload_n 0, 1), (8, .iconst 0, 1), (9, .aload_n 1, 1), (10, .iconst 0, 1), (11, .sipush 999, 3), (14, .invokevirtual 61, 3), (17, .invokevirtual 31, 3), (20, .goto 66, 3), (23, .aload_n 1, 1), (24, .bipush 40, 2), (26, .invokevirtual 51, 3), (29, .ifCond .eq 12, 3), (32, .aload_n 0, 1)]
theorem tkX4_readUnit_k0 : dkC cX4_readUnit tdX4_readUnit_k0 = true := by decide +kernel
def tdX4_readUnit_k33 : List dkR := [(33, .aload_n 1, 1), (34, .iload_n 2, 1), (35, .invokevirtual 65, 3), (38, .goto 48, 3), (41, .aload_n 1, 1), (42, .ldc 68, 2), (44, .invokevirtual 70, 3), (47, .ifCond .eq 14, 3), (50, .aload_n 0, 1), (51, .aload_n 1, 1), (52, .iload_n 2, 1), (53, .bipush 7, 2), (55, .invokevirtual 74, 3), (58, .goto 28, 3), (61, .aload_n 1, 1), (62, .ldc 78, 2)]
theorem tkX4_readUnit_k33 : dkC cX4_readUnit tdX4_readUnit_k33 = true := by decide +kernel
def tdX4_readUnit_k64 : List dkR := [(64, .invokevirtual 70, 3), (67, .ifCond .eq 14, 3), (70, .aload_n 0, 1), (71, .aload_n 1, 1), (72, .iload_n 2, 1), (73, .bipush 8, 2), (75, .invokevirtual 74, 3), (78, .goto 8, 3), (81, .aload_n 0, 1), (82, .aload_n 1, 1), (83, .invokevirtual 80, 3), (86, .return_, 1)]
theorem tkX4_readUnit_k64 : dkC cX4_readUnit tdX4_readUnit_k64 = true := by decide +kernel
def tdX4_readInner_k0 : List dkR := [(0, .iload_n 2, 1), (1, .bipush 6, 2), (3, .if_icmp .lt 9, 3), (6, .aload_n 1, 1), (7, .iconst 3, 1), (8, .invokevirtual 84, 3), (11, .return_, 1), (12, .aload_n 0, 1), (13, .aload_n 1, 1), (14, .iload_n 2, 1), (15, .iconst 1, 1), (16, .iadd, 1), (17, .invokevirtual 35, 3), (20, .aload_n 1, 1), (21, .bipush 41, 2), (23, .invokevirtual 88, 3)]
theorem tkX4_readInner_k0 : dkC cX4_readInner tdX4_readInner_k0 = true := by decide +kernel
def tdX4_readInner_k26 : List dkR := [(26, .return_, 1)]
theorem tkX4_readInner_k26 : dkC cX4_readInner tdX4_readInner_k26 = true := by decide +kernel
def tdX4_readPair_k0 : List dkR := [(0, .iload_n 2, 1), (1, .bipush 6, 2), (3, .if_icmp .lt 9, 3), (6, .aload_n 1, 1), (7, .iconst 3, 1), (8, .invokevirtual 84, 3), (11, .return_, 1), (12, .aload_n 1, 1), (13, .bipush 91, 2), (15, .invokevirtual 88, 3), (18, .aload_n 0, 1), (19, .aload_n 1, 1), (20, .iload_n 2, 1), (21, .iconst 1, 1), (22, .iadd, 1), (23, .invokevirtual 35, 3)]
theorem tkX4_readPair_k0 : dkC cX4_readPair tdX4_readPair_k0 = true := by decide +kernel
def tdX4_readPair_k26 : List dkR := [(26, .aload_n 1, 1), (27, .bipush 44, 2), (29, .invokevirtual 88, 3), (32, .aload_n 0, 1), (33, .aload_n 1, 1), (34, .iload_n 2, 1), (35, .iconst 1, 1), (36, .iadd, 1), (37, .invokevirtual 35, 3), (40, .aload_n 1, 1), (41, .bipush 93, 2), (43, .invokevirtual 88, 3), (46, .aload_n 0, 1), (47, .iload_n 3, 1), (48, .iconst 0, 1), (49, .invokevirtual 31, 3)]
theorem tkX4_readPair_k26 : dkC cX4_readPair tdX4_readPair_k26 = true := by decide +kernel
def tdX4_readPair_k52 : List dkR := [(52, .return_, 1)]
theorem tkX4_readPair_k52 : dkC cX4_readPair tdX4_readPair_k52 = true := by decide +kernel
def tdX4_readFact_k0 : List dkR := [(0, .aload_n 1, 1), (1, .ldc 92, 2), (3, .invokevirtual 70, 3), (6, .ifCond .eq 12, 3), (9, .aload_n 0, 1), (10, .iconst 1, 1), (11, .iconst 0, 1), (12, .invokevirtual 31, 3), (15, .goto 135, 3), (18, .aload_n 1, 1), (19, .ldc 94, 2), (21, .invokevirtual 70, 3), (24, .ifCond .eq 12, 3), (27, .aload_n 0, 1), (28, .iconst 1, 1), (29, .iconst 1, 1)]
theorem tkX4_readFact_k0 : dkC cX4_readFact tdX4_readFact_k0 = true := by decide +kernel
def tdX4_readFact_k30 : List dkR := [(30, .invokevirtual 31, 3), (33, .goto 117, 3), (36, .aload_n 1, 1), (37, .ldc 96, 2), (39, .invokevirtual 70, 3), (42, .ifCond .eq 12, 3), (45, .aload_n 0, 1), (46, .iconst 1, 1), (47, .iconst 2, 1), (48, .invokevirtual 31, 3), (51, .goto 99, 3), (54, .aload_n 1, 1), (55, .ldc 98, 2), (57, .invokevirtual 70, 3), (60, .ifCond .eq 12, 3), (63, .aload_n 0, 1)]
theorem tkX4_readFact_k30 : dkC cX4_readFact tdX4_readFact_k30 = true := by decide +kernel
def tdX4_readFact_k64 : List dkR := [(64, .iconst 1, 1), (65, .iconst 3, 1), (66, .invokevirtual 31, 3), (69, .goto 81, 3), (72, .aload_n 1, 1), (73, .ldc 100, 2), (75, .invokevirtual 70, 3), (78, .ifCond .eq 12, 3), (81, .aload_n 0, 1), (82, .iconst 1, 1), (83, .iconst 4, 1), (84, .invokevirtual 31, 3), (87, .goto 63, 3), (90, .aload_n 1, 1), (91, .ldc 102, 2), (93, .invokevirtual 70, 3)]
theorem tkX4_readFact_k64 : dkC cX4_readFact tdX4_readFact_k64 = true := by decide +kernel
def tdX4_readFact_k96 : List dkR := [(96, .ifCond .eq 12, 3), (99, .aload_n 0, 1), (100, .iconst 1, 1), (101, .iconst 5, 1), (102, .invokevirtual 31, 3), (105, .goto 45, 3), (108, .aload_n 1, 1), (109, .ldc 104, 2), (111, .invokevirtual 70, 3), (114, .ifCond .eq 13, 3), (117, .aload_n 0, 1), (118, .iconst 1, 1), (119, .bipush 6, 2), (121, .invokevirtual 31, 3), (124, .goto 26, 3), (127, .aload_n 1, 1)]
theorem tkX4_readFact_k96 : dkC cX4_readFact tdX4_readFact_k96 = true := by decide +kernel
def tdX4_readFact_k128 : List dkR := [(128, .ldc 106, 2), (130, .invokevirtual 70, 3), (133, .ifCond .eq 13, 3), (136, .aload_n 0, 1), (137, .iconst 1, 1), (138, .bipush 7, 2), (140, .invokevirtual 31, 3), (143, .goto 7, 3), (146, .aload_n 1, 1), (147, .invokevirtual 108, 3), (150, .return_, 1)]
theorem tkX4_readFact_k128 : dkC cX4_readFact tdX4_readFact_k128 = true := by decide +kernel
def tdX4_setFacts_k0 : List dkR := [(0, .aload_n 0, 1), (1, .getfield 21, 3), (4, .iconst 0, 1), (5, .iload_n 1, 1), (6, .iastore, 1), (7, .aload_n 0, 1), (8, .getfield 21, 3), (11, .iconst 1, 1), (12, .iload_n 2, 1), (13, .iastore, 1), (14, .aload_n 0, 1), (15, .getfield 21, 3), (18, .iconst 2, 1), (19, .iload_n 3, 1), (20, .iastore, 1), (21, .aload_n 0, 1)]
theorem tkX4_setFacts_k0 : dkC cX4_setFacts tdX4_setFacts_k0 = true := by decide +kernel
def tdX4_setFacts_k22 : List dkR := [(22, .getfield 21, 3), (25, .iconst 3, 1), (26, .iload 4, 2), (28, .iastore, 1), (29, .aload_n 0, 1), (30, .getfield 21, 3), (33, .iconst 4, 1), (34, .iload 5, 2), (36, .iastore, 1), (37, .return_, 1)]
theorem tkX4_setFacts_k22 : dkC cX4_setFacts tdX4_setFacts_k22 = true := by decide +kernel
def tdX4_setTimes_k0 : List dkR := [(0, .aload_n 0, 1), (1, .getfield 21, 3), (4, .iconst 5, 1), (5, .iload_n 1, 1), (6, .iastore, 1), (7, .aload_n 0, 1), (8, .getfield 21, 3), (11, .bipush 6, 2), (13, .iload_n 2, 1), (14, .iastore, 1), (15, .aload_n 0, 1), (16, .getfield 21, 3), (19, .bipush 7, 2), (21, .iload_n 3, 1), (22, .iastore, 1), (23, .return_, 1)]
theorem tkX4_setTimes_k0 : dkC cX4_setTimes tdX4_setTimes_k0 = true := by decide +kernel
def tdX4_reach_k0 : List dkR := [(0, .iconst 0, 1), (1, .istore_n 1, 1), (2, .iconst 0, 1), (3, .istore_n 2, 1), (4, .iload_n 2, 1), (5, .aload_n 0, 1), (6, .getfield 27, 3), (9, .if_icmp .ge 95, 3), (12, .aload_n 0, 1), (13, .getfield 9, 3), (16, .iload_n 2, 1), (17, .iaload, 1), (18, .istore_n 3, 1), (19, .iload_n 3, 1), (20, .ifCond .eq 8, 3), (23, .iload_n 3, 1)]
theorem tkX4_reach_k0 : dkC cX4_reach tdX4_reach_k0 = true := by decide +kernel
def tdX4_reach_k24 : List dkR := [(24, .iconst 1, 1), (25, .if_icmp .ne 39, 3), (28, .aload_n 0, 1), (29, .getfield 18, 3), (32, .iload_n 1, 1), (33, .iload_n 3, 1), (34, .ifCond .ne 12, 3), (37, .aload_n 0, 1), (38, .getfield 15, 3), (41, .iload_n 2, 1), (42, .iaload, 1), (43, .goto 14, 3), (46, .aload_n 0, 1), (47, .getfield 21, 3), (50, .aload_n 0, 1), (51, .getfield 15, 3)]
theorem tkX4_reach_k24 : dkC cX4_reach tdX4_reach_k24 = true := by decide +kernel
def tdX4_reach_k54 : List dkR := [(54, .iload_n 2, 1), (55, .iaload, 1), (56, .iaload, 1), (57, .iastore, 1), (58, .iinc 1 1, 3), (61, .goto 37, 3), (64, .iload_n 1, 1), (65, .iconst 2, 1), (66, .if_icmp .lt 32, 3), (69, .iinc 1 (-1), 3), (72, .aload_n 0, 1), (73, .getfield 18, 3), (76, .iload_n 1, 1), (77, .iconst 1, 1), (78, .isub, 1), (79, .iload_n 3, 1)]
theorem tkX4_reach_k54 : dkC cX4_reach tdX4_reach_k54 = true := by decide +kernel
def tdX4_reach_k80 : List dkR := [(80, .aload_n 0, 1), (81, .getfield 18, 3), (84, .iload_n 1, 1), (85, .iconst 1, 1), (86, .isub, 1), (87, .iaload, 1), (88, .aload_n 0, 1), (89, .getfield 18, 3), (92, .iload_n 1, 1), (93, .iaload, 1), (94, .invokestatic 111, 3), (97, .iastore, 1), (98, .iinc 2 1, 3), (101, .goto (-97), 3), (104, .iload_n 1, 1), (105, .ifCond .le 12, 3)]
theorem tkX4_reach_k80 : dkC cX4_reach tdX4_reach_k80 = true := by decide +kernel
def tdX4_reach_k108 : List dkR := [(108, .aload_n 0, 1), (109, .getfield 18, 3), (112, .iconst 0, 1), (113, .iaload, 1), (114, .goto 4, 3), (117, .iconst 0, 1), (118, .istore_n 2, 1), (119, .iconst 0, 1), (120, .bipush 60, 2), (122, .iload_n 2, 1), (123, .invokestatic 115, 3), (126, .invokestatic 120, 3), (129, .ireturn, 1)]
theorem tkX4_reach_k108 : dkC cX4_reach tdX4_reach_k108 = true := by decide +kernel
def tdX4_joined_k0 : List dkR := [(0, .iload_n 0, 1), (1, .tableswitch 86 2 7 #[39, 43, 47, 51, 63, 75], 39), (40, .iload_n 1, 1), (41, .iload_n 2, 1), (42, .iadd, 1), (43, .ireturn, 1), (44, .iload_n 1, 1), (45, .iload_n 2, 1), (46, .isub, 1), (47, .ireturn, 1), (48, .iload_n 1, 1), (49, .iload_n 2, 1), (50, .imul, 1), (51, .ireturn, 1), (52, .iload_n 2, 1), (53, .ifCond .ne 7, 3)]
theorem tkX4_joined_k0 : dkC cX4_joined tdX4_joined_k0 = true := by decide +kernel
def tdX4_joined_k56 : List dkR := [(56, .iconst 0, 1), (57, .goto 6, 3), (60, .iload_n 1, 1), (61, .iload_n 2, 1), (62, .idiv, 1), (63, .ireturn, 1), (64, .iload_n 2, 1), (65, .ifCond .ne 7, 3), (68, .iconst 0, 1), (69, .goto 6, 3)]
theorem tkX4_joined_k56 : dkC cX4_joined tdX4_joined_k56 = true := by decide +kernel
