def qaUZ : List dtR := [(0, .aload_n 0, 1, 0), (1, .invokespecial 3, 3, 44), (4, .aload_n 0, 1, 0), (5, .bipush 8, 2, 11)]
theorem qSN : dtC (cX0_init.data.toList.drop 0) 0 qaUZ = true := by decide +kernel
theorem dX0_init_7 : decode cX0_init 7 = .ok (.newarray .int, 2) := by decide +kernel
def qaVI : List dtR := [(9, .putfield 9, 3, 14), (12, .aload_n 0, 1, 0), (13, .invokevirtual 15, 3, 2), (16, .return_, 1, 24)]
theorem qSY : dtC (cX0_init.data.toList.drop 9) 9 qaVI = true := by decide +kernel
def qaPS : List dtR := [(0, .aload_n 0, 1, 0), (1, .iconst 0, 1, 3), (2, .putfield 18, 3, 14), (5, .iconst 0, 1, 3), (6, .istore_n 1, 1, 37), (7, .iload_n 1, 1, 4), (8, .bipush 8, 2, 11), (10, .if_icmp .ge 16, 3, 18), (13, .aload_n 0, 1, 0), (14, .getfield 9, 3, 1), (17, .iload_n 1, 1, 4), (18, .iconst (-1), 1, 28), (19, .iastore, 1, 22), (20, .iinc 1 1, 3, 20), (23, .goto (-16), 3, 7), (26, .return_, 1, 24)]
theorem qlO : dtC (cX0_clear.data.toList.drop 0) 0 qaPS = true := by decide +kernel
def qaqG : List dtR := [(0, .aload_n 0, 1, 0), (1, .invokevirtual 15, 3, 2), (4, .iconst 0, 1, 3), (5, .istore_n 3, 1, 26), (6, .iload_n 3, 1, 13), (7, .bipush 8, 2, 11), (9, .if_icmp .gt 29, 3, 42), (12, .aload_n 1, 1, 17), (13, .invokevirtual 22, 3, 2), (16, .ifCond .ne 22, 3, 21), (19, .aload_n 1, 1, 17), (20, .invokevirtual 28, 3, 2), (23, .ifCond .ne 15, 3, 21), (26, .aload_n 0, 1, 0), (27, .aload_n 1, 1, 17), (28, .iload_n 2, 1, 8)]
theorem qfT : dtC (cX0_readFrom.data.toList.drop 0) 0 qaqG = true := by decide +kernel
def qamx : List dtR := [(29, .invokevirtual 31, 3, 2), (32, .iinc 3 1, 3, 20), (35, .goto (-29), 3, 7), (38, .return_, 1, 24)]
theorem qvz : dtC (cX0_readFrom.data.toList.drop 29) 29 qamx = true := by decide +kernel
def qaq6 : List dtR := [(0, .aload_n 1, 1, 17), (1, .iconst 0, 1, 3), (2, .iload_n 2, 1, 8), (3, .iconst 1, 1, 5), (4, .isub, 1, 27), (5, .invokevirtual 35, 3, 2), (8, .istore_n 3, 1, 26), (9, .iload_n 3, 1, 13), (10, .iconst 0, 1, 3), (11, .iload_n 2, 1, 8), (12, .iconst 1, 1, 5), (13, .isub, 1, 27), (14, .invokestatic 39, 3, 16), (17, .ifCond .eq 16, 3, 19), (20, .aload_n 0, 1, 0), (21, .iload_n 3, 1, 13)]
theorem qfS : dtC (cX0_readLine.data.toList.drop 0) 0 qaq6 = true := by decide +kernel
def qakI : List dtR := [(22, .invokevirtual 43, 3, 2), (25, .ifCond .eq 8, 3, 19), (28, .aload_n 1, 1, 17), (29, .iconst 2, 1, 25), (30, .invokevirtual 47, 3, 2), (33, .aload_n 1, 1, 17), (34, .iconst 0, 1, 3), (35, .bipush 6, 2, 11), (37, .invokevirtual 35, 3, 2), (40, .istore 4, 2, 15), (42, .aload_n 1, 1, 17), (43, .bipush 59, 2, 11), (45, .invokevirtual 51, 3, 2), (48, .aload_n 1, 1, 17), (49, .invokevirtual 22, 3, 2), (52, .ifCond .ne 21, 3, 21)]
theorem qdW : dtC (cX0_readLine.data.toList.drop 22) 22 qakI = true := by decide +kernel
def qaiD : List dtR := [(55, .aload_n 0, 1, 0), (56, .getfield 9, 3, 1), (59, .iload_n 3, 1, 13), (60, .iload 4, 2, 6), (62, .iastore, 1, 22), (63, .aload_n 0, 1, 0), (64, .dup, 1, 30), (65, .getfield 18, 3, 1), (68, .iconst 1, 1, 5), (69, .iadd, 1, 10), (70, .putfield 18, 3, 14), (73, .return_, 1, 24)]
theorem qif : dtC (cX0_readLine.data.toList.drop 55) 55 qaiD = true := by decide +kernel
def qaPX : List dtR := [(0, .aload_n 0, 1, 0), (1, .getfield 9, 3, 1), (4, .iload_n 1, 1, 4), (5, .iaload, 1, 12), (6, .iconst (-1), 1, 28), (7, .if_icmp .eq 7, 3, 39), (10, .iconst 1, 1, 5), (11, .goto 4, 3, 7), (14, .iconst 0, 1, 3), (15, .ireturn, 1, 9)]
theorem qsq : dtC (cX0_tells.data.toList.drop 0) 0 qaPX = true := by decide +kernel
def qaIN : List dtR := [(0, .aload_n 0, 1, 0), (1, .getfield 9, 3, 1), (4, .iload_n 1, 1, 4), (5, .iaload, 1, 12), (6, .iconst (-1), 1, 28), (7, .if_icmp .eq 13, 3, 39), (10, .aload_n 0, 1, 0), (11, .getfield 9, 3, 1), (14, .iload_n 1, 1, 4), (15, .iaload, 1, 12), (16, .iload_n 2, 1, 8), (17, .if_icmp .ne 7, 3, 23), (20, .iconst 1, 1, 5), (21, .goto 4, 3, 7), (24, .iconst 0, 1, 3), (25, .ireturn, 1, 9)]
theorem qic : dtC (cX0_agrees.data.toList.drop 0) 0 qaIN = true := by decide +kernel
def qaUM : List dtR := [(0, .aload_n 0, 1, 0), (1, .invokespecial 7, 3, 44), (4, .aload_n 0, 1, 0), (5, .bipush 64, 2, 11)]
theorem qSW : dtC (cX1_init.data.toList.drop 0) 0 qaUM = true := by decide +kernel
theorem dX1_init_7 : decode cX1_init 7 = .ok (.newarray .int, 2) := by decide +kernel
def qaUP : List dtR := [(9, .putfield 13, 3, 14), (12, .aload_n 0, 1, 0), (13, .bipush 6, 2, 11)]
theorem q1z : dtC (cX1_init.data.toList.drop 9) 9 qaUP = true := by decide +kernel
theorem dX1_init_15 : decode cX1_init 15 = .ok (.newarray .int, 2) := by decide +kernel
def qaQy : List dtR := [(17, .putfield 17, 3, 14), (20, .aload_n 0, 1, 0), (21, .aload_n 1, 1, 17), (22, .aload_n 2, 1, 31), (23, .invokevirtual 20, 3, 2), (26, .return_, 1, 24)]
theorem qCV : dtC (cX1_init.data.toList.drop 17) 17 qaQy = true := by decide +kernel
def qaQZ : List dtR := [(0, .aload_n 0, 1, 0), (1, .aload_n 1, 1, 17), (2, .putfield 24, 3, 14), (5, .aload_n 0, 1, 0), (6, .aload_n 2, 1, 31), (7, .putfield 28, 3, 14), (10, .iconst 0, 1, 3), (11, .istore_n 3, 1, 26), (12, .iload_n 3, 1, 13), (13, .bipush 64, 2, 11), (15, .if_icmp .ge 16, 3, 18), (18, .aload_n 0, 1, 0), (19, .getfield 13, 3, 1), (22, .iload_n 3, 1, 13), (23, .iconst 0, 1, 3), (24, .iastore, 1, 22)]
theorem qlW : dtC (cX1_begin.data.toList.drop 0) 0 qaQZ = true := by decide +kernel
def qaGu : List dtR := [(25, .iinc 3 1, 3, 20), (28, .goto (-16), 3, 7), (31, .aload_n 0, 1, 0), (32, .getfield 13, 3, 1), (35, .iconst 0, 1, 3), (36, .iconst 1, 1, 5), (37, .iastore, 1, 22), (38, .iconst 0, 1, 3), (39, .istore_n 3, 1, 26), (40, .iload_n 3, 1, 13), (41, .aload_n 1, 1, 17), (42, .getfield 32, 3, 1), (45, .if_icmp .ge 38, 3, 18), (48, .aload_n 0, 1, 0), (49, .getfield 13, 3, 1), (52, .iconst 4, 1, 43)]
theorem qj1 : dtC (cX1_begin.data.toList.drop 25) 25 qaGu = true := by decide +kernel
def qaKh : List dtR := [(53, .iload_n 3, 1, 13), (54, .iadd, 1, 10), (55, .aload_n 1, 1, 17), (56, .getfield 36, 3, 1), (59, .iload_n 3, 1, 13), (60, .iaload, 1, 12), (61, .iastore, 1, 22), (62, .aload_n 0, 1, 0), (63, .getfield 13, 3, 1), (66, .bipush 10, 2, 11), (68, .iload_n 3, 1, 13), (69, .iadd, 1, 10), (70, .aload_n 1, 1, 17), (71, .getfield 39, 3, 1), (74, .iload_n 3, 1, 13), (75, .iaload, 1, 12)]
theorem qke : dtC (cX1_begin.data.toList.drop 53) 53 qaKh = true := by decide +kernel
def qaFj : List dtR := [(76, .iastore, 1, 22), (77, .iinc 3 1, 3, 20), (80, .goto (-40), 3, 7), (83, .aload_n 1, 1, 17), (84, .getfield 42, 3, 1), (87, .iconst 0, 1, 3), (88, .aload_n 0, 1, 0), (89, .getfield 13, 3, 1), (92, .bipush 28, 2, 11), (94, .bipush 36, 2, 11), (96, .invokestatic 45, 3, 16), (99, .return_, 1, 24)]
theorem qpq : dtC (cX1_begin.data.toList.drop 76) 76 qaFj = true := by decide +kernel
def qaT5 : List dtR := [(0, .aload_n 0, 1, 0), (1, .aload_n 1, 1, 17), (2, .putfield 28, 3, 14), (5, .return_, 1, 24)]
theorem qRJ : dtC (cX1_obey.data.toList.drop 0) 0 qaT5 = true := by decide +kernel
def qarh : List dtR := [(0, .aload_n 0, 1, 0), (1, .aload_n 1, 1, 17), (2, .getfield 24, 3, 1), (5, .putfield 24, 3, 14), (8, .aload_n 0, 1, 0), (9, .aload_n 1, 1, 17), (10, .getfield 28, 3, 1), (13, .putfield 28, 3, 14), (16, .aload_n 1, 1, 17), (17, .getfield 13, 3, 1), (20, .iconst 0, 1, 3), (21, .aload_n 0, 1, 0), (22, .getfield 13, 3, 1), (25, .iconst 0, 1, 3), (26, .bipush 64, 2, 11), (28, .invokestatic 45, 3, 16)]
theorem qfV : dtC (cX1_copyFrom.data.toList.drop 0) 0 qarh = true := by decide +kernel
def qakk : List dtR := [(31, .return_, 1, 24)]
theorem qalS : dtC (cX1_copyFrom.data.toList.drop 31) 31 qakk = true := by decide +kernel
def qaW4 : List dtR := [(0, .aload_n 0, 1, 0), (1, .getfield 13, 3, 1), (4, .iconst 0, 1, 3), (5, .iaload, 1, 12), (6, .ireturn, 1, 9)]
theorem qOR : dtC (cX1_day.data.toList.drop 0) 0 qaW4 = true := by decide +kernel
def qaWd : List dtR := [(0, .aload_n 0, 1, 0), (1, .getfield 13, 3, 1), (4, .iconst 1, 1, 5), (5, .iaload, 1, 12), (6, .ireturn, 1, 9)]
theorem qLK : dtC (cX1_year.data.toList.drop 0) 0 qaWd = true := by decide +kernel
def qadI : List dtR := [(0, .aload_n 0, 1, 0), (1, .getfield 13, 3, 1), (4, .iconst 2, 1, 25), (5, .iaload, 1, 12), (6, .ireturn, 1, 9)]
theorem qw2 : dtC (cX1_caughtOnes.data.toList.drop 0) 0 qadI = true := by decide +kernel
def qaky : List dtR := [(0, .aload_n 0, 1, 0), (1, .getfield 13, 3, 1), (4, .iconst 3, 1, 36), (5, .iaload, 1, 12), (6, .ireturn, 1, 9)]
theorem qyf : dtC (cX1_leaptOnes.data.toList.drop 0) 0 qaky = true := by decide +kernel
def qaqg : List dtR := [(0, .iconst 1, 1, 5), (1, .aload_n 0, 1, 0), (2, .getfield 24, 3, 1), (5, .getfield 32, 3, 1), (8, .ishl, 1, 32), (9, .iconst 1, 1, 5), (10, .isub, 1, 27), (11, .aload_n 0, 1, 0), (12, .getfield 13, 3, 1), (15, .iconst 2, 1, 25), (16, .iaload, 1, 12), (17, .iconst (-1), 1, 28), (18, .ixor, 1, 59), (19, .iand, 1, 40), (20, .ireturn, 1, 9)]
theorem qgx : dtC (cX1_freeOnes.data.toList.drop 0) 0 qaqg = true := by decide +kernel
def qaum : List dtR := [(0, .aload_n 0, 1, 0), (1, .getfield 13, 3, 1), (4, .iconst 2, 1, 25), (5, .iaload, 1, 12), (6, .iload_n 1, 1, 4), (7, .ishr, 1, 54), (8, .iconst 1, 1, 5), (9, .iand, 1, 40), (10, .iconst 1, 1, 5), (11, .if_icmp .ne 7, 3, 23), (14, .iconst 1, 1, 5), (15, .goto 4, 3, 7), (18, .iconst 0, 1, 3), (19, .ireturn, 1, 9)]
theorem qgz : dtC (cX1_isCaught.data.toList.drop 0) 0 qaum = true := by decide +kernel
def qaTu : List dtR := [(0, .aload_n 0, 1, 0), (1, .getfield 13, 3, 1), (4, .iconst 4, 1, 43), (5, .iload_n 1, 1, 4), (6, .iadd, 1, 10), (7, .iaload, 1, 12), (8, .ireturn, 1, 9)]
theorem qBy : dtC (cX1_sits.data.toList.drop 0) 0 qaTu = true := by decide +kernel
def qaK1 : List dtR := [(0, .aload_n 0, 1, 0), (1, .getfield 13, 3, 1), (4, .bipush 10, 2, 11), (6, .iload_n 1, 1, 4), (7, .iadd, 1, 10), (8, .iaload, 1, 12), (9, .ireturn, 1, 9)]
theorem qxL : dtC (cX1_strong.data.toList.drop 0) 0 qaK1 = true := by decide +kernel
def qaRy : List dtR := [(0, .aload_n 0, 1, 0), (1, .getfield 13, 3, 1), (4, .bipush 16, 2, 11), (6, .iload_n 1, 1, 4), (7, .iadd, 1, 10), (8, .iaload, 1, 12), (9, .ireturn, 1, 9)]
theorem qzq : dtC (cX1_still.data.toList.drop 0) 0 qaRy = true := by decide +kernel
def qaNs : List dtR := [(0, .aload_n 0, 1, 0), (1, .getfield 13, 3, 1), (4, .bipush 22, 2, 11), (6, .iload_n 1, 1, 4), (7, .iadd, 1, 10), (8, .iaload, 1, 12), (9, .ireturn, 1, 9)]
theorem qzB : dtC (cX1_leaps.data.toList.drop 0) 0 qaNs = true := by decide +kernel
def qaJH : List dtR := [(0, .aload_n 0, 1, 0), (1, .getfield 13, 3, 1), (4, .bipush 28, 2, 11), (6, .iload_n 1, 1, 4), (7, .bipush 6, 2, 11), (9, .imul, 1, 34), (10, .iadd, 1, 10), (11, .iload_n 2, 1, 8), (12, .iadd, 1, 10), (13, .iaload, 1, 12), (14, .ireturn, 1, 9)]
theorem qqy : dtC (cX1_owesTo.data.toList.drop 0) 0 qaJH = true := by decide +kernel
def qaWo : List dtR := [(0, .iconst 0, 1, 3), (1, .istore_n 2, 1, 29), (2, .iconst 0, 1, 3), (3, .istore_n 3, 1, 26), (4, .iload_n 3, 1, 13), (5, .aload_n 0, 1, 0), (6, .getfield 24, 3, 1), (9, .getfield 32, 3, 1), (12, .if_icmp .ge 18, 3, 18), (15, .iload_n 2, 1, 8), (16, .aload_n 0, 1, 0), (17, .iload_n 1, 1, 4), (18, .iload_n 3, 1, 13), (19, .invokevirtual 51, 3, 2), (22, .iadd, 1, 10), (23, .istore_n 2, 1, 29)]
theorem qon : dtC (cX1_owes.data.toList.drop 0) 0 qaWo = true := by decide +kernel
def qaSC : List dtR := [(24, .iinc 3 1, 3, 20), (27, .goto (-23), 3, 7), (30, .iload_n 2, 1, 8), (31, .ireturn, 1, 9)]
theorem qN8 : dtC (cX1_owes.data.toList.drop 24) 24 qaSC = true := by decide +kernel
def qaT7 : List dtR := [(0, .iconst 0, 1, 3), (1, .istore_n 2, 1, 29), (2, .iconst 0, 1, 3), (3, .istore_n 3, 1, 26), (4, .iload_n 3, 1, 13), (5, .aload_n 0, 1, 0), (6, .getfield 24, 3, 1), (9, .getfield 32, 3, 1), (12, .if_icmp .ge 18, 3, 18), (15, .iload_n 2, 1, 8), (16, .aload_n 0, 1, 0), (17, .iload_n 3, 1, 13), (18, .iload_n 1, 1, 4), (19, .invokevirtual 51, 3, 2), (22, .iadd, 1, 10), (23, .istore_n 2, 1, 29)]
theorem qok : dtC (cX1_owed.data.toList.drop 0) 0 qaT7 = true := by decide +kernel
def qaQ9 : List dtR := [(24, .iinc 3 1, 3, 20), (27, .goto (-23), 3, 7), (30, .iload_n 2, 1, 8), (31, .ireturn, 1, 9)]
theorem qOd : dtC (cX1_owed.data.toList.drop 24) 24 qaQ9 = true := by decide +kernel
def qapc : List dtR := [(0, .iconst 0, 1, 3), (1, .istore_n 1, 1, 37), (2, .iconst 0, 1, 3), (3, .istore_n 2, 1, 29), (4, .iload_n 2, 1, 8), (5, .aload_n 0, 1, 0), (6, .getfield 24, 3, 1), (9, .getfield 32, 3, 1), (12, .if_icmp .ge 17, 3, 18), (15, .iload_n 1, 1, 4), (16, .aload_n 0, 1, 0), (17, .iload_n 2, 1, 8), (18, .invokevirtual 55, 3, 2), (21, .iadd, 1, 10), (22, .istore_n 1, 1, 37), (23, .iinc 2 1, 3, 20)]
theorem qfZ : dtC (cX1_allDebts.data.toList.drop 0) 0 qapc = true := by decide +kernel
def qanM : List dtR := [(26, .goto (-22), 3, 7), (29, .iload_n 1, 1, 4), (30, .ireturn, 1, 9)]
theorem qJU : dtC (cX1_allDebts.data.toList.drop 26) 26 qanM = true := by decide +kernel
def qarf : List dtR := [(0, .iconst 0, 1, 3), (1, .istore_n 2, 1, 29), (2, .iconst 0, 1, 3), (3, .istore_n 3, 1, 26), (4, .iload_n 3, 1, 13), (5, .aload_n 0, 1, 0), (6, .getfield 24, 3, 1), (9, .getfield 32, 3, 1), (12, .if_icmp .ge 32, 3, 18), (15, .aload_n 0, 1, 0), (16, .iload_n 3, 1, 13), (17, .invokevirtual 59, 3, 2), (20, .ifCond .ne 18, 3, 21), (23, .aload_n 0, 1, 0), (24, .iload_n 3, 1, 13), (25, .invokevirtual 63, 3, 2)]
theorem qga : dtC (cX1_seatedIn.data.toList.drop 0) 0 qarf = true := by decide +kernel
def qalX : List dtR := [(28, .iload_n 1, 1, 4), (29, .if_icmp .ne 9, 3, 23), (32, .iload_n 2, 1, 8), (33, .iconst 1, 1, 5), (34, .iload_n 3, 1, 13), (35, .ishl, 1, 32), (36, .ior, 1, 38), (37, .istore_n 2, 1, 29), (38, .iinc 3 1, 3, 20), (41, .goto (-37), 3, 7), (44, .iload_n 2, 1, 8), (45, .ireturn, 1, 9)]
theorem qkN : dtC (cX1_seatedIn.data.toList.drop 28) 28 qalX = true := by decide +kernel
def q0o : List dtR := [(0, .iconst 0, 1, 3), (1, .istore_n 1, 1, 37), (2, .iconst 0, 1, 3), (3, .istore_n 2, 1, 29), (4, .iload_n 2, 1, 8), (5, .aload_n 0, 1, 0), (6, .getfield 24, 3, 1), (9, .getfield 32, 3, 1), (12, .if_icmp .ge 29, 3, 18), (15, .iload_n 1, 1, 4), (16, .aload_n 0, 1, 0), (17, .iload_n 2, 1, 8), (18, .invokevirtual 59, 3, 2), (21, .ifCond .eq 7, 3, 19), (24, .iconst 0, 1, 3), (25, .goto 8, 3, 7)]
theorem qbY : dtC (cX1_strongTogether.data.toList.drop 0) 0 q0o = true := by decide +kernel
def qWl : List dtR := [(28, .aload_n 0, 1, 0), (29, .iload_n 2, 1, 8), (30, .invokevirtual 66, 3, 2), (33, .iadd, 1, 10), (34, .istore_n 1, 1, 37), (35, .iinc 2 1, 3, 20), (38, .goto (-34), 3, 7), (41, .iload_n 1, 1, 4), (42, .ireturn, 1, 9)]
theorem qh3 : dtC (cX1_strongTogether.data.toList.drop 28) 28 qWl = true := by decide +kernel
def qaOk : List dtR := [(0, .aload_n 0, 1, 0), (1, .aload_n 0, 1, 0), (2, .iload_n 1, 1, 4), (3, .invokevirtual 63, 3, 2), (6, .invokevirtual 69, 3, 2), (9, .iconst 1, 1, 5), (10, .iload_n 1, 1, 4), (11, .ishl, 1, 32), (12, .iconst (-1), 1, 28), (13, .ixor, 1, 59), (14, .iand, 1, 40), (15, .invokestatic 72, 3, 16), (18, .istore_n 2, 1, 29), (19, .aload_n 0, 1, 0), (20, .getfield 28, 3, 1), (23, .aload_n 0, 1, 0)]
theorem qlm : dtC (cX1_reach.data.toList.drop 0) 0 qaOk = true := by decide +kernel
def qaJP : List dtR := [(24, .iload_n 1, 1, 4), (25, .invokevirtual 66, 3, 2), (28, .aload_n 0, 1, 0), (29, .iload_n 1, 1, 4), (30, .invokevirtual 77, 3, 2), (33, .aload_n 0, 1, 0), (34, .iload_n 1, 1, 4), (35, .invokevirtual 55, 3, 2), (38, .aload_n 0, 1, 0), (39, .iload_n 1, 1, 4), (40, .invokevirtual 80, 3, 2), (43, .iload_n 2, 1, 8), (44, .invokevirtual 83, 3, 2), (47, .aload_n 0, 1, 0), (48, .getfield 28, 3, 1), (51, .aload_n 0, 1, 0)]
theorem qjU : dtC (cX1_reach.data.toList.drop 24) 24 qaJP = true := by decide +kernel
def qaFD : List dtR := [(52, .invokevirtual 89, 3, 2), (55, .iload_n 1, 1, 4), (56, .aload_n 0, 1, 0), (57, .iload_n 1, 1, 4), (58, .invokevirtual 93, 3, 2), (61, .invokevirtual 96, 3, 2), (64, .aload_n 0, 1, 0), (65, .getfield 28, 3, 1), (68, .invokevirtual 100, 3, 2), (71, .ireturn, 1, 9)]
theorem qrH : dtC (cX1_reach.data.toList.drop 52) 52 qaFD = true := by decide +kernel
def qajy : List dtR := [(0, .aload_n 0, 1, 0), (1, .iload_n 1, 1, 4), (2, .invokevirtual 59, 3, 2), (5, .ifCond .ne 37, 3, 21), (8, .aload_n 0, 1, 0), (9, .iload_n 1, 1, 4), (10, .invokevirtual 63, 3, 2), (13, .iload_n 2, 1, 8), (14, .if_icmp .eq 28, 3, 39), (17, .aload_n 0, 1, 0), (18, .getfield 24, 3, 1), (21, .aload_n 0, 1, 0), (22, .iload_n 1, 1, 4), (23, .invokevirtual 63, 3, 2), (26, .iload_n 2, 1, 8), (27, .invokevirtual 103, 3, 2)]
theorem qek : dtC (cX1_couldLeap.data.toList.drop 0) 0 qajy = true := by decide +kernel
def qafl : List dtR := [(30, .aload_n 0, 1, 0), (31, .iload_n 1, 1, 4), (32, .invokevirtual 106, 3, 2), (35, .if_icmp .gt 7, 3, 42), (38, .iconst 1, 1, 5), (39, .goto 4, 3, 7), (42, .iconst 0, 1, 3), (43, .ireturn, 1, 9)]
theorem qgl : dtC (cX1_couldLeap.data.toList.drop 30) 30 qafl = true := by decide +kernel
def qapq : List dtR := [(0, .aload_n 0, 1, 0), (1, .iload_n 1, 1, 4), (2, .invokevirtual 59, 3, 2), (5, .ifCond .eq 5, 3, 19), (8, .iconst 0, 1, 3), (9, .ireturn, 1, 9), (10, .aload_n 0, 1, 0), (11, .getfield 24, 3, 1), (14, .aload_n 0, 1, 0), (15, .iload_n 1, 1, 4), (16, .invokevirtual 63, 3, 2), (19, .aload_n 0, 1, 0), (20, .iload_n 1, 1, 4), (21, .invokevirtual 106, 3, 2), (24, .invokevirtual 108, 3, 2), (27, .iconst 1, 1, 5)]
theorem qfz : dtC (cX1_leapable.data.toList.drop 0) 0 qapq = true := by decide +kernel
def qajU : List dtR := [(28, .aload_n 0, 1, 0), (29, .iload_n 1, 1, 4), (30, .invokevirtual 63, 3, 2), (33, .ishl, 1, 32), (34, .iconst (-1), 1, 28), (35, .ixor, 1, 59), (36, .iand, 1, 40), (37, .ireturn, 1, 9)]
theorem qrm : dtC (cX1_leapable.data.toList.drop 28) 28 qajU = true := by decide +kernel
def qaIz : List dtR := [(0, .aload_n 0, 1, 0), (1, .getfield 13, 3, 1), (4, .iconst 4, 1, 43), (5, .iload_n 1, 1, 4), (6, .iadd, 1, 10), (7, .iload_n 2, 1, 8), (8, .iastore, 1, 22), (9, .aload_n 0, 1, 0), (10, .getfield 13, 3, 1), (13, .bipush 22, 2, 11), (15, .iload_n 1, 1, 4), (16, .iadd, 1, 10), (17, .dup2, 1, 55), (18, .iaload, 1, 12), (19, .iconst 1, 1, 5), (20, .iadd, 1, 10)]
theorem qjM : dtC (cX1_leapTo.data.toList.drop 0) 0 qaIz = true := by decide +kernel
def qav1 : List dtR := [(21, .iastore, 1, 22), (22, .aload_n 0, 1, 0), (23, .iload_n 1, 1, 4), (24, .invokevirtual 111, 3, 2), (27, .return_, 1, 24)]
theorem qCg : dtC (cX1_leapTo.data.toList.drop 21) 21 qav1 = true := by decide +kernel
def qaTJ : List dtR := [(0, .aload_n 0, 1, 0), (1, .getfield 13, 3, 1), (4, .bipush 16, 2, 11), (6, .iload_n 1, 1, 4), (7, .iadd, 1, 10), (8, .iconst 0, 1, 3), (9, .iastore, 1, 22), (10, .aload_n 0, 1, 0), (11, .getfield 13, 3, 1), (14, .iconst 3, 1, 36), (15, .dup2, 1, 55), (16, .iaload, 1, 12), (17, .iconst 1, 1, 5), (18, .iload_n 1, 1, 4), (19, .ishl, 1, 32), (20, .ior, 1, 38)]
theorem qoo : dtC (cX1_stir.data.toList.drop 0) 0 qaTJ = true := by decide +kernel
def qaR6 : List dtR := [(21, .iastore, 1, 22), (22, .return_, 1, 24)]
theorem qafX : dtC (cX1_stir.data.toList.drop 21) 21 qaR6 = true := by decide +kernel
def qagK : List dtR := [(0, .iload_n 1, 1, 4), (1, .iload_n 2, 1, 8), (2, .if_icmp .eq 36, 3, 39), (5, .aload_n 0, 1, 0), (6, .iload_n 1, 1, 4), (7, .invokevirtual 59, 3, 2), (10, .ifCond .ne 28, 3, 21), (13, .aload_n 0, 1, 0), (14, .iload_n 2, 1, 8), (15, .invokevirtual 59, 3, 2), (18, .ifCond .ne 20, 3, 21), (21, .aload_n 0, 1, 0), (22, .iload_n 1, 1, 4), (23, .invokevirtual 63, 3, 2), (26, .aload_n 0, 1, 0), (27, .iload_n 2, 1, 8)]
theorem qc6 : dtC (cX1_couldFight.data.toList.drop 0) 0 qagK = true := by decide +kernel
def q8t : List dtR := [(28, .invokevirtual 63, 3, 2), (31, .if_icmp .ne 7, 3, 23), (34, .iconst 1, 1, 5), (35, .goto 4, 3, 7), (38, .iconst 0, 1, 3), (39, .ireturn, 1, 9)]
theorem qe7 : dtC (cX1_couldFight.data.toList.drop 28) 28 q8t = true := by decide +kernel
def qaNV : List dtR := [(0, .aload_n 0, 1, 0), (1, .iload_n 1, 1, 4), (2, .invokevirtual 66, 3, 2), (5, .aload_n 0, 1, 0), (6, .iload_n 2, 1, 8), (7, .invokevirtual 66, 3, 2), (10, .if_icmp .lt 7, 3, 48), (13, .iload_n 2, 1, 8), (14, .goto 4, 3, 7), (17, .iload_n 1, 1, 4), (18, .istore_n 3, 1, 26), (19, .aload_n 0, 1, 0), (20, .getfield 13, 3, 1), (23, .bipush 10, 2, 11), (25, .iload_n 3, 1, 13), (26, .iadd, 1, 10)]
theorem qlP : dtC (cX1_fight.data.toList.drop 0) 0 qaNV = true := by decide +kernel
def qaIc : List dtR := [(27, .iconst 0, 1, 3), (28, .aload_n 0, 1, 0), (29, .iload_n 3, 1, 13), (30, .invokevirtual 66, 3, 2), (33, .iconst 1, 1, 5), (34, .isub, 1, 27), (35, .invokestatic 115, 3, 16), (38, .iastore, 1, 22), (39, .aload_n 0, 1, 0), (40, .iload_n 1, 1, 4), (41, .invokevirtual 111, 3, 2), (44, .aload_n 0, 1, 0), (45, .iload_n 2, 1, 8), (46, .invokevirtual 111, 3, 2), (49, .return_, 1, 24)]
theorem qla : dtC (cX1_fight.data.toList.drop 27) 27 qaIc = true := by decide +kernel
def qaqs : List dtR := [(0, .aload_n 0, 1, 0), (1, .iload_n 1, 1, 4), (2, .invokevirtual 59, 3, 2), (5, .ifCond .ne 25, 3, 21), (8, .aload_n 0, 1, 0), (9, .iload_n 2, 1, 8), (10, .invokevirtual 59, 3, 2), (13, .ifCond .ne 17, 3, 21), (16, .aload_n 0, 1, 0), (17, .iload_n 1, 1, 4), (18, .iload_n 2, 1, 8), (19, .invokevirtual 51, 3, 2), (22, .iload_n 3, 1, 13), (23, .if_icmp .lt 7, 3, 48), (26, .iconst 1, 1, 5), (27, .goto 4, 3, 7)]
theorem qfy : dtC (cX1_couldPay.data.toList.drop 0) 0 qaqs = true := by decide +kernel
def qanP : List dtR := [(30, .iconst 0, 1, 3), (31, .ireturn, 1, 9)]
theorem qsW : dtC (cX1_couldPay.data.toList.drop 30) 30 qanP = true := by decide +kernel
def qayY : List dtR := [(0, .aload_n 0, 1, 0), (1, .getfield 13, 3, 1), (4, .bipush 28, 2, 11), (6, .iload_n 1, 1, 4), (7, .bipush 6, 2, 11), (9, .imul, 1, 34), (10, .iadd, 1, 10), (11, .iload_n 2, 1, 8), (12, .iadd, 1, 10), (13, .dup2, 1, 55), (14, .iaload, 1, 12), (15, .iload_n 3, 1, 13), (16, .isub, 1, 27), (17, .iastore, 1, 22), (18, .return_, 1, 24)]
theorem qik : dtC (cX1_payBack.data.toList.drop 0) 0 qayY = true := by decide +kernel
def qayC : List dtR := [(0, .iconst 0, 1, 3), (1, .istore_n 1, 1, 37), (2, .iload_n 1, 1, 4), (3, .aload_n 0, 1, 0), (4, .getfield 24, 3, 1), (7, .getfield 32, 3, 1), (10, .if_icmp .ge 42, 3, 18), (13, .aload_n 0, 1, 0), (14, .getfield 13, 3, 1), (17, .iconst 2, 1, 25), (18, .iaload, 1, 12), (19, .aload_n 0, 1, 0), (20, .getfield 13, 3, 1), (23, .iconst 3, 1, 36), (24, .iaload, 1, 12), (25, .ior, 1, 38)]
theorem qg0 : dtC (cX1_passDay.data.toList.drop 0) 0 qayC = true := by decide +kernel
def qaoX : List dtR := [(26, .iload_n 1, 1, 4), (27, .invokestatic 120, 3, 16), (30, .ifCond .ne 16, 3, 21), (33, .aload_n 0, 1, 0), (34, .getfield 13, 3, 1), (37, .bipush 16, 2, 11), (39, .iload_n 1, 1, 4), (40, .iadd, 1, 10), (41, .dup2, 1, 55), (42, .iaload, 1, 12), (43, .iconst 1, 1, 5), (44, .iadd, 1, 10), (45, .iastore, 1, 22), (46, .iinc 1 1, 3, 20), (49, .goto (-47), 3, 7), (52, .aload_n 0, 1, 0)]
theorem qfH : dtC (cX1_passDay.data.toList.drop 26) 26 qaoX = true := by decide +kernel
def qaoI : List dtR := [(53, .getfield 13, 3, 1), (56, .iconst 3, 1, 36), (57, .iconst 0, 1, 3), (58, .iastore, 1, 22), (59, .aload_n 0, 1, 0), (60, .getfield 13, 3, 1), (63, .iconst 0, 1, 3), (64, .dup2, 1, 55), (65, .iaload, 1, 12), (66, .iconst 1, 1, 5), (67, .iadd, 1, 10), (68, .iastore, 1, 22), (69, .aload_n 0, 1, 0), (70, .getfield 13, 3, 1), (73, .iconst 0, 1, 3), (74, .iaload, 1, 12)]
theorem qf8 : dtC (cX1_passDay.data.toList.drop 53) 53 qaoI = true := by decide +kernel
def qauT : List dtR := [(75, .bipush 31, 2, 11), (77, .if_icmp .le 24, 3, 56), (80, .aload_n 0, 1, 0), (81, .invokevirtual 124, 3, 2), (84, .aload_n 0, 1, 0), (85, .getfield 13, 3, 1), (88, .iconst 0, 1, 3), (89, .iconst 1, 1, 5), (90, .iastore, 1, 22), (91, .aload_n 0, 1, 0), (92, .getfield 13, 3, 1), (95, .iconst 1, 1, 5), (96, .dup2, 1, 55), (97, .iaload, 1, 12), (98, .iconst 1, 1, 5), (99, .iadd, 1, 10)]
theorem qfg : dtC (cX1_passDay.data.toList.drop 75) 75 qauT = true := by decide +kernel
def qalo : List dtR := [(100, .iastore, 1, 22), (101, .return_, 1, 24)]
theorem qJv : dtC (cX1_passDay.data.toList.drop 100) 100 qalo = true := by decide +kernel
def qaE7 : List dtR := [(0, .aload_n 0, 1, 0), (1, .invokevirtual 127, 3, 2), (4, .istore_n 1, 1, 37), (5, .iconst 0, 1, 3), (6, .istore_n 2, 1, 29), (7, .iload_n 2, 1, 8), (8, .aload_n 0, 1, 0), (9, .getfield 24, 3, 1), (12, .getfield 32, 3, 1), (15, .if_icmp .ge 65, 3, 18), (18, .iload_n 1, 1, 4), (19, .iload_n 2, 1, 8), (20, .invokestatic 120, 3, 16), (23, .ifCond .eq 23, 3, 19), (26, .aload_n 0, 1, 0), (27, .getfield 13, 3, 1)]
theorem qiB : dtC (cX1_strike.data.toList.drop 0) 0 qaE7 = true := by decide +kernel
def qaCM : List dtR := [(30, .iconst 2, 1, 25), (31, .dup2, 1, 55), (32, .iaload, 1, 12), (33, .iconst 1, 1, 5), (34, .iload_n 2, 1, 8), (35, .ishl, 1, 32), (36, .ior, 1, 38), (37, .iastore, 1, 22), (38, .aload_n 0, 1, 0), (39, .iload_n 2, 1, 8), (40, .invokevirtual 130, 3, 2), (43, .goto 31, 3, 7), (46, .aload_n 0, 1, 0), (47, .getfield 13, 3, 1), (50, .bipush 10, 2, 11), (52, .iload_n 2, 1, 8)]
theorem qhD : dtC (cX1_strike.data.toList.drop 30) 30 qaCM = true := by decide +kernel
def qayP : List dtR := [(53, .iadd, 1, 10), (54, .aload_n 0, 1, 0), (55, .getfield 24, 3, 1), (58, .getfield 39, 3, 1), (61, .iload_n 2, 1, 8), (62, .iaload, 1, 12), (63, .iastore, 1, 22), (64, .aload_n 0, 1, 0), (65, .getfield 13, 3, 1), (68, .bipush 16, 2, 11), (70, .iload_n 2, 1, 8), (71, .iadd, 1, 10), (72, .iconst 0, 1, 3), (73, .iastore, 1, 22), (74, .iinc 2 1, 3, 20), (77, .goto (-70), 3, 7)]
theorem qhq : dtC (cX1_strike.data.toList.drop 53) 53 qayP = true := by decide +kernel
def qaEb : List dtR := [(80, .return_, 1, 24)]
theorem qaA5 : dtC (cX1_strike.data.toList.drop 80) 80 qaEb = true := by decide +kernel
def qaf3 : List dtR := [(0, .iconst 0, 1, 3), (1, .istore_n 1, 1, 37), (2, .iconst 0, 1, 3), (3, .istore_n 2, 1, 29), (4, .iload_n 2, 1, 8), (5, .aload_n 0, 1, 0), (6, .getfield 24, 3, 1), (9, .getfield 32, 3, 1), (12, .if_icmp .ge 47, 3, 18), (15, .aload_n 0, 1, 0), (16, .iload_n 2, 1, 8), (17, .invokevirtual 59, 3, 2), (20, .ifCond .ne 33, 3, 21), (23, .aload_n 0, 1, 0), (24, .getfield 24, 3, 1), (27, .aload_n 0, 1, 0)]
theorem qdt : dtC (cX1_endangered.data.toList.drop 0) 0 qaf3 = true := by decide +kernel
def q8C : List dtR := [(28, .iload_n 2, 1, 8), (29, .invokevirtual 63, 3, 2), (32, .invokevirtual 133, 3, 2), (35, .ifCond .ne 18, 3, 21), (38, .aload_n 0, 1, 0), (39, .iload_n 2, 1, 8), (40, .invokevirtual 77, 3, 2), (43, .iconst 3, 1, 36), (44, .if_icmp .ge 9, 3, 18), (47, .iload_n 1, 1, 4), (48, .iconst 1, 1, 5), (49, .iload_n 2, 1, 8), (50, .ishl, 1, 32), (51, .ior, 1, 38), (52, .istore_n 1, 1, 37), (53, .iinc 2 1, 3, 20)]
theorem qcH : dtC (cX1_endangered.data.toList.drop 28) 28 q8C = true := by decide +kernel
def q8B : List dtR := [(56, .goto (-52), 3, 7), (59, .iload_n 1, 1, 4), (60, .ireturn, 1, 9)]
theorem qFt : dtC (cX1_endangered.data.toList.drop 56) 56 q8B = true := by decide +kernel
def qamY : List dtR := [(0, .iconst 0, 1, 3), (1, .istore_n 2, 1, 29), (2, .iload_n 2, 1, 8), (3, .aload_n 0, 1, 0), (4, .getfield 24, 3, 1), (7, .getfield 32, 3, 1), (10, .if_icmp .ge 39, 3, 18), (13, .aload_n 0, 1, 0), (14, .getfield 13, 3, 1), (17, .bipush 28, 2, 11), (19, .iload_n 1, 1, 4), (20, .bipush 6, 2, 11), (22, .imul, 1, 34), (23, .iadd, 1, 10), (24, .iload_n 2, 1, 8), (25, .iadd, 1, 10)]
theorem qez : dtC (cX1_dropDebts.data.toList.drop 0) 0 qamY = true := by decide +kernel
def qad8 : List dtR := [(26, .iconst 0, 1, 3), (27, .iastore, 1, 22), (28, .aload_n 0, 1, 0), (29, .getfield 13, 3, 1), (32, .bipush 28, 2, 11), (34, .iload_n 2, 1, 8), (35, .bipush 6, 2, 11), (37, .imul, 1, 34), (38, .iadd, 1, 10), (39, .iload_n 1, 1, 4), (40, .iadd, 1, 10), (41, .iconst 0, 1, 3), (42, .iastore, 1, 22), (43, .iinc 2 1, 3, 20), (46, .goto (-44), 3, 7), (49, .return_, 1, 24)]
theorem qdb : dtC (cX1_dropDebts.data.toList.drop 26) 26 qad8 = true := by decide +kernel
def qar3 : List dtR := [(0, .iload_n 1, 1, 4), (1, .istore_n 3, 1, 26), (2, .iconst 0, 1, 3), (3, .istore 4, 2, 15), (5, .iconst 0, 1, 3), (6, .istore 5, 2, 15), (8, .iload 5, 2, 6), (10, .iload_n 2, 1, 8), (11, .if_icmp .ge 103, 3, 18), (14, .aload_n 0, 1, 0), (15, .getfield 24, 3, 1), (18, .getfield 32, 3, 1), (21, .ifCond .le 83, 3, 62), (24, .aload_n 0, 1, 0), (25, .getfield 24, 3, 1), (28, .getfield 136, 3, 1)]
theorem qfj : dtC (cX1_drawDays.data.toList.drop 0) 0 qar3 = true := by decide +kernel
def qakN : List dtR := [(31, .ifCond .le 73, 3, 62), (34, .iload_n 3, 1, 13), (35, .invokestatic 139, 3, 16), (38, .istore_n 3, 1, 26), (39, .iload_n 3, 1, 13), (40, .invokestatic 142, 3, 16), (43, .aload_n 0, 1, 0), (44, .getfield 24, 3, 1), (47, .getfield 32, 3, 1), (50, .irem, 1, 63), (51, .istore 6, 2, 15), (53, .iload_n 3, 1, 13), (54, .invokestatic 139, 3, 16), (57, .istore_n 3, 1, 26), (58, .iload 4, 2, 6), (60, .aload_n 0, 1, 0)]
theorem qdR : dtC (cX1_drawDays.data.toList.drop 31) 31 qakN = true := by decide +kernel
def qald : List dtR := [(61, .iload 6, 2, 6), (63, .iload_n 3, 1, 13), (64, .invokestatic 142, 3, 16), (67, .aload_n 0, 1, 0), (68, .getfield 24, 3, 1), (71, .getfield 136, 3, 1), (74, .irem, 1, 63), (75, .invokevirtual 145, 3, 2), (78, .iadd, 1, 10), (79, .istore 4, 2, 15), (81, .iload_n 3, 1, 13), (82, .invokestatic 139, 3, 16), (85, .istore_n 3, 1, 26), (86, .aload_n 0, 1, 0), (87, .iload 6, 2, 6), (89, .iload_n 3, 1, 13)]
theorem qeK : dtC (cX1_drawDays.data.toList.drop 61) 61 qald = true := by decide +kernel
def qaiT : List dtR := [(90, .invokestatic 142, 3, 16), (93, .aload_n 0, 1, 0), (94, .getfield 24, 3, 1), (97, .getfield 32, 3, 1), (100, .irem, 1, 63), (101, .invokevirtual 148, 3, 2), (104, .aload_n 0, 1, 0), (105, .invokevirtual 152, 3, 2), (108, .iinc 5 1, 3, 20), (111, .goto (-103), 3, 7), (114, .iload 4, 2, 6), (116, .ireturn, 1, 9)]
theorem qkM : dtC (cX1_drawDays.data.toList.drop 90) 90 qaiT = true := by decide +kernel
def q05 : List dtR := [(0, .aload_n 0, 1, 0), (1, .iload_n 1, 1, 4), (2, .iload_n 2, 1, 8), (3, .invokevirtual 155, 3, 2), (6, .ifCond .ne 5, 3, 21), (9, .iconst 0, 1, 3), (10, .ireturn, 1, 9), (11, .aload_n 0, 1, 0), (12, .iload_n 1, 1, 4), (13, .iload_n 2, 1, 8), (14, .invokevirtual 158, 3, 2), (17, .iconst 1, 1, 5), (18, .ireturn, 1, 9)]
theorem qdC : dtC (cX1_leapIfAllowed.data.toList.drop 0) 0 q05 = true := by decide +kernel
def q0j : List dtR := [(0, .aload_n 0, 1, 0), (1, .iload_n 1, 1, 4), (2, .iload_n 2, 1, 8), (3, .invokevirtual 161, 3, 2), (6, .ifCond .eq 9, 3, 19), (9, .aload_n 0, 1, 0), (10, .iload_n 1, 1, 4), (11, .iload_n 2, 1, 8), (12, .invokevirtual 164, 3, 2), (15, .return_, 1, 24)]
theorem qeZ : dtC (cX1_fightIfAllowed.data.toList.drop 0) 0 q0j = true := by decide +kernel
def qaqm : List dtR := [(0, .iload_n 0, 1, 35), (1, .ldc 167, 2, 45), (3, .imul, 1, 34), (4, .sipush 12345, 3, 33), (7, .iadd, 1, 10), (8, .ireturn, 1, 9)]
theorem qwB : dtC (cX1_nextSeed.data.toList.drop 0) 0 qaqm = true := by decide +kernel
def qanT : List dtR := [(0, .iload_n 0, 1, 35), (1, .bipush 16, 2, 11), (3, .iushr, 1, 68), (4, .sipush 32767, 3, 33), (7, .iand, 1, 40), (8, .ireturn, 1, 9)]
theorem qvv : dtC (cX1_drawnBits.data.toList.drop 0) 0 qanT = true := by decide +kernel
def qak4 : List dtR := [(0, .iconst 0, 1, 3), (1, .istore 4, 2, 15), (3, .iload 4, 2, 6), (5, .aload_n 0, 1, 0), (6, .getfield 24, 3, 1), (9, .getfield 32, 3, 1), (12, .if_icmp .ge 35, 3, 18), (15, .aload_n 0, 1, 0), (16, .getfield 17, 3, 1), (19, .iload 4, 2, 6), (21, .iload_n 2, 1, 8), (22, .iload 4, 2, 6), (24, .invokestatic 120, 3, 16), (27, .ifCond .eq 12, 3, 19), (30, .aload_n 0, 1, 0), (31, .iload 4, 2, 6)]
theorem qeI : dtC (cX1_cloverFor.data.toList.drop 0) 0 qak4 = true := by decide +kernel
def qaft : List dtR := [(33, .invokevirtual 80, 3, 2), (36, .goto 4, 3, 7), (39, .iconst 0, 1, 3), (40, .iastore, 1, 22), (41, .iinc 4 1, 3, 20), (44, .goto (-41), 3, 7), (47, .iconst 0, 1, 3), (48, .istore 4, 2, 15), (50, .iload 4, 2, 6), (52, .sipush 495, 3, 33), (55, .if_icmp .ge 21, 3, 18), (58, .aload_n 0, 1, 0), (59, .iload 4, 2, 6), (61, .iconst 1, 1, 5), (62, .iadd, 1, 10), (63, .invokevirtual 168, 3, 2)]
theorem qdu : dtC (cX1_cloverFor.data.toList.drop 33) 33 qaft = true := by decide +kernel
def qafB : List dtR := [(66, .iload_n 3, 1, 13), (67, .if_icmp .gt 9, 3, 42), (70, .iinc 4 1, 3, 20), (73, .goto (-23), 3, 7), (76, .iload 4, 2, 6), (78, .aload_n 0, 1, 0), (79, .getfield 17, 3, 1), (82, .iload_n 1, 1, 4), (83, .iaload, 1, 12), (84, .invokestatic 171, 3, 16), (87, .ireturn, 1, 9)]
theorem qk4 : dtC (cX1_cloverFor.data.toList.drop 66) 66 qafB = true := by decide +kernel
def qaDS : List dtR := [(0, .iconst 0, 1, 3), (1, .istore_n 2, 1, 29), (2, .iconst 0, 1, 3), (3, .istore_n 3, 1, 26), (4, .iload_n 3, 1, 13), (5, .aload_n 0, 1, 0), (6, .getfield 24, 3, 1), (9, .getfield 32, 3, 1), (12, .if_icmp .ge 22, 3, 18), (15, .iload_n 2, 1, 8), (16, .iload_n 1, 1, 4), (17, .aload_n 0, 1, 0), (18, .getfield 17, 3, 1), (21, .iload_n 3, 1, 13), (22, .iaload, 1, 12), (23, .invokestatic 171, 3, 16)]
theorem qhC : dtC (cX1_givenBy.data.toList.drop 0) 0 qaDS = true := by decide +kernel
def qarc : List dtR := [(26, .iadd, 1, 10), (27, .istore_n 2, 1, 29), (28, .iinc 3 1, 3, 20), (31, .goto (-27), 3, 7), (34, .iload_n 2, 1, 8), (35, .ireturn, 1, 9)]
theorem qwA : dtC (cX1_givenBy.data.toList.drop 26) 26 qarc = true := by decide +kernel
def qaVq : List dtR := [(0, .aload_n 0, 1, 0), (1, .invokespecial 3, 3, 44), (4, .aload_n 0, 1, 0), (5, .bipush 8, 2, 11)]
theorem qSE : dtC (cX2_init.data.toList.drop 0) 0 qaVq = true := by decide +kernel
theorem dX2_init_7 : decode cX2_init 7 = .ok (.newarray .int, 2) := by decide +kernel
def qaUN : List dtR := [(9, .putfield 9, 3, 14), (12, .aload_n 0, 1, 0), (13, .bipush 8, 2, 11)]
theorem q4p : dtC (cX2_init.data.toList.drop 9) 9 qaUN = true := by decide +kernel
theorem dX2_init_15 : decode cX2_init 15 = .ok (.newarray .int, 2) := by decide +kernel
def qaMO : List dtR := [(17, .putfield 15, 3, 14), (20, .aload_n 0, 1, 0), (21, .iconst 4, 1, 43)]
theorem qWW : dtC (cX2_init.data.toList.drop 17) 17 qaMO = true := by decide +kernel
theorem dX2_init_22 : decode cX2_init 22 = .ok (.newarray .int, 2) := by decide +kernel
def qaPt : List dtR := [(24, .putfield 18, 3, 14), (27, .aload_n 0, 1, 0), (28, .iconst 4, 1, 43)]
theorem qW3 : dtC (cX2_init.data.toList.drop 24) 24 qaPt = true := by decide +kernel
theorem dX2_init_29 : decode cX2_init 29 = .ok (.newarray .int, 2) := by decide +kernel
def qaMG : List dtR := [(31, .putfield 21, 3, 14), (34, .aload_n 0, 1, 0), (35, .bipush 6, 2, 11)]
theorem qXd : dtC (cX2_init.data.toList.drop 31) 31 qaMG = true := by decide +kernel
theorem dX2_init_37 : decode cX2_init 37 = .ok (.newarray .int, 2) := by decide +kernel
def qaQa : List dtR := [(39, .putfield 24, 3, 14), (42, .aload_n 0, 1, 0), (43, .bipush 6, 2, 11)]
theorem qWJ : dtC (cX2_init.data.toList.drop 39) 39 qaQa = true := by decide +kernel
theorem dX2_init_45 : decode cX2_init 45 = .ok (.newarray .int, 2) := by decide +kernel
def qaMX : List dtR := [(47, .putfield 27, 3, 14), (50, .aload_n 0, 1, 0), (51, .bipush 36, 2, 11)]
theorem qYD : dtC (cX2_init.data.toList.drop 47) 47 qaMX = true := by decide +kernel
theorem dX2_init_53 : decode cX2_init 53 = .ok (.newarray .int, 2) := by decide +kernel
def qaSR : List dtR := [(55, .putfield 30, 3, 14), (58, .aload_n 0, 1, 0), (59, .bipush 8, 2, 11)]
theorem qWn : dtC (cX2_init.data.toList.drop 55) 55 qaSR = true := by decide +kernel
theorem dX2_init_61 : decode cX2_init 61 = .ok (.newarray .int, 2) := by decide +kernel
def qaQQ : List dtR := [(63, .putfield 33, 3, 14), (66, .return_, 1, 24)]
theorem qahr : dtC (cX2_init.data.toList.drop 63) 63 qaQQ = true := by decide +kernel
def qaqS : List dtR := [(0, .aload_n 0, 1, 0), (1, .iconst 0, 1, 3), (2, .putfield 36, 3, 14), (5, .aload_n 0, 1, 0), (6, .iconst 0, 1, 3), (7, .putfield 40, 3, 14), (10, .aload_n 0, 1, 0), (11, .iconst 0, 1, 3), (12, .putfield 43, 3, 14), (15, .iconst 0, 1, 3), (16, .istore_n 2, 1, 29), (17, .iload_n 2, 1, 8), (18, .aload_n 0, 1, 0), (19, .getfield 30, 3, 1), (22, .arraylength, 1, 75), (23, .if_icmp .ge 16, 3, 18)]
theorem qfn : dtC (cX2_readFrom.data.toList.drop 0) 0 qaqS = true := by decide +kernel
def qamD : List dtR := [(26, .aload_n 0, 1, 0), (27, .getfield 30, 3, 1), (30, .iload_n 2, 1, 8), (31, .iconst 0, 1, 3), (32, .iastore, 1, 22), (33, .iinc 2 1, 3, 20), (36, .goto (-19), 3, 7), (39, .iconst 0, 1, 3), (40, .istore_n 2, 1, 29), (41, .iload_n 2, 1, 8), (42, .bipush 60, 2, 11), (44, .if_icmp .gt 39, 3, 42), (47, .aload_n 1, 1, 17), (48, .invokevirtual 46, 3, 2), (51, .ifCond .ne 32, 3, 21), (54, .aload_n 1, 1, 17)]
theorem qd0 : dtC (cX2_readFrom.data.toList.drop 26) 26 qamD = true := by decide +kernel
def qaiz : List dtR := [(55, .invokevirtual 52, 3, 2), (58, .ifCond .ne 25, 3, 21), (61, .aload_n 0, 1, 0), (62, .aload_n 1, 1, 17), (63, .iload_n 2, 1, 8), (64, .bipush 60, 2, 11), (66, .if_icmp .ne 7, 3, 23), (69, .iconst 1, 1, 5), (70, .goto 4, 3, 7), (73, .iconst 0, 1, 3), (74, .invokevirtual 55, 3, 2), (77, .iinc 2 1, 3, 20), (80, .goto (-39), 3, 7), (83, .aload_n 0, 1, 0), (84, .invokevirtual 59, 3, 2), (87, .return_, 1, 24)]
theorem qd3 : dtC (cX2_readFrom.data.toList.drop 55) 55 qaiz = true := by decide +kernel
def qadp : List dtR := [(0, .aload_n 1, 1, 17), (1, .ldc 62, 2, 45), (3, .invokevirtual 64, 3, 2), (6, .ifCond .eq 12, 3, 19), (9, .aload_n 0, 1, 0), (10, .aload_n 1, 1, 17), (11, .iload_n 2, 1, 8), (12, .invokevirtual 68, 3, 2), (15, .goto 61, 3, 7), (18, .aload_n 1, 1, 17), (19, .ldc 71, 2, 45), (21, .invokevirtual 64, 3, 2), (24, .ifCond .eq 12, 3, 19), (27, .aload_n 0, 1, 0), (28, .aload_n 1, 1, 17), (29, .iload_n 2, 1, 8)]
theorem qdv : dtC (cX2_readClause.data.toList.drop 0) 0 qadp = true := by decide +kernel
def qacf : List dtR := [(30, .invokevirtual 73, 3, 2), (33, .goto 43, 3, 7), (36, .aload_n 1, 1, 17), (37, .ldc 76, 2, 45), (39, .invokevirtual 64, 3, 2), (42, .ifCond .eq 12, 3, 19), (45, .aload_n 0, 1, 0), (46, .aload_n 1, 1, 17), (47, .iload_n 2, 1, 8), (48, .invokevirtual 78, 3, 2), (51, .goto 25, 3, 7), (54, .aload_n 1, 1, 17), (55, .ldc 81, 2, 45), (57, .invokevirtual 64, 3, 2), (60, .ifCond .eq 12, 3, 19), (63, .aload_n 0, 1, 0)]
theorem qcX : dtC (cX2_readClause.data.toList.drop 30) 30 qacf = true := by decide +kernel
def q8V : List dtR := [(64, .aload_n 1, 1, 17), (65, .iload_n 2, 1, 8), (66, .invokevirtual 83, 3, 2), (69, .goto 7, 3, 7), (72, .aload_n 1, 1, 17), (73, .invokevirtual 86, 3, 2), (76, .return_, 1, 24)]
theorem qit : dtC (cX2_readClause.data.toList.drop 64) 64 q8V = true := by decide +kernel
def qaqp : List dtR := [(0, .iload_n 2, 1, 8), (1, .ifCond .ne 12, 3, 21), (4, .aload_n 0, 1, 0), (5, .getfield 36, 3, 1), (8, .bipush 8, 2, 11), (10, .if_icmp .lt 9, 3, 48), (13, .aload_n 1, 1, 17), (14, .iconst 3, 1, 36), (15, .invokevirtual 89, 3, 2), (18, .return_, 1, 24), (19, .aload_n 0, 1, 0), (20, .getfield 9, 3, 1), (23, .aload_n 0, 1, 0), (24, .getfield 36, 3, 1), (27, .aload_n 1, 1, 17), (28, .iconst 0, 1, 3)]
theorem qfL : dtC (cX2_readForm.data.toList.drop 0) 0 qaqp = true := by decide +kernel
def qajg : List dtR := [(29, .bipush 30, 2, 11), (31, .invokevirtual 93, 3, 2), (34, .iastore, 1, 22), (35, .aload_n 0, 1, 0), (36, .getfield 15, 3, 1), (39, .aload_n 0, 1, 0), (40, .getfield 36, 3, 1), (43, .aload_n 1, 1, 17), (44, .iconst 0, 1, 3), (45, .bipush 30, 2, 11), (47, .invokevirtual 93, 3, 2), (50, .iastore, 1, 22), (51, .aload_n 1, 1, 17), (52, .bipush 59, 2, 11), (54, .invokevirtual 97, 3, 2), (57, .aload_n 0, 1, 0)]
theorem qeo : dtC (cX2_readForm.data.toList.drop 29) 29 qajg = true := by decide +kernel
def qakc : List dtR := [(58, .dup, 1, 30), (59, .getfield 36, 3, 1), (62, .iconst 1, 1, 5), (63, .iadd, 1, 10), (64, .putfield 36, 3, 14), (67, .return_, 1, 24)]
theorem qvG : dtC (cX2_readForm.data.toList.drop 58) 58 qakc = true := by decide +kernel
def qatD : List dtR := [(0, .iload_n 2, 1, 8), (1, .ifCond .ne 12, 3, 21), (4, .aload_n 0, 1, 0), (5, .getfield 40, 3, 1), (8, .bipush 6, 2, 11), (10, .if_icmp .lt 9, 3, 48), (13, .aload_n 1, 1, 17), (14, .iconst 3, 1, 36), (15, .invokevirtual 89, 3, 2), (18, .return_, 1, 24), (19, .aload_n 0, 1, 0), (20, .getfield 24, 3, 1), (23, .aload_n 0, 1, 0), (24, .getfield 40, 3, 1), (27, .aload_n 1, 1, 17), (28, .iconst 0, 1, 3)]
theorem qf7 : dtC (cX2_readHare.data.toList.drop 0) 0 qatD = true := by decide +kernel
def qakB : List dtR := [(29, .aload_n 0, 1, 0), (30, .getfield 36, 3, 1), (33, .iconst 1, 1, 5), (34, .isub, 1, 27), (35, .invokevirtual 93, 3, 2), (38, .iastore, 1, 22), (39, .aload_n 0, 1, 0), (40, .getfield 27, 3, 1), (43, .aload_n 0, 1, 0), (44, .getfield 40, 3, 1), (47, .aload_n 1, 1, 17), (48, .iconst 1, 1, 5), (49, .bipush 9, 2, 11), (51, .invokevirtual 93, 3, 2), (54, .iastore, 1, 22), (55, .aload_n 1, 1, 17)]
theorem qey : dtC (cX2_readHare.data.toList.drop 29) 29 qakB = true := by decide +kernel
def qamJ : List dtR := [(56, .bipush 59, 2, 11), (58, .invokevirtual 97, 3, 2), (61, .aload_n 0, 1, 0), (62, .dup, 1, 30), (63, .getfield 40, 3, 1), (66, .iconst 1, 1, 5), (67, .iadd, 1, 10), (68, .putfield 40, 3, 14), (71, .return_, 1, 24)]
theorem qpK : dtC (cX2_readHare.data.toList.drop 56) 56 qamJ = true := by decide +kernel
def qax9 : List dtR := [(0, .iload_n 2, 1, 8), (1, .ifCond .ne 11, 3, 21), (4, .aload_n 0, 1, 0), (5, .getfield 43, 3, 1), (8, .iconst 4, 1, 43), (9, .if_icmp .lt 9, 3, 48), (12, .aload_n 1, 1, 17), (13, .iconst 3, 1, 36), (14, .invokevirtual 89, 3, 2), (17, .return_, 1, 24), (18, .aload_n 0, 1, 0), (19, .getfield 18, 3, 1), (22, .aload_n 0, 1, 0), (23, .getfield 43, 3, 1), (26, .aload_n 1, 1, 17), (27, .iconst 0, 1, 3)]
theorem qho : dtC (cX2_readFox.data.toList.drop 0) 0 qax9 = true := by decide +kernel
def qatH : List dtR := [(28, .bipush 30, 2, 11), (30, .invokevirtual 93, 3, 2), (33, .iastore, 1, 22), (34, .aload_n 0, 1, 0), (35, .getfield 21, 3, 1), (38, .aload_n 0, 1, 0), (39, .getfield 43, 3, 1), (42, .aload_n 1, 1, 17), (43, .iconst 0, 1, 3), (44, .bipush 30, 2, 11), (46, .invokevirtual 93, 3, 2), (49, .iastore, 1, 22), (50, .aload_n 1, 1, 17), (51, .bipush 59, 2, 11), (53, .invokevirtual 97, 3, 2), (56, .aload_n 0, 1, 0)]
theorem qf4 : dtC (cX2_readFox.data.toList.drop 28) 28 qatH = true := by decide +kernel
def qasg : List dtR := [(57, .dup, 1, 30), (58, .getfield 43, 3, 1), (61, .iconst 1, 1, 5), (62, .iadd, 1, 10), (63, .putfield 43, 3, 14), (66, .return_, 1, 24)]
theorem qwu : dtC (cX2_readFox.data.toList.drop 57) 57 qasg = true := by decide +kernel
def qato : List dtR := [(0, .iload_n 2, 1, 8), (1, .ifCond .eq 9, 3, 19), (4, .aload_n 1, 1, 17), (5, .iconst 3, 1, 36), (6, .invokevirtual 89, 3, 2), (9, .return_, 1, 24), (10, .aload_n 1, 1, 17), (11, .iconst 0, 1, 3), (12, .aload_n 0, 1, 0), (13, .getfield 40, 3, 1), (16, .iconst 1, 1, 5), (17, .isub, 1, 27), (18, .invokevirtual 93, 3, 2), (21, .istore_n 3, 1, 26), (22, .aload_n 1, 1, 17), (23, .iconst 0, 1, 3)]
theorem qf3 : dtC (cX2_readDebt.data.toList.drop 0) 0 qato = true := by decide +kernel
def qamu : List dtR := [(24, .aload_n 0, 1, 0), (25, .getfield 40, 3, 1), (28, .iconst 1, 1, 5), (29, .isub, 1, 27), (30, .invokevirtual 93, 3, 2), (33, .istore 4, 2, 15), (35, .iload_n 3, 1, 13), (36, .iload 4, 2, 6), (38, .if_icmp .ne 8, 3, 23), (41, .aload_n 1, 1, 17), (42, .iconst 2, 1, 25), (43, .invokevirtual 89, 3, 2), (46, .aload_n 1, 1, 17), (47, .iconst 0, 1, 3), (48, .bipush 99, 2, 11), (50, .invokevirtual 93, 3, 2)]
theorem qdZ : dtC (cX2_readDebt.data.toList.drop 24) 24 qamu = true := by decide +kernel
def qanL : List dtR := [(53, .istore 5, 2, 15), (55, .aload_n 1, 1, 17), (56, .bipush 59, 2, 11), (58, .invokevirtual 97, 3, 2), (61, .aload_n 1, 1, 17), (62, .invokevirtual 46, 3, 2), (65, .ifCond .ne 17, 3, 21), (68, .aload_n 0, 1, 0), (69, .getfield 30, 3, 1), (72, .iload_n 3, 1, 13), (73, .bipush 6, 2, 11), (75, .imul, 1, 34), (76, .iload 4, 2, 6), (78, .iadd, 1, 10), (79, .iload 5, 2, 6), (81, .iastore, 1, 22)]
theorem qeE : dtC (cX2_readDebt.data.toList.drop 53) 53 qanL = true := by decide +kernel
def qajs : List dtR := [(82, .return_, 1, 24)]
theorem qV6 : dtC (cX2_readDebt.data.toList.drop 82) 82 qajs = true := by decide +kernel
def qarJ : List dtR := [(0, .aload_n 0, 1, 0), (1, .iconst 0, 1, 3), (2, .putfield 101, 3, 14), (5, .iconst 0, 1, 3), (6, .istore_n 1, 1, 37), (7, .iload_n 1, 1, 4), (8, .aload_n 0, 1, 0), (9, .getfield 36, 3, 1), (12, .if_icmp .ge 29, 3, 18), (15, .aload_n 0, 1, 0), (16, .iload_n 1, 1, 4), (17, .invokevirtual 104, 3, 2), (20, .ifCond .ne 15, 3, 21), (23, .aload_n 0, 1, 0), (24, .dup, 1, 30), (25, .getfield 101, 3, 1)]
theorem qfq : dtC (cX2_findSafe.data.toList.drop 0) 0 qarJ = true := by decide +kernel
def qaiA : List dtR := [(28, .iconst 1, 1, 5), (29, .iload_n 1, 1, 4), (30, .ishl, 1, 32), (31, .ior, 1, 38), (32, .putfield 101, 3, 14), (35, .iinc 1 1, 3, 20), (38, .goto (-31), 3, 7), (41, .return_, 1, 24)]
theorem qrn : dtC (cX2_findSafe.data.toList.drop 28) 28 qaiA = true := by decide +kernel
def qajK : List dtR := [(0, .iconst 0, 1, 3), (1, .istore_n 2, 1, 29), (2, .iload_n 2, 1, 8), (3, .aload_n 0, 1, 0), (4, .getfield 43, 3, 1), (7, .if_icmp .ge 48, 3, 18), (10, .aload_n 0, 1, 0), (11, .getfield 9, 3, 1), (14, .iload_n 1, 1, 4), (15, .iaload, 1, 12), (16, .aload_n 0, 1, 0), (17, .getfield 18, 3, 1), (20, .iload_n 2, 1, 8), (21, .iaload, 1, 12), (22, .isub, 1, 27), (23, .invokestatic 108, 3, 16)]
theorem qeO : dtC (cX2_foxIsNear.data.toList.drop 0) 0 qajK = true := by decide +kernel
def qaeK : List dtR := [(26, .aload_n 0, 1, 0), (27, .getfield 15, 3, 1), (30, .iload_n 1, 1, 4), (31, .iaload, 1, 12), (32, .aload_n 0, 1, 0), (33, .getfield 21, 3, 1), (36, .iload_n 2, 1, 8), (37, .iaload, 1, 12), (38, .isub, 1, 27), (39, .invokestatic 108, 3, 16), (42, .iadd, 1, 10), (43, .iconst 3, 1, 36), (44, .if_icmp .gt 5, 3, 42), (47, .iconst 1, 1, 5), (48, .ireturn, 1, 9), (49, .iinc 2 1, 3, 20)]
theorem qc5 : dtC (cX2_foxIsNear.data.toList.drop 26) 26 qaeK = true := by decide +kernel
def qahc : List dtR := [(52, .goto (-50), 3, 7), (55, .iconst 0, 1, 3), (56, .ireturn, 1, 9)]
theorem qIS : dtC (cX2_foxIsNear.data.toList.drop 52) 52 qahc = true := by decide +kernel
def qaJA : List dtR := [(0, .aload_n 0, 1, 0), (1, .getfield 101, 3, 1), (4, .iload_n 1, 1, 4), (5, .invokestatic 114, 3, 16), (8, .ireturn, 1, 9)]
theorem qDU : dtC (cX2_isSafe.data.toList.drop 0) 0 qaJA = true := by decide +kernel
def qaQt : List dtR := [(0, .aload_n 0, 1, 0), (1, .getfield 9, 3, 1), (4, .iload_n 1, 1, 4), (5, .iaload, 1, 12), (6, .aload_n 0, 1, 0), (7, .getfield 9, 3, 1), (10, .iload_n 2, 1, 8), (11, .iaload, 1, 12), (12, .isub, 1, 27), (13, .invokestatic 108, 3, 16), (16, .aload_n 0, 1, 0), (17, .getfield 15, 3, 1), (20, .iload_n 1, 1, 4), (21, .iaload, 1, 12), (22, .aload_n 0, 1, 0), (23, .getfield 15, 3, 1)]
theorem qmA : dtC (cX2_apart.data.toList.drop 0) 0 qaQt = true := by decide +kernel
def qaIy : List dtR := [(26, .iload_n 2, 1, 8), (27, .iaload, 1, 12), (28, .isub, 1, 27), (29, .invokestatic 108, 3, 16), (32, .iadd, 1, 10), (33, .ireturn, 1, 9)]
theorem qAI : dtC (cX2_apart.data.toList.drop 26) 26 qaIy = true := by decide +kernel
def qaaR : List dtR := [(0, .iconst 0, 1, 3), (1, .istore_n 3, 1, 26), (2, .iconst 0, 1, 3), (3, .istore 4, 2, 15), (5, .iload 4, 2, 6), (7, .aload_n 0, 1, 0), (8, .getfield 36, 3, 1), (11, .if_icmp .ge 27, 3, 18), (14, .aload_n 0, 1, 0), (15, .iload_n 1, 1, 4), (16, .iload 4, 2, 6), (18, .invokevirtual 118, 3, 2), (21, .iload_n 2, 1, 8), (22, .if_icmp .gt 10, 3, 42), (25, .iload_n 3, 1, 13), (26, .iconst 1, 1, 5)]
theorem qcP : dtC (cX2_formsWithin.data.toList.drop 0) 0 qaaR = true := by decide +kernel
def q63 : List dtR := [(27, .iload 4, 2, 6), (29, .ishl, 1, 32), (30, .ior, 1, 38), (31, .istore_n 3, 1, 26), (32, .iinc 4 1, 3, 20), (35, .goto (-30), 3, 7), (38, .iload_n 3, 1, 13), (39, .ireturn, 1, 9)]
theorem qoH : dtC (cX2_formsWithin.data.toList.drop 27) 27 q63 = true := by decide +kernel
def qabA : List dtR := [(0, .iconst 1, 1, 5), (1, .iload_n 1, 1, 4), (2, .ishl, 1, 32), (3, .istore 4, 2, 15), (5, .iconst 0, 1, 3), (6, .istore 5, 2, 15), (8, .iload 5, 2, 6), (10, .bipush 8, 2, 11), (12, .if_icmp .ge 69, 3, 18), (15, .iload 4, 2, 6), (17, .iload_n 2, 1, 8), (18, .invokestatic 114, 3, 16), (21, .ifCond .eq 6, 3, 19), (24, .iload 5, 2, 6), (26, .ireturn, 1, 9), (27, .iload 4, 2, 6)]
theorem qcW : dtC (cX2_hopsBetween.data.toList.drop 0) 0 qabA = true := by decide +kernel
def q5X : List dtR := [(29, .istore 6, 2, 15), (31, .iconst 0, 1, 3), (32, .istore 7, 2, 15), (34, .iload 7, 2, 6), (36, .aload_n 0, 1, 0), (37, .getfield 36, 3, 1), (40, .if_icmp .ge 31, 3, 18), (43, .iload 4, 2, 6), (45, .iload 7, 2, 6), (47, .invokestatic 114, 3, 16), (50, .ifCond .eq 15, 3, 19), (53, .iload 6, 2, 6), (55, .aload_n 0, 1, 0), (56, .iload 7, 2, 6), (58, .iload_n 3, 1, 13), (59, .invokevirtual 121, 3, 2)]
theorem qci : dtC (cX2_hopsBetween.data.toList.drop 29) 29 q5X = true := by decide +kernel
def q6D : List dtR := [(62, .ior, 1, 38), (63, .istore 6, 2, 15), (65, .iinc 7 1, 3, 20), (68, .goto (-34), 3, 7), (71, .iload 6, 2, 6), (73, .istore 4, 2, 15), (75, .iinc 5 1, 3, 20), (78, .goto (-70), 3, 7), (81, .iconst (-1), 1, 28), (82, .ireturn, 1, 9)]
theorem qjV : dtC (cX2_hopsBetween.data.toList.drop 62) 62 q6D = true := by decide +kernel
def qar8 : List dtR := [(0, .iconst 0, 1, 3), (1, .istore_n 2, 1, 29), (2, .iload_n 2, 1, 8), (3, .aload_n 0, 1, 0), (4, .getfield 36, 3, 1), (7, .if_icmp .ge 21, 3, 18), (10, .aload_n 0, 1, 0), (11, .getfield 33, 3, 1), (14, .iload_n 2, 1, 8), (15, .aload_n 0, 1, 0), (16, .iload_n 2, 1, 8), (17, .iload_n 1, 1, 4), (18, .invokevirtual 121, 3, 2), (21, .iastore, 1, 22), (22, .iinc 2 1, 3, 20), (25, .goto (-23), 3, 7)]
theorem qf6 : dtC (cX2_watchers.data.toList.drop 0) 0 qar8 = true := by decide +kernel
def qamQ : List dtR := [(28, .iconst 1, 1, 5), (29, .aload_n 0, 1, 0), (30, .getfield 36, 3, 1), (33, .ishl, 1, 32), (34, .iconst 1, 1, 5), (35, .isub, 1, 27), (36, .istore_n 2, 1, 29), (37, .iload_n 2, 1, 8), (38, .istore_n 3, 1, 26), (39, .iconst 0, 1, 3), (40, .istore 4, 2, 15), (42, .iload 4, 2, 6), (44, .iload_n 2, 1, 8), (45, .if_icmp .ge 34, 3, 18), (48, .iload 4, 2, 6), (50, .invokestatic 124, 3, 16)]
theorem qeB : dtC (cX2_watchers.data.toList.drop 28) 28 qamQ = true := by decide +kernel
def qajt : List dtR := [(53, .iload_n 3, 1, 13), (54, .invokestatic 124, 3, 16), (57, .if_icmp .ge 16, 3, 18), (60, .aload_n 0, 1, 0), (61, .iload 4, 2, 6), (63, .invokevirtual 129, 3, 2), (66, .iload_n 2, 1, 8), (67, .if_icmp .ne 6, 3, 23), (70, .iload 4, 2, 6), (72, .istore_n 3, 1, 26), (73, .iinc 4 1, 3, 20), (76, .goto (-34), 3, 7), (79, .iload_n 3, 1, 13), (80, .ireturn, 1, 9)]
theorem qgj : dtC (cX2_watchers.data.toList.drop 53) 53 qajt = true := by decide +kernel
def qaqL : List dtR := [(0, .iconst 0, 1, 3), (1, .istore_n 2, 1, 29), (2, .iconst 0, 1, 3), (3, .istore_n 3, 1, 26), (4, .iload_n 3, 1, 13), (5, .aload_n 0, 1, 0), (6, .getfield 36, 3, 1), (9, .if_icmp .ge 26, 3, 18), (12, .iload_n 1, 1, 4), (13, .iload_n 3, 1, 13), (14, .invokestatic 114, 3, 16), (17, .ifCond .eq 12, 3, 19), (20, .iload_n 2, 1, 8), (21, .aload_n 0, 1, 0), (22, .getfield 33, 3, 1), (25, .iload_n 3, 1, 13)]
theorem qfC : dtC (cX2_seenFrom.data.toList.drop 0) 0 qaqL = true := by decide +kernel
def qaku : List dtR := [(26, .iaload, 1, 12), (27, .ior, 1, 38), (28, .istore_n 2, 1, 29), (29, .iinc 3 1, 3, 20), (32, .goto (-28), 3, 7), (35, .iload_n 2, 1, 8), (36, .ireturn, 1, 9)]
theorem qta : dtC (cX2_seenFrom.data.toList.drop 26) 26 qaku = true := by decide +kernel
def qaUq : List dtR := [(0, .aload_n 0, 1, 0), (1, .invokespecial 3, 3, 44), (4, .aload_n 0, 1, 0), (5, .bipush 8, 2, 11)]
theorem qSS : dtC (cX3_init.data.toList.drop 0) 0 qaUq = true := by decide +kernel
theorem dX3_init_7 : decode cX3_init 7 = .ok (.newarray .int, 2) := by decide +kernel
def qaS6 : List dtR := [(9, .putfield 9, 3, 14), (12, .aload_n 0, 1, 0), (13, .bipush 6, 2, 11)]
theorem q3J : dtC (cX3_init.data.toList.drop 9) 9 qaS6 = true := by decide +kernel
theorem dX3_init_15 : decode cX3_init 15 = .ok (.newarray .int, 2) := by decide +kernel
def qaPk : List dtR := [(17, .putfield 15, 3, 14), (20, .aload_n 0, 1, 0), (21, .bipush 6, 2, 11)]
theorem qX6 : dtC (cX3_init.data.toList.drop 17) 17 qaPk = true := by decide +kernel
theorem dX3_init_23 : decode cX3_init 23 = .ok (.newarray .int, 2) := by decide +kernel
def qaRm : List dtR := [(25, .putfield 18, 3, 14), (28, .aload_n 0, 1, 0), (29, .bipush 7, 2, 11)]
theorem qYh : dtC (cX3_init.data.toList.drop 25) 25 qaRm = true := by decide +kernel
theorem dX3_init_31 : decode cX3_init 31 = .ok (.newarray .int, 2) := by decide +kernel
def qaSx : List dtR := [(33, .putfield 21, 3, 14), (36, .return_, 1, 24)]
theorem qahi : dtC (cX3_init.data.toList.drop 33) 33 qaSx = true := by decide +kernel
def qaJd : List dtR := [(0, .aload_n 0, 1, 0), (1, .aload_n 1, 1, 17), (2, .getfield 24, 3, 1), (5, .getfield 30, 3, 1), (8, .putfield 36, 3, 14), (11, .aload_n 0, 1, 0), (12, .aload_n 1, 1, 17), (13, .getfield 24, 3, 1), (16, .getfield 37, 3, 1), (19, .putfield 40, 3, 14), (22, .aload_n 0, 1, 0), (23, .aload_n 2, 1, 31), (24, .putfield 41, 3, 14), (27, .aload_n 0, 1, 0), (28, .iconst 0, 1, 3), (29, .putfield 45, 3, 14)]
theorem qjo : dtC (cX3_settle.data.toList.drop 0) 0 qaJd = true := by decide +kernel
def qaCG : List dtR := [(32, .aload_n 0, 1, 0), (33, .iconst (-1), 1, 28), (34, .putfield 48, 3, 14), (37, .iconst 0, 1, 3), (38, .istore_n 3, 1, 26), (39, .iload_n 3, 1, 13), (40, .aload_n 0, 1, 0), (41, .getfield 40, 3, 1), (44, .if_icmp .ge 23, 3, 18), (47, .aload_n 0, 1, 0), (48, .getfield 9, 3, 1), (51, .iload_n 3, 1, 13), (52, .aload_n 1, 1, 17), (53, .iload_n 3, 1, 13), (54, .invokevirtual 51, 3, 2), (57, .invokestatic 55, 3, 16)]
theorem qhL : dtC (cX3_settle.data.toList.drop 32) 32 qaCG = true := by decide +kernel
def qayW : List dtR := [(60, .iastore, 1, 22), (61, .iinc 3 1, 3, 20), (64, .goto (-25), 3, 7), (67, .iconst 0, 1, 3), (68, .istore_n 3, 1, 26), (69, .iload_n 3, 1, 13), (70, .aload_n 0, 1, 0), (71, .getfield 36, 3, 1), (74, .if_icmp .ge 43, 3, 18), (77, .aload_n 0, 1, 0), (78, .getfield 15, 3, 1), (81, .iload_n 3, 1, 13), (82, .aload_n 1, 1, 17), (83, .iload_n 3, 1, 13), (84, .invokevirtual 60, 3, 2), (87, .iastore, 1, 22)]
theorem qg1 : dtC (cX3_settle.data.toList.drop 60) 60 qayW = true := by decide +kernel
def qaDt : List dtR := [(88, .aload_n 0, 1, 0), (89, .getfield 18, 3, 1), (92, .iload_n 3, 1, 13), (93, .aload_n 1, 1, 17), (94, .iload_n 3, 1, 13), (95, .invokevirtual 62, 3, 2), (98, .ifCond .eq 7, 3, 19), (101, .iconst 0, 1, 3), (102, .goto 8, 3, 7), (105, .aload_n 0, 1, 0), (106, .iload_n 3, 1, 13), (107, .invokevirtual 66, 3, 2), (110, .iastore, 1, 22), (111, .iinc 3 1, 3, 20), (114, .goto (-45), 3, 7), (117, .return_, 1, 24)]
theorem qgX : dtC (cX3_settle.data.toList.drop 88) 88 qaDt = true := by decide +kernel
def qaqV : List dtR := [(0, .iconst 0, 1, 3), (1, .istore_n 2, 1, 29), (2, .iconst 0, 1, 3), (3, .istore_n 3, 1, 26), (4, .iload_n 3, 1, 13), (5, .aload_n 0, 1, 0), (6, .getfield 40, 3, 1), (9, .if_icmp .ge 58, 3, 18), (12, .aload_n 0, 1, 0), (13, .iload_n 1, 1, 4), (14, .iload_n 3, 1, 13), (15, .invokevirtual 69, 3, 2), (18, .ifCond .eq 43, 3, 19), (21, .iload_n 2, 1, 8), (22, .iconst 1, 1, 5), (23, .iload_n 3, 1, 13)]
theorem qfK : dtC (cX3_formsFor.data.toList.drop 0) 0 qaqV = true := by decide +kernel
def qamR : List dtR := [(24, .ishl, 1, 32), (25, .ior, 1, 38), (26, .istore_n 2, 1, 29), (27, .aload_n 0, 1, 0), (28, .aload_n 0, 1, 0), (29, .getfield 45, 3, 1), (32, .ifCond .ne 12, 3, 21), (35, .bipush 10, 2, 11), (37, .iload_n 1, 1, 4), (38, .imul, 1, 34), (39, .iload_n 3, 1, 13), (40, .iadd, 1, 10), (41, .goto 7, 3, 7), (44, .aload_n 0, 1, 0), (45, .getfield 48, 3, 1), (48, .putfield 48, 3, 14)]
theorem qdX : dtC (cX3_formsFor.data.toList.drop 24) 24 qamR = true := by decide +kernel
def qamS : List dtR := [(51, .aload_n 0, 1, 0), (52, .dup, 1, 30), (53, .getfield 45, 3, 1), (56, .iconst 1, 1, 5), (57, .iadd, 1, 10), (58, .putfield 45, 3, 14), (61, .iinc 3 1, 3, 20), (64, .goto (-60), 3, 7), (67, .iload_n 2, 1, 8), (68, .ireturn, 1, 9)]
theorem qog : dtC (cX3_formsFor.data.toList.drop 51) 51 qamS = true := by decide +kernel
def qasa : List dtR := [(0, .iconst 0, 1, 3), (1, .istore_n 3, 1, 26), (2, .iload_n 3, 1, 13), (3, .aload_n 0, 1, 0), (4, .getfield 40, 3, 1), (7, .if_icmp .ge 36, 3, 18), (10, .aload_n 0, 1, 0), (11, .getfield 41, 3, 1), (14, .ifnull 21, 3, 85), (17, .aload_n 0, 1, 0), (18, .getfield 41, 3, 1), (21, .iload_n 3, 1, 13), (22, .aload_n 0, 1, 0), (23, .iload_n 3, 1, 13), (24, .iload_n 1, 1, 4), (25, .iload_n 2, 1, 8)]
theorem qfR : dtC (cX3_allRight.data.toList.drop 0) 0 qasa = true := by decide +kernel
def qamU : List dtR := [(26, .invokevirtual 73, 3, 2), (29, .invokevirtual 77, 3, 2), (32, .ifCond .ne 5, 3, 21), (35, .iconst 0, 1, 3), (36, .ireturn, 1, 9), (37, .iinc 3 1, 3, 20), (40, .goto (-38), 3, 7), (43, .iconst 1, 1, 5), (44, .ireturn, 1, 9)]
theorem qpE : dtC (cX3_allRight.data.toList.drop 26) 26 qamU = true := by decide +kernel
def qahW : List dtR := [(0, .aload_n 0, 1, 0), (1, .getfield 9, 3, 1), (4, .iload_n 1, 1, 4), (5, .iaload, 1, 12), (6, .aload_n 0, 1, 0), (7, .getfield 15, 3, 1), (10, .iload_n 2, 1, 8), (11, .iaload, 1, 12), (12, .iload_n 1, 1, 4), (13, .if_icmp .ne 7, 3, 23), (16, .iconst 1, 1, 5), (17, .goto 4, 3, 7), (20, .iconst 0, 1, 3), (21, .isub, 1, 27), (22, .iload_n 3, 1, 13), (23, .iload_n 1, 1, 4)]
theorem qdg : dtC (cX3_seatedThen.data.toList.drop 0) 0 qahW = true := by decide +kernel
def qabQ : List dtR := [(24, .if_icmp .ne 7, 3, 23), (27, .iconst 1, 1, 5), (28, .goto 4, 3, 7), (31, .iconst 0, 1, 3), (32, .iadd, 1, 10), (33, .ireturn, 1, 9)]
theorem qpf : dtC (cX3_seatedThen.data.toList.drop 24) 24 qabQ = true := by decide +kernel
def qalJ : List dtR := [(0, .aload_n 0, 1, 0), (1, .iconst (-1), 1, 28), (2, .putfield 82, 3, 14), (5, .aload_n 0, 1, 0), (6, .iconst (-1), 1, 28), (7, .putfield 85, 3, 14), (10, .iconst 0, 1, 3), (11, .istore_n 1, 1, 37), (12, .iload_n 1, 1, 4), (13, .aload_n 0, 1, 0), (14, .getfield 40, 3, 1), (17, .if_icmp .ge 59, 3, 18), (20, .aload_n 0, 1, 0), (21, .getfield 41, 3, 1), (24, .ifnull 46, 3, 85), (27, .aload_n 0, 1, 0)]
theorem qen : dtC (cX3_lookAhead.data.toList.drop 0) 0 qalJ = true := by decide +kernel
def qaeP : List dtR := [(28, .getfield 41, 3, 1), (31, .iload_n 1, 1, 4), (32, .invokevirtual 88, 3, 2), (35, .ifCond .ne 35, 3, 21), (38, .aload_n 0, 1, 0), (39, .iload_n 1, 1, 4), (40, .invokevirtual 91, 3, 2), (43, .istore_n 2, 1, 29), (44, .aload_n 0, 1, 0), (45, .getfield 82, 3, 1), (48, .iconst (-1), 1, 28), (49, .if_icmp .eq 11, 3, 39), (52, .iload_n 2, 1, 8), (53, .aload_n 0, 1, 0), (54, .getfield 85, 3, 1), (57, .if_icmp .ge 13, 3, 18)]
theorem qdA : dtC (cX3_lookAhead.data.toList.drop 28) 28 qaeP = true := by decide +kernel
def qaeA : List dtR := [(60, .aload_n 0, 1, 0), (61, .iload_n 1, 1, 4), (62, .putfield 82, 3, 14), (65, .aload_n 0, 1, 0), (66, .iload_n 2, 1, 8), (67, .putfield 85, 3, 14), (70, .iinc 1 1, 3, 20), (73, .goto (-61), 3, 7), (76, .return_, 1, 24)]
theorem qoV : dtC (cX3_lookAhead.data.toList.drop 60) 60 qaeA = true := by decide +kernel
def qaAH : List dtR := [(0, .iconst 0, 1, 3), (1, .istore_n 2, 1, 29), (2, .iload_n 2, 1, 8), (3, .bipush 6, 2, 11), (5, .if_icmp .gt 16, 3, 42), (8, .aload_n 0, 1, 0), (9, .getfield 21, 3, 1), (12, .iload_n 2, 1, 8), (13, .iconst 0, 1, 3), (14, .iastore, 1, 22), (15, .iinc 2 1, 3, 20), (18, .goto (-16), 3, 7), (21, .iconst 0, 1, 3), (22, .istore_n 2, 1, 29), (23, .iconst 0, 1, 3), (24, .istore_n 3, 1, 26)]
theorem qhX : dtC (cX3_worstAt.data.toList.drop 0) 0 qaAH = true := by decide +kernel
def qatS : List dtR := [(25, .iload_n 3, 1, 13), (26, .aload_n 0, 1, 0), (27, .getfield 36, 3, 1), (30, .if_icmp .ge 58, 3, 18), (33, .iconst 0, 1, 3), (34, .istore 4, 2, 15), (36, .iload 4, 2, 6), (38, .aload_n 0, 1, 0), (39, .getfield 40, 3, 1), (42, .if_icmp .ge 40, 3, 18), (45, .aload_n 0, 1, 0), (46, .getfield 18, 3, 1), (49, .iload_n 3, 1, 13), (50, .iaload, 1, 12), (51, .iload 4, 2, 6), (53, .invokestatic 94, 3, 16)]
theorem qff : dtC (cX3_worstAt.data.toList.drop 25) 25 qatS = true := by decide +kernel
def qatz : List dtR := [(56, .ifCond .eq 20, 3, 19), (59, .iload_n 2, 1, 8), (60, .aload_n 0, 1, 0), (61, .aload_n 0, 1, 0), (62, .iload_n 1, 1, 4), (63, .iload_n 3, 1, 13), (64, .iload 4, 2, 6), (66, .invokevirtual 73, 3, 2), (69, .invokevirtual 97, 3, 2), (72, .invokestatic 100, 3, 16), (75, .istore_n 2, 1, 29), (76, .iinc 4 1, 3, 20), (79, .goto (-43), 3, 7), (82, .iinc 3 1, 3, 20), (85, .goto (-60), 3, 7), (88, .iload_n 2, 1, 8)]
theorem qfO : dtC (cX3_worstAt.data.toList.drop 56) 56 qatz = true := by decide +kernel
def qasy : List dtR := [(89, .ireturn, 1, 9)]
theorem qapk : dtC (cX3_worstAt.data.toList.drop 89) 89 qasy = true := by decide +kernel
def qaxP : List dtR := [(0, .iload_n 1, 1, 4), (1, .iconst 0, 1, 3), (2, .bipush 6, 2, 11), (4, .invokestatic 106, 3, 16), (7, .ifCond .ne 5, 3, 21), (10, .iconst 0, 1, 3), (11, .ireturn, 1, 9), (12, .aload_n 0, 1, 0), (13, .getfield 21, 3, 1), (16, .iload_n 1, 1, 4), (17, .dup2, 1, 55), (18, .iaload, 1, 12), (19, .iconst 1, 1, 5), (20, .iadd, 1, 10), (21, .iastore, 1, 22), (22, .aload_n 0, 1, 0)]
theorem qhF : dtC (cX3_tallied.data.toList.drop 0) 0 qaxP = true := by decide +kernel
def qauk : List dtR := [(23, .getfield 21, 3, 1), (26, .iload_n 1, 1, 4), (27, .iaload, 1, 12), (28, .ireturn, 1, 9)]
theorem qEJ : dtC (cX3_tallied.data.toList.drop 23) 23 qauk = true := by decide +kernel
def qaTS : List dtR := [(0, .aload_n 0, 1, 0), (1, .invokespecial 3, 3, 44), (4, .aload_n 0, 1, 0), (5, .sipush 150, 3, 33)]
theorem qSj : dtC (cX4_init.data.toList.drop 0) 0 qaTS = true := by decide +kernel
theorem dX4_init_8 : decode cX4_init 8 = .ok (.newarray .int, 2) := by decide +kernel
def qaNe : List dtR := [(10, .putfield 9, 3, 14), (13, .aload_n 0, 1, 0), (14, .sipush 150, 3, 33)]
theorem qWH : dtC (cX4_init.data.toList.drop 10) 10 qaNe = true := by decide +kernel
theorem dX4_init_17 : decode cX4_init 17 = .ok (.newarray .int, 2) := by decide +kernel
def qaON : List dtR := [(19, .putfield 15, 3, 14), (22, .aload_n 0, 1, 0), (23, .sipush 150, 3, 33)]
theorem qXS : dtC (cX4_init.data.toList.drop 19) 19 qaON = true := by decide +kernel
theorem dX4_init_26 : decode cX4_init 26 = .ok (.newarray .int, 2) := by decide +kernel
def qaQs : List dtR := [(28, .putfield 18, 3, 14), (31, .aload_n 0, 1, 0), (32, .bipush 8, 2, 11)]
theorem qYu : dtC (cX4_init.data.toList.drop 28) 28 qaQs = true := by decide +kernel
theorem dX4_init_34 : decode cX4_init 34 = .ok (.newarray .int, 2) := by decide +kernel
def qaP9 : List dtR := [(36, .putfield 21, 3, 14), (39, .aload_n 0, 1, 0), (40, .invokevirtual 24, 3, 2), (43, .return_, 1, 24)]
theorem qOl : dtC (cX4_init.data.toList.drop 36) 36 qaP9 = true := by decide +kernel
def qapg : List dtR := [(0, .aload_n 0, 1, 0), (1, .iconst 0, 1, 3), (2, .putfield 27, 3, 14), (5, .aload_n 0, 1, 0), (6, .iconst 0, 1, 3), (7, .iconst 4, 1, 43), (8, .invokevirtual 31, 3, 2), (11, .aload_n 0, 1, 0), (12, .iconst 1, 1, 5), (13, .iconst 0, 1, 3), (14, .invokevirtual 31, 3, 2), (17, .aload_n 0, 1, 0), (18, .iconst 2, 1, 25), (19, .iconst 0, 1, 3), (20, .invokevirtual 31, 3, 2), (23, .aload_n 0, 1, 0)]
theorem qf0 : dtC (cX4_setPlain.data.toList.drop 0) 0 qapg = true := by decide +kernel
def qaiU : List dtR := [(24, .iconst 1, 1, 5), (25, .iconst 1, 1, 5), (26, .invokevirtual 31, 3, 2), (29, .aload_n 0, 1, 0), (30, .iconst 3, 1, 36), (31, .iconst 0, 1, 3), (32, .invokevirtual 31, 3, 2), (35, .return_, 1, 24)]
theorem qrC : dtC (cX4_setPlain.data.toList.drop 24) 24 qaiU = true := by decide +kernel
def qaZx : List dtR := [(0, .aload_n 0, 1, 0), (1, .getfield 27, 3, 1), (4, .sipush 150, 3, 33), (7, .if_icmp .ge 33, 3, 18), (10, .aload_n 0, 1, 0), (11, .getfield 9, 3, 1), (14, .aload_n 0, 1, 0), (15, .getfield 27, 3, 1), (18, .iload_n 1, 1, 4), (19, .iastore, 1, 22), (20, .aload_n 0, 1, 0), (21, .getfield 15, 3, 1), (24, .aload_n 0, 1, 0), (25, .getfield 27, 3, 1), (28, .iload_n 2, 1, 8), (29, .iastore, 1, 22)]
theorem qp2 : dtC (cX4_add.data.toList.drop 0) 0 qaZx = true := by decide +kernel
def qaS0 : List dtR := [(30, .aload_n 0, 1, 0), (31, .dup, 1, 30), (32, .getfield 27, 3, 1), (35, .iconst 1, 1, 5), (36, .iadd, 1, 10), (37, .putfield 27, 3, 14), (40, .return_, 1, 24)]
theorem qy7 : dtC (cX4_add.data.toList.drop 30) 30 qaS0 = true := by decide +kernel
def qasx : List dtR := [(0, .aload_n 0, 1, 0), (1, .iconst 0, 1, 3), (2, .putfield 27, 3, 14), (5, .aload_n 0, 1, 0), (6, .aload_n 1, 1, 17), (7, .iconst 0, 1, 3), (8, .invokevirtual 35, 3, 2), (11, .aload_n 1, 1, 17), (12, .invokevirtual 39, 3, 2), (15, .return_, 1, 24)]
theorem qpx : dtC (cX4_readFrom.data.toList.drop 0) 0 qasx = true := by decide +kernel
def qazf : List dtR := [(0, .aload_n 0, 1, 0), (1, .aload_n 1, 1, 17), (2, .iload_n 2, 1, 8), (3, .invokevirtual 44, 3, 2), (6, .iconst 0, 1, 3), (7, .istore_n 3, 1, 26), (8, .iload_n 3, 1, 13), (9, .sipush 150, 3, 33), (12, .if_icmp .ge 65, 3, 18), (15, .aload_n 1, 1, 17), (16, .invokevirtual 47, 3, 2), (19, .ifCond .ne 58, 3, 21), (22, .aload_n 1, 1, 17), (23, .bipush 43, 2, 11), (25, .invokevirtual 51, 3, 2), (28, .ifCond .eq 7, 3, 19)]
theorem qbE : dtC (cX4_readSum.data.toList.drop 0) 0 qazf = true := by decide +kernel
def qauo : List dtR := [(31, .iconst 2, 1, 25), (32, .goto 17, 3, 7), (35, .aload_n 1, 1, 17), (36, .bipush 45, 2, 11), (38, .invokevirtual 51, 3, 2), (41, .ifCond .eq 7, 3, 19), (44, .iconst 3, 1, 36), (45, .goto 4, 3, 7), (48, .iconst (-1), 1, 28), (49, .istore 4, 2, 15), (51, .iload 4, 2, 6), (53, .iconst (-1), 1, 28), (54, .if_icmp .ne 4, 3, 23), (57, .return_, 1, 24), (58, .aload_n 0, 1, 0), (59, .aload_n 1, 1, 17)]
theorem qbo : dtC (cX4_readSum.data.toList.drop 31) 31 qauo = true := by decide +kernel
def qapu : List dtR := [(60, .iload_n 2, 1, 8), (61, .invokevirtual 44, 3, 2), (64, .aload_n 0, 1, 0), (65, .iload 4, 2, 6), (67, .iconst 0, 1, 3), (68, .invokevirtual 31, 3, 2), (71, .iinc 3 1, 3, 20), (74, .goto (-66), 3, 7), (77, .return_, 1, 24)]
theorem qcF : dtC (cX4_readSum.data.toList.drop 60) 60 qapu = true := by decide +kernel
def q9H : List dtR := [(0, .aload_n 0, 1, 0), (1, .aload_n 1, 1, 17), (2, .iload_n 2, 1, 8), (3, .invokevirtual 55, 3, 2), (6, .iconst 0, 1, 3), (7, .istore_n 3, 1, 26), (8, .iload_n 3, 1, 13), (9, .sipush 150, 3, 33), (12, .if_icmp .ge 79, 3, 18), (15, .aload_n 1, 1, 17), (16, .invokevirtual 47, 3, 2), (19, .ifCond .ne 72, 3, 21), (22, .aload_n 1, 1, 17), (23, .bipush 42, 2, 11), (25, .invokevirtual 51, 3, 2), (28, .ifCond .eq 7, 3, 19)]
theorem qaQ : dtC (cX4_readProduct.data.toList.drop 0) 0 q9H = true := by decide +kernel
def q5R : List dtR := [(31, .iconst 4, 1, 43), (32, .goto 31, 3, 7), (35, .aload_n 1, 1, 17), (36, .bipush 47, 2, 11), (38, .invokevirtual 51, 3, 2), (41, .ifCond .eq 7, 3, 19), (44, .iconst 5, 1, 49), (45, .goto 18, 3, 7), (48, .aload_n 1, 1, 17), (49, .bipush 37, 2, 11), (51, .invokevirtual 51, 3, 2), (54, .ifCond .eq 8, 3, 19), (57, .bipush 6, 2, 11), (59, .goto 4, 3, 7), (62, .iconst (-1), 1, 28), (63, .istore 4, 2, 15)]
theorem qaF : dtC (cX4_readProduct.data.toList.drop 31) 31 q5R = true := by decide +kernel
def q6r : List dtR := [(65, .iload 4, 2, 6), (67, .iconst (-1), 1, 28), (68, .if_icmp .ne 4, 3, 23), (71, .return_, 1, 24), (72, .aload_n 0, 1, 0), (73, .aload_n 1, 1, 17), (74, .iload_n 2, 1, 8), (75, .invokevirtual 55, 3, 2), (78, .aload_n 0, 1, 0), (79, .iload 4, 2, 6), (81, .iconst 0, 1, 3), (82, .invokevirtual 31, 3, 2), (85, .iinc 3 1, 3, 20), (88, .goto (-80), 3, 7), (91, .return_, 1, 24)]
theorem qaE : dtC (cX4_readProduct.data.toList.drop 65) 65 q6r = true := by decide +kernel
def qasV : List dtR := [(0, .aload_n 1, 1, 17), (1, .invokevirtual 58, 3, 2), (4, .ifCond .eq 19, 3, 19), (7, .aload_n 0, 1, 0), (8, .iconst 0, 1, 3), (9, .aload_n 1, 1, 17), (10, .iconst 0, 1, 3), (11, .sipush 999, 3, 33), (14, .invokevirtual 61, 3, 2), (17, .invokevirtual 31, 3, 2), (20, .goto 66, 3, 7), (23, .aload_n 1, 1, 17), (24, .bipush 40, 2, 11), (26, .invokevirtual 51, 3, 2), (29, .ifCond .eq 12, 3, 19), (32, .aload_n 0, 1, 0)]
theorem qbn : dtC (cX4_readUnit.data.toList.drop 0) 0 qasV = true := by decide +kernel
def qamz : List dtR := [(33, .aload_n 1, 1, 17), (34, .iload_n 2, 1, 8), (35, .invokevirtual 65, 3, 2), (38, .goto 48, 3, 7), (41, .aload_n 1, 1, 17), (42, .ldc 68, 2, 45), (44, .invokevirtual 70, 3, 2), (47, .ifCond .eq 14, 3, 19), (50, .aload_n 0, 1, 0), (51, .aload_n 1, 1, 17), (52, .iload_n 2, 1, 8), (53, .bipush 7, 2, 11), (55, .invokevirtual 74, 3, 2), (58, .goto 28, 3, 7), (61, .aload_n 1, 1, 17), (62, .ldc 78, 2, 45)]
theorem qbc : dtC (cX4_readUnit.data.toList.drop 33) 33 qamz = true := by decide +kernel
def qalY : List dtR := [(64, .invokevirtual 70, 3, 2), (67, .ifCond .eq 14, 3, 19), (70, .aload_n 0, 1, 0), (71, .aload_n 1, 1, 17), (72, .iload_n 2, 1, 8), (73, .bipush 8, 2, 11), (75, .invokevirtual 74, 3, 2), (78, .goto 8, 3, 7), (81, .aload_n 0, 1, 0), (82, .aload_n 1, 1, 17), (83, .invokevirtual 80, 3, 2), (86, .return_, 1, 24)]
theorem qbd : dtC (cX4_readUnit.data.toList.drop 64) 64 qalY = true := by decide +kernel
def qamA : List dtR := [(0, .iload_n 2, 1, 8), (1, .bipush 6, 2, 11), (3, .if_icmp .lt 9, 3, 48), (6, .aload_n 1, 1, 17), (7, .iconst 3, 1, 36), (8, .invokevirtual 84, 3, 2), (11, .return_, 1, 24), (12, .aload_n 0, 1, 0), (13, .aload_n 1, 1, 17), (14, .iload_n 2, 1, 8), (15, .iconst 1, 1, 5), (16, .iadd, 1, 10), (17, .invokevirtual 35, 3, 2), (20, .aload_n 1, 1, 17), (21, .bipush 41, 2, 11), (23, .invokevirtual 88, 3, 2)]
theorem qbw : dtC (cX4_readInner.data.toList.drop 0) 0 qamA = true := by decide +kernel
def qaem : List dtR := [(26, .return_, 1, 24)]
theorem qafo : dtC (cX4_readInner.data.toList.drop 26) 26 qaem = true := by decide +kernel
def qasP : List dtR := [(0, .iload_n 2, 1, 8), (1, .bipush 6, 2, 11), (3, .if_icmp .lt 9, 3, 48), (6, .aload_n 1, 1, 17), (7, .iconst 3, 1, 36), (8, .invokevirtual 84, 3, 2), (11, .return_, 1, 24), (12, .aload_n 1, 1, 17), (13, .bipush 91, 2, 11), (15, .invokevirtual 88, 3, 2), (18, .aload_n 0, 1, 0), (19, .aload_n 1, 1, 17), (20, .iload_n 2, 1, 8), (21, .iconst 1, 1, 5), (22, .iadd, 1, 10), (23, .invokevirtual 35, 3, 2)]
theorem qbs : dtC (cX4_readPair.data.toList.drop 0) 0 qasP = true := by decide +kernel
def qanF : List dtR := [(26, .aload_n 1, 1, 17), (27, .bipush 44, 2, 11), (29, .invokevirtual 88, 3, 2), (32, .aload_n 0, 1, 0), (33, .aload_n 1, 1, 17), (34, .iload_n 2, 1, 8), (35, .iconst 1, 1, 5), (36, .iadd, 1, 10), (37, .invokevirtual 35, 3, 2), (40, .aload_n 1, 1, 17), (41, .bipush 93, 2, 11), (43, .invokevirtual 88, 3, 2), (46, .aload_n 0, 1, 0), (47, .iload_n 3, 1, 13), (48, .iconst 0, 1, 3), (49, .invokevirtual 31, 3, 2)]
theorem qd6 : dtC (cX4_readPair.data.toList.drop 26) 26 qanF = true := by decide +kernel
def qaj7 : List dtR := [(52, .return_, 1, 24)]
theorem qanH : dtC (cX4_readPair.data.toList.drop 52) 52 qaj7 = true := by decide +kernel
def qapP : List dtR := [(0, .aload_n 1, 1, 17), (1, .ldc 92, 2, 45), (3, .invokevirtual 70, 3, 2), (6, .ifCond .eq 12, 3, 19), (9, .aload_n 0, 1, 0), (10, .iconst 1, 1, 5), (11, .iconst 0, 1, 3), (12, .invokevirtual 31, 3, 2), (15, .goto 135, 3, 7), (18, .aload_n 1, 1, 17), (19, .ldc 94, 2, 45), (21, .invokevirtual 70, 3, 2), (24, .ifCond .eq 12, 3, 19), (27, .aload_n 0, 1, 0), (28, .iconst 1, 1, 5), (29, .iconst 1, 1, 5)]
theorem qf1 : dtC (cX4_readFact.data.toList.drop 0) 0 qapP = true := by decide +kernel
def qajS : List dtR := [(30, .invokevirtual 31, 3, 2), (33, .goto 117, 3, 7), (36, .aload_n 1, 1, 17), (37, .ldc 96, 2, 45), (39, .invokevirtual 70, 3, 2), (42, .ifCond .eq 12, 3, 19), (45, .aload_n 0, 1, 0), (46, .iconst 1, 1, 5), (47, .iconst 2, 1, 25), (48, .invokevirtual 31, 3, 2), (51, .goto 99, 3, 7), (54, .aload_n 1, 1, 17), (55, .ldc 98, 2, 45), (57, .invokevirtual 70, 3, 2), (60, .ifCond .eq 12, 3, 19), (63, .aload_n 0, 1, 0)]
theorem qd1 : dtC (cX4_readFact.data.toList.drop 30) 30 qajS = true := by decide +kernel
def qalq : List dtR := [(64, .iconst 1, 1, 5), (65, .iconst 3, 1, 36), (66, .invokevirtual 31, 3, 2), (69, .goto 81, 3, 7), (72, .aload_n 1, 1, 17), (73, .ldc 100, 2, 45), (75, .invokevirtual 70, 3, 2), (78, .ifCond .eq 12, 3, 19), (81, .aload_n 0, 1, 0), (82, .iconst 1, 1, 5), (83, .iconst 4, 1, 43), (84, .invokevirtual 31, 3, 2), (87, .goto 63, 3, 7), (90, .aload_n 1, 1, 17), (91, .ldc 102, 2, 45), (93, .invokevirtual 70, 3, 2)]
theorem qeh : dtC (cX4_readFact.data.toList.drop 64) 64 qalq = true := by decide +kernel
def qanX : List dtR := [(96, .ifCond .eq 12, 3, 19), (99, .aload_n 0, 1, 0), (100, .iconst 1, 1, 5), (101, .iconst 5, 1, 49), (102, .invokevirtual 31, 3, 2), (105, .goto 45, 3, 7), (108, .aload_n 1, 1, 17), (109, .ldc 104, 2, 45), (111, .invokevirtual 70, 3, 2), (114, .ifCond .eq 13, 3, 19), (117, .aload_n 0, 1, 0), (118, .iconst 1, 1, 5), (119, .bipush 6, 2, 11), (121, .invokevirtual 31, 3, 2), (124, .goto 26, 3, 7), (127, .aload_n 1, 1, 17)]
theorem qeg : dtC (cX4_readFact.data.toList.drop 96) 96 qanX = true := by decide +kernel
def qae0 : List dtR := [(128, .ldc 106, 2, 45), (130, .invokevirtual 70, 3, 2), (133, .ifCond .eq 13, 3, 19), (136, .aload_n 0, 1, 0), (137, .iconst 1, 1, 5), (138, .bipush 7, 2, 11), (140, .invokevirtual 31, 3, 2), (143, .goto 7, 3, 7), (146, .aload_n 1, 1, 17), (147, .invokevirtual 108, 3, 2), (150, .return_, 1, 24)]
theorem qcd : dtC (cX4_readFact.data.toList.drop 128) 128 qae0 = true := by decide +kernel
def qatr : List dtR := [(0, .aload_n 0, 1, 0), (1, .getfield 21, 3, 1), (4, .iconst 0, 1, 3), (5, .iload_n 1, 1, 4), (6, .iastore, 1, 22), (7, .aload_n 0, 1, 0), (8, .getfield 21, 3, 1), (11, .iconst 1, 1, 5), (12, .iload_n 2, 1, 8), (13, .iastore, 1, 22), (14, .aload_n 0, 1, 0), (15, .getfield 21, 3, 1), (18, .iconst 2, 1, 25), (19, .iload_n 3, 1, 13), (20, .iastore, 1, 22), (21, .aload_n 0, 1, 0)]
theorem qfi : dtC (cX4_setFacts.data.toList.drop 0) 0 qatr = true := by decide +kernel
def qakL : List dtR := [(22, .getfield 21, 3, 1), (25, .iconst 3, 1, 36), (26, .iload 4, 2, 6), (28, .iastore, 1, 22), (29, .aload_n 0, 1, 0), (30, .getfield 21, 3, 1), (33, .iconst 4, 1, 43), (34, .iload 5, 2, 6), (36, .iastore, 1, 22), (37, .return_, 1, 24)]
theorem qoh : dtC (cX4_setFacts.data.toList.drop 22) 22 qakL = true := by decide +kernel
def qauK : List dtR := [(0, .aload_n 0, 1, 0), (1, .getfield 21, 3, 1), (4, .iconst 5, 1, 49), (5, .iload_n 1, 1, 4), (6, .iastore, 1, 22), (7, .aload_n 0, 1, 0), (8, .getfield 21, 3, 1), (11, .bipush 6, 2, 11), (13, .iload_n 2, 1, 8), (14, .iastore, 1, 22), (15, .aload_n 0, 1, 0), (16, .getfield 21, 3, 1), (19, .bipush 7, 2, 11), (21, .iload_n 3, 1, 13), (22, .iastore, 1, 22), (23, .return_, 1, 24)]
theorem qfJ : dtC (cX4_setTimes.data.toList.drop 0) 0 qauK = true := by decide +kernel
def qaNJ : List dtR := [(0, .iconst 0, 1, 3), (1, .istore_n 1, 1, 37), (2, .iconst 0, 1, 3), (3, .istore_n 2, 1, 29), (4, .iload_n 2, 1, 8), (5, .aload_n 0, 1, 0), (6, .getfield 27, 3, 1), (9, .if_icmp .ge 95, 3, 18), (12, .aload_n 0, 1, 0), (13, .getfield 9, 3, 1), (16, .iload_n 2, 1, 8), (17, .iaload, 1, 12), (18, .istore_n 3, 1, 26), (19, .iload_n 3, 1, 13), (20, .ifCond .eq 8, 3, 19), (23, .iload_n 3, 1, 13)]
theorem qlq : dtC (cX4_reach.data.toList.drop 0) 0 qaNJ = true := by decide +kernel
def qaGR : List dtR := [(24, .iconst 1, 1, 5), (25, .if_icmp .ne 39, 3, 23), (28, .aload_n 0, 1, 0), (29, .getfield 18, 3, 1), (32, .iload_n 1, 1, 4), (33, .iload_n 3, 1, 13), (34, .ifCond .ne 12, 3, 21), (37, .aload_n 0, 1, 0), (38, .getfield 15, 3, 1), (41, .iload_n 2, 1, 8), (42, .iaload, 1, 12), (43, .goto 14, 3, 7), (46, .aload_n 0, 1, 0), (47, .getfield 21, 3, 1), (50, .aload_n 0, 1, 0), (51, .getfield 15, 3, 1)]
theorem qiF : dtC (cX4_reach.data.toList.drop 24) 24 qaGR = true := by decide +kernel
def qaKg : List dtR := [(54, .iload_n 2, 1, 8), (55, .iaload, 1, 12), (56, .iaload, 1, 12), (57, .iastore, 1, 22), (58, .iinc 1 1, 3, 20), (61, .goto 37, 3, 7), (64, .iload_n 1, 1, 4), (65, .iconst 2, 1, 25), (66, .if_icmp .lt 32, 3, 48), (69, .iinc 1 (-1), 3, 20), (72, .aload_n 0, 1, 0), (73, .getfield 18, 3, 1), (76, .iload_n 1, 1, 4), (77, .iconst 1, 1, 5), (78, .isub, 1, 27), (79, .iload_n 3, 1, 13)]
theorem qiU : dtC (cX4_reach.data.toList.drop 54) 54 qaKg = true := by decide +kernel
def qaGj : List dtR := [(80, .aload_n 0, 1, 0), (81, .getfield 18, 3, 1), (84, .iload_n 1, 1, 4), (85, .iconst 1, 1, 5), (86, .isub, 1, 27), (87, .iaload, 1, 12), (88, .aload_n 0, 1, 0), (89, .getfield 18, 3, 1), (92, .iload_n 1, 1, 4), (93, .iaload, 1, 12), (94, .invokestatic 111, 3, 16), (97, .iastore, 1, 22), (98, .iinc 2 1, 3, 20), (101, .goto (-97), 3, 7), (104, .iload_n 1, 1, 4), (105, .ifCond .le 12, 3, 62)]
theorem qiE : dtC (cX4_reach.data.toList.drop 80) 80 qaGj = true := by decide +kernel
def qaCg : List dtR := [(108, .aload_n 0, 1, 0), (109, .getfield 18, 3, 1), (112, .iconst 0, 1, 3), (113, .iaload, 1, 12), (114, .goto 4, 3, 7), (117, .iconst 0, 1, 3), (118, .istore_n 2, 1, 29), (119, .iconst 0, 1, 3), (120, .bipush 60, 2, 11), (122, .iload_n 2, 1, 8), (123, .invokestatic 115, 3, 16), (126, .invokestatic 120, 3, 16), (129, .ireturn, 1, 9)]
theorem qnf : dtC (cX4_reach.data.toList.drop 108) 108 qaCg = true := by decide +kernel
def qaEy : List dtR := [(0, .iload_n 0, 1, 35)]
theorem qaG4 : dtC (cX4_joined.data.toList.drop 0) 0 qaEy = true := by decide +kernel
theorem dX4_joined_1 : decode cX4_joined 1 = .ok (.tableswitch 86 2 7 #[39, 43, 47, 51, 63, 75], 39) := by decide +kernel
def qaEx : List dtR := [(40, .iload_n 1, 1, 4), (41, .iload_n 2, 1, 8), (42, .iadd, 1, 10), (43, .ireturn, 1, 9), (44, .iload_n 1, 1, 4), (45, .iload_n 2, 1, 8), (46, .isub, 1, 27), (47, .ireturn, 1, 9), (48, .iload_n 1, 1, 4), (49, .iload_n 2, 1, 8), (50, .imul, 1, 34), (51, .ireturn, 1, 9), (52, .iload_n 2, 1, 8), (53, .ifCond .ne 7, 3, 21), (56, .iconst 0, 1, 3), (57, .goto 6, 3, 7)]
theorem qhn : dtC (cX4_joined.data.toList.drop 40) 40 qaEx = true := by decide +kernel
def qaAN : List dtR := [(60, .iload_n 1, 1, 4), (61, .iload_n 2, 1, 8), (62, .idiv, 1, 69), (63, .ireturn, 1, 9), (64, .iload_n 2, 1, 8), (65, .ifCond .ne 7, 3, 21), (68, .iconst 0, 1, 3), (69, .goto 6, 3, 7)]
theorem qrY : dtC (cX4_joined.data.toList.drop 60) 60 qaAN = true := by decide +kernel
