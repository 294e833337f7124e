def tdX11_findSeats_k345 : List dkR := [(345, .aload_n 0, 1), (346, .getfield 86, 3), (349, .iload_n 2, 1), (350, .iaload, 1), (351, .ishl, 1), (352, .ior, 1), (353, .istore_n 1, 1), (354, .iinc 2 1, 3), (357, .goto (-114), 3), (360, .return_, 1)]
theorem tkX11_findSeats_k345 : dkC cX11_findSeats tdX11_findSeats_k345 = true := by decide +kernel
def tdX11_seats_k0 : List dkR := [(0, .aload_n 0, 1), (1, .iconst 0, 1), (2, .putfield 3, 3), (5, .aload_n 0, 1), (6, .invokevirtual 414, 3), (9, .aload_n 0, 1), (10, .getfield 83, 3), (13, .iconst 0, 1), (14, .iaload, 1), (15, .ireturn, 1)]
theorem tkX11_seats_k0 : dkC cX11_seats tdX11_seats_k0 = true := by decide +kernel
def tdX11_seat_k0 : List dkR := [(0, .aload_n 0, 1), (1, .iconst 0, 1), (2, .putfield 3, 3), (5, .aload_n 0, 1), (6, .iload_n 1, 1), (7, .iconst 1, 1), (8, .invokevirtual 408, 3), (11, .ifCond .ne 5, 3), (14, .iconst 0, 1), (15, .ireturn, 1), (16, .aload_n 0, 1), (17, .invokevirtual 414, 3), (20, .aload_n 0, 1), (21, .getfield 86, 3), (24, .iload_n 1, 1), (25, .iaload, 1)]
theorem tkX11_seat_k0 : dkC cX11_seat tdX11_seat_k0 = true := by decide +kernel
def tdX11_seat_k26 : List dkR := [(26, .ireturn, 1)]
theorem tkX11_seat_k26 : dkC cX11_seat tdX11_seat_k26 = true := by decide +kernel
def tdX11_layRing_k0 : List dkR := [(0, .iconst 1, 1), (1, .aload_n 0, 1), (2, .getfield 166, 3), (5, .ishl, 1), (6, .iconst 1, 1), (7, .isub, 1), (8, .istore_n 1, 1), (9, .iload_n 1, 1), (10, .ifCond .lt 136, 3), (13, .iconst 0, 1), (14, .istore_n 2, 1), (15, .iload_n 2, 1), (16, .aload_n 0, 1), (17, .getfield 166, 3), (20, .if_icmp .ge 120, 3), (23, .iload_n 1, 1)]
theorem tkX11_layRing_k0 : dkC cX11_layRing tdX11_layRing_k0 = true := by decide +kernel
def tdX11_layRing_k24 : List dkR := [(24, .iconst 1, 1), (25, .aload_n 0, 1), (26, .getfield 166, 3), (29, .ishl, 1), (30, .iconst 1, 1), (31, .isub, 1), (32, .if_icmp .ne 12, 3), (35, .aload_n 0, 1), (36, .iload_n 2, 1), (37, .iconst 0, 1), (38, .invokevirtual 358, 3), (41, .goto 4, 3), (44, .iconst (-1), 1), (45, .istore_n 3, 1), (46, .iconst 0, 1), (47, .istore 4, 2)]
theorem tkX11_layRing_k24 : dkC cX11_layRing tdX11_layRing_k24 = true := by decide +kernel
def tdX11_layRing_k49 : List dkR := [(49, .iload 4, 2), (51, .aload_n 0, 1), (52, .getfield 166, 3), (55, .if_icmp .ge 67, 3), (58, .iload_n 1, 1), (59, .iload 4, 2), (61, .ishr, 1), (62, .iconst 1, 1), (63, .iand, 1), (64, .iconst 1, 1), (65, .if_icmp .ne 6, 3), (68, .goto 48, 3), (71, .aload_n 0, 1), (72, .iload_n 2, 1), (73, .iload 4, 2), (75, .invokevirtual 358, 3)]
theorem tkX11_layRing_k49 : dkC cX11_layRing tdX11_layRing_k49 = true := by decide +kernel
def tdX11_layRing_k78 : List dkR := [(78, .aload_n 0, 1), (79, .getfield 92, 3), (82, .iload 4, 2), (84, .bipush 8, 2), (86, .ishl, 1), (87, .iload_n 1, 1), (88, .ior, 1), (89, .iconst 1, 1), (90, .iload 4, 2), (92, .ishl, 1), (93, .ior, 1), (94, .iaload, 1), (95, .iadd, 1), (96, .istore 5, 2), (98, .iload_n 3, 1), (99, .iconst (-1), 1)]
theorem tkX11_layRing_k78 : dkC cX11_layRing tdX11_layRing_k78 = true := by decide +kernel
def tdX11_layRing_k100 : List dkR := [(100, .if_icmp .eq 9, 3), (103, .iload 5, 2), (105, .iload_n 3, 1), (106, .if_icmp .ge 8, 3), (109, .iload 5, 2), (111, .goto 4, 3), (114, .iload_n 3, 1), (115, .istore_n 3, 1), (116, .iinc 4 1, 3), (119, .goto (-70), 3), (122, .aload_n 0, 1), (123, .getfield 92, 3), (126, .iload_n 2, 1), (127, .bipush 8, 2), (129, .ishl, 1), (130, .iload_n 1, 1)]
theorem tkX11_layRing_k100 : dkC cX11_layRing tdX11_layRing_k100 = true := by decide +kernel
def tdX11_layRing_k131 : List dkR := [(131, .ior, 1), (132, .iload_n 3, 1), (133, .iastore, 1), (134, .iinc 2 1, 3), (137, .goto (-122), 3), (140, .iinc 1 (-1), 3), (143, .goto (-134), 3), (146, .return_, 1)]
theorem tkX11_layRing_k131 : dkC cX11_layRing tdX11_layRing_k131 = true := by decide +kernel
def tdX11_ring_k0 : List dkR := [(0, .aload_n 0, 1), (1, .iconst 0, 1), (2, .putfield 3, 3), (5, .aload_n 0, 1), (6, .getfield 166, 3), (9, .iconst 2, 1), (10, .if_icmp .ge 5, 3), (13, .iconst 0, 1), (14, .ireturn, 1), (15, .aload_n 0, 1), (16, .invokevirtual 417, 3), (19, .aload_n 0, 1), (20, .getfield 92, 3), (23, .iconst 1, 1), (24, .iaload, 1), (25, .ireturn, 1)]
theorem tkX11_ring_k0 : dkC cX11_ring tdX11_ring_k0 = true := by decide +kernel
def tdX11_ringed_k0 : List dkR := [(0, .aload_n 0, 1), (1, .iconst 0, 1), (2, .putfield 3, 3), (5, .aload_n 0, 1), (6, .iload_n 1, 1), (7, .ifCond .lt 7, 3), (10, .iconst 1, 1), (11, .goto 4, 3), (14, .iconst 0, 1), (15, .iconst 1, 1), (16, .iconst 1, 1), (17, .invokevirtual 213, 3), (20, .ifCond .ne 5, 3), (23, .iconst 0, 1), (24, .ireturn, 1), (25, .iload_n 1, 1)]
theorem tkX11_ringed_k0 : dkC cX11_ringed tdX11_ringed_k0 = true := by decide +kernel
def tdX11_ringed_k26 : List dkR := [(26, .aload_n 0, 1), (27, .getfield 166, 3), (30, .if_icmp .lt 5, 3), (33, .iconst (-1), 1), (34, .ireturn, 1), (35, .aload_n 0, 1), (36, .invokevirtual 417, 3), (39, .iconst 1, 1), (40, .istore_n 2, 1), (41, .iconst 0, 1), (42, .istore_n 3, 1), (43, .iconst 0, 1), (44, .istore 4, 2), (46, .iload 4, 2), (48, .iload_n 1, 1), (49, .if_icmp .ge 77, 3)]
theorem tkX11_ringed_k26 : dkC cX11_ringed tdX11_ringed_k26 = true := by decide +kernel
def tdX11_ringed_k52 : List dkR := [(52, .iconst 0, 1), (53, .istore 5, 2), (55, .iload_n 2, 1), (56, .iload 5, 2), (58, .ishr, 1), (59, .iconst 1, 1), (60, .iand, 1), (61, .iconst 1, 1), (62, .if_icmp .eq 42, 3), (65, .aload_n 0, 1), (66, .iload_n 3, 1), (67, .iload 5, 2), (69, .invokevirtual 358, 3), (72, .aload_n 0, 1), (73, .getfield 92, 3), (76, .iload 5, 2)]
theorem tkX11_ringed_k52 : dkC cX11_ringed tdX11_ringed_k52 = true := by decide +kernel
def tdX11_ringed_k78 : List dkR := [(78, .bipush 8, 2), (80, .ishl, 1), (81, .iload_n 2, 1), (82, .ior, 1), (83, .iconst 1, 1), (84, .iload 5, 2), (86, .ishl, 1), (87, .ior, 1), (88, .iaload, 1), (89, .iadd, 1), (90, .aload_n 0, 1), (91, .getfield 92, 3), (94, .iload_n 3, 1), (95, .bipush 8, 2), (97, .ishl, 1), (98, .iload_n 2, 1)]
theorem tkX11_ringed_k78 : dkC cX11_ringed tdX11_ringed_k78 = true := by decide +kernel
def tdX11_ringed_k99 : List dkR := [(99, .ior, 1), (100, .iaload, 1), (101, .if_icmp .eq 9, 3), (104, .iinc 5 1, 3), (107, .goto (-52), 3), (110, .iload 5, 2), (112, .istore_n 3, 1), (113, .iload_n 2, 1), (114, .iconst 1, 1), (115, .iload 5, 2), (117, .ishl, 1), (118, .ior, 1), (119, .istore_n 2, 1), (120, .iinc 4 1, 3), (123, .goto (-77), 3), (126, .iload_n 3, 1)]
theorem tkX11_ringed_k99 : dkC cX11_ringed tdX11_ringed_k99 = true := by decide +kernel
def tdX11_ringed_k127 : List dkR := [(127, .ireturn, 1)]
theorem tkX11_ringed_k127 : dkC cX11_ringed tdX11_ringed_k127 = true := by decide +kernel
def tdX11_lastsIn_k0 : List dkR := [(0, .iload_n 1, 1), (1, .ifCond .ne 15, 3), (4, .iload_n 2, 1), (5, .iload 4, 2), (7, .if_icmp .ne 7, 3), (10, .iconst 1, 1), (11, .goto 4, 3), (14, .iconst 0, 1), (15, .ireturn, 1), (16, .iconst 0, 1), (17, .istore 5, 2), (19, .iconst 0, 1), (20, .istore 6, 2), (22, .iload 6, 2), (24, .aload_n 0, 1), (25, .getfield 169, 3)]
theorem tkX11_lastsIn_k0 : dkC cX11_lastsIn tdX11_lastsIn_k0 = true := by decide +kernel
def tdX11_lastsIn_k28 : List dkR := [(28, .if_icmp .ge 106, 3), (31, .iload_n 1, 1), (32, .iload 6, 2), (34, .ishr, 1), (35, .iconst 1, 1), (36, .iand, 1), (37, .ifCond .ne 6, 3), (40, .goto 88, 3), (43, .iload_n 3, 1), (44, .aload_n 0, 1), (45, .getfield 68, 3), (48, .bipush 6, 2), (50, .iload 6, 2), (52, .iadd, 1), (53, .iaload, 1), (54, .if_icmp .lt 7, 3)]
theorem tkX11_lastsIn_k28 : dkC cX11_lastsIn tdX11_lastsIn_k28 = true := by decide +kernel
def tdX11_lastsIn_k57 : List dkR := [(57, .iconst 1, 1), (58, .goto 4, 3), (61, .iconst 0, 1), (62, .istore 7, 2), (64, .iload 7, 2), (66, .ifCond .eq 7, 3), (69, .iload_n 3, 1), (70, .goto 13, 3), (73, .aload_n 0, 1), (74, .getfield 68, 3), (77, .bipush 6, 2), (79, .iload 6, 2), (81, .iadd, 1), (82, .iaload, 1), (83, .iconst 1, 1), (84, .isub, 1)]
theorem tkX11_lastsIn_k57 : dkC cX11_lastsIn tdX11_lastsIn_k57 = true := by decide +kernel
def tdX11_lastsIn_k85 : List dkR := [(85, .istore 8, 2), (87, .iload 5, 2), (89, .aload_n 0, 1), (90, .iload_n 1, 1), (91, .iconst 1, 1), (92, .iload 6, 2), (94, .ishl, 1), (95, .iconst (-1), 1), (96, .ixor, 1), (97, .iand, 1), (98, .iload 7, 2), (100, .ifCond .eq 7, 3), (103, .iload_n 2, 1), (104, .goto 5, 3), (107, .iload 6, 2), (109, .iload 8, 2)]
theorem tkX11_lastsIn_k85 : dkC cX11_lastsIn tdX11_lastsIn_k85 = true := by decide +kernel
def tdX11_lastsIn_k111 : List dkR := [(111, .ifCond .ge 7, 3), (114, .iconst 0, 1), (115, .goto 5, 3), (118, .iload 8, 2), (120, .iload 4, 2), (122, .invokevirtual 420, 3), (125, .iadd, 1), (126, .istore 5, 2), (128, .iinc 6 1, 3), (131, .goto (-109), 3), (134, .iload 5, 2), (136, .ireturn, 1)]
theorem tkX11_lastsIn_k111 : dkC cX11_lastsIn tdX11_lastsIn_k111 = true := by decide +kernel
def tdX11_bouts_k0 : List dkR := [(0, .aload_n 0, 1), (1, .iconst 0, 1), (2, .putfield 3, 3), (5, .aload_n 0, 1), (6, .iload_n 1, 1), (7, .iconst 1, 1), (8, .invokevirtual 408, 3), (11, .ifCond .ne 5, 3), (14, .iconst 0, 1), (15, .ireturn, 1), (16, .aload_n 0, 1), (17, .invokevirtual 316, 3), (20, .iconst 1, 1), (21, .aload_n 0, 1), (22, .getfield 169, 3), (25, .ishl, 1)]
theorem tkX11_bouts_k0 : dkC cX11_bouts tdX11_bouts_k0 = true := by decide +kernel
def tdX11_bouts_k26 : List dkR := [(26, .iconst 1, 1), (27, .isub, 1), (28, .aload_n 0, 1), (29, .invokevirtual 396, 3), (32, .iconst (-1), 1), (33, .ixor, 1), (34, .iand, 1), (35, .istore_n 2, 1), (36, .iconst 0, 1), (37, .istore_n 3, 1), (38, .iconst 0, 1), (39, .istore 4, 2), (41, .iload 4, 2), (43, .aload_n 0, 1), (44, .getfield 169, 3), (47, .if_icmp .ge 47, 3)]
theorem tkX11_bouts_k26 : dkC cX11_bouts tdX11_bouts_k26 = true := by decide +kernel
def tdX11_bouts_k50 : List dkR := [(50, .iload_n 2, 1), (51, .iload 4, 2), (53, .ishr, 1), (54, .iconst 1, 1), (55, .iand, 1), (56, .iconst 1, 1), (57, .if_icmp .ne 31, 3), (60, .iload_n 3, 1), (61, .aload_n 0, 1), (62, .iload_n 2, 1), (63, .iconst 1, 1), (64, .iload 4, 2), (66, .ishl, 1), (67, .iconst (-1), 1), (68, .ixor, 1), (69, .iand, 1)]
theorem tkX11_bouts_k50 : dkC cX11_bouts tdX11_bouts_k50 = true := by decide +kernel
def tdX11_bouts_k70 : List dkR := [(70, .iload 4, 2), (72, .aload_n 0, 1), (73, .getfield 68, 3), (76, .bipush 6, 2), (78, .iload 4, 2), (80, .iadd, 1), (81, .iaload, 1), (82, .iload_n 1, 1), (83, .invokevirtual 420, 3), (86, .iadd, 1), (87, .istore_n 3, 1), (88, .iinc 4 1, 3), (91, .goto (-50), 3), (94, .iload_n 3, 1), (95, .ireturn, 1)]
theorem tkX11_bouts_k70 : dkC cX11_bouts tdX11_bouts_k70 = true := by decide +kernel
def tdX11_sitsThen_k0 : List dkR := [(0, .aload_n 0, 1), (1, .iload_n 1, 1), (2, .invokevirtual 348, 3), (5, .iconst 1, 1), (6, .iload_n 2, 1), (7, .ishl, 1), (8, .iconst (-1), 1), (9, .ixor, 1), (10, .iand, 1), (11, .invokestatic 351, 3), (14, .istore 4, 2), (16, .iload_n 3, 1), (17, .iload_n 1, 1), (18, .if_icmp .ne 10, 3), (21, .iload 4, 2), (23, .iconst 1, 1)]
theorem tkX11_sitsThen_k0 : dkC cX11_sitsThen tdX11_sitsThen_k0 = true := by decide +kernel
def tdX11_sitsThen_k24 : List dkR := [(24, .iadd, 1), (25, .goto 5, 3), (28, .iload 4, 2), (30, .ireturn, 1)]
theorem tkX11_sitsThen_k24 : dkC cX11_sitsThen tdX11_sitsThen_k24 = true := by decide +kernel
def tdX11_isFit_k0 : List dkR := [(0, .aload_n 0, 1), (1, .iload_n 1, 1), (2, .invokevirtual 340, 3), (5, .ifCond .ne 7, 3), (8, .iconst 1, 1), (9, .goto 4, 3), (12, .iconst 0, 1), (13, .istore_n 3, 1), (14, .iconst 0, 1), (15, .istore 4, 2), (17, .iload 4, 2), (19, .aload_n 0, 1), (20, .getfield 166, 3), (23, .if_icmp .ge 48, 3), (26, .iload_n 3, 1), (27, .ifCond .eq 36, 3)]
theorem tkX11_isFit_k0 : dkC cX11_isFit tdX11_isFit_k0 = true := by decide +kernel
def tdX11_isFit_k30 : List dkR := [(30, .aload_n 0, 1), (31, .getfield 80, 3), (34, .iload 4, 2), (36, .iaload, 1), (37, .iconst (-1), 1), (38, .if_icmp .eq 21, 3), (41, .aload_n 0, 1), (42, .iload 4, 2), (44, .iload_n 1, 1), (45, .iload_n 2, 1), (46, .invokevirtual 424, 3), (49, .aload_n 0, 1), (50, .getfield 80, 3), (53, .iload 4, 2), (55, .iaload, 1), (56, .if_icmp .ne 7, 3)]
theorem tkX11_isFit_k30 : dkC cX11_isFit tdX11_isFit_k30 = true := by decide +kernel
def tdX11_isFit_k59 : List dkR := [(59, .iconst 1, 1), (60, .goto 4, 3), (63, .iconst 0, 1), (64, .istore_n 3, 1), (65, .iinc 4 1, 3), (68, .goto (-51), 3), (71, .iload_n 3, 1), (72, .ireturn, 1)]
theorem tkX11_isFit_k59 : dkC cX11_isFit tdX11_isFit_k59 = true := by decide +kernel
def tdX11_fits_k0 : List dkR := [(0, .aload_n 0, 1), (1, .iconst 0, 1), (2, .putfield 3, 3), (5, .aload_n 0, 1), (6, .iload_n 1, 1), (7, .iconst 0, 1), (8, .iconst 1, 1), (9, .invokestatic 390, 3), (12, .iconst 1, 1), (13, .iconst 1, 1), (14, .invokevirtual 213, 3), (17, .ifCond .ne 5, 3), (20, .iconst 0, 1), (21, .ireturn, 1), (22, .aload_n 0, 1), (23, .invokevirtual 316, 3)]
theorem tkX11_fits_k0 : dkC cX11_fits tdX11_fits_k0 = true := by decide +kernel
def tdX11_fits_k26 : List dkR := [(26, .iconst 0, 1), (27, .istore_n 2, 1), (28, .iconst (-1), 1), (29, .istore_n 3, 1), (30, .iconst 0, 1), (31, .istore 4, 2), (33, .iload 4, 2), (35, .aload_n 0, 1), (36, .getfield 169, 3), (39, .if_icmp .ge 62, 3), (42, .iconst 0, 1), (43, .istore 5, 2), (45, .iload 5, 2), (47, .aload_n 0, 1), (48, .getfield 166, 3), (51, .if_icmp .ge 44, 3)]
theorem tkX11_fits_k26 : dkC cX11_fits tdX11_fits_k26 = true := by decide +kernel
def tdX11_fits_k54 : List dkR := [(54, .aload_n 0, 1), (55, .iload 4, 2), (57, .iload 5, 2), (59, .invokevirtual 427, 3), (62, .ifCond .ne 6, 3), (65, .goto 24, 3), (68, .iinc 2 1, 3), (71, .iload_n 3, 1), (72, .iconst (-1), 1), (73, .if_icmp .ne 14, 3), (76, .bipush 10, 2), (78, .iload 4, 2), (80, .imul, 1), (81, .iload 5, 2), (83, .iadd, 1), (84, .goto 4, 3)]
theorem tkX11_fits_k54 : dkC cX11_fits tdX11_fits_k54 = true := by decide +kernel
def tdX11_fits_k87 : List dkR := [(87, .iload_n 3, 1), (88, .istore_n 3, 1), (89, .iinc 5 1, 3), (92, .goto (-47), 3), (95, .iinc 4 1, 3), (98, .goto (-65), 3), (101, .iload_n 1, 1), (102, .ifCond .ne 7, 3), (105, .iload_n 2, 1), (106, .goto 4, 3), (109, .iload_n 3, 1), (110, .ireturn, 1)]
theorem tkX11_fits_k87 : dkC cX11_fits tdX11_fits_k87 = true := by decide +kernel
def tdX11_worstOf_k0 : List dkR := [(0, .iconst 0, 1), (1, .istore_n 2, 1), (2, .iload_n 2, 1), (3, .bipush 6, 2), (5, .if_icmp .gt 16, 3), (8, .aload_n 0, 1), (9, .getfield 95, 3), (12, .iload_n 2, 1), (13, .iconst 0, 1), (14, .iastore, 1), (15, .iinc 2 1, 3), (18, .goto (-16), 3), (21, .iconst 0, 1), (22, .istore_n 2, 1), (23, .iconst 0, 1), (24, .istore_n 3, 1)]
theorem tkX11_worstOf_k0 : dkC cX11_worstOf tdX11_worstOf_k0 = true := by decide +kernel
def tdX11_worstOf_k25 : List dkR := [(25, .iload_n 3, 1), (26, .aload_n 0, 1), (27, .getfield 169, 3), (30, .if_icmp .ge 84, 3), (33, .iconst 0, 1), (34, .istore 4, 2), (36, .iload 4, 2), (38, .aload_n 0, 1), (39, .getfield 166, 3), (42, .if_icmp .ge 66, 3), (45, .aload_n 0, 1), (46, .iload_n 3, 1), (47, .iload 4, 2), (49, .invokevirtual 427, 3), (52, .ifCond .ne 6, 3), (55, .goto 47, 3)]
theorem tkX11_worstOf_k25 : dkC cX11_worstOf tdX11_worstOf_k25 = true := by decide +kernel
def tdX11_worstOf_k58 : List dkR := [(58, .aload_n 0, 1), (59, .iload_n 1, 1), (60, .iload_n 3, 1), (61, .iload 4, 2), (63, .invokevirtual 424, 3), (66, .istore 5, 2), (68, .aload_n 0, 1), (69, .getfield 95, 3), (72, .iload 5, 2), (74, .dup2, 1), (75, .iaload, 1), (76, .iconst 1, 1), (77, .iadd, 1), (78, .iastore, 1), (79, .aload_n 0, 1), (80, .getfield 95, 3)]
theorem tkX11_worstOf_k58 : dkC cX11_worstOf tdX11_worstOf_k58 = true := by decide +kernel
def tdX11_worstOf_k83 : List dkR := [(83, .iload 5, 2), (85, .iaload, 1), (86, .iload_n 2, 1), (87, .if_icmp .le 13, 3), (90, .aload_n 0, 1), (91, .getfield 95, 3), (94, .iload 5, 2), (96, .iaload, 1), (97, .goto 4, 3), (100, .iload_n 2, 1), (101, .istore_n 2, 1), (102, .iinc 4 1, 3), (105, .goto (-69), 3), (108, .iinc 3 1, 3), (111, .goto (-86), 3), (114, .iload_n 2, 1)]
theorem tkX11_worstOf_k83 : dkC cX11_worstOf tdX11_worstOf_k83 = true := by decide +kernel
def tdX11_worstOf_k115 : List dkR := [(115, .ireturn, 1)]
theorem tkX11_worstOf_k115 : dkC cX11_worstOf tdX11_worstOf_k115 = true := by decide +kernel
def tdX11_look_k0 : List dkR := [(0, .aload_n 0, 1), (1, .iconst 0, 1), (2, .putfield 3, 3), (5, .aload_n 0, 1), (6, .iload_n 1, 1), (7, .iconst 0, 1), (8, .iconst 1, 1), (9, .invokestatic 390, 3), (12, .iconst 1, 1), (13, .iconst 1, 1), (14, .invokevirtual 213, 3), (17, .ifCond .ne 5, 3), (20, .iconst 0, 1), (21, .ireturn, 1), (22, .aload_n 0, 1), (23, .invokevirtual 316, 3)]
theorem tkX11_look_k0 : dkC cX11_look tdX11_look_k0 = true := by decide +kernel
def tdX11_look_k26 : List dkR := [(26, .iconst (-1), 1), (27, .istore_n 2, 1), (28, .iconst (-1), 1), (29, .istore_n 3, 1), (30, .iconst 0, 1), (31, .istore 4, 2), (33, .iload 4, 2), (35, .aload_n 0, 1), (36, .getfield 166, 3), (39, .if_icmp .ge 51, 3), (42, .aload_n 0, 1), (43, .getfield 80, 3), (46, .iload 4, 2), (48, .iaload, 1), (49, .iconst (-1), 1), (50, .if_icmp .eq 6, 3)]
theorem tkX11_look_k26 : dkC cX11_look tdX11_look_k26 = true := by decide +kernel
def tdX11_look_k53 : List dkR := [(53, .goto 31, 3), (56, .aload_n 0, 1), (57, .iload 4, 2), (59, .invokevirtual 430, 3), (62, .istore 5, 2), (64, .iload_n 2, 1), (65, .iconst (-1), 1), (66, .if_icmp .eq 12, 3), (69, .iload 5, 2), (71, .iload_n 3, 1), (72, .if_icmp .lt 6, 3), (75, .goto 9, 3), (78, .iload 4, 2), (80, .istore_n 2, 1), (81, .iload 5, 2), (83, .istore_n 3, 1)]
theorem tkX11_look_k53 : dkC cX11_look tdX11_look_k53 = true := by decide +kernel
def tdX11_look_k84 : List dkR := [(84, .iinc 4 1, 3), (87, .goto (-54), 3), (90, .iload_n 1, 1), (91, .ifCond .ne 7, 3), (94, .iload_n 2, 1), (95, .goto 4, 3), (98, .iload_n 3, 1), (99, .ireturn, 1)]
theorem tkX11_look_k84 : dkC cX11_look tdX11_look_k84 = true := by decide +kernel
def tdX11_watch_k0 : List dkR := [(0, .aload_n 0, 1), (1, .iconst 0, 1), (2, .putfield 3, 3), (5, .aload_n 0, 1), (6, .iload_n 1, 1), (7, .iconst 0, 1), (8, .bipush 60, 2), (10, .invokestatic 390, 3), (13, .iconst 1, 1), (14, .iconst 1, 1), (15, .invokevirtual 213, 3), (18, .ifCond .ne 5, 3), (21, .iconst 0, 1), (22, .ireturn, 1), (23, .iconst (-1), 1), (24, .istore_n 2, 1)]
theorem tkX11_watch_k0 : dkC cX11_watch tdX11_watch_k0 = true := by decide +kernel
def tdX11_watch_k25 : List dkR := [(25, .iconst 0, 1), (26, .istore_n 3, 1), (27, .iload_n 3, 1), (28, .iconst 1, 1), (29, .aload_n 0, 1), (30, .getfield 166, 3), (33, .ishl, 1), (34, .if_icmp .ge 125, 3), (37, .iconst 1, 1), (38, .istore 4, 2), (40, .iconst 0, 1), (41, .istore 5, 2), (43, .iload 5, 2), (45, .aload_n 0, 1), (46, .getfield 166, 3), (49, .if_icmp .ge 81, 3)]
theorem tkX11_watch_k25 : dkC cX11_watch tdX11_watch_k25 = true := by decide +kernel
def tdX11_watch_k52 : List dkR := [(52, .iconst 0, 1), (53, .istore 6, 2), (55, .iconst 0, 1), (56, .istore 7, 2), (58, .iload 7, 2), (60, .aload_n 0, 1), (61, .getfield 166, 3), (64, .if_icmp .ge 43, 3), (67, .iload 6, 2), (69, .ifCond .ne 25, 3), (72, .iload_n 3, 1), (73, .iload 7, 2), (75, .ishr, 1), (76, .iconst 1, 1), (77, .iand, 1), (78, .iconst 1, 1)]
theorem tkX11_watch_k52 : dkC cX11_watch tdX11_watch_k52 = true := by decide +kernel
def tdX11_watch_k79 : List dkR := [(79, .if_icmp .ne 19, 3), (82, .aload_n 0, 1), (83, .iload 5, 2), (85, .iload 7, 2), (87, .invokevirtual 358, 3), (90, .iload_n 1, 1), (91, .if_icmp .gt 7, 3), (94, .iconst 1, 1), (95, .goto 4, 3), (98, .iconst 0, 1), (99, .istore 6, 2), (101, .iinc 7 1, 3), (104, .goto (-46), 3), (107, .iload 4, 2), (109, .ifCond .eq 12, 3), (112, .iload 6, 2)]
theorem tkX11_watch_k79 : dkC cX11_watch tdX11_watch_k79 = true := by decide +kernel
def tdX11_watch_k114 : List dkR := [(114, .ifCond .eq 7, 3), (117, .iconst 1, 1), (118, .goto 4, 3), (121, .iconst 0, 1), (122, .istore 4, 2), (124, .iinc 5 1, 3), (127, .goto (-84), 3), (130, .iload 4, 2), (132, .ifCond .eq 21, 3), (135, .iload_n 2, 1), (136, .iconst (-1), 1), (137, .if_icmp .eq 14, 3), (140, .iload_n 3, 1), (141, .invokestatic 351, 3), (144, .iload_n 2, 1), (145, .invokestatic 351, 3)]
theorem tkX11_watch_k114 : dkC cX11_watch tdX11_watch_k114 = true := by decide +kernel
def tdX11_watch_k148 : List dkR := [(148, .if_icmp .ge 5, 3), (151, .iload_n 3, 1), (152, .istore_n 2, 1), (153, .iinc 3 1, 3), (156, .goto (-129), 3), (159, .iload_n 2, 1), (160, .ireturn, 1)]
theorem tkX11_watch_k148 : dkC cX11_watch tdX11_watch_k148 = true := by decide +kernel
def tdX11_least_k0 : List dkR := [(0, .lload_n 0, 1), (1, .lstore 5, 2), (3, .lload_n 2, 1), (4, .lstore 7, 2), (6, .lload 7, 2), (8, .lconst 0, 1), (9, .lcmp, 1), (10, .ifCond .eq 21, 3), (13, .lload 5, 2), (15, .lload 7, 2), (17, .lrem, 1), (18, .lstore 9, 2), (20, .lload 7, 2), (22, .lstore 5, 2), (24, .lload 9, 2), (26, .lstore 7, 2)]
theorem tkX11_least_k0 : dkC cX11_least tdX11_least_k0 = true := by decide +kernel
def tdX11_least_k28 : List dkR := [(28, .goto (-22), 3), (31, .iload 4, 2), (33, .ifCond .ne 7, 3), (36, .lload_n 0, 1), (37, .goto 4, 3), (40, .lload_n 2, 1), (41, .lload 5, 2), (43, .ldiv, 1), (44, .lreturn, 1)]
theorem tkX11_least_k28 : dkC cX11_least tdX11_least_k28 = true := by decide +kernel
def tdX11_few_k0 : List dkR := [(0, .aload_n 0, 1), (1, .iconst 0, 1), (2, .putfield 3, 3), (5, .aload_n 0, 1), (6, .iload_n 1, 1), (7, .iconst 0, 1), (8, .bipush 12, 2), (10, .invokestatic 390, 3), (13, .ifCond .eq 37, 3), (16, .iload_n 2, 1), (17, .iconst 0, 1), (18, .bipush 12, 2), (20, .invokestatic 390, 3), (23, .ifCond .eq 27, 3), (26, .iload_n 3, 1), (27, .iconst 0, 1)]
theorem tkX11_few_k0 : dkC cX11_few tdX11_few_k0 = true := by decide +kernel
def tdX11_few_k28 : List dkR := [(28, .bipush 16, 2), (30, .invokestatic 390, 3), (33, .ifCond .eq 17, 3), (36, .iload 4, 2), (38, .iconst 0, 1), (39, .iconst 1, 1), (40, .invokestatic 390, 3), (43, .ifCond .eq 7, 3), (46, .iconst 1, 1), (47, .goto 4, 3), (50, .iconst 0, 1), (51, .iconst 1, 1), (52, .iconst 1, 1), (53, .invokevirtual 213, 3), (56, .ifCond .ne 5, 3), (59, .lconst 0, 1)]
theorem tkX11_few_k28 : dkC cX11_few tdX11_few_k28 = true := by decide +kernel
def tdX11_few_k60 : List dkR := [(60, .lreturn, 1), (61, .iconst 0, 1), (62, .istore 5, 2), (64, .iload 5, 2), (66, .bipush 14, 2), (68, .if_icmp .ge 26, 3), (71, .aload_n 0, 1), (72, .getfield 98, 3), (75, .iload 5, 2), (77, .iload 5, 2), (79, .ifCond .ne 7, 3), (82, .lconst 1, 1), (83, .goto 4, 3), (86, .lconst 0, 1), (87, .lastore, 1), (88, .iinc 5 1, 3)]
theorem tkX11_few_k60 : dkC cX11_few tdX11_few_k60 = true := by decide +kernel
def tdX11_few_k91 : List dkR := [(91, .goto (-27), 3), (94, .lconst 1, 1), (95, .lstore 5, 2), (97, .iconst 0, 1), (98, .istore 7, 2), (100, .iload 7, 2), (102, .iload_n 1, 1), (103, .if_icmp .ge 74, 3), (106, .bipush 13, 2), (108, .istore 8, 2), (110, .iload 8, 2), (112, .ifCond .lt 51, 3), (115, .aload_n 0, 1), (116, .getfield 98, 3), (119, .iload 8, 2), (121, .aload_n 0, 1)]
theorem tkX11_few_k91 : dkC cX11_few tdX11_few_k91 = true := by decide +kernel
def tdX11_few_k122 : List dkR := [(122, .getfield 98, 3), (125, .iload 8, 2), (127, .laload, 1), (128, .bipush 16, 2), (130, .iload_n 3, 1), (131, .isub, 1), (132, .i2l, 1), (133, .lmul, 1), (134, .iload 8, 2), (136, .ifCond .le 18, 3), (139, .aload_n 0, 1), (140, .getfield 98, 3), (143, .iload 8, 2), (145, .iconst 1, 1), (146, .isub, 1), (147, .laload, 1)]
theorem tkX11_few_k122 : dkC cX11_few tdX11_few_k122 = true := by decide +kernel
def tdX11_few_k148 : List dkR := [(148, .iload_n 3, 1), (149, .i2l, 1), (150, .lmul, 1), (151, .goto 4, 3), (154, .lconst 0, 1), (155, .ladd, 1), (156, .lastore, 1), (157, .iinc 8 (-1), 3), (160, .goto (-50), 3), (163, .lload 5, 2), (165, .ldc2_w 433, 3), (168, .lmul, 1), (169, .lstore 5, 2), (171, .iinc 7 1, 3), (174, .goto (-74), 3), (177, .lconst 0, 1)]
theorem tkX11_few_k148 : dkC cX11_few tdX11_few_k148 = true := by decide +kernel
def tdX11_few_k178 : List dkR := [(178, .lstore 7, 2), (180, .iconst 0, 1), (181, .istore 9, 2), (183, .iload 9, 2), (185, .iload_n 2, 1), (186, .if_icmp .gt 21, 3), (189, .lload 7, 2), (191, .aload_n 0, 1), (192, .getfield 98, 3), (195, .iload 9, 2), (197, .laload, 1), (198, .ladd, 1), (199, .lstore 7, 2), (201, .iinc 9 1, 3), (204, .goto (-21), 3), (207, .lload 7, 2)]
theorem tkX11_few_k178 : dkC cX11_few tdX11_few_k178 = true := by decide +kernel
def tdX11_few_k209 : List dkR := [(209, .lload 5, 2), (211, .iload 4, 2), (213, .invokestatic 435, 3), (216, .lreturn, 1)]
theorem tkX11_few_k209 : dkC cX11_few tdX11_few_k209 = true := by decide +kernel
def tdX11_hasBy_k0 : List dkR := [(0, .iload_n 0, 1), (1, .iconst 1, 1), (2, .if_icmp .ne 16, 3), (5, .iload_n 1, 1), (6, .iconst 1, 1), (7, .if_icmp .ne 7, 3), (10, .iload_n 2, 1), (11, .goto 20, 3), (14, .iconst 0, 1), (15, .goto 16, 3), (18, .iload_n 1, 1), (19, .iconst 1, 1), (20, .if_icmp .ne 9, 3), (23, .iload_n 2, 1), (24, .iload_n 3, 1), (25, .iadd, 1)]
theorem tkX11_hasBy_k0 : dkC cX11_hasBy tdX11_hasBy_k0 = true := by decide +kernel
def tdX11_hasBy_k26 : List dkR := [(26, .goto 5, 3), (29, .iload_n 3, 1), (30, .ineg, 1), (31, .ireturn, 1)]
theorem tkX11_hasBy_k26 : dkC cX11_hasBy tdX11_hasBy_k26 = true := by decide +kernel
def tdX11_road_k0 : List dkR := [(0, .aload_n 0, 1), (1, .iconst 0, 1), (2, .putfield 3, 3), (5, .aload_n 0, 1), (6, .iload_n 1, 1), (7, .iconst 0, 1), (8, .bipush 99, 2), (10, .invokestatic 390, 3), (13, .ifCond .eq 26, 3), (16, .iload_n 2, 1), (17, .iconst 0, 1), (18, .bipush 99, 2), (20, .invokestatic 390, 3), (23, .ifCond .eq 16, 3), (26, .iload_n 3, 1), (27, .iconst 0, 1)]
theorem tkX11_road_k0 : dkC cX11_road tdX11_road_k0 = true := by decide +kernel
def tdX11_road_k28 : List dkR := [(28, .iconst 2, 1), (29, .invokestatic 390, 3), (32, .ifCond .eq 7, 3), (35, .iconst 1, 1), (36, .goto 4, 3), (39, .iconst 0, 1), (40, .iconst 1, 1), (41, .iconst 1, 1), (42, .invokevirtual 213, 3), (45, .ifCond .ne 5, 3), (48, .iconst 0, 1), (49, .ireturn, 1), (50, .iconst 0, 1), (51, .istore 4, 2), (53, .iconst (-1), 1), (54, .istore 5, 2)]
theorem tkX11_road_k28 : dkC cX11_road tdX11_road_k28 = true := by decide +kernel
def tdX11_road_k56 : List dkR := [(56, .iconst 0, 1), (57, .istore 6, 2), (59, .iload 6, 2), (61, .iconst 4, 1), (62, .if_icmp .ge 94, 3), (65, .iload 6, 2), (67, .iconst 2, 1), (68, .idiv, 1), (69, .istore 7, 2), (71, .iload 6, 2), (73, .iconst 2, 1), (74, .irem, 1), (75, .istore 8, 2), (77, .iconst 1, 1), (78, .iload 7, 2), (80, .isub, 1)]
theorem tkX11_road_k56 : dkC cX11_road tdX11_road_k56 = true := by decide +kernel
def tdX11_road_k81 : List dkR := [(81, .iload 8, 2), (83, .iload_n 1, 1), (84, .iload_n 2, 1), (85, .invokestatic 438, 3), (88, .iload 7, 2), (90, .iload 8, 2), (92, .iload_n 1, 1), (93, .iload_n 2, 1), (94, .invokestatic 438, 3), (97, .if_icmp .gt 53, 3), (100, .iconst 1, 1), (101, .iload 8, 2), (103, .isub, 1), (104, .iload 7, 2), (106, .iload_n 1, 1), (107, .iload_n 2, 1)]
theorem tkX11_road_k81 : dkC cX11_road tdX11_road_k81 = true := by decide +kernel
def tdX11_road_k108 : List dkR := [(108, .invokestatic 438, 3), (111, .iload 8, 2), (113, .iload 7, 2), (115, .iload_n 1, 1), (116, .iload_n 2, 1), (117, .invokestatic 438, 3), (120, .if_icmp .le 6, 3), (123, .goto 27, 3), (126, .iinc 4 1, 3), (129, .iload 5, 2), (131, .iconst (-1), 1), (132, .if_icmp .ne 14, 3), (135, .bipush 10, 2), (137, .iload 7, 2), (139, .imul, 1), (140, .iload 8, 2)]
theorem tkX11_road_k108 : dkC cX11_road tdX11_road_k108 = true := by decide +kernel
def tdX11_road_k142 : List dkR := [(142, .iadd, 1), (143, .goto 5, 3), (146, .iload 5, 2), (148, .istore 5, 2), (150, .iinc 6 1, 3), (153, .goto (-94), 3), (156, .iload_n 3, 1), (157, .ifCond .ne 8, 3), (160, .iload 4, 2), (162, .goto 54, 3), (165, .iload_n 3, 1), (166, .iconst 1, 1), (167, .if_icmp .ne 8, 3), (170, .iload 5, 2), (172, .goto 44, 3), (175, .iload 5, 2)]
theorem tkX11_road_k142 : dkC cX11_road tdX11_road_k142 = true := by decide +kernel
def tdX11_road_k177 : List dkR := [(177, .iconst (-1), 1), (178, .if_icmp .ne 7, 3), (181, .iconst 0, 1), (182, .goto 34, 3), (185, .iload 5, 2), (187, .bipush 10, 2), (189, .idiv, 1), (190, .iload 5, 2), (192, .bipush 10, 2), (194, .irem, 1), (195, .iload_n 1, 1), (196, .iload_n 2, 1), (197, .invokestatic 438, 3), (200, .iload 5, 2), (202, .bipush 10, 2), (204, .irem, 1)]
theorem tkX11_road_k177 : dkC cX11_road tdX11_road_k177 = true := by decide +kernel
def tdX11_road_k205 : List dkR := [(205, .iload 5, 2), (207, .bipush 10, 2), (209, .idiv, 1), (210, .iload_n 1, 1), (211, .iload_n 2, 1), (212, .invokestatic 438, 3), (215, .iadd, 1), (216, .ireturn, 1)]
theorem tkX11_road_k205 : dkC cX11_road tdX11_road_k205 = true := by decide +kernel
def tdX11_cloverBy_k0 : List dkR := [(0, .iconst 0, 1), (1, .istore_n 3, 1), (2, .iconst 0, 1), (3, .istore 4, 2), (5, .iload 4, 2), (7, .aload_n 0, 1), (8, .getfield 169, 3), (11, .if_icmp .ge 39, 3), (14, .iload_n 3, 1), (15, .iload_n 1, 1), (16, .iload 4, 2), (18, .ishr, 1), (19, .iconst 1, 1), (20, .iand, 1), (21, .aload_n 0, 1), (22, .iload 4, 2)]
theorem tkX11_cloverBy_k0 : dkC cX11_cloverBy tdX11_cloverBy_k0 = true := by decide +kernel
def tdX11_cloverBy_k24 : List dkR := [(24, .invokevirtual 345, 3), (27, .iload_n 2, 1), (28, .if_icmp .ge 12, 3), (31, .aload_n 0, 1), (32, .iload 4, 2), (34, .invokevirtual 345, 3), (37, .goto 4, 3), (40, .iload_n 2, 1), (41, .imul, 1), (42, .iadd, 1), (43, .istore_n 3, 1), (44, .iinc 4 1, 3), (47, .goto (-42), 3), (50, .iload_n 3, 1), (51, .ireturn, 1)]
theorem tkX11_cloverBy_k24 : dkC cX11_cloverBy tdX11_cloverBy_k24 = true := by decide +kernel
def tdX11_clover_k0 : List dkR := [(0, .aload_n 0, 1), (1, .iconst 0, 1), (2, .putfield 3, 3), (5, .aload_n 0, 1), (6, .iload_n 1, 1), (7, .iconst 1, 1), (8, .invokevirtual 408, 3), (11, .ifCond .eq 42, 3), (14, .aload_n 0, 1), (15, .iload_n 2, 1), (16, .ifCond .lt 28, 3), (19, .iload_n 2, 1), (20, .iconst 1, 1), (21, .aload_n 0, 1), (22, .getfield 169, 3), (25, .ishl, 1)]
theorem tkX11_clover_k0 : dkC cX11_clover tdX11_clover_k0 = true := by decide +kernel
def tdX11_clover_k26 : List dkR := [(26, .if_icmp .ge 18, 3), (29, .iload_n 3, 1), (30, .iconst 0, 1), (31, .sipush 999, 3), (34, .invokestatic 390, 3), (37, .ifCond .eq 7, 3), (40, .iconst 1, 1), (41, .goto 4, 3), (44, .iconst 0, 1), (45, .iconst 2, 1), (46, .iconst 1, 1), (47, .invokevirtual 213, 3), (50, .ifCond .ne 5, 3), (53, .iconst 0, 1), (54, .ireturn, 1), (55, .aload_n 0, 1)]
theorem tkX11_clover_k26 : dkC cX11_clover tdX11_clover_k26 = true := by decide +kernel
def tdX11_clover_k56 : List dkR := [(56, .invokevirtual 316, 3), (59, .sipush 495, 3), (62, .istore 4, 2), (64, .aload_n 0, 1), (65, .iload_n 2, 1), (66, .iload 4, 2), (68, .invokevirtual 441, 3), (71, .iload_n 3, 1), (72, .if_icmp .le 9, 3), (75, .iinc 4 (-1), 3), (78, .goto (-14), 3), (81, .iload_n 2, 1), (82, .iload_n 1, 1), (83, .ishr, 1), (84, .iconst 1, 1), (85, .iand, 1)]
theorem tkX11_clover_k56 : dkC cX11_clover tdX11_clover_k56 = true := by decide +kernel
def tdX11_clover_k86 : List dkR := [(86, .ifCond .ne 5, 3), (89, .iconst 0, 1), (90, .ireturn, 1), (91, .aload_n 0, 1), (92, .iload_n 1, 1), (93, .invokevirtual 345, 3), (96, .iload 4, 2), (98, .if_icmp .ge 11, 3), (101, .aload_n 0, 1), (102, .iload_n 1, 1), (103, .invokevirtual 345, 3), (106, .goto 5, 3), (109, .iload 4, 2), (111, .ireturn, 1)]
theorem tkX11_clover_k86 : dkC cX11_clover tdX11_clover_k86 = true := by decide +kernel
def tdX11_strongest_k0 : List dkR := [(0, .aload_n 0, 1), (1, .iconst 0, 1), (2, .putfield 3, 3), (5, .aload_n 0, 1), (6, .iload_n 1, 1), (7, .iconst 0, 1), (8, .iconst 1, 1), (9, .invokestatic 390, 3), (12, .iconst 1, 1), (13, .iconst 1, 1), (14, .invokevirtual 213, 3), (17, .ifCond .ne 5, 3), (20, .iconst 0, 1), (21, .ireturn, 1), (22, .aload_n 0, 1), (23, .invokevirtual 316, 3)]
theorem tkX11_strongest_k0 : dkC cX11_strongest tdX11_strongest_k0 = true := by decide +kernel
def tdX11_strongest_k26 : List dkR := [(26, .iconst (-1), 1), (27, .istore_n 2, 1), (28, .iconst 0, 1), (29, .istore_n 3, 1), (30, .iload_n 3, 1), (31, .aload_n 0, 1), (32, .getfield 169, 3), (35, .if_icmp .ge 45, 3), (38, .aload_n 0, 1), (39, .iload_n 3, 1), (40, .invokevirtual 340, 3), (43, .ifCond .ne 31, 3), (46, .iload_n 2, 1), (47, .iconst (-1), 1), (48, .if_icmp .eq 24, 3), (51, .aload_n 0, 1)]
theorem tkX11_strongest_k26 : dkC cX11_strongest tdX11_strongest_k26 = true := by decide +kernel
def tdX11_strongest_k52 : List dkR := [(52, .getfield 71, 3), (55, .bipush 6, 2), (57, .iload_n 3, 1), (58, .iadd, 1), (59, .iaload, 1), (60, .aload_n 0, 1), (61, .getfield 71, 3), (64, .bipush 6, 2), (66, .iload_n 2, 1), (67, .iadd, 1), (68, .iaload, 1), (69, .if_icmp .le 5, 3), (72, .iload_n 3, 1), (73, .istore_n 2, 1), (74, .iinc 3 1, 3), (77, .goto (-47), 3)]
theorem tkX11_strongest_k52 : dkC cX11_strongest tdX11_strongest_k52 = true := by decide +kernel
def tdX11_strongest_k80 : List dkR := [(80, .iload_n 1, 1), (81, .ifCond .eq 8, 3), (84, .iload_n 2, 1), (85, .iconst (-1), 1), (86, .if_icmp .ne 7, 3), (89, .iload_n 2, 1), (90, .goto 12, 3), (93, .aload_n 0, 1), (94, .getfield 71, 3), (97, .bipush 6, 2), (99, .iload_n 2, 1), (100, .iadd, 1), (101, .iaload, 1), (102, .ireturn, 1)]
theorem tkX11_strongest_k80 : dkC cX11_strongest tdX11_strongest_k80 = true := by decide +kernel
def tdX11_ties_k0 : List dkR := [(0, .aload_n 0, 1), (1, .iconst 0, 1), (2, .putfield 3, 3), (5, .aload_n 0, 1), (6, .iload_n 1, 1), (7, .iconst 1, 1), (8, .invokevirtual 408, 3), (11, .ifCond .eq 18, 3), (14, .aload_n 0, 1), (15, .iload_n 2, 1), (16, .iconst 0, 1), (17, .iconst 1, 1), (18, .invokestatic 390, 3), (21, .iconst 2, 1), (22, .iconst 1, 1), (23, .invokevirtual 213, 3)]
theorem tkX11_ties_k0 : dkC cX11_ties tdX11_ties_k0 = true := by decide +kernel
def tdX11_ties_k26 : List dkR := [(26, .ifCond .ne 5, 3), (29, .iconst 0, 1), (30, .ireturn, 1), (31, .iconst 0, 1), (32, .istore_n 3, 1), (33, .iconst 0, 1), (34, .istore 4, 2), (36, .iload 4, 2), (38, .aload_n 0, 1), (39, .getfield 169, 3), (42, .if_icmp .ge 52, 3), (45, .iload_n 3, 1), (46, .aload_n 0, 1), (47, .getfield 68, 3), (50, .bipush 30, 2), (52, .iload_n 2, 1)]
theorem tkX11_ties_k26 : dkC cX11_ties tdX11_ties_k26 = true := by decide +kernel
def tdX11_ties_k53 : List dkR := [(53, .ifCond .ne 13, 3), (56, .bipush 6, 2), (58, .iload_n 1, 1), (59, .imul, 1), (60, .iload 4, 2), (62, .iadd, 1), (63, .goto 10, 3), (66, .bipush 6, 2), (68, .iload 4, 2), (70, .imul, 1), (71, .iload_n 1, 1), (72, .iadd, 1), (73, .iadd, 1), (74, .iaload, 1), (75, .ifCond .le 10, 3), (78, .iconst 1, 1)]
theorem tkX11_ties_k53 : dkC cX11_ties tdX11_ties_k53 = true := by decide +kernel
def tdX11_ties_k79 : List dkR := [(79, .iload 4, 2), (81, .ishl, 1), (82, .goto 4, 3), (85, .iconst 0, 1), (86, .ior, 1), (87, .istore_n 3, 1), (88, .iinc 4 1, 3), (91, .goto (-55), 3), (94, .iload_n 3, 1), (95, .ireturn, 1)]
theorem tkX11_ties_k79 : dkC cX11_ties tdX11_ties_k79 = true := by decide +kernel
def tdX11_refuge_k0 : List dkR := [(0, .aload_n 0, 1), (1, .iconst 0, 1), (2, .putfield 3, 3), (5, .aload_n 0, 1), (6, .iload_n 1, 1), (7, .iconst 1, 1), (8, .invokevirtual 405, 3), (11, .ifCond .eq 18, 3), (14, .aload_n 0, 1), (15, .iload_n 2, 1), (16, .iconst 0, 1), (17, .iconst 1, 1), (18, .invokestatic 390, 3), (21, .iconst 2, 1), (22, .iconst 1, 1), (23, .invokevirtual 213, 3)]
theorem tkX11_refuge_k0 : dkC cX11_refuge tdX11_refuge_k0 = true := by decide +kernel
def tdX11_refuge_k26 : List dkR := [(26, .ifCond .ne 5, 3), (29, .iconst 0, 1), (30, .ireturn, 1), (31, .iconst (-1), 1), (32, .istore_n 3, 1), (33, .iconst 0, 1), (34, .istore 4, 2), (36, .iload 4, 2), (38, .aload_n 0, 1), (39, .getfield 166, 3), (42, .if_icmp .ge 42, 3), (45, .aload_n 0, 1), (46, .iload 4, 2), (48, .invokevirtual 368, 3), (51, .ifCond .eq 27, 3), (54, .iload_n 3, 1)]
theorem tkX11_refuge_k26 : dkC cX11_refuge tdX11_refuge_k26 = true := by decide +kernel
def tdX11_refuge_k55 : List dkR := [(55, .iconst (-1), 1), (56, .if_icmp .eq 19, 3), (59, .aload_n 0, 1), (60, .iload_n 1, 1), (61, .iload 4, 2), (63, .invokevirtual 358, 3), (66, .aload_n 0, 1), (67, .iload_n 1, 1), (68, .iload_n 3, 1), (69, .invokevirtual 358, 3), (72, .if_icmp .ge 6, 3), (75, .iload 4, 2), (77, .istore_n 3, 1), (78, .iinc 4 1, 3), (81, .goto (-45), 3), (84, .iload_n 2, 1)]
theorem tkX11_refuge_k55 : dkC cX11_refuge tdX11_refuge_k55 = true := by decide +kernel
def tdX11_refuge_k85 : List dkR := [(85, .ifCond .eq 8, 3), (88, .iload_n 3, 1), (89, .iconst (-1), 1), (90, .if_icmp .ne 7, 3), (93, .iload_n 3, 1), (94, .goto 9, 3), (97, .aload_n 0, 1), (98, .iload_n 1, 1), (99, .iload_n 3, 1), (100, .invokevirtual 358, 3), (103, .ireturn, 1)]
theorem tkX11_refuge_k85 : dkC cX11_refuge tdX11_refuge_k85 = true := by decide +kernel
def tdX11_draws_k0 : List dkR := [(0, .aload_n 0, 1), (1, .aload_n 0, 1), (2, .getfield 444, 3), (5, .ldc_w 447, 3), (8, .imul, 1), (9, .sipush 12345, 3), (12, .iadd, 1), (13, .putfield 444, 3), (16, .aload_n 0, 1), (17, .getfield 444, 3), (20, .bipush 16, 2), (22, .ishr, 1), (23, .sipush 32767, 3), (26, .iand, 1), (27, .iload_n 1, 1), (28, .irem, 1)]
theorem tkX11_draws_k0 : dkC cX11_draws tdX11_draws_k0 = true := by decide +kernel
def tdX11_draws_k29 : List dkR := [(29, .ireturn, 1)]
theorem tkX11_draws_k29 : dkC cX11_draws tdX11_draws_k29 = true := by decide +kernel
def tdX11_marchGoes_k0 : List dkR := [(0, .aload_n 0, 1), (1, .invokevirtual 316, 3), (4, .aload_n 0, 1), (5, .iload_n 1, 1), (6, .putfield 444, 3), (9, .aload_n 0, 1), (10, .iconst 0, 1), (11, .putfield 448, 3), (14, .iconst 0, 1), (15, .istore_n 3, 1), (16, .iload_n 3, 1), (17, .iload_n 2, 1), (18, .if_icmp .ge 76, 3), (21, .aload_n 0, 1), (22, .getfield 169, 3), (25, .ifCond .le 59, 3)]
theorem tkX11_marchGoes_k0 : dkC cX11_marchGoes tdX11_marchGoes_k0 = true := by decide +kernel
def tdX11_marchGoes_k28 : List dkR := [(28, .aload_n 0, 1), (29, .aload_n 0, 1), (30, .getfield 169, 3), (33, .invokevirtual 451, 3), (36, .istore 4, 2), (38, .aload_n 0, 1), (39, .dup, 1), (40, .getfield 448, 3), (43, .aload_n 0, 1), (44, .iload 4, 2), (46, .aload_n 0, 1), (47, .aload_n 0, 1), (48, .getfield 166, 3), (51, .invokevirtual 451, 3), (54, .invokevirtual 377, 3), (57, .ifCond .eq 7, 3)]
theorem tkX11_marchGoes_k28 : dkC cX11_marchGoes tdX11_marchGoes_k28 = true := by decide +kernel
def tdX11_marchGoes_k60 : List dkR := [(60, .iconst 1, 1), (61, .goto 4, 3), (64, .iconst 0, 1), (65, .iadd, 1), (66, .putfield 448, 3), (69, .aload_n 0, 1), (70, .iload 4, 2), (72, .aload_n 0, 1), (73, .aload_n 0, 1), (74, .getfield 169, 3), (77, .invokevirtual 451, 3), (80, .invokevirtual 380, 3), (83, .pop, 1), (84, .aload_n 0, 1), (85, .invokevirtual 387, 3), (88, .iinc 3 1, 3)]
theorem tkX11_marchGoes_k60 : dkC cX11_marchGoes tdX11_marchGoes_k60 = true := by decide +kernel
def tdX11_marchGoes_k91 : List dkR := [(91, .goto (-75), 3), (94, .return_, 1)]
theorem tkX11_marchGoes_k91 : dkC cX11_marchGoes tdX11_marchGoes_k91 = true := by decide +kernel
def tdX11_strengthNow_k0 : List dkR := [(0, .iconst 0, 1), (1, .istore_n 1, 1), (2, .iconst 0, 1), (3, .istore_n 2, 1), (4, .iload_n 2, 1), (5, .aload_n 0, 1), (6, .getfield 169, 3), (9, .if_icmp .ge 33, 3), (12, .iload_n 1, 1), (13, .aload_n 0, 1), (14, .iload_n 2, 1), (15, .invokevirtual 340, 3), (18, .ifCond .eq 7, 3), (21, .iconst 0, 1), (22, .goto 12, 3), (25, .aload_n 0, 1)]
theorem tkX11_strengthNow_k0 : dkC cX11_strengthNow tdX11_strengthNow_k0 = true := by decide +kernel
def tdX11_strengthNow_k26 : List dkR := [(26, .getfield 71, 3), (29, .bipush 6, 2), (31, .iload_n 2, 1), (32, .iadd, 1), (33, .iaload, 1), (34, .iadd, 1), (35, .istore_n 1, 1), (36, .iinc 2 1, 3), (39, .goto (-35), 3), (42, .iload_n 1, 1), (43, .ireturn, 1)]
theorem tkX11_strengthNow_k26 : dkC cX11_strengthNow tdX11_strengthNow_k26 = true := by decide +kernel
def tdX11_march_k0 : List dkR := [(0, .aload_n 0, 1), (1, .iconst 0, 1), (2, .putfield 3, 3), (5, .aload_n 0, 1), (6, .iload_n 2, 1), (7, .iconst 1, 1), (8, .bipush 96, 2), (10, .invokestatic 390, 3), (13, .ifCond .eq 16, 3), (16, .iload_n 3, 1), (17, .iconst 0, 1), (18, .iconst 3, 1), (19, .invokestatic 390, 3), (22, .ifCond .eq 7, 3), (25, .iconst 1, 1), (26, .goto 4, 3)]
theorem tkX11_march_k0 : dkC cX11_march tdX11_march_k0 = true := by decide +kernel
def tdX11_march_k29 : List dkR := [(29, .iconst 0, 1), (30, .iconst 1, 1), (31, .iconst 1, 1), (32, .invokevirtual 213, 3), (35, .ifCond .ne 5, 3), (38, .iconst 0, 1), (39, .ireturn, 1), (40, .aload_n 0, 1), (41, .iload_n 1, 1), (42, .iload_n 2, 1), (43, .invokevirtual 454, 3), (46, .iload_n 3, 1), (47, .ifCond .ne 10, 3), (50, .aload_n 0, 1), (51, .getfield 448, 3), (54, .goto 34, 3)]
theorem tkX11_march_k29 : dkC cX11_march tdX11_march_k29 = true := by decide +kernel
def tdX11_march_k57 : List dkR := [(57, .iload_n 3, 1), (58, .iconst 1, 1), (59, .if_icmp .ne 10, 3), (62, .aload_n 0, 1), (63, .invokevirtual 396, 3), (66, .goto 22, 3), (69, .iload_n 3, 1), (70, .iconst 2, 1), (71, .if_icmp .ne 10, 3), (74, .aload_n 0, 1), (75, .invokevirtual 457, 3), (78, .goto 10, 3), (81, .aload_n 0, 1), (82, .getfield 71, 3), (85, .bipush 66, 2), (87, .iaload, 1)]
theorem tkX11_march_k57 : dkC cX11_march tdX11_march_k57 = true := by decide +kernel
def tdX11_march_k88 : List dkR := [(88, .ireturn, 1)]
theorem tkX11_march_k88 : dkC cX11_march tdX11_march_k88 = true := by decide +kernel
def tdX11_span_k0 : List dkR := [(0, .aload_n 0, 1), (1, .iconst 0, 1), (2, .putfield 3, 3), (5, .aload_n 0, 1), (6, .iload_n 2, 1), (7, .iconst 1, 1), (8, .bipush 20, 2), (10, .invokestatic 390, 3), (13, .ifCond .eq 42, 3), (16, .iload_n 3, 1), (17, .iconst 1, 1), (18, .bipush 96, 2), (20, .invokestatic 390, 3), (23, .ifCond .eq 32, 3), (26, .iload 4, 2), (28, .iconst 0, 1)]
theorem tkX11_span_k0 : dkC cX11_span tdX11_span_k0 = true := by decide +kernel
def tdX11_span_k29 : List dkR := [(29, .iconst 2, 1), (30, .invokestatic 390, 3), (33, .ifCond .eq 22, 3), (36, .iload 5, 2), (38, .iconst 0, 1), (39, .aload_n 0, 1), (40, .getfield 169, 3), (43, .iconst 1, 1), (44, .isub, 1), (45, .invokestatic 390, 3), (48, .ifCond .eq 7, 3), (51, .iconst 1, 1), (52, .goto 4, 3), (55, .iconst 0, 1), (56, .iconst 1, 1), (57, .iconst 1, 1)]
theorem tkX11_span_k29 : dkC cX11_span tdX11_span_k29 = true := by decide +kernel
def tdX11_span_k58 : List dkR := [(58, .invokevirtual 213, 3), (61, .ifCond .ne 5, 3), (64, .iconst 0, 1), (65, .ireturn, 1), (66, .iconst (-1), 1), (67, .istore 6, 2), (69, .iconst 0, 1), (70, .istore 7, 2), (72, .iconst 0, 1), (73, .istore 8, 2), (75, .iconst 0, 1), (76, .istore 9, 2), (78, .iload 9, 2), (80, .iload_n 2, 1), (81, .if_icmp .ge 83, 3), (84, .aload_n 0, 1)]
theorem tkX11_span_k58 : dkC cX11_span tdX11_span_k58 = true := by decide +kernel
def tdX11_span_k85 : List dkR := [(85, .iload_n 1, 1), (86, .iload 9, 2), (88, .iadd, 1), (89, .iload_n 3, 1), (90, .invokevirtual 454, 3), (93, .iload 6, 2), (95, .iconst (-1), 1), (96, .if_icmp .eq 12, 3), (99, .aload_n 0, 1), (100, .getfield 448, 3), (103, .iload 6, 2), (105, .if_icmp .ge 10, 3), (108, .aload_n 0, 1), (109, .getfield 448, 3), (112, .goto 5, 3), (115, .iload 6, 2)]
theorem tkX11_span_k85 : dkC cX11_span tdX11_span_k85 = true := by decide +kernel
def tdX11_span_k117 : List dkR := [(117, .istore 6, 2), (119, .aload_n 0, 1), (120, .getfield 448, 3), (123, .iload 7, 2), (125, .if_icmp .le 10, 3), (128, .aload_n 0, 1), (129, .getfield 448, 3), (132, .goto 5, 3), (135, .iload 7, 2), (137, .istore 7, 2), (139, .iload 8, 2), (141, .aload_n 0, 1), (142, .iload 5, 2), (144, .invokevirtual 340, 3), (147, .ifCond .eq 7, 3), (150, .iconst 0, 1)]
theorem tkX11_span_k117 : dkC cX11_span tdX11_span_k117 = true := by decide +kernel
def tdX11_span_k151 : List dkR := [(151, .goto 4, 3), (154, .iconst 1, 1), (155, .iadd, 1), (156, .istore 8, 2), (158, .iinc 9 1, 3), (161, .goto (-83), 3), (164, .iload 4, 2), (166, .ifCond .ne 8, 3), (169, .iload 6, 2), (171, .goto 16, 3), (174, .iload 4, 2), (176, .iconst 1, 1), (177, .if_icmp .ne 8, 3), (180, .iload 7, 2), (182, .goto 5, 3), (185, .iload 8, 2)]
theorem tkX11_span_k151 : dkC cX11_span tdX11_span_k151 = true := by decide +kernel
def tdX11_span_k187 : List dkR := [(187, .ireturn, 1)]
theorem tkX11_span_k187 : dkC cX11_span tdX11_span_k187 = true := by decide +kernel
def tdX11_keepsRow_k0 : List dkR := [(0, .iconst 0, 1), (1, .istore 5, 2), (3, .iload 5, 2), (5, .iload_n 3, 1), (6, .if_icmp .ge 43, 3), (9, .iload 4, 2), (11, .ifCond .eq 19, 3), (14, .aload_n 0, 1), (15, .getfield 102, 3), (18, .iload_n 1, 1), (19, .iload 5, 2), (21, .iadd, 1), (22, .aload_n 2, 1), (23, .iload 5, 2), (25, .iaload, 1), (26, .iastore, 1)]
theorem tkX11_keepsRow_k0 : dkC cX11_keepsRow tdX11_keepsRow_k0 = true := by decide +kernel
def tdX11_keepsRow_k27 : List dkR := [(27, .goto 16, 3), (30, .aload_n 2, 1), (31, .iload 5, 2), (33, .aload_n 0, 1), (34, .getfield 102, 3), (37, .iload_n 1, 1), (38, .iload 5, 2), (40, .iadd, 1), (41, .iaload, 1), (42, .iastore, 1), (43, .iinc 5 1, 3), (46, .goto (-43), 3), (49, .iload_n 1, 1), (50, .iload_n 3, 1), (51, .iadd, 1), (52, .ireturn, 1)]
theorem tkX11_keepsRow_k27 : dkC cX11_keepsRow tdX11_keepsRow_k27 = true := by decide +kernel
def tdX11_keepsAll_k0 : List dkR := [(0, .aload_n 0, 1), (1, .sipush 1157, 3), (4, .iload_n 1, 1), (5, .imul, 1), (6, .aload_n 0, 1), (7, .getfield 68, 3), (10, .bipush 68, 2), (12, .iload_n 2, 1), (13, .invokevirtual 460, 3), (16, .istore_n 3, 1), (17, .aload_n 0, 1), (18, .iload_n 3, 1), (19, .aload_n 0, 1), (20, .getfield 74, 3), (23, .sipush 1088, 3), (26, .iload_n 2, 1)]
theorem tkX11_keepsAll_k0 : dkC cX11_keepsAll tdX11_keepsAll_k0 = true := by decide +kernel
def tdX11_keepsAll_k27 : List dkR := [(27, .invokevirtual 460, 3), (30, .istore_n 3, 1), (31, .iload_n 2, 1), (32, .ifCond .eq 16, 3), (35, .aload_n 0, 1), (36, .getfield 102, 3), (39, .iload_n 3, 1), (40, .aload_n 0, 1), (41, .getfield 185, 3), (44, .iastore, 1), (45, .goto 13, 3), (48, .aload_n 0, 1), (49, .aload_n 0, 1), (50, .getfield 102, 3), (53, .iload_n 3, 1), (54, .iaload, 1)]
theorem tkX11_keepsAll_k27 : dkC cX11_keepsAll tdX11_keepsAll_k27 = true := by decide +kernel
def tdX11_keepsAll_k55 : List dkR := [(55, .putfield 185, 3), (58, .return_, 1)]
theorem tkX11_keepsAll_k55 : dkC cX11_keepsAll tdX11_keepsAll_k55 = true := by decide +kernel
def tdX11_image_k0 : List dkR := [(0, .aload_n 0, 1), (1, .iconst 0, 1), (2, .putfield 3, 3), (5, .aload_n 0, 1), (6, .getfield 188, 3), (9, .iconst 3, 1), (10, .if_icmp .ne 5, 3), (13, .iconst (-1), 1), (14, .ireturn, 1), (15, .aload_n 0, 1), (16, .aload_n 0, 1), (17, .getfield 188, 3), (20, .iconst 1, 1), (21, .invokevirtual 464, 3), (24, .aload_n 0, 1), (25, .dup, 1)]
theorem tkX11_image_k0 : dkC cX11_image tdX11_image_k0 = true := by decide +kernel
def tdX11_image_k26 : List dkR := [(26, .getfield 188, 3), (29, .iconst 1, 1), (30, .iadd, 1), (31, .putfield 188, 3), (34, .aload_n 0, 1), (35, .getfield 188, 3), (38, .ireturn, 1)]
theorem tkX11_image_k26 : dkC cX11_image tdX11_image_k26 = true := by decide +kernel
def tdX11_restore_k0 : List dkR := [(0, .aload_n 0, 1), (1, .iconst 0, 1), (2, .putfield 3, 3), (5, .aload_n 0, 1), (6, .getfield 188, 3), (9, .ifCond .ne 5, 3), (12, .iconst (-1), 1), (13, .ireturn, 1), (14, .aload_n 0, 1), (15, .dup, 1), (16, .getfield 188, 3), (19, .iconst 1, 1), (20, .isub, 1), (21, .putfield 188, 3), (24, .aload_n 0, 1), (25, .aload_n 0, 1)]
theorem tkX11_restore_k0 : dkC cX11_restore tdX11_restore_k0 = true := by decide +kernel
def tdX11_restore_k26 : List dkR := [(26, .getfield 188, 3), (29, .iconst 0, 1), (30, .invokevirtual 464, 3), (33, .aload_n 0, 1), (34, .iconst 0, 1), (35, .putfield 191, 3), (38, .aload_n 0, 1), (39, .getfield 188, 3), (42, .ireturn, 1)]
theorem tkX11_restore_k26 : dkC cX11_restore tdX11_restore_k26 = true := by decide +kernel
def tdX11_status_k0 : List dkR := [(0, .aload_n 0, 1), (1, .iconst 0, 1), (2, .putfield 3, 3), (5, .iload_n 1, 1), (6, .iconst 0, 1), (7, .iconst 1, 1), (8, .invokestatic 390, 3), (11, .ifCond .eq 12, 3), (14, .aload_n 0, 1), (15, .getfield 7, 3), (18, .iload_n 1, 1), (19, .iaload, 1), (20, .goto 4, 3), (23, .iconst (-1), 1), (24, .ireturn, 1)]
theorem tkX11_status_k0 : dkC cX11_status tdX11_status_k0 = true := by decide +kernel
def tdX11_count_k0 : List dkR := [(0, .aload_n 0, 1), (1, .iconst 0, 1), (2, .putfield 3, 3), (5, .iload_n 1, 1), (6, .ifCond .ne 10, 3), (9, .aload_n 0, 1), (10, .getfield 188, 3), (13, .goto 28, 3), (16, .iload_n 1, 1), (17, .iconst 1, 1), (18, .if_icmp .ne 10, 3), (21, .aload_n 0, 1), (22, .getfield 111, 3), (25, .goto 16, 3), (28, .iload_n 1, 1), (29, .iconst 2, 1)]
theorem tkX11_count_k0 : dkC cX11_count tdX11_count_k0 = true := by decide +kernel
def tdX11_count_k30 : List dkR := [(30, .if_icmp .ne 10, 3), (33, .aload_n 0, 1), (34, .getfield 185, 3), (37, .goto 4, 3), (40, .iconst (-1), 1), (41, .ireturn, 1)]
theorem tkX11_count_k30 : dkC cX11_count tdX11_count_k30 = true := by decide +kernel
def tdJ6_bitCount_0f7a4_k0 : List dkR := [(0, .iload_n 0, 1), (1, .iload_n 0, 1), (2, .iconst 1, 1), (3, .iushr, 1), (4, .ldc_w 265, 3), (7, .iand, 1), (8, .isub, 1), (9, .istore_n 0, 1), (10, .iload_n 0, 1), (11, .ldc_w 266, 3), (14, .iand, 1), (15, .iload_n 0, 1), (16, .iconst 2, 1), (17, .iushr, 1), (18, .ldc_w 266, 3), (21, .iand, 1)]
theorem tkJ6_bitCount_0f7a4_k0 : dkC cJ6_bitCount_0f7a4 tdJ6_bitCount_0f7a4_k0 = true := by decide +kernel
def tdJ6_bitCount_0f7a4_k22 : List dkR := [(22, .iadd, 1), (23, .istore_n 0, 1), (24, .iload_n 0, 1), (25, .iload_n 0, 1), (26, .iconst 4, 1), (27, .iushr, 1), (28, .iadd, 1), (29, .ldc_w 267, 3), (32, .iand, 1), (33, .istore_n 0, 1), (34, .iload_n 0, 1), (35, .iload_n 0, 1), (36, .bipush 8, 2), (38, .iushr, 1), (39, .iadd, 1), (40, .istore_n 0, 1)]
theorem tkJ6_bitCount_0f7a4_k22 : dkC cJ6_bitCount_0f7a4 tdJ6_bitCount_0f7a4_k22 = true := by decide +kernel
def tdJ6_bitCount_0f7a4_k41 : List dkR := [(41, .iload_n 0, 1), (42, .iload_n 0, 1), (43, .bipush 16, 2), (45, .iushr, 1), (46, .iadd, 1), (47, .istore_n 0, 1), (48, .iload_n 0, 1), (49, .bipush 63, 2), (51, .iand, 1), (52, .ireturn, 1)]
theorem tkJ6_bitCount_0f7a4_k41 : dkC cJ6_bitCount_0f7a4 tdJ6_bitCount_0f7a4_k41 = true := by decide +kernel
def tdJ0_length_8abf5_k0 : List dkR := [(0, .aload_n 0, 1), (1, .getfield 9, 3), (4, .arraylength, 1), (5, .aload_n 0, 1), (6, .invokevirtual 335, 3), (9, .ishr, 1), (10, .ireturn, 1)]
theorem tkJ0_length_8abf5_k0 : dkC cJ0_length_8abf5 tdJ0_length_8abf5_k0 = true := by decide +kernel
def tdJ0_charAt_5068e_k0 : List dkR := [(0, .aload_n 0, 1), (1, .invokevirtual 492, 3), (4, .ifCond .eq 12, 3), (7, .aload_n 0, 1), (8, .getfield 9, 3), (11, .iload_n 1, 1), (12, .invokestatic 495, 3), (15, .ireturn, 1), (16, .aload_n 0, 1), (17, .getfield 9, 3), (20, .iload_n 1, 1), (21, .invokestatic 498, 3), (24, .ireturn, 1)]
theorem tkJ0_charAt_5068e_k0 : dkC cJ0_charAt_5068e tdJ0_charAt_5068e_k0 = true := by decide +kernel
def tdJ0_coder_7d493_k0 : List dkR := [(0, .getstatic 38, 3), (3, .ifCond .eq 10, 3), (6, .aload_n 0, 1), (7, .getfield 15, 3), (10, .goto 4, 3), (13, .iconst 1, 1), (14, .ireturn, 1)]
theorem tkJ0_coder_7d493_k0 : dkC cJ0_coder_7d493 tdJ0_coder_7d493_k0 = true := by decide +kernel
def tdJ0_isLatin1_aae02_k0 : List dkR := [(0, .getstatic 38, 3), (3, .ifCond .eq 14, 3), (6, .aload_n 0, 1), (7, .getfield 15, 3), (10, .ifCond .ne 7, 3), (13, .iconst 1, 1), (14, .goto 4, 3), (17, .iconst 0, 1), (18, .ireturn, 1)]
theorem tkJ0_isLatin1_aae02_k0 : dkC cJ0_isLatin1_aae02 tdJ0_isLatin1_aae02_k0 = true := by decide +kernel
def tdJ0_checkIndex_df160_k0 : List dkR := [(0, .iload_n 0, 1), (1, .iload_n 1, 1), (2, .getstatic 1053, 3), (5, .invokestatic 1059, 3), (8, .pop, 1), (9, .return_, 1)]
theorem tkJ0_checkIndex_df160_k0 : dkC cJ0_checkIndex_df160 tdJ0_checkIndex_df160_k0 = true := by decide +kernel
def tdJ1_charAt_3b067_k0 : List dkR := [(0, .iload_n 1, 1), (1, .aload_n 0, 1), (2, .arraylength, 1), (3, .invokestatic 9, 3), (6, .aload_n 0, 1), (7, .iload_n 1, 1), (8, .baload, 1), (9, .sipush 255, 3), (12, .iand, 1), (13, .i2c, 1), (14, .ireturn, 1)]
theorem tkJ1_charAt_3b067_k0 : dkC cJ1_charAt_3b067 tdJ1_charAt_3b067_k0 = true := by decide +kernel
def tdJ3_checkIndex_8e157_k0 : List dkR := [(0, .iload_n 0, 1), (1, .ifCond .lt 8, 3), (4, .iload_n 0, 1), (5, .iload_n 1, 1), (6, .if_icmp .lt 10, 3), (9, .aload_n 2, 1), (10, .iload_n 0, 1), (11, .iload_n 1, 1), (12, .invokestatic 95, 3), (15, .athrow, 1), (16, .iload_n 0, 1), (17, .ireturn, 1)]
theorem tkJ3_checkIndex_8e157_k0 : dkC cJ3_checkIndex_8e157 tdJ3_checkIndex_8e157_k0 = true := by decide +kernel
def tdL_down_k0 : List dkR := [(0, .aload_n 2, 1), (1, .iconst 0, 1), (2, .aload_n 0, 1), (3, .iload_n 1, 1), (4, .invokevirtual 7, 3), (7, .i2l, 1), (8, .lastore, 1), (9, .goto 6, 3), (12, .astore_n 3, 1), (13, .iconst 1, 1), (14, .ireturn, 1), (15, .iconst 0, 1), (16, .ireturn, 1)]
theorem tkL_down_k0 : dkC cL_down tdL_down_k0 = true := by decide +kernel
def tdL_law_k0 : List dkR := [(0, .aload_n 2, 1), (1, .iconst 0, 1), (2, .aload_n 0, 1), (3, .iload_n 1, 1), (4, .invokevirtual 15, 3), (7, .i2l, 1), (8, .lastore, 1), (9, .goto 6, 3), (12, .astore_n 3, 1), (13, .iconst 1, 1), (14, .ireturn, 1), (15, .iconst 0, 1), (16, .ireturn, 1)]
theorem tkL_law_k0 : dkC cL_law tdL_law_k0 = true := by decide +kernel
def tdL_work_k0 : List dkR := [(0, .aload_n 2, 1), (1, .iconst 0, 1), (2, .aload_n 0, 1), (3, .iload_n 1, 1), (4, .invokevirtual 18, 3), (7, .i2l, 1), (8, .lastore, 1), (9, .goto 6, 3), (12, .astore_n 3, 1), (13, .iconst 1, 1), (14, .ireturn, 1), (15, .iconst 0, 1), (16, .ireturn, 1)]
theorem tkL_work_k0 : dkC cL_work tdL_work_k0 = true := by decide +kernel
def tdL_book_k0 : List dkR := [(0, .aload_n 2, 1), (1, .iconst 0, 1), (2, .aload_n 0, 1), (3, .iload_n 1, 1), (4, .invokevirtual 21, 3), (7, .i2l, 1), (8, .lastore, 1), (9, .goto 6, 3), (12, .astore_n 3, 1), (13, .iconst 1, 1), (14, .ireturn, 1), (15, .iconst 0, 1), (16, .ireturn, 1)]
theorem tkL_book_k0 : dkC cL_book tdL_book_k0 = true := by decide +kernel
def tdL_told_k0 : List dkR := [(0, .aload_n 2, 1), (1, .iconst 0, 1), (2, .aload_n 0, 1), (3, .iload_n 1, 1), (4, .invokevirtual 24, 3), (7, .i2l, 1), (8, .lastore, 1), (9, .goto 6, 3), (12, .astore_n 3, 1), (13, .iconst 1, 1), (14, .ireturn, 1), (15, .iconst 0, 1), (16, .ireturn, 1)]
theorem tkL_told_k0 : dkC cL_told tdL_told_k0 = true := by decide +kernel
def tdL_form_k0 : List dkR := [(0, .aload_n 3, 1), (1, .iconst 0, 1), (2, .aload_n 0, 1), (3, .iload_n 1, 1), (4, .iload_n 2, 1), (5, .invokevirtual 27, 3), (8, .i2l, 1), (9, .lastore, 1), (10, .goto 11, 3), (13, .astore 4, 2), (15, .iconst 1, 1), (16, .ireturn, 1), (17, .astore 4, 2), (19, .iconst 2, 1), (20, .ireturn, 1), (21, .iconst 0, 1)]
theorem tkL_form_k0 : dkC cL_form tdL_form_k0 = true := by decide +kernel
def tdL_form_k22 : List dkR := [(22, .ireturn, 1)]
theorem tkL_form_k22 : dkC cL_form tdL_form_k22 = true := by decide +kernel
def tdL_hare_k0 : List dkR := [(0, .aload_n 3, 1), (1, .iconst 0, 1), (2, .aload_n 0, 1), (3, .iload_n 1, 1), (4, .iload_n 2, 1), (5, .invokevirtual 33, 3), (8, .i2l, 1), (9, .lastore, 1), (10, .goto 11, 3), (13, .astore 4, 2), (15, .iconst 1, 1), (16, .ireturn, 1), (17, .astore 4, 2), (19, .iconst 2, 1), (20, .ireturn, 1), (21, .iconst 0, 1)]
theorem tkL_hare_k0 : dkC cL_hare tdL_hare_k0 = true := by decide +kernel
def tdL_hare_k22 : List dkR := [(22, .ireturn, 1)]
theorem tkL_hare_k22 : dkC cL_hare tdL_hare_k22 = true := by decide +kernel
def tdL_fox_k0 : List dkR := [(0, .aload_n 3, 1), (1, .iconst 0, 1), (2, .aload_n 0, 1), (3, .iload_n 1, 1), (4, .iload_n 2, 1), (5, .invokevirtual 36, 3), (8, .i2l, 1), (9, .lastore, 1), (10, .goto 11, 3), (13, .astore 4, 2), (15, .iconst 1, 1), (16, .ireturn, 1), (17, .astore 4, 2), (19, .iconst 2, 1), (20, .ireturn, 1), (21, .iconst 0, 1)]
theorem tkL_fox_k0 : dkC cL_fox tdL_fox_k0 = true := by decide +kernel
def tdL_fox_k22 : List dkR := [(22, .ireturn, 1)]
theorem tkL_fox_k22 : dkC cL_fox tdL_fox_k22 = true := by decide +kernel
def tdL_debt_k0 : List dkR := [(0, .aload_n 3, 1), (1, .iconst 0, 1), (2, .aload_n 0, 1), (3, .iload_n 1, 1), (4, .iload_n 2, 1), (5, .invokevirtual 39, 3), (8, .i2l, 1), (9, .lastore, 1), (10, .goto 7, 3), (13, .astore 4, 2), (15, .iconst 1, 1), (16, .ireturn, 1), (17, .iconst 0, 1), (18, .ireturn, 1)]
theorem tkL_debt_k0 : dkC cL_debt tdL_debt_k0 = true := by decide +kernel
def tdL_far_k0 : List dkR := [(0, .aload_n 3, 1), (1, .iconst 0, 1), (2, .aload_n 0, 1), (3, .iload_n 1, 1), (4, .iload_n 2, 1), (5, .invokevirtual 42, 3), (8, .i2l, 1), (9, .lastore, 1), (10, .goto 7, 3), (13, .astore 4, 2), (15, .iconst 1, 1), (16, .ireturn, 1), (17, .iconst 0, 1), (18, .ireturn, 1)]
theorem tkL_far_k0 : dkC cL_far tdL_far_k0 = true := by decide +kernel
def tdL_would_k0 : List dkR := [(0, .aload 9, 2), (2, .iconst 0, 1), (3, .aload_n 0, 1), (4, .iload_n 1, 1), (5, .iload_n 2, 1), (6, .iload_n 3, 1), (7, .iload 4, 2), (9, .iload 5, 2), (11, .iload 6, 2), (13, .iload 7, 2), (15, .iload 8, 2), (17, .invokevirtual 45, 3), (20, .i2l, 1), (21, .lastore, 1), (22, .goto 7, 3), (25, .astore 10, 2)]
theorem tkL_would_k0 : dkC cL_would tdL_would_k0 = true := by decide +kernel
def tdL_would_k27 : List dkR := [(27, .iconst 1, 1), (28, .ireturn, 1), (29, .iconst 0, 1), (30, .ireturn, 1)]
theorem tkL_would_k27 : dkC cL_would tdL_would_k27 = true := by decide +kernel
def tdL_can_k0 : List dkR := [(0, .aload_n 3, 1), (1, .iconst 0, 1), (2, .aload_n 0, 1), (3, .iload_n 1, 1), (4, .iload_n 2, 1), (5, .invokevirtual 49, 3), (8, .ifCond .eq 7, 3), (11, .lconst 1, 1), (12, .goto 4, 3), (15, .lconst 0, 1), (16, .lastore, 1), (17, .goto 7, 3), (20, .astore 4, 2), (22, .iconst 1, 1), (23, .ireturn, 1), (24, .iconst 0, 1)]
theorem tkL_can_k0 : dkC cL_can tdL_can_k0 = true := by decide +kernel
def tdL_can_k25 : List dkR := [(25, .ireturn, 1)]
theorem tkL_can_k25 : dkC cL_can tdL_can_k25 = true := by decide +kernel
def tdL_ahead_k0 : List dkR := [(0, .aload_n 3, 1), (1, .iconst 0, 1), (2, .aload_n 0, 1), (3, .iload_n 1, 1), (4, .iload_n 2, 1), (5, .invokevirtual 53, 3), (8, .i2l, 1), (9, .lastore, 1), (10, .goto 7, 3), (13, .astore 4, 2), (15, .iconst 1, 1), (16, .ireturn, 1), (17, .iconst 0, 1), (18, .ireturn, 1)]
theorem tkL_ahead_k0 : dkC cL_ahead tdL_ahead_k0 = true := by decide +kernel
def tdL_hops_k0 : List dkR := [(0, .aload_n 3, 1), (1, .iconst 0, 1), (2, .aload_n 0, 1), (3, .iload_n 1, 1), (4, .iload_n 2, 1), (5, .invokevirtual 56, 3), (8, .i2l, 1), (9, .lastore, 1), (10, .goto 7, 3), (13, .astore 4, 2), (15, .iconst 1, 1), (16, .ireturn, 1), (17, .iconst 0, 1), (18, .ireturn, 1)]
theorem tkL_hops_k0 : dkC cL_hops tdL_hops_k0 = true := by decide +kernel
def tdL_seat_k0 : List dkR := [(0, .aload_n 2, 1), (1, .iconst 0, 1), (2, .aload_n 0, 1), (3, .iload_n 1, 1), (4, .invokevirtual 59, 3), (7, .i2l, 1), (8, .lastore, 1), (9, .goto 6, 3), (12, .astore_n 3, 1), (13, .iconst 1, 1), (14, .ireturn, 1), (15, .iconst 0, 1), (16, .ireturn, 1)]
theorem tkL_seat_k0 : dkC cL_seat tdL_seat_k0 = true := by decide +kernel
def tdL_ringed_k0 : List dkR := [(0, .aload_n 2, 1), (1, .iconst 0, 1), (2, .aload_n 0, 1), (3, .iload_n 1, 1), (4, .invokevirtual 62, 3), (7, .i2l, 1), (8, .lastore, 1), (9, .goto 6, 3), (12, .astore_n 3, 1), (13, .iconst 1, 1), (14, .ireturn, 1), (15, .iconst 0, 1), (16, .ireturn, 1)]
theorem tkL_ringed_k0 : dkC cL_ringed tdL_ringed_k0 = true := by decide +kernel
def tdL_bouts_k0 : List dkR := [(0, .aload_n 2, 1), (1, .iconst 0, 1), (2, .aload_n 0, 1), (3, .iload_n 1, 1), (4, .invokevirtual 65, 3), (7, .i2l, 1), (8, .lastore, 1), (9, .goto 6, 3), (12, .astore_n 3, 1), (13, .iconst 1, 1), (14, .ireturn, 1), (15, .iconst 0, 1), (16, .ireturn, 1)]
theorem tkL_bouts_k0 : dkC cL_bouts tdL_bouts_k0 = true := by decide +kernel
def tdL_fits_k0 : List dkR := [(0, .aload_n 2, 1), (1, .iconst 0, 1), (2, .aload_n 0, 1), (3, .iload_n 1, 1), (4, .invokevirtual 68, 3), (7, .i2l, 1), (8, .lastore, 1), (9, .goto 6, 3), (12, .astore_n 3, 1), (13, .iconst 1, 1), (14, .ireturn, 1), (15, .iconst 0, 1), (16, .ireturn, 1)]
theorem tkL_fits_k0 : dkC cL_fits tdL_fits_k0 = true := by decide +kernel
def tdL_look_k0 : List dkR := [(0, .aload_n 2, 1), (1, .iconst 0, 1), (2, .aload_n 0, 1), (3, .iload_n 1, 1), (4, .invokevirtual 71, 3), (7, .i2l, 1), (8, .lastore, 1), (9, .goto 6, 3), (12, .astore_n 3, 1), (13, .iconst 1, 1), (14, .ireturn, 1), (15, .iconst 0, 1), (16, .ireturn, 1)]
theorem tkL_look_k0 : dkC cL_look tdL_look_k0 = true := by decide +kernel
def tdL_watch_k0 : List dkR := [(0, .aload_n 2, 1), (1, .iconst 0, 1), (2, .aload_n 0, 1), (3, .iload_n 1, 1), (4, .invokevirtual 74, 3), (7, .i2l, 1), (8, .lastore, 1), (9, .goto 6, 3), (12, .astore_n 3, 1), (13, .iconst 1, 1), (14, .ireturn, 1), (15, .iconst 0, 1), (16, .ireturn, 1)]
theorem tkL_watch_k0 : dkC cL_watch tdL_watch_k0 = true := by decide +kernel
def tdL_few_k0 : List dkR := [(0, .aload 5, 2), (2, .iconst 0, 1), (3, .aload_n 0, 1), (4, .iload_n 1, 1), (5, .iload_n 2, 1), (6, .iload_n 3, 1), (7, .iload 4, 2), (9, .invokevirtual 77, 3), (12, .lastore, 1), (13, .goto 7, 3), (16, .astore 6, 2), (18, .iconst 1, 1), (19, .ireturn, 1), (20, .iconst 0, 1), (21, .ireturn, 1)]
theorem tkL_few_k0 : dkC cL_few tdL_few_k0 = true := by decide +kernel
def tdL_road_k0 : List dkR := [(0, .aload 4, 2), (2, .iconst 0, 1), (3, .aload_n 0, 1), (4, .iload_n 1, 1), (5, .iload_n 2, 1), (6, .iload_n 3, 1), (7, .invokevirtual 81, 3), (10, .i2l, 1), (11, .lastore, 1), (12, .goto 7, 3), (15, .astore 5, 2), (17, .iconst 1, 1), (18, .ireturn, 1), (19, .iconst 0, 1), (20, .ireturn, 1)]
theorem tkL_road_k0 : dkC cL_road tdL_road_k0 = true := by decide +kernel
def tdL_clover_k0 : List dkR := [(0, .aload 4, 2), (2, .iconst 0, 1), (3, .aload_n 0, 1), (4, .iload_n 1, 1), (5, .iload_n 2, 1), (6, .iload_n 3, 1), (7, .invokevirtual 85, 3), (10, .i2l, 1), (11, .lastore, 1), (12, .goto 11, 3), (15, .astore 5, 2), (17, .iconst 1, 1), (18, .ireturn, 1), (19, .astore 5, 2), (21, .iconst 2, 1), (22, .ireturn, 1)]
theorem tkL_clover_k0 : dkC cL_clover tdL_clover_k0 = true := by decide +kernel
def tdL_clover_k23 : List dkR := [(23, .iconst 0, 1), (24, .ireturn, 1)]
theorem tkL_clover_k23 : dkC cL_clover tdL_clover_k23 = true := by decide +kernel
def tdL_strongest_k0 : List dkR := [(0, .aload_n 2, 1), (1, .iconst 0, 1), (2, .aload_n 0, 1), (3, .iload_n 1, 1), (4, .invokevirtual 88, 3), (7, .i2l, 1), (8, .lastore, 1), (9, .goto 6, 3), (12, .astore_n 3, 1), (13, .iconst 1, 1), (14, .ireturn, 1), (15, .iconst 0, 1), (16, .ireturn, 1)]
theorem tkL_strongest_k0 : dkC cL_strongest tdL_strongest_k0 = true := by decide +kernel
def tdL_ties_k0 : List dkR := [(0, .aload_n 3, 1), (1, .iconst 0, 1), (2, .aload_n 0, 1), (3, .iload_n 1, 1), (4, .iload_n 2, 1), (5, .invokevirtual 91, 3), (8, .i2l, 1), (9, .lastore, 1), (10, .goto 11, 3), (13, .astore 4, 2), (15, .iconst 1, 1), (16, .ireturn, 1), (17, .astore 4, 2), (19, .iconst 2, 1), (20, .ireturn, 1), (21, .iconst 0, 1)]
theorem tkL_ties_k0 : dkC cL_ties tdL_ties_k0 = true := by decide +kernel
def tdL_ties_k22 : List dkR := [(22, .ireturn, 1)]
theorem tkL_ties_k22 : dkC cL_ties tdL_ties_k22 = true := by decide +kernel
def tdL_refuge_k0 : List dkR := [(0, .aload_n 3, 1), (1, .iconst 0, 1), (2, .aload_n 0, 1), (3, .iload_n 1, 1), (4, .iload_n 2, 1), (5, .invokevirtual 94, 3), (8, .i2l, 1), (9, .lastore, 1), (10, .goto 11, 3), (13, .astore 4, 2), (15, .iconst 1, 1), (16, .ireturn, 1), (17, .astore 4, 2), (19, .iconst 2, 1), (20, .ireturn, 1), (21, .iconst 0, 1)]
theorem tkL_refuge_k0 : dkC cL_refuge tdL_refuge_k0 = true := by decide +kernel
def tdL_refuge_k22 : List dkR := [(22, .ireturn, 1)]
theorem tkL_refuge_k22 : dkC cL_refuge tdL_refuge_k22 = true := by decide +kernel
def tdL_range_k0 : List dkR := [(0, .aload_n 2, 1), (1, .iconst 0, 1), (2, .aload_n 0, 1), (3, .iload_n 1, 1), (4, .invokevirtual 97, 3), (7, .i2l, 1), (8, .lastore, 1), (9, .goto 6, 3), (12, .astore_n 3, 1), (13, .iconst 1, 1), (14, .ireturn, 1), (15, .iconst 0, 1), (16, .ireturn, 1)]
theorem tkL_range_k0 : dkC cL_range tdL_range_k0 = true := by decide +kernel
def tdL_march_k0 : List dkR := [(0, .aload 4, 2), (2, .iconst 0, 1), (3, .aload_n 0, 1), (4, .iload_n 1, 1), (5, .iload_n 2, 1), (6, .iload_n 3, 1), (7, .invokevirtual 100, 3), (10, .i2l, 1), (11, .lastore, 1), (12, .goto 7, 3), (15, .astore 5, 2), (17, .iconst 1, 1), (18, .ireturn, 1), (19, .iconst 0, 1), (20, .ireturn, 1)]
theorem tkL_march_k0 : dkC cL_march tdL_march_k0 = true := by decide +kernel
def tdL_span_k0 : List dkR := [(0, .aload 6, 2), (2, .iconst 0, 1), (3, .aload_n 0, 1), (4, .iload_n 1, 1), (5, .iload_n 2, 1), (6, .iload_n 3, 1), (7, .iload 4, 2), (9, .iload 5, 2), (11, .invokevirtual 103, 3), (14, .i2l, 1), (15, .lastore, 1), (16, .goto 7, 3), (19, .astore 7, 2), (21, .iconst 1, 1), (22, .ireturn, 1), (23, .iconst 0, 1)]
theorem tkL_span_k0 : dkC cL_span tdL_span_k0 = true := by decide +kernel
def tdL_span_k24 : List dkR := [(24, .ireturn, 1)]
theorem tkL_span_k24 : dkC cL_span tdL_span_k24 = true := by decide +kernel
