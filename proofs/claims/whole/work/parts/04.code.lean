abbrev mm_E : Type := Instr × Nat × Nat × Nat × Int
/-- SamePassers$Film.<init>()V -/
def mm_c0 : List (Nat × mm_E) := [(0, .aload_n 0, 1, 0, 0, 0), (1, .invokespecial 3, 3, 0, 0, 4), (4, .aload_n 0, 1, 0, 0, 0), (5, .bipush 12, 2, 0, 0, 0), (7, .bipush 8, 2, 0, 0, 0), (9, .multianewarray 9 2, 4, 27, 0, 0), (13, .putfield 11, 3, 0, 0, 2), (16, .aload_n 0, 1, 0, 0, 0),
  (17, .bipush 10, 2, 0, 0, 0), (19, .newarray .int, 2, 0, 0, 0), (21, .putfield 16, 3, 0, 1, 2), (24, .aload_n 0, 1, 0, 0, 0), (25, .bipush 10, 2, 0, 0, 0), (27, .newarray .int, 2, 0, 0, 0), (29, .putfield 20, 3, 0, 2, 2), (32, .aload_n 0, 1, 0, 0, 0),
  (33, .bipush 10, 2, 0, 0, 0), (35, .newarray .int, 2, 0, 0, 0), (37, .putfield 23, 3, 0, 5, 2), (40, .return_, 1, 0, 0, 0)]
/-- SamePassers$Film.shoot(ILSamePassers$Walks;LSamePassers$Street;I)V -/
def mm_c1 : List (Nat × mm_E) := [(0, .iconst 0, 1, 0, 0, 0), (1, .istore 5, 2, 0, 0, 0), (3, .iload 5, 2, 0, 0, 0), (5, .aload_n 3, 1, 0, 0, 0), (6, .getfield 26, 3, 7, 10, 0), (9, .if_icmp .ge 26, 3, 35, 0, 0), (12, .aload_n 0, 1, 0, 0, 0), (13, .getfield 11, 3, 0, 0, 2),
  (16, .iload_n 1, 1, 0, 0, 0), (17, .aaload, 1, 0, 0, 0), (18, .iload 5, 2, 0, 0, 0), (20, .aload_n 2, 1, 0, 0, 0), (21, .iload 5, 2, 0, 0, 0), (23, .iload 4, 2, 0, 0, 0), (25, .invokevirtual 32, 3, 98, 3, 2), (28, .iastore, 1, 0, 0, 0),
  (29, .iinc 5 1, 3, 0, 0, 0), (32, .goto (-29), 3, 3, 0, 0), (35, .return_, 1, 0, 0, 0)]
/-- SamePassers$Film.allJumps(LSamePassers$Street;II)I -/
def mm_c2 : List (Nat × mm_E) := [(0, .iconst 0, 1, 0, 0, 0), (1, .istore 4, 2, 0, 0, 0), (3, .iconst 0, 1, 0, 0, 0), (4, .istore 5, 2, 0, 0, 0), (6, .iload 5, 2, 0, 0, 0), (8, .aload_n 1, 1, 0, 0, 0), (9, .getfield 26, 3, 7, 10, 0), (12, .if_icmp .ge 23, 3, 35, 0, 0),
  (15, .iload 4, 2, 0, 0, 0), (17, .aload_n 0, 1, 0, 0, 0), (18, .aload_n 1, 1, 0, 0, 0), (19, .iload 5, 2, 0, 0, 0), (21, .iload_n 2, 1, 0, 0, 0), (22, .iload_n 3, 1, 0, 0, 0), (23, .invokevirtual 41, 3, 3, 5, 2), (26, .iadd, 1, 0, 0, 0),
  (27, .istore 4, 2, 0, 0, 0), (29, .iinc 5 1, 3, 0, 0, 0), (32, .goto (-26), 3, 6, 0, 0), (35, .iload 4, 2, 0, 0, 0), (37, .ireturn, 1, 0, 0, 0)]
/-- SamePassers$Film.jumpOf(LSamePassers$Street;III)I -/
def mm_c3 : List (Nat × mm_E) := [(0, .aload_n 1, 1, 0, 0, 0), (1, .aload_n 0, 1, 0, 0, 0), (2, .getfield 11, 3, 0, 0, 2), (5, .iload_n 3, 1, 0, 0, 0), (6, .aaload, 1, 0, 0, 0), (7, .iload_n 2, 1, 0, 0, 0), (8, .iaload, 1, 0, 0, 0), (9, .aload_n 0, 1, 0, 0, 0),
  (10, .getfield 11, 3, 0, 0, 2), (13, .iload 4, 2, 0, 0, 0), (15, .aaload, 1, 0, 0, 0), (16, .iload_n 2, 1, 0, 0, 0), (17, .iaload, 1, 0, 0, 0), (18, .invokevirtual 38, 3, 74, 3, 2), (21, .ireturn, 1, 0, 0, 0)]
/-- SamePassers$Film.findNext(LSamePassers$Papers;LSamePassers$Street;)I -/
def mm_c4 : List (Nat × mm_E) := [(0, .aload_n 0, 1, 0, 0, 0), (1, .aload_n 1, 1, 0, 0, 0), (2, .getfield 45, 3, 4, 3, 0), (5, .putfield 50, 3, 0, 3, 0), (8, .iconst 0, 1, 0, 0, 0), (9, .istore_n 3, 1, 0, 0, 0), (10, .iload_n 3, 1, 0, 0, 0), (11, .aload_n 0, 1, 0, 0, 0),
  (12, .getfield 50, 3, 0, 3, 0), (15, .if_icmp .ge 21, 3, 36, 0, 0), (18, .aload_n 0, 1, 0, 0, 0), (19, .getfield 16, 3, 0, 1, 2), (22, .iload_n 3, 1, 0, 0, 0), (23, .iload_n 3, 1, 0, 0, 0), (24, .aload_n 1, 1, 0, 0, 0), (25, .aload_n 2, 1, 0, 0, 0),
  (26, .invokestatic 53, 3, 5, 3, 0), (29, .iastore, 1, 0, 0, 0), (30, .iinc 3 1, 3, 0, 0, 0), (33, .goto (-23), 3, 10, 0, 0), (36, .iconst 1, 1, 0, 0, 0), (37, .aload_n 0, 1, 0, 0, 0), (38, .getfield 50, 3, 0, 3, 0), (41, .ishl, 1, 0, 0, 0),
  (42, .iconst 1, 1, 0, 0, 0), (43, .isub, 1, 0, 0, 0), (44, .istore_n 3, 1, 0, 0, 0), (45, .aload_n 0, 1, 0, 0, 0), (46, .iconst 0, 1, 0, 0, 0), (47, .iload_n 3, 1, 0, 0, 0), (48, .invokevirtual 57, 3, 7, 3, 2), (51, .istore 4, 2, 0, 0, 0),
  (53, .iconst 0, 1, 0, 0, 0), (54, .istore 5, 2, 0, 0, 0), (56, .iconst 0, 1, 0, 0, 0), (57, .istore 6, 2, 0, 0, 0), (59, .iload 6, 2, 0, 0, 0), (61, .aload_n 0, 1, 0, 0, 0), (62, .getfield 50, 3, 0, 3, 0), (65, .if_icmp .ge 138, 3, 203, 0, 0),
  (68, .aload_n 0, 1, 0, 0, 0), (69, .getfield 23, 3, 0, 5, 2), (72, .iload 6, 2, 0, 0, 0), (74, .iconst (-1), 1, 0, 0, 0), (75, .iastore, 1, 0, 0, 0), (76, .iconst 0, 1, 0, 0, 0), (77, .istore 7, 2, 0, 0, 0), (79, .iload 7, 2, 0, 0, 0),
  (81, .aload_n 0, 1, 0, 0, 0), (82, .getfield 50, 3, 0, 3, 0), (85, .if_icmp .ge 84, 3, 169, 0, 0), (88, .aload_n 0, 1, 0, 0, 0), (89, .getfield 23, 3, 0, 5, 2), (92, .iload 6, 2, 0, 0, 0), (94, .iaload, 1, 0, 0, 0), (95, .iconst (-1), 1, 0, 0, 0),
  (96, .if_icmp .ne 73, 3, 169, 0, 0), (99, .aload_n 0, 1, 0, 0, 0), (100, .getfield 16, 3, 0, 1, 2), (103, .iload 6, 2, 0, 0, 0), (105, .iaload, 1, 0, 0, 0), (106, .iload_n 3, 1, 0, 0, 0), (107, .iand, 1, 0, 0, 0), (108, .iconst 1, 1, 0, 0, 0),
  (109, .iload 7, 2, 0, 0, 0), (111, .ishl, 1, 0, 0, 0), (112, .iand, 1, 0, 0, 0), (113, .ifCond .eq 7, 3, 120, 0, 0), (116, .iconst 1, 1, 0, 0, 0), (117, .goto 4, 3, 121, 0, 0), (120, .iconst 0, 1, 0, 0, 0), (121, .istore 8, 2, 0, 0, 0),
  (123, .iload 8, 2, 0, 0, 0), (125, .ifCond .eq 38, 3, 163, 0, 0), (128, .iload 5, 2, 0, 0, 0), (130, .iconst 1, 1, 0, 0, 0), (131, .iadd, 1, 0, 0, 0), (132, .aload_n 0, 1, 0, 0, 0), (133, .iload 6, 2, 0, 0, 0), (135, .iconst 1, 1, 0, 0, 0),
  (136, .iadd, 1, 0, 0, 0), (137, .iload_n 3, 1, 0, 0, 0), (138, .iconst 1, 1, 0, 0, 0), (139, .iload 7, 2, 0, 0, 0), (141, .ishl, 1, 0, 0, 0), (142, .iconst (-1), 1, 0, 0, 0), (143, .ixor, 1, 0, 0, 0), (144, .iand, 1, 0, 0, 0),
  (145, .invokevirtual 57, 3, 7, 3, 2), (148, .iadd, 1, 0, 0, 0), (149, .iload 4, 2, 0, 0, 0), (151, .if_icmp .ne 12, 3, 163, 0, 0), (154, .aload_n 0, 1, 0, 0, 0), (155, .getfield 23, 3, 0, 5, 2), (158, .iload 6, 2, 0, 0, 0), (160, .iload 7, 2, 0, 0, 0),
  (162, .iastore, 1, 0, 0, 0), (163, .iinc 7 1, 3, 0, 0, 0), (166, .goto (-87), 3, 79, 0, 0), (169, .aload_n 0, 1, 0, 0, 0), (170, .getfield 23, 3, 0, 5, 2), (173, .iload 6, 2, 0, 0, 0), (175, .iaload, 1, 0, 0, 0), (176, .iconst (-1), 1, 0, 0, 0),
  (177, .if_icmp .eq 20, 3, 197, 0, 0), (180, .iload_n 3, 1, 0, 0, 0), (181, .iconst 1, 1, 0, 0, 0), (182, .aload_n 0, 1, 0, 0, 0), (183, .getfield 23, 3, 0, 5, 2), (186, .iload 6, 2, 0, 0, 0), (188, .iaload, 1, 0, 0, 0), (189, .ishl, 1, 0, 0, 0),
  (190, .iconst (-1), 1, 0, 0, 0), (191, .ixor, 1, 0, 0, 0), (192, .iand, 1, 0, 0, 0), (193, .istore_n 3, 1, 0, 0, 0), (194, .iinc 5 1, 3, 0, 0, 0), (197, .iinc 6 1, 3, 0, 0, 0), (200, .goto (-141), 3, 59, 0, 0), (203, .iload 4, 2, 0, 0, 0),
  (205, .ireturn, 1, 0, 0, 0)]
/-- SamePassers$Film.followersOf(ILSamePassers$Papers;LSamePassers$Street;)I -/
def mm_c5 : List (Nat × mm_E) := [(0, .iconst 0, 1, 0, 0, 0), (1, .istore_n 3, 1, 0, 0, 0), (2, .iconst 0, 1, 0, 0, 0), (3, .istore 4, 2, 0, 0, 0), (5, .iload 4, 2, 0, 0, 0), (7, .aload_n 1, 1, 0, 0, 0), (8, .getfield 45, 3, 4, 3, 0), (11, .if_icmp .ge 138, 3, 149, 0, 0),
  (14, .aload_n 1, 1, 0, 0, 0), (15, .getfield 60, 3, 4, 5, 2), (18, .iload 4, 2, 0, 0, 0), (20, .iaload, 1, 0, 0, 0), (21, .aload_n 1, 1, 0, 0, 0), (22, .getfield 60, 3, 4, 5, 2), (25, .iload_n 0, 1, 0, 0, 0), (26, .iaload, 1, 0, 0, 0),
  (27, .isub, 1, 0, 0, 0), (28, .istore 5, 2, 0, 0, 0), (30, .aload_n 1, 1, 0, 0, 0), (31, .getfield 63, 3, 4, 6, 2), (34, .iload_n 0, 1, 0, 0, 0), (35, .iaload, 1, 0, 0, 0), (36, .iconst 1, 1, 0, 0, 0), (37, .if_icmp .ne 8, 3, 45, 0, 0),
  (40, .iload 5, 2, 0, 0, 0), (42, .goto 6, 3, 48, 0, 0), (45, .iload 5, 2, 0, 0, 0), (47, .ineg, 1, 0, 0, 0), (48, .istore 6, 2, 0, 0, 0), (50, .aload_n 1, 1, 0, 0, 0), (51, .getfield 66, 3, 4, 4, 2), (54, .iload 4, 2, 0, 0, 0),
  (56, .iaload, 1, 0, 0, 0), (57, .aload_n 1, 1, 0, 0, 0), (58, .getfield 66, 3, 4, 4, 2), (61, .iload_n 0, 1, 0, 0, 0), (62, .iaload, 1, 0, 0, 0), (63, .isub, 1, 0, 0, 0), (64, .istore 7, 2, 0, 0, 0), (66, .aload_n 1, 1, 0, 0, 0),
  (67, .getfield 63, 3, 4, 6, 2), (70, .iload 4, 2, 0, 0, 0), (72, .iaload, 1, 0, 0, 0), (73, .aload_n 1, 1, 0, 0, 0), (74, .getfield 63, 3, 4, 6, 2), (77, .iload_n 0, 1, 0, 0, 0), (78, .iaload, 1, 0, 0, 0), (79, .if_icmp .ne 7, 3, 86, 0, 0),
  (82, .iconst 1, 1, 0, 0, 0), (83, .goto 4, 3, 87, 0, 0), (86, .iconst 0, 1, 0, 0, 0), (87, .istore 8, 2, 0, 0, 0), (89, .iload 6, 2, 0, 0, 0), (91, .iload 7, 2, 0, 0, 0), (93, .invokestatic 69, 3, 6, 2, 0), (96, .ifCond .ne 23, 3, 119, 0, 0),
  (99, .iload 6, 2, 0, 0, 0), (101, .aload_n 2, 1, 0, 0, 0), (102, .getfield 73, 3, 7, 0, 0), (105, .iadd, 1, 0, 0, 0), (106, .iload 7, 2, 0, 0, 0), (108, .aload_n 2, 1, 0, 0, 0), (109, .getfield 76, 3, 7, 5, 0), (112, .isub, 1, 0, 0, 0),
  (113, .invokestatic 69, 3, 6, 2, 0), (116, .ifCond .eq 7, 3, 123, 0, 0), (119, .iconst 1, 1, 0, 0, 0), (120, .goto 4, 3, 124, 0, 0), (123, .iconst 0, 1, 0, 0, 0), (124, .istore 9, 2, 0, 0, 0), (126, .iload 8, 2, 0, 0, 0), (128, .ifCond .eq 15, 3, 143, 0, 0),
  (131, .iload 9, 2, 0, 0, 0), (133, .ifCond .eq 10, 3, 143, 0, 0), (136, .iload_n 3, 1, 0, 0, 0), (137, .iconst 1, 1, 0, 0, 0), (138, .iload 4, 2, 0, 0, 0), (140, .ishl, 1, 0, 0, 0), (141, .ior, 1, 0, 0, 0), (142, .istore_n 3, 1, 0, 0, 0),
  (143, .iinc 4 1, 3, 0, 0, 0), (146, .goto (-141), 3, 5, 0, 0), (149, .iload_n 3, 1, 0, 0, 0), (150, .ireturn, 1, 0, 0, 0)]
/-- SamePassers$Film.canWalk(II)Z -/
def mm_c6 : List (Nat × mm_E) := [(0, .iload_n 0, 1, 0, 0, 0), (1, .iconst 1, 1, 0, 0, 0), (2, .if_icmp .lt 20, 3, 22, 0, 0), (5, .iload_n 1, 1, 0, 0, 0), (6, .iload_n 0, 1, 0, 0, 0), (7, .if_icmp .lt 15, 3, 22, 0, 0), (10, .iload_n 1, 1, 0, 0, 0), (11, .bipush 9, 2, 0, 0, 0),
  (13, .iload_n 0, 1, 0, 0, 0), (14, .imul, 1, 0, 0, 0), (15, .if_icmp .gt 7, 3, 22, 0, 0), (18, .iconst 1, 1, 0, 0, 0), (19, .goto 4, 3, 23, 0, 0), (22, .iconst 0, 1, 0, 0, 0), (23, .ireturn, 1, 0, 0, 0)]
/-- SamePassers$Film.mostPairs(II)I -/
def mm_c7 : List (Nat × mm_E) := [(0, .iconst 0, 1, 0, 0, 0), (1, .istore_n 3, 1, 0, 0, 0), (2, .aload_n 0, 1, 0, 0, 0), (3, .getfield 20, 3, 0, 2, 2), (6, .iconst (-1), 1, 0, 0, 0), (7, .invokestatic 79, 3, 280, 2, 1), (10, .iload_n 1, 1, 0, 0, 0), (11, .istore 4, 2, 0, 0, 0),
  (13, .iload 4, 2, 0, 0, 0), (15, .aload_n 0, 1, 0, 0, 0), (16, .getfield 50, 3, 0, 3, 0), (19, .if_icmp .ge 29, 3, 48, 0, 0), (22, .aload_n 0, 1, 0, 0, 0), (23, .iload_n 2, 1, 0, 0, 0), (24, .iconst (-1), 1, 0, 0, 0), (25, .ixor, 1, 0, 0, 0),
  (26, .putfield 85, 3, 0, 4, 0), (29, .aload_n 0, 1, 0, 0, 0), (30, .iload 4, 2, 0, 0, 0), (32, .iconst 0, 1, 0, 0, 0), (33, .invokevirtual 88, 3, 8, 3, 2), (36, .ifCond .eq 6, 3, 42, 0, 0), (39, .iinc 3 1, 3, 0, 0, 0), (42, .iinc 4 1, 3, 0, 0, 0),
  (45, .goto (-32), 3, 13, 0, 0), (48, .iload_n 3, 1, 0, 0, 0), (49, .ireturn, 1, 0, 0, 0)]
/-- SamePassers$Film.findPlace(II)Z -/
def mm_c8 : List (Nat × mm_E) := [(0, .iload_n 2, 1, 0, 0, 0), (1, .aload_n 0, 1, 0, 0, 0), (2, .getfield 50, 3, 0, 3, 0), (5, .if_icmp .le 5, 3, 10, 0, 0), (8, .iconst 0, 1, 0, 0, 0), (9, .ireturn, 1, 0, 0, 0), (10, .iconst 0, 1, 0, 0, 0), (11, .istore_n 3, 1, 0, 0, 0),
  (12, .iload_n 3, 1, 0, 0, 0), (13, .aload_n 0, 1, 0, 0, 0), (14, .getfield 50, 3, 0, 3, 0), (17, .if_icmp .ge 79, 3, 96, 0, 0), (20, .iconst 1, 1, 0, 0, 0), (21, .iload_n 3, 1, 0, 0, 0), (22, .ishl, 1, 0, 0, 0), (23, .istore 4, 2, 0, 0, 0),
  (25, .aload_n 0, 1, 0, 0, 0), (26, .getfield 16, 3, 0, 1, 2), (29, .iload_n 1, 1, 0, 0, 0), (30, .iaload, 1, 0, 0, 0), (31, .aload_n 0, 1, 0, 0, 0), (32, .getfield 85, 3, 0, 4, 0), (35, .iconst (-1), 1, 0, 0, 0), (36, .ixor, 1, 0, 0, 0),
  (37, .iand, 1, 0, 0, 0), (38, .iload 4, 2, 0, 0, 0), (40, .iand, 1, 0, 0, 0), (41, .ifCond .eq 49, 3, 90, 0, 0), (44, .aload_n 0, 1, 0, 0, 0), (45, .dup, 1, 0, 0, 0), (46, .getfield 85, 3, 0, 4, 0), (49, .iload 4, 2, 0, 0, 0),
  (51, .ior, 1, 0, 0, 0), (52, .putfield 85, 3, 0, 4, 0), (55, .aload_n 0, 1, 0, 0, 0), (56, .getfield 20, 3, 0, 2, 2), (59, .iload_n 3, 1, 0, 0, 0), (60, .iaload, 1, 0, 0, 0), (61, .iconst (-1), 1, 0, 0, 0), (62, .if_icmp .eq 19, 3, 81, 0, 0),
  (65, .aload_n 0, 1, 0, 0, 0), (66, .aload_n 0, 1, 0, 0, 0), (67, .getfield 20, 3, 0, 2, 2), (70, .iload_n 3, 1, 0, 0, 0), (71, .iaload, 1, 0, 0, 0), (72, .iload_n 2, 1, 0, 0, 0), (73, .iconst 1, 1, 0, 0, 0), (74, .iadd, 1, 0, 0, 0),
  (75, .invokevirtual 88, 3, 8, 3, 2), (78, .ifCond .eq 12, 3, 90, 0, 0), (81, .aload_n 0, 1, 0, 0, 0), (82, .getfield 20, 3, 0, 2, 2), (85, .iload_n 3, 1, 0, 0, 0), (86, .iload_n 1, 1, 0, 0, 0), (87, .iastore, 1, 0, 0, 0), (88, .iconst 1, 1, 0, 0, 0),
  (89, .ireturn, 1, 0, 0, 0), (90, .iinc 3 1, 3, 0, 0, 0), (93, .goto (-81), 3, 12, 0, 0), (96, .iconst 0, 1, 0, 0, 0), (97, .ireturn, 1, 0, 0, 0)]
/-- SamePassers$Hands.<init>()V -/
def mm_c9 : List (Nat × mm_E) := [(0, .aload_n 0, 1, 0, 0, 0), (1, .invokespecial 3, 3, 0, 0, 4), (4, .aload_n 0, 1, 0, 0, 0), (5, .bipush 8, 2, 0, 0, 0), (7, .newarray .int, 2, 0, 0, 0), (9, .putfield 9, 3, 1, 1, 2), (12, .aload_n 0, 1, 0, 0, 0), (13, .bipush 8, 2, 0, 0, 0),
  (15, .newarray .int, 2, 0, 0, 0), (17, .putfield 15, 3, 1, 2, 2), (20, .aload_n 0, 1, 0, 0, 0), (21, .bipush 8, 2, 0, 0, 0), (23, .newarray .int, 2, 0, 0, 0), (25, .putfield 18, 3, 1, 3, 2), (28, .return_, 1, 0, 0, 0)]
/-- SamePassers$Hands.asTold(LSamePassers$Street;)V -/
def mm_c10 : List (Nat × mm_E) := [(0, .aload_n 0, 1, 0, 0, 0), (1, .iconst 0, 1, 0, 0, 0), (2, .putfield 21, 3, 1, 0, 0), (5, .iconst 0, 1, 0, 0, 0), (6, .istore_n 2, 1, 0, 0, 0), (7, .iload_n 2, 1, 0, 0, 0), (8, .aload_n 1, 1, 0, 0, 0), (9, .getfield 25, 3, 7, 10, 0),
  (12, .if_icmp .ge 39, 3, 51, 0, 0), (15, .aload_n 0, 1, 0, 0, 0), (16, .getfield 9, 3, 1, 1, 2), (19, .iload_n 2, 1, 0, 0, 0), (20, .aload_n 1, 1, 0, 0, 0), (21, .getfield 30, 3, 7, 11, 2), (24, .iload_n 2, 1, 0, 0, 0), (25, .aaload, 1, 0, 0, 0),
  (26, .getfield 34, 3, 9, 3, 0), (29, .iastore, 1, 0, 0, 0), (30, .aload_n 0, 1, 0, 0, 0), (31, .getfield 15, 3, 1, 2, 2), (34, .iload_n 2, 1, 0, 0, 0), (35, .aload_n 1, 1, 0, 0, 0), (36, .getfield 30, 3, 7, 11, 2), (39, .iload_n 2, 1, 0, 0, 0),
  (40, .aaload, 1, 0, 0, 0), (41, .getfield 39, 3, 9, 4, 0), (44, .iastore, 1, 0, 0, 0), (45, .iinc 2 1, 3, 0, 0, 0), (48, .goto (-41), 3, 7, 0, 0), (51, .aload_n 0, 1, 0, 0, 0), (52, .getfield 18, 3, 1, 3, 2), (55, .iconst 0, 1, 0, 0, 0),
  (56, .invokestatic 42, 3, 280, 2, 1), (59, .return_, 1, 0, 0, 0)]
/-- SamePassers$Hands.copyFrom(LSamePassers$Hands;)V -/
def mm_c11 : List (Nat × mm_E) := [(0, .aload_n 0, 1, 0, 0, 0), (1, .aload_n 1, 1, 0, 0, 0), (2, .getfield 21, 3, 1, 0, 0), (5, .putfield 21, 3, 1, 0, 0), (8, .aload_n 1, 1, 0, 0, 0), (9, .getfield 9, 3, 1, 1, 2), (12, .iconst 0, 1, 0, 0, 0), (13, .aload_n 0, 1, 0, 0, 0),
  (14, .getfield 9, 3, 1, 1, 2), (17, .iconst 0, 1, 0, 0, 0), (18, .bipush 8, 2, 0, 0, 0), (20, .invokestatic 48, 3, 0, 0, 13), (23, .aload_n 1, 1, 0, 0, 0), (24, .getfield 15, 3, 1, 2, 2), (27, .iconst 0, 1, 0, 0, 0), (28, .aload_n 0, 1, 0, 0, 0),
  (29, .getfield 15, 3, 1, 2, 2), (32, .iconst 0, 1, 0, 0, 0), (33, .bipush 8, 2, 0, 0, 0), (35, .invokestatic 48, 3, 0, 0, 13), (38, .aload_n 1, 1, 0, 0, 0), (39, .getfield 18, 3, 1, 3, 2), (42, .iconst 0, 1, 0, 0, 0), (43, .aload_n 0, 1, 0, 0, 0),
  (44, .getfield 18, 3, 1, 3, 2), (47, .iconst 0, 1, 0, 0, 0), (48, .bipush 8, 2, 0, 0, 0), (50, .invokestatic 48, 3, 0, 0, 13), (53, .return_, 1, 0, 0, 0)]
/-- SamePassers$Hands.goOn()V -/
def mm_c12 : List (Nat × mm_E) := [(0, .aload_n 0, 1, 0, 0, 0), (1, .dup, 1, 0, 0, 0), (2, .getfield 21, 3, 1, 0, 0), (5, .iconst 1, 1, 0, 0, 0), (6, .iadd, 1, 0, 0, 0), (7, .putfield 21, 3, 1, 0, 0), (10, .aload_n 0, 1, 0, 0, 0), (11, .getfield 18, 3, 1, 3, 2),
  (14, .iconst 0, 1, 0, 0, 0), (15, .invokestatic 42, 3, 280, 2, 1), (18, .return_, 1, 0, 0, 0)]
/-- SamePassers$LagSearch.<init>(LSamePassers$Street;)V -/
def mm_c13 : List (Nat × mm_E) := [(0, .aload_n 0, 1, 0, 0, 0), (1, .invokespecial 5, 3, 0, 0, 4), (4, .aload_n 0, 1, 0, 0, 0), (5, .iconst 4, 1, 0, 0, 0), (6, .newarray .int, 2, 0, 0, 0), (8, .putfield 11, 3, 2, 0, 2), (11, .aload_n 0, 1, 0, 0, 0), (12, .iconst 4, 1, 0, 0, 0),
  (13, .sipush 601, 3, 0, 0, 0), (16, .multianewarray 15 2, 4, 27, 0, 0), (20, .putfield 17, 3, 2, 1, 2), (23, .aload_n 0, 1, 0, 0, 0), (24, .iconst 4, 1, 0, 0, 0), (25, .newarray .int, 2, 0, 0, 0), (27, .putfield 20, 3, 2, 2, 2), (30, .aload_n 0, 1, 0, 0, 0),
  (31, .sipush 384, 3, 0, 0, 0), (34, .newarray .int, 2, 0, 0, 0), (36, .putfield 23, 3, 2, 3, 2), (39, .aload_n 0, 1, 0, 0, 0), (40, .iconst 4, 1, 0, 0, 0), (41, .newarray .int, 2, 0, 0, 0), (43, .putfield 26, 3, 2, 4, 2), (46, .aload_n 0, 1, 0, 0, 0),
  (47, .iconst 4, 1, 0, 0, 0), (48, .newarray .int, 2, 0, 0, 0), (50, .putfield 29, 3, 2, 7, 2), (53, .aload_n 0, 1, 0, 0, 0), (54, .aload_n 1, 1, 0, 0, 0), (55, .putfield 32, 3, 2, 6, 2), (58, .return_, 1, 0, 0, 0)]
/-- SamePassers$LagSearch.find(LSamePassers$Street;LSamePassers$Walks;I)Z -/
def mm_c14 : List (Nat × mm_E) := [(0, .aload_n 0, 1, 0, 0, 0), (1, .aload_n 1, 1, 0, 0, 0), (2, .putfield 32, 3, 2, 6, 2), (5, .aload_n 0, 1, 0, 0, 0), (6, .iconst 0, 1, 0, 0, 0), (7, .putfield 36, 3, 2, 5, 0), (10, .iconst 0, 1, 0, 0, 0), (11, .istore 4, 2, 0, 0, 0),
  (13, .iload 4, 2, 0, 0, 0), (15, .aload_n 0, 1, 0, 0, 0), (16, .getfield 32, 3, 2, 6, 2), (19, .getfield 40, 3, 7, 10, 0), (22, .if_icmp .ge 73, 3, 95, 0, 0), (25, .aload_n 0, 1, 0, 0, 0), (26, .getfield 36, 3, 2, 5, 0), (29, .iconst 4, 1, 0, 0, 0),
  (30, .if_icmp .ge 65, 3, 95, 0, 0), (33, .iload_n 3, 1, 0, 0, 0), (34, .iload 4, 2, 0, 0, 0), (36, .ishr, 1, 0, 0, 0), (37, .iconst 1, 1, 0, 0, 0), (38, .iand, 1, 0, 0, 0), (39, .ifCond .eq 50, 3, 89, 0, 0), (42, .aload_n 0, 1, 0, 0, 0),
  (43, .getfield 11, 3, 2, 0, 2), (46, .aload_n 0, 1, 0, 0, 0), (47, .getfield 36, 3, 2, 5, 0), (50, .iload 4, 2, 0, 0, 0), (52, .iastore, 1, 0, 0, 0), (53, .aload_n 0, 1, 0, 0, 0), (54, .aload_n 0, 1, 0, 0, 0), (55, .getfield 36, 3, 2, 5, 0),
  (58, .aload_n 2, 1, 0, 0, 0), (59, .invokevirtual 45, 3, 15, 3, 2), (62, .aload_n 0, 1, 0, 0, 0), (63, .getfield 20, 3, 2, 2, 2), (66, .aload_n 0, 1, 0, 0, 0), (67, .getfield 36, 3, 2, 5, 0), (70, .aload_n 0, 1, 0, 0, 0), (71, .aload_n 0, 1, 0, 0, 0),
  (72, .getfield 36, 3, 2, 5, 0), (75, .invokevirtual 49, 3, 16, 2, 2), (78, .iastore, 1, 0, 0, 0), (79, .aload_n 0, 1, 0, 0, 0), (80, .dup, 1, 0, 0, 0), (81, .getfield 36, 3, 2, 5, 0), (84, .iconst 1, 1, 0, 0, 0), (85, .iadd, 1, 0, 0, 0),
  (86, .putfield 36, 3, 2, 5, 0), (89, .iinc 4 1, 3, 0, 0, 0), (92, .goto (-79), 3, 13, 0, 0), (95, .aload_n 0, 1, 0, 0, 0), (96, .invokevirtual 53, 3, 18, 1, 2), (99, .aload_n 0, 1, 0, 0, 0), (100, .bipush 96, 2, 0, 0, 0), (102, .putfield 56, 3, 2, 8, 0),
  (105, .aload_n 0, 1, 0, 0, 0), (106, .iconst 0, 1, 0, 0, 0), (107, .iconst 0, 1, 0, 0, 0), (108, .invokevirtual 59, 3, 22, 3, 2), (111, .aload_n 0, 1, 0, 0, 0), (112, .getfield 56, 3, 2, 8, 0), (115, .bipush 96, 2, 0, 0, 0), (117, .if_icmp .eq 7, 3, 124, 0, 0),
  (120, .iconst 1, 1, 0, 0, 0), (121, .goto 4, 3, 125, 0, 0), (124, .iconst 0, 1, 0, 0, 0), (125, .ireturn, 1, 0, 0, 0)]
/-- SamePassers$LagSearch.fillRow(ILSamePassers$Walks;)V -/
def mm_c15 : List (Nat × mm_E) := [(0, .aload_n 0, 1, 0, 0, 0), (1, .getfield 11, 3, 2, 0, 2), (4, .iload_n 1, 1, 0, 0, 0), (5, .iaload, 1, 0, 0, 0), (6, .istore_n 3, 1, 0, 0, 0), (7, .aload_n 0, 1, 0, 0, 0), (8, .getfield 32, 3, 2, 6, 2), (11, .iload_n 3, 1, 0, 0, 0),
  (12, .invokevirtual 63, 3, 71, 2, 2), (15, .aload_n 0, 1, 0, 0, 0), (16, .getfield 32, 3, 2, 6, 2), (19, .getfield 66, 3, 7, 11, 2), (22, .iload_n 3, 1, 0, 0, 0), (23, .aaload, 1, 0, 0, 0), (24, .getfield 70, 3, 9, 6, 0), (27, .isub, 1, 0, 0, 0),
  (28, .istore 4, 2, 0, 0, 0), (30, .iconst 0, 1, 0, 0, 0), (31, .istore 5, 2, 0, 0, 0), (33, .iload 5, 2, 0, 0, 0), (35, .sipush 600, 3, 0, 0, 0), (38, .if_icmp .gt 28, 3, 66, 0, 0), (41, .aload_n 0, 1, 0, 0, 0), (42, .getfield 17, 3, 2, 1, 2),
  (45, .iload_n 1, 1, 0, 0, 0), (46, .aaload, 1, 0, 0, 0), (47, .iload 5, 2, 0, 0, 0), (49, .aload_n 2, 1, 0, 0, 0), (50, .iload_n 3, 1, 0, 0, 0), (51, .iload 5, 2, 0, 0, 0), (53, .iload 4, 2, 0, 0, 0), (55, .isub, 1, 0, 0, 0),
  (56, .invokevirtual 75, 3, 88, 3, 2), (59, .iastore, 1, 0, 0, 0), (60, .iinc 5 1, 3, 0, 0, 0), (63, .goto (-30), 3, 33, 0, 0), (66, .return_, 1, 0, 0, 0)]
/-- SamePassers$LagSearch.lagsForMusts(I)I -/
def mm_c16 : List (Nat × mm_E) := [(0, .ldc 86, 2, 0, 0, 16777215), (2, .istore_n 2, 1, 0, 0, 0), (3, .iconst 0, 1, 0, 0, 0), (4, .istore_n 3, 1, 0, 0, 0), (5, .iload_n 3, 1, 0, 0, 0), (6, .aload_n 0, 1, 0, 0, 0), (7, .getfield 32, 3, 2, 6, 2), (10, .getfield 87, 3, 7, 12, 0),
  (13, .if_icmp .ge 92, 3, 105, 0, 0), (16, .aload_n 0, 1, 0, 0, 0), (17, .getfield 32, 3, 2, 6, 2), (20, .getfield 90, 3, 7, 9, 2), (23, .aload_n 0, 1, 0, 0, 0), (24, .getfield 32, 3, 2, 6, 2), (27, .getfield 93, 3, 7, 14, 2), (30, .iload_n 3, 1, 0, 0, 0),
  (31, .iaload, 1, 0, 0, 0), (32, .iaload, 1, 0, 0, 0), (33, .istore 4, 2, 0, 0, 0), (35, .iconst 0, 1, 0, 0, 0), (36, .istore 5, 2, 0, 0, 0), (38, .iload 5, 2, 0, 0, 0), (40, .bipush 24, 2, 0, 0, 0), (42, .if_icmp .ge 57, 3, 99, 0, 0),
  (45, .aload_n 0, 1, 0, 0, 0), (46, .getfield 32, 3, 2, 6, 2), (49, .getfield 96, 3, 7, 13, 2), (52, .iload_n 3, 1, 0, 0, 0), (53, .iaload, 1, 0, 0, 0), (54, .aload_n 0, 1, 0, 0, 0), (55, .getfield 11, 3, 2, 0, 2), (58, .iload_n 1, 1, 0, 0, 0),
  (59, .iaload, 1, 0, 0, 0), (60, .if_icmp .ne 39, 3, 99, 0, 0), (63, .aload_n 0, 1, 0, 0, 0), (64, .iload_n 1, 1, 0, 0, 0), (65, .iload 5, 2, 0, 0, 0), (67, .iload 4, 2, 0, 0, 0), (69, .invokevirtual 99, 3, 17, 4, 2), (72, .aload_n 0, 1, 0, 0, 0),
  (73, .getfield 32, 3, 2, 6, 2), (76, .getfield 103, 3, 7, 15, 2), (79, .iload_n 3, 1, 0, 0, 0), (80, .iaload, 1, 0, 0, 0), (81, .if_icmp .eq 12, 3, 93, 0, 0), (84, .iload_n 2, 1, 0, 0, 0), (85, .iconst 1, 1, 0, 0, 0), (86, .iload 5, 2, 0, 0, 0),
  (88, .ishl, 1, 0, 0, 0), (89, .iconst (-1), 1, 0, 0, 0), (90, .ixor, 1, 0, 0, 0), (91, .iand, 1, 0, 0, 0), (92, .istore_n 2, 1, 0, 0, 0), (93, .iinc 5 1, 3, 0, 0, 0), (96, .goto (-58), 3, 38, 0, 0), (99, .iinc 3 1, 3, 0, 0, 0),
  (102, .goto (-97), 3, 5, 0, 0), (105, .iload_n 2, 1, 0, 0, 0), (106, .ireturn, 1, 0, 0, 0)]
/-- SamePassers$LagSearch.cellWith(III)I -/
def mm_c17 : List (Nat × mm_E) := [(0, .aload_n 0, 1, 0, 0, 0), (1, .getfield 17, 3, 2, 1, 2), (4, .iload_n 1, 1, 0, 0, 0), (5, .aaload, 1, 0, 0, 0), (6, .iconst 0, 1, 0, 0, 0), (7, .iload_n 3, 1, 0, 0, 0), (8, .iload_n 2, 1, 0, 0, 0), (9, .isub, 1, 0, 0, 0),
  (10, .invokestatic 81, 3, 0, 0, 10), (13, .iaload, 1, 0, 0, 0), (14, .ireturn, 1, 0, 0, 0)]
/-- SamePassers$LagSearch.fillTogether()V -/
def mm_c18 : List (Nat × mm_E) := [(0, .aload_n 0, 1, 0, 0, 0), (1, .getfield 23, 3, 2, 3, 2), (4, .ldc 86, 2, 0, 0, 16777215), (6, .invokestatic 106, 3, 280, 2, 1), (9, .iconst 0, 1, 0, 0, 0), (10, .istore_n 1, 1, 0, 0, 0), (11, .iload_n 1, 1, 0, 0, 0), (12, .aload_n 0, 1, 0, 0, 0),
  (13, .getfield 36, 3, 2, 5, 0), (16, .if_icmp .ge 70, 3, 86, 0, 0), (19, .iload_n 1, 1, 0, 0, 0), (20, .iconst 1, 1, 0, 0, 0), (21, .iadd, 1, 0, 0, 0), (22, .istore_n 2, 1, 0, 0, 0), (23, .iload_n 2, 1, 0, 0, 0), (24, .aload_n 0, 1, 0, 0, 0),
  (25, .getfield 36, 3, 2, 5, 0), (28, .if_icmp .ge 52, 3, 80, 0, 0), (31, .aload_n 0, 1, 0, 0, 0), (32, .getfield 32, 3, 2, 6, 2), (35, .getfield 66, 3, 7, 11, 2), (38, .aload_n 0, 1, 0, 0, 0), (39, .getfield 11, 3, 2, 0, 2), (42, .iload_n 1, 1, 0, 0, 0),
  (43, .iaload, 1, 0, 0, 0), (44, .aaload, 1, 0, 0, 0), (45, .getfield 112, 3, 9, 2, 0), (48, .aload_n 0, 1, 0, 0, 0), (49, .getfield 32, 3, 2, 6, 2), (52, .getfield 66, 3, 7, 11, 2), (55, .aload_n 0, 1, 0, 0, 0), (56, .getfield 11, 3, 2, 0, 2),
  (59, .iload_n 2, 1, 0, 0, 0), (60, .iaload, 1, 0, 0, 0), (61, .aaload, 1, 0, 0, 0), (62, .getfield 112, 3, 9, 2, 0), (65, .if_icmp .ne 9, 3, 74, 0, 0), (68, .aload_n 0, 1, 0, 0, 0), (69, .iload_n 1, 1, 0, 0, 0), (70, .iload_n 2, 1, 0, 0, 0),
  (71, .invokevirtual 115, 3, 19, 3, 2), (74, .iinc 2 1, 3, 0, 0, 0), (77, .goto (-54), 3, 23, 0, 0), (80, .iinc 1 1, 3, 0, 0, 0), (83, .goto (-72), 3, 11, 0, 0), (86, .return_, 1, 0, 0, 0)]
/-- SamePassers$LagSearch.forbidBumps(II)V -/
def mm_c19 : List (Nat × mm_E) := [(0, .iconst 0, 1, 0, 0, 0), (1, .istore_n 3, 1, 0, 0, 0), (2, .iload_n 3, 1, 0, 0, 0), (3, .bipush 24, 2, 0, 0, 0), (5, .if_icmp .ge 93, 3, 98, 0, 0), (8, .aload_n 0, 1, 0, 0, 0), (9, .iload_n 1, 1, 0, 0, 0), (10, .iload_n 3, 1, 0, 0, 0),
  (11, .iload_n 2, 1, 0, 0, 0), (12, .iconst 0, 1, 0, 0, 0), (13, .invokevirtual 118, 3, 20, 5, 2), (16, .istore 4, 2, 0, 0, 0), (18, .aload_n 0, 1, 0, 0, 0), (19, .iload_n 1, 1, 0, 0, 0), (20, .iconst 0, 1, 0, 0, 0), (21, .iload_n 2, 1, 0, 0, 0),
  (22, .iload_n 3, 1, 0, 0, 0), (23, .invokevirtual 118, 3, 20, 5, 2), (26, .istore 5, 2, 0, 0, 0), (28, .iconst 0, 1, 0, 0, 0), (29, .istore 6, 2, 0, 0, 0), (31, .iload 6, 2, 0, 0, 0), (33, .iload_n 3, 1, 0, 0, 0), (34, .iadd, 1, 0, 0, 0),
  (35, .bipush 24, 2, 0, 0, 0), (37, .if_icmp .ge 55, 3, 92, 0, 0), (40, .iload 4, 2, 0, 0, 0), (42, .iload 6, 2, 0, 0, 0), (44, .iadd, 1, 0, 0, 0), (45, .sipush 600, 3, 0, 0, 0), (48, .if_icmp .gt 15, 3, 63, 0, 0), (51, .aload_n 0, 1, 0, 0, 0),
  (52, .iload_n 1, 1, 0, 0, 0), (53, .iload 6, 2, 0, 0, 0), (55, .iload_n 3, 1, 0, 0, 0), (56, .iadd, 1, 0, 0, 0), (57, .iload_n 2, 1, 0, 0, 0), (58, .iload 6, 2, 0, 0, 0), (60, .invokevirtual 122, 3, 21, 5, 2), (63, .iload 5, 2, 0, 0, 0),
  (65, .iload 6, 2, 0, 0, 0), (67, .iadd, 1, 0, 0, 0), (68, .sipush 600, 3, 0, 0, 0), (71, .if_icmp .gt 15, 3, 86, 0, 0), (74, .aload_n 0, 1, 0, 0, 0), (75, .iload_n 1, 1, 0, 0, 0), (76, .iload 6, 2, 0, 0, 0), (78, .iload_n 2, 1, 0, 0, 0),
  (79, .iload 6, 2, 0, 0, 0), (81, .iload_n 3, 1, 0, 0, 0), (82, .iadd, 1, 0, 0, 0), (83, .invokevirtual 122, 3, 21, 5, 2), (86, .iinc 6 1, 3, 0, 0, 0), (89, .goto (-58), 3, 31, 0, 0), (92, .iinc 3 1, 3, 0, 0, 0), (95, .goto (-93), 3, 2, 0, 0),
  (98, .return_, 1, 0, 0, 0)]
/-- SamePassers$LagSearch.firstBump(IIII)I -/
def mm_c20 : List (Nat × mm_E) := [(0, .iconst 0, 1, 0, 0, 0), (1, .istore 5, 2, 0, 0, 0), (3, .iload 5, 2, 0, 0, 0), (5, .sipush 600, 3, 0, 0, 0), (8, .if_icmp .gt 42, 3, 50, 0, 0), (11, .aload_n 0, 1, 0, 0, 0), (12, .iload_n 1, 1, 0, 0, 0), (13, .iload_n 2, 1, 0, 0, 0),
  (14, .iload 5, 2, 0, 0, 0), (16, .invokevirtual 99, 3, 17, 4, 2), (19, .istore 6, 2, 0, 0, 0), (21, .iload 6, 2, 0, 0, 0), (23, .iconst (-1), 1, 0, 0, 0), (24, .if_icmp .eq 20, 3, 44, 0, 0), (27, .iload 6, 2, 0, 0, 0), (29, .aload_n 0, 1, 0, 0, 0),
  (30, .iload_n 3, 1, 0, 0, 0), (31, .iload 4, 2, 0, 0, 0), (33, .iload 5, 2, 0, 0, 0), (35, .invokevirtual 99, 3, 17, 4, 2), (38, .if_icmp .ne 6, 3, 44, 0, 0), (41, .iload 5, 2, 0, 0, 0), (43, .ireturn, 1, 0, 0, 0), (44, .iinc 5 1, 3, 0, 0, 0),
  (47, .goto (-44), 3, 3, 0, 0), (50, .sipush 601, 3, 0, 0, 0), (53, .ireturn, 1, 0, 0, 0)]
/-- SamePassers$LagSearch.forbid(IIII)V -/
def mm_c21 : List (Nat × mm_E) := [(0, .aload_n 0, 1, 0, 0, 0), (1, .getfield 23, 3, 2, 3, 2), (4, .iload_n 1, 1, 0, 0, 0), (5, .iconst 4, 1, 0, 0, 0), (6, .imul, 1, 0, 0, 0), (7, .iload_n 3, 1, 0, 0, 0), (8, .iadd, 1, 0, 0, 0), (9, .bipush 24, 2, 0, 0, 0),
  (11, .imul, 1, 0, 0, 0), (12, .iload_n 2, 1, 0, 0, 0), (13, .iadd, 1, 0, 0, 0), (14, .dup2, 1, 0, 0, 0), (15, .iaload, 1, 0, 0, 0), (16, .iconst 1, 1, 0, 0, 0), (17, .iload 4, 2, 0, 0, 0), (19, .ishl, 1, 0, 0, 0),
  (20, .iconst (-1), 1, 0, 0, 0), (21, .ixor, 1, 0, 0, 0), (22, .iand, 1, 0, 0, 0), (23, .iastore, 1, 0, 0, 0), (24, .return_, 1, 0, 0, 0)]
/-- SamePassers$LagSearch.search(II)V -/
def mm_c22 : List (Nat × mm_E) := [(0, .iload_n 1, 1, 0, 0, 0), (1, .aload_n 0, 1, 0, 0, 0), (2, .getfield 36, 3, 2, 5, 0), (5, .if_icmp .ge 8, 3, 13, 0, 0), (8, .iload_n 1, 1, 0, 0, 0), (9, .iconst 4, 1, 0, 0, 0), (10, .if_icmp .lt 23, 3, 33, 0, 0), (13, .aload_n 0, 1, 0, 0, 0),
  (14, .iload_n 2, 1, 0, 0, 0), (15, .putfield 56, 3, 2, 8, 0), (18, .aload_n 0, 1, 0, 0, 0), (19, .getfield 26, 3, 2, 4, 2), (22, .iconst 0, 1, 0, 0, 0), (23, .aload_n 0, 1, 0, 0, 0), (24, .getfield 29, 3, 2, 7, 2), (27, .iconst 0, 1, 0, 0, 0),
  (28, .iconst 4, 1, 0, 0, 0), (29, .invokestatic 126, 3, 0, 0, 13), (32, .return_, 1, 0, 0, 0), (33, .aload_n 0, 1, 0, 0, 0), (34, .getfield 20, 3, 2, 2, 2), (37, .iload_n 1, 1, 0, 0, 0), (38, .iaload, 1, 0, 0, 0), (39, .istore_n 3, 1, 0, 0, 0),
  (40, .iconst 0, 1, 0, 0, 0), (41, .istore 4, 2, 0, 0, 0), (43, .iload 4, 2, 0, 0, 0), (45, .iload_n 1, 1, 0, 0, 0), (46, .if_icmp .ge 34, 3, 80, 0, 0), (49, .iload_n 3, 1, 0, 0, 0), (50, .aload_n 0, 1, 0, 0, 0), (51, .getfield 23, 3, 2, 3, 2),
  (54, .iload 4, 2, 0, 0, 0), (56, .iconst 4, 1, 0, 0, 0), (57, .imul, 1, 0, 0, 0), (58, .iload_n 1, 1, 0, 0, 0), (59, .iadd, 1, 0, 0, 0), (60, .bipush 24, 2, 0, 0, 0), (62, .imul, 1, 0, 0, 0), (63, .aload_n 0, 1, 0, 0, 0),
  (64, .getfield 26, 3, 2, 4, 2), (67, .iload 4, 2, 0, 0, 0), (69, .iaload, 1, 0, 0, 0), (70, .iadd, 1, 0, 0, 0), (71, .iaload, 1, 0, 0, 0), (72, .iand, 1, 0, 0, 0), (73, .istore_n 3, 1, 0, 0, 0), (74, .iinc 4 1, 3, 0, 0, 0),
  (77, .goto (-34), 3, 43, 0, 0), (80, .iconst 0, 1, 0, 0, 0), (81, .istore 4, 2, 0, 0, 0), (83, .iload 4, 2, 0, 0, 0), (85, .bipush 24, 2, 0, 0, 0), (87, .if_icmp .ge 48, 3, 135, 0, 0), (90, .iload_n 2, 1, 0, 0, 0), (91, .iload 4, 2, 0, 0, 0),
  (93, .iadd, 1, 0, 0, 0), (94, .aload_n 0, 1, 0, 0, 0), (95, .getfield 56, 3, 2, 8, 0), (98, .if_icmp .ge 37, 3, 135, 0, 0), (101, .iload_n 3, 1, 0, 0, 0), (102, .iload 4, 2, 0, 0, 0), (104, .ishr, 1, 0, 0, 0), (105, .iconst 1, 1, 0, 0, 0),
  (106, .iand, 1, 0, 0, 0), (107, .ifCond .eq 22, 3, 129, 0, 0), (110, .aload_n 0, 1, 0, 0, 0), (111, .getfield 26, 3, 2, 4, 2), (114, .iload_n 1, 1, 0, 0, 0), (115, .iload 4, 2, 0, 0, 0), (117, .iastore, 1, 0, 0, 0), (118, .aload_n 0, 1, 0, 0, 0),
  (119, .iload_n 1, 1, 0, 0, 0), (120, .iconst 1, 1, 0, 0, 0), (121, .iadd, 1, 0, 0, 0), (122, .iload_n 2, 1, 0, 0, 0), (123, .iload 4, 2, 0, 0, 0), (125, .iadd, 1, 0, 0, 0), (126, .invokevirtual 59, 3, 22, 3, 2), (129, .iinc 4 1, 3, 0, 0, 0),
  (132, .goto (-49), 3, 83, 0, 0), (135, .return_, 1, 0, 0, 0)]
/-- SamePassers$Law.<init>(Ljava/lang/String;Ljava/lang/String;)V -/
def mm_c23 : List (Nat × mm_E) := [(0, .aload_n 0, 1, 0, 0, 0), (1, .invokespecial 3, 3, 0, 0, 4), (4, .aload_n 0, 1, 0, 0, 0), (5, .sipush 1000, 3, 0, 0, 0), (8, .newarray .int, 2, 0, 0, 0), (10, .putfield 9, 3, 3, 2, 2), (13, .aload_n 0, 1, 0, 0, 0), (14, .bipush 32, 2, 0, 0, 0),
  (16, .newarray .int, 2, 0, 0, 0), (18, .putfield 15, 3, 3, 3, 2), (21, .aload_n 0, 1, 0, 0, 0), (22, .aload_n 1, 1, 0, 0, 0), (23, .invokestatic 18, 3, 76, 1, 1), (26, .putfield 24, 3, 3, 0, 1), (29, .aload_n 0, 1, 0, 0, 0), (30, .aload_n 2, 1, 0, 0, 0),
  (31, .invokestatic 18, 3, 76, 1, 1), (34, .putfield 28, 3, 3, 1, 1), (37, .return_, 1, 0, 0, 0)]
/-- SamePassers$Law.clear()V -/
def mm_c24 : List (Nat × mm_E) := [(0, .aload_n 0, 1, 0, 0, 0), (1, .iconst 0, 1, 0, 0, 0), (2, .putfield 31, 3, 3, 4, 0), (5, .aload_n 0, 1, 0, 0, 0), (6, .iconst 0, 1, 0, 0, 0), (7, .putfield 35, 3, 3, 5, 3), (10, .return_, 1, 0, 0, 0)]
/-- SamePassers$Law.add(I)V -/
def mm_c25 : List (Nat × mm_E) := [(0, .aload_n 0, 1, 0, 0, 0), (1, .getfield 31, 3, 3, 4, 0), (4, .aload_n 0, 1, 0, 0, 0), (5, .getfield 9, 3, 3, 2, 2), (8, .arraylength, 1, 0, 0, 0), (9, .if_icmp .ge 23, 3, 32, 0, 0), (12, .aload_n 0, 1, 0, 0, 0), (13, .getfield 9, 3, 3, 2, 2),
  (16, .aload_n 0, 1, 0, 0, 0), (17, .getfield 31, 3, 3, 4, 0), (20, .iload_n 1, 1, 0, 0, 0), (21, .iastore, 1, 0, 0, 0), (22, .aload_n 0, 1, 0, 0, 0), (23, .dup, 1, 0, 0, 0), (24, .getfield 31, 3, 3, 4, 0), (27, .iconst 1, 1, 0, 0, 0),
  (28, .iadd, 1, 0, 0, 0), (29, .putfield 31, 3, 3, 4, 0), (32, .return_, 1, 0, 0, 0)]
/-- SamePassers$Law.valueFor(II)I -/
def mm_c26 : List (Nat × mm_E) := [(0, .iconst 0, 1, 0, 0, 0), (1, .istore_n 3, 1, 0, 0, 0), (2, .iconst 0, 1, 0, 0, 0), (3, .istore 4, 2, 0, 0, 0), (5, .iload 4, 2, 0, 0, 0), (7, .aload_n 0, 1, 0, 0, 0), (8, .getfield 31, 3, 3, 4, 0), (11, .if_icmp .ge 140, 3, 151, 0, 0),
  (14, .aload_n 0, 1, 0, 0, 0), (15, .getfield 9, 3, 3, 2, 2), (18, .iload 4, 2, 0, 0, 0), (20, .iaload, 1, 0, 0, 0), (21, .istore 5, 2, 0, 0, 0), (23, .iload 5, 2, 0, 0, 0), (25, .bipush (-3), 2, 0, 0, 0), (27, .if_icmp .lt 45, 3, 72, 0, 0),
  (30, .iload_n 3, 1, 0, 0, 0), (31, .bipush 32, 2, 0, 0, 0), (33, .if_icmp .ge 112, 3, 145, 0, 0), (36, .aload_n 0, 1, 0, 0, 0), (37, .getfield 15, 3, 3, 3, 2), (40, .iload_n 3, 1, 0, 0, 0), (41, .iload 5, 2, 0, 0, 0), (43, .bipush (-2), 2, 0, 0, 0),
  (45, .if_icmp .ne 7, 3, 52, 0, 0), (48, .iload_n 1, 1, 0, 0, 0), (49, .goto 16, 3, 65, 0, 0), (52, .iload 5, 2, 0, 0, 0), (54, .bipush (-3), 2, 0, 0, 0), (56, .if_icmp .ne 7, 3, 63, 0, 0), (59, .iload_n 2, 1, 0, 0, 0), (60, .goto 5, 3, 65, 0, 0),
  (63, .iload 5, 2, 0, 0, 0), (65, .iastore, 1, 0, 0, 0), (66, .iinc 3 1, 3, 0, 0, 0), (69, .goto 76, 3, 145, 0, 0), (72, .iload 5, 2, 0, 0, 0), (74, .bipush (-4), 2, 0, 0, 0), (76, .if_icmp .ne 34, 3, 110, 0, 0), (79, .iload_n 3, 1, 0, 0, 0),
  (80, .ifCond .le 30, 3, 110, 0, 0), (83, .aload_n 0, 1, 0, 0, 0), (84, .getfield 15, 3, 3, 3, 2), (87, .iload_n 3, 1, 0, 0, 0), (88, .iconst 1, 1, 0, 0, 0), (89, .isub, 1, 0, 0, 0), (90, .aload_n 0, 1, 0, 0, 0), (91, .getfield 15, 3, 3, 3, 2),
  (94, .iload_n 3, 1, 0, 0, 0), (95, .iconst 1, 1, 0, 0, 0), (96, .isub, 1, 0, 0, 0), (97, .iaload, 1, 0, 0, 0), (98, .ifCond .ne 7, 3, 105, 0, 0), (101, .iconst 1, 1, 0, 0, 0), (102, .goto 4, 3, 106, 0, 0), (105, .iconst 0, 1, 0, 0, 0),
  (106, .iastore, 1, 0, 0, 0), (107, .goto 38, 3, 145, 0, 0), (110, .iload_n 3, 1, 0, 0, 0), (111, .iconst 1, 1, 0, 0, 0), (112, .if_icmp .le 33, 3, 145, 0, 0), (115, .iinc 3 (-1), 3, 0, 0, 0), (118, .aload_n 0, 1, 0, 0, 0), (119, .getfield 15, 3, 3, 3, 2),
  (122, .iload_n 3, 1, 0, 0, 0), (123, .iconst 1, 1, 0, 0, 0), (124, .isub, 1, 0, 0, 0), (125, .iload 5, 2, 0, 0, 0), (127, .aload_n 0, 1, 0, 0, 0), (128, .getfield 15, 3, 3, 3, 2), (131, .iload_n 3, 1, 0, 0, 0), (132, .iconst 1, 1, 0, 0, 0),
  (133, .isub, 1, 0, 0, 0), (134, .iaload, 1, 0, 0, 0), (135, .aload_n 0, 1, 0, 0, 0), (136, .getfield 15, 3, 3, 3, 2), (139, .iload_n 3, 1, 0, 0, 0), (140, .iaload, 1, 0, 0, 0), (141, .invokestatic 39, 3, 27, 3, 0), (144, .iastore, 1, 0, 0, 0),
  (145, .iinc 4 1, 3, 0, 0, 0), (148, .goto (-143), 3, 5, 0, 0), (151, .aload_n 0, 1, 0, 0, 0), (152, .getfield 15, 3, 3, 3, 2), (155, .iconst 0, 1, 0, 0, 0), (156, .iaload, 1, 0, 0, 0), (157, .ireturn, 1, 0, 0, 0)]
/-- SamePassers$Law.act(III)I -/
def mm_c27 : List (Nat × mm_E) := [(0, .iload_n 0, 1, 0, 0, 0), (1, .tableswitch 97 (-10) (-5) #[93, 89, 78, 67, 53, 39], 39, 0, 0, 0), (40, .iload_n 1, 1, 0, 0, 0), (41, .ifCond .eq 11, 3, 52, 0, 0), (44, .iload_n 2, 1, 0, 0, 0), (45, .ifCond .eq 7, 3, 52, 0, 0), (48, .iconst 1, 1, 0, 0, 0), (49, .goto 4, 3, 53, 0, 0),
  (52, .iconst 0, 1, 0, 0, 0), (53, .ireturn, 1, 0, 0, 0), (54, .iload_n 1, 1, 0, 0, 0), (55, .ifCond .ne 7, 3, 62, 0, 0), (58, .iload_n 2, 1, 0, 0, 0), (59, .ifCond .eq 7, 3, 66, 0, 0), (62, .iconst 1, 1, 0, 0, 0), (63, .goto 4, 3, 67, 0, 0),
  (66, .iconst 0, 1, 0, 0, 0), (67, .ireturn, 1, 0, 0, 0), (68, .iload_n 1, 1, 0, 0, 0), (69, .iload_n 2, 1, 0, 0, 0), (70, .if_icmp .ge 7, 3, 77, 0, 0), (73, .iconst 1, 1, 0, 0, 0), (74, .goto 4, 3, 78, 0, 0), (77, .iconst 0, 1, 0, 0, 0),
  (78, .ireturn, 1, 0, 0, 0), (79, .iload_n 1, 1, 0, 0, 0), (80, .iload_n 2, 1, 0, 0, 0), (81, .if_icmp .ne 7, 3, 88, 0, 0), (84, .iconst 1, 1, 0, 0, 0), (85, .goto 4, 3, 89, 0, 0), (88, .iconst 0, 1, 0, 0, 0), (89, .ireturn, 1, 0, 0, 0),
  (90, .iload_n 1, 1, 0, 0, 0), (91, .iload_n 2, 1, 0, 0, 0), (92, .iadd, 1, 0, 0, 0), (93, .ireturn, 1, 0, 0, 0), (94, .iload_n 1, 1, 0, 0, 0), (95, .iload_n 2, 1, 0, 0, 0), (96, .isub, 1, 0, 0, 0), (97, .ireturn, 1, 0, 0, 0),
  (98, .iload_n 1, 1, 0, 0, 0), (99, .iload_n 2, 1, 0, 0, 0), (100, .imul, 1, 0, 0, 0), (101, .ireturn, 1, 0, 0, 0)]
/-- SamePassers$Papers.<init>()V -/
def mm_c28 : List (Nat × mm_E) := [(0, .aload_n 0, 1, 0, 0, 0), (1, .invokespecial 3, 3, 0, 0, 4), (4, .aload_n 0, 1, 0, 0, 0), (5, .bipush 10, 2, 0, 0, 0), (7, .newarray .int, 2, 0, 0, 0), (9, .putfield 9, 3, 4, 1, 2), (12, .aload_n 0, 1, 0, 0, 0), (13, .bipush 10, 2, 0, 0, 0),
  (15, .newarray .int, 2, 0, 0, 0), (17, .putfield 15, 3, 4, 2, 2), (20, .aload_n 0, 1, 0, 0, 0), (21, .bipush 10, 2, 0, 0, 0), (23, .newarray .int, 2, 0, 0, 0), (25, .putfield 18, 3, 4, 4, 2), (28, .aload_n 0, 1, 0, 0, 0), (29, .bipush 10, 2, 0, 0, 0),
  (31, .newarray .int, 2, 0, 0, 0), (33, .putfield 21, 3, 4, 5, 2), (36, .aload_n 0, 1, 0, 0, 0), (37, .bipush 10, 2, 0, 0, 0), (39, .newarray .int, 2, 0, 0, 0), (41, .putfield 24, 3, 4, 6, 2), (44, .return_, 1, 0, 0, 0)]
/-- SamePassers$Papers.addTold(II)Z -/
def mm_c29 : List (Nat × mm_E) := [(0, .aload_n 0, 1, 0, 0, 0), (1, .getfield 27, 3, 4, 0, 0), (4, .bipush 10, 2, 0, 0, 0), (6, .if_icmp .lt 5, 3, 11, 0, 0), (9, .iconst 0, 1, 0, 0, 0), (10, .ireturn, 1, 0, 0, 0), (11, .aload_n 0, 1, 0, 0, 0), (12, .getfield 9, 3, 4, 1, 2),
  (15, .aload_n 0, 1, 0, 0, 0), (16, .getfield 27, 3, 4, 0, 0), (19, .iload_n 1, 1, 0, 0, 0), (20, .iastore, 1, 0, 0, 0), (21, .aload_n 0, 1, 0, 0, 0), (22, .getfield 15, 3, 4, 2, 2), (25, .aload_n 0, 1, 0, 0, 0), (26, .getfield 27, 3, 4, 0, 0),
  (29, .iload_n 2, 1, 0, 0, 0), (30, .iastore, 1, 0, 0, 0), (31, .aload_n 0, 1, 0, 0, 0), (32, .dup, 1, 0, 0, 0), (33, .getfield 27, 3, 4, 0, 0), (36, .iconst 1, 1, 0, 0, 0), (37, .iadd, 1, 0, 0, 0), (38, .putfield 27, 3, 4, 0, 0),
  (41, .iconst 1, 1, 0, 0, 0), (42, .ireturn, 1, 0, 0, 0)]
/-- SamePassers$Papers.addSight(IIZ)Z -/
def mm_c30 : List (Nat × mm_E) := [(0, .aload_n 0, 1, 0, 0, 0), (1, .getfield 31, 3, 4, 3, 0), (4, .bipush 10, 2, 0, 0, 0), (6, .if_icmp .lt 5, 3, 11, 0, 0), (9, .iconst 0, 1, 0, 0, 0), (10, .ireturn, 1, 0, 0, 0), (11, .aload_n 0, 1, 0, 0, 0), (12, .getfield 18, 3, 4, 4, 2),
  (15, .aload_n 0, 1, 0, 0, 0), (16, .getfield 31, 3, 4, 3, 0), (19, .iload_n 1, 1, 0, 0, 0), (20, .iastore, 1, 0, 0, 0), (21, .aload_n 0, 1, 0, 0, 0), (22, .getfield 21, 3, 4, 5, 2), (25, .aload_n 0, 1, 0, 0, 0), (26, .getfield 31, 3, 4, 3, 0),
  (29, .iload_n 2, 1, 0, 0, 0), (30, .iastore, 1, 0, 0, 0), (31, .aload_n 0, 1, 0, 0, 0), (32, .getfield 24, 3, 4, 6, 2), (35, .aload_n 0, 1, 0, 0, 0), (36, .getfield 31, 3, 4, 3, 0), (39, .iload_n 3, 1, 0, 0, 0), (40, .ifCond .eq 7, 3, 47, 0, 0),
  (43, .iconst 1, 1, 0, 0, 0), (44, .goto 4, 3, 48, 0, 0), (47, .iconst 0, 1, 0, 0, 0), (48, .iastore, 1, 0, 0, 0), (49, .aload_n 0, 1, 0, 0, 0), (50, .dup, 1, 0, 0, 0), (51, .getfield 31, 3, 4, 3, 0), (54, .iconst 1, 1, 0, 0, 0),
  (55, .iadd, 1, 0, 0, 0), (56, .putfield 31, 3, 4, 3, 0), (59, .iconst 1, 1, 0, 0, 0), (60, .ireturn, 1, 0, 0, 0)]
/-- SamePassers$Papers.copyFrom(LSamePassers$Papers;)V -/
def mm_c31 : List (Nat × mm_E) := [(0, .aload_n 0, 1, 0, 0, 0), (1, .aload_n 1, 1, 0, 0, 0), (2, .getfield 27, 3, 4, 0, 0), (5, .putfield 27, 3, 4, 0, 0), (8, .aload_n 1, 1, 0, 0, 0), (9, .getfield 9, 3, 4, 1, 2), (12, .iconst 0, 1, 0, 0, 0), (13, .aload_n 0, 1, 0, 0, 0),
  (14, .getfield 9, 3, 4, 1, 2), (17, .iconst 0, 1, 0, 0, 0), (18, .bipush 10, 2, 0, 0, 0), (20, .invokestatic 34, 3, 0, 0, 13), (23, .aload_n 1, 1, 0, 0, 0), (24, .getfield 15, 3, 4, 2, 2), (27, .iconst 0, 1, 0, 0, 0), (28, .aload_n 0, 1, 0, 0, 0),
  (29, .getfield 15, 3, 4, 2, 2), (32, .iconst 0, 1, 0, 0, 0), (33, .bipush 10, 2, 0, 0, 0), (35, .invokestatic 34, 3, 0, 0, 13), (38, .aload_n 0, 1, 0, 0, 0), (39, .aload_n 1, 1, 0, 0, 0), (40, .getfield 31, 3, 4, 3, 0), (43, .putfield 31, 3, 4, 3, 0),
  (46, .aload_n 1, 1, 0, 0, 0), (47, .getfield 18, 3, 4, 4, 2), (50, .iconst 0, 1, 0, 0, 0), (51, .aload_n 0, 1, 0, 0, 0), (52, .getfield 18, 3, 4, 4, 2), (55, .iconst 0, 1, 0, 0, 0), (56, .bipush 10, 2, 0, 0, 0), (58, .invokestatic 34, 3, 0, 0, 13),
  (61, .aload_n 1, 1, 0, 0, 0), (62, .getfield 21, 3, 4, 5, 2), (65, .iconst 0, 1, 0, 0, 0), (66, .aload_n 0, 1, 0, 0, 0), (67, .getfield 21, 3, 4, 5, 2), (70, .iconst 0, 1, 0, 0, 0), (71, .bipush 10, 2, 0, 0, 0), (73, .invokestatic 34, 3, 0, 0, 13),
  (76, .aload_n 1, 1, 0, 0, 0), (77, .getfield 24, 3, 4, 6, 2), (80, .iconst 0, 1, 0, 0, 0), (81, .aload_n 0, 1, 0, 0, 0), (82, .getfield 24, 3, 4, 6, 2), (85, .iconst 0, 1, 0, 0, 0), (86, .bipush 10, 2, 0, 0, 0), (88, .invokestatic 34, 3, 0, 0, 13),
  (91, .return_, 1, 0, 0, 0)]
/-- SamePassers$Papers.seekLaws(I)V -/
def mm_c32 : List (Nat × mm_E) := [(0, .aload_n 0, 1, 0, 0, 0), (1, .iconst 0, 1, 0, 0, 0), (2, .putfield 40, 3, 4, 7, 0), (5, .aload_n 0, 1, 0, 0, 0), (6, .iconst 1, 1, 0, 0, 0), (7, .putfield 43, 3, 4, 10, 3), (10, .iconst 0, 1, 0, 0, 0), (11, .istore_n 2, 1, 0, 0, 0),
  (12, .iload_n 2, 1, 0, 0, 0), (13, .bipush 9, 2, 0, 0, 0), (15, .if_icmp .gt 92, 3, 107, 0, 0), (18, .aload_n 0, 1, 0, 0, 0), (19, .getfield 27, 3, 4, 0, 0), (22, .ifCond .ne 7, 3, 29, 0, 0), (25, .iconst 0, 1, 0, 0, 0), (26, .goto 18, 3, 44, 0, 0),
  (29, .aload_n 0, 1, 0, 0, 0), (30, .getfield 15, 3, 4, 2, 2), (33, .iconst 0, 1, 0, 0, 0), (34, .iaload, 1, 0, 0, 0), (35, .iload_n 2, 1, 0, 0, 0), (36, .aload_n 0, 1, 0, 0, 0), (37, .getfield 9, 3, 4, 1, 2), (40, .iconst 0, 1, 0, 0, 0),
  (41, .iaload, 1, 0, 0, 0), (42, .imul, 1, 0, 0, 0), (43, .iadd, 1, 0, 0, 0), (44, .istore_n 3, 1, 0, 0, 0), (45, .aload_n 0, 1, 0, 0, 0), (46, .getfield 27, 3, 4, 0, 0), (49, .ifCond .ne 9, 3, 58, 0, 0), (52, .sipush 600, 3, 0, 0, 0),
  (55, .goto 10, 3, 65, 0, 0), (58, .iload_n 3, 1, 0, 0, 0), (59, .sipush 600, 3, 0, 0, 0), (62, .invokestatic 47, 3, 0, 0, 11), (65, .istore 4, 2, 0, 0, 0), (67, .iload_n 3, 1, 0, 0, 0), (68, .istore 5, 2, 0, 0, 0), (70, .iload 5, 2, 0, 0, 0),
  (72, .iload 4, 2, 0, 0, 0), (74, .if_icmp .gt 27, 3, 101, 0, 0), (77, .aload_n 0, 1, 0, 0, 0), (78, .iload 5, 2, 0, 0, 0), (80, .iload_n 2, 1, 0, 0, 0), (81, .invokevirtual 53, 3, 33, 3, 2), (84, .ifCond .eq 11, 3, 95, 0, 0), (87, .aload_n 0, 1, 0, 0, 0),
  (88, .iload 5, 2, 0, 0, 0), (90, .iload_n 2, 1, 0, 0, 0), (91, .iload_n 1, 1, 0, 0, 0), (92, .invokevirtual 57, 3, 34, 4, 2), (95, .iinc 5 1, 3, 0, 0, 0), (98, .goto (-28), 3, 70, 0, 0), (101, .iinc 2 1, 3, 0, 0, 0), (104, .goto (-92), 3, 12, 0, 0),
  (107, .return_, 1, 0, 0, 0)]
/-- SamePassers$Papers.holds(II)Z -/
def mm_c33 : List (Nat × mm_E) := [(0, .iconst 0, 1, 0, 0, 0), (1, .istore_n 3, 1, 0, 0, 0), (2, .iload_n 3, 1, 0, 0, 0), (3, .aload_n 0, 1, 0, 0, 0), (4, .getfield 27, 3, 4, 0, 0), (7, .if_icmp .ge 30, 3, 37, 0, 0), (10, .aload_n 0, 1, 0, 0, 0), (11, .getfield 15, 3, 4, 2, 2),
  (14, .iload_n 3, 1, 0, 0, 0), (15, .iaload, 1, 0, 0, 0), (16, .iload_n 1, 1, 0, 0, 0), (17, .iload_n 2, 1, 0, 0, 0), (18, .aload_n 0, 1, 0, 0, 0), (19, .getfield 9, 3, 4, 1, 2), (22, .iload_n 3, 1, 0, 0, 0), (23, .iaload, 1, 0, 0, 0),
  (24, .imul, 1, 0, 0, 0), (25, .isub, 1, 0, 0, 0), (26, .if_icmp .eq 5, 3, 31, 0, 0), (29, .iconst 0, 1, 0, 0, 0), (30, .ireturn, 1, 0, 0, 0), (31, .iinc 3 1, 3, 0, 0, 0), (34, .goto (-32), 3, 2, 0, 0), (37, .iconst 1, 1, 0, 0, 0),
  (38, .ireturn, 1, 0, 0, 0)]
/-- SamePassers$Papers.addLaw(III)V -/
def mm_c34 : List (Nat × mm_E) := [(0, .iload_n 1, 1, 0, 0, 0), (1, .iload_n 2, 1, 0, 0, 0), (2, .iload_n 3, 1, 0, 0, 0), (3, .imul, 1, 0, 0, 0), (4, .isub, 1, 0, 0, 0), (5, .istore 4, 2, 0, 0, 0), (7, .aload_n 0, 1, 0, 0, 0), (8, .getfield 40, 3, 4, 7, 0),
  (11, .ifCond .ne 20, 3, 31, 0, 0), (14, .aload_n 0, 1, 0, 0, 0), (15, .iload_n 2, 1, 0, 0, 0), (16, .sipush 1000, 3, 0, 0, 0), (19, .imul, 1, 0, 0, 0), (20, .iload_n 1, 1, 0, 0, 0), (21, .iadd, 1, 0, 0, 0), (22, .putfield 61, 3, 4, 8, 0),
  (25, .aload_n 0, 1, 0, 0, 0), (26, .iload 4, 2, 0, 0, 0), (28, .putfield 64, 3, 4, 9, 0), (31, .aload_n 0, 1, 0, 0, 0), (32, .aload_n 0, 1, 0, 0, 0), (33, .getfield 43, 3, 4, 10, 3), (36, .ifCond .eq 16, 3, 52, 0, 0), (39, .iload 4, 2, 0, 0, 0),
  (41, .aload_n 0, 1, 0, 0, 0), (42, .getfield 64, 3, 4, 9, 0), (45, .if_icmp .ne 7, 3, 52, 0, 0), (48, .iconst 1, 1, 0, 0, 0), (49, .goto 4, 3, 53, 0, 0), (52, .iconst 0, 1, 0, 0, 0), (53, .putfield 43, 3, 4, 10, 3), (56, .aload_n 0, 1, 0, 0, 0),
  (57, .dup, 1, 0, 0, 0), (58, .getfield 40, 3, 4, 7, 0), (61, .iconst 1, 1, 0, 0, 0), (62, .iadd, 1, 0, 0, 0), (63, .putfield 40, 3, 4, 7, 0), (66, .return_, 1, 0, 0, 0)]
/-- SamePassers$Reader.<init>(LSamePassers$Tape;LSamePassers$Street;LSamePassers$Script;)V -/
def mm_c35 : List (Nat × mm_E) := [(0, .aload_n 0, 1, 0, 0, 0), (1, .invokespecial 3, 3, 0, 0, 4), (4, .aload_n 0, 1, 0, 0, 0), (5, .aload_n 1, 1, 0, 0, 0), (6, .putfield 9, 3, 5, 0, 2), (9, .aload_n 0, 1, 0, 0, 0), (10, .aload_n 2, 1, 0, 0, 0), (11, .putfield 15, 3, 5, 1, 2),
  (14, .aload_n 0, 1, 0, 0, 0), (15, .aload_n 3, 1, 0, 0, 0), (16, .putfield 19, 3, 5, 2, 2), (19, .return_, 1, 0, 0, 0)]
/-- SamePassers$Reader.readStreet(LSamePassers$Street;)I -/
def mm_c36 : List (Nat × mm_E) := [(0, .aload_n 0, 1, 0, 0, 0), (1, .aload_n 1, 1, 0, 0, 0), (2, .putfield 15, 3, 5, 1, 2), (5, .aload_n 0, 1, 0, 0, 0), (6, .getfield 15, 3, 5, 1, 2), (9, .invokevirtual 23, 3, 65, 1, 2), (12, .aload_n 0, 1, 0, 0, 0), (13, .iconst 0, 1, 0, 0, 0),
  (14, .putfield 28, 3, 5, 3, 0), (17, .aload_n 0, 1, 0, 0, 0), (18, .getfield 9, 3, 5, 0, 2), (21, .invokevirtual 32, 3, 78, 1, 2), (24, .aload_n 0, 1, 0, 0, 0), (25, .invokevirtual 37, 3, 37, 1, 2), (28, .istore_n 2, 1, 0, 0, 0), (29, .iconst 0, 1, 0, 0, 0),
  (30, .istore_n 3, 1, 0, 0, 0), (31, .iload_n 2, 1, 0, 0, 0), (32, .ifCond .eq 185, 3, 217, 0, 0), (35, .iload_n 3, 1, 0, 0, 0), (36, .sipush 1000, 3, 0, 0, 0), (39, .if_icmp .ge 178, 3, 217, 0, 0), (42, .aload_n 0, 1, 0, 0, 0), (43, .getfield 9, 3, 5, 0, 2),
  (46, .getfield 41, 3, 8, 4, 0), (49, .sipush 128, 3, 0, 0, 0), (52, .if_icmp .eq 165, 3, 217, 0, 0), (55, .aload_n 0, 1, 0, 0, 0), (56, .getfield 9, 3, 5, 0, 2), (59, .getfield 41, 3, 8, 4, 0), (62, .tableswitch 124 5 16 #[62, 124, 70, 124, 124, 124, 124, 124, 78, 86, 94, 109], 62, 0, 0, 0), (124, .aload_n 0, 1, 0, 0, 0),
  (125, .invokevirtual 44, 3, 42, 1, 2), (128, .istore_n 2, 1, 0, 0, 0), (129, .goto 63, 3, 192, 0, 0), (132, .aload_n 0, 1, 0, 0, 0), (133, .invokevirtual 47, 3, 44, 1, 2), (136, .istore_n 2, 1, 0, 0, 0), (137, .goto 55, 3, 192, 0, 0), (140, .aload_n 0, 1, 0, 0, 0),
  (141, .invokevirtual 50, 3, 50, 1, 2), (144, .istore_n 2, 1, 0, 0, 0), (145, .goto 47, 3, 192, 0, 0), (148, .aload_n 0, 1, 0, 0, 0), (149, .invokevirtual 53, 3, 52, 1, 2), (152, .istore_n 2, 1, 0, 0, 0), (153, .goto 39, 3, 192, 0, 0), (156, .aload_n 0, 1, 0, 0, 0),
  (157, .aload_n 0, 1, 0, 0, 0), (158, .getfield 15, 3, 5, 1, 2), (161, .getfield 56, 3, 7, 16, 2), (164, .invokevirtual 60, 3, 53, 2, 2), (167, .istore_n 2, 1, 0, 0, 0), (168, .goto 24, 3, 192, 0, 0), (171, .aload_n 0, 1, 0, 0, 0), (172, .aload_n 0, 1, 0, 0, 0),
  (173, .getfield 15, 3, 5, 1, 2), (176, .getfield 64, 3, 7, 17, 2), (179, .invokevirtual 60, 3, 53, 2, 2), (182, .istore_n 2, 1, 0, 0, 0), (183, .goto 9, 3, 192, 0, 0), (186, .aload_n 0, 1, 0, 0, 0), (187, .iconst 1, 1, 0, 0, 0), (188, .invokevirtual 67, 3, 40, 2, 2),
  (191, .istore_n 2, 1, 0, 0, 0), (192, .iload_n 2, 1, 0, 0, 0), (193, .ifCond .eq 16, 3, 209, 0, 0), (196, .aload_n 0, 1, 0, 0, 0), (197, .bipush 59, 2, 0, 0, 0), (199, .invokevirtual 71, 3, 39, 2, 2), (202, .ifCond .eq 7, 3, 209, 0, 0), (205, .iconst 1, 1, 0, 0, 0),
  (206, .goto 4, 3, 210, 0, 0), (209, .iconst 0, 1, 0, 0, 0), (210, .istore_n 2, 1, 0, 0, 0), (211, .iinc 3 1, 3, 0, 0, 0), (214, .goto (-183), 3, 31, 0, 0), (217, .aload_n 0, 1, 0, 0, 0), (218, .getfield 9, 3, 5, 0, 2), (221, .invokevirtual 74, 3, 82, 1, 2),
  (224, .aload_n 0, 1, 0, 0, 0), (225, .getfield 28, 3, 5, 3, 0), (228, .ireturn, 1, 0, 0, 0)]
/-- SamePassers$Reader.readGround()Z -/
def mm_c37 : List (Nat × mm_E) := [(0, .aload_n 0, 1, 0, 0, 0), (1, .iconst 0, 1, 0, 0, 0), (2, .iconst 4, 1, 0, 0, 0), (3, .bipush 40, 2, 0, 0, 0), (5, .invokevirtual 116, 3, 38, 4, 2), (8, .ifCond .ne 5, 3, 13, 0, 0), (11, .iconst 0, 1, 0, 0, 0), (12, .ireturn, 1, 0, 0, 0),
  (13, .aload_n 0, 1, 0, 0, 0), (14, .getfield 15, 3, 5, 1, 2), (17, .aload_n 0, 1, 0, 0, 0), (18, .getfield 94, 3, 5, 4, 0), (21, .putfield 120, 3, 7, 0, 0), (24, .aload_n 0, 1, 0, 0, 0), (25, .iconst 1, 1, 0, 0, 0), (26, .iconst 1, 1, 0, 0, 0),
  (27, .iconst 4, 1, 0, 0, 0), (28, .invokevirtual 116, 3, 38, 4, 2), (31, .ifCond .ne 5, 3, 36, 0, 0), (34, .iconst 0, 1, 0, 0, 0), (35, .ireturn, 1, 0, 0, 0), (36, .aload_n 0, 1, 0, 0, 0), (37, .getfield 15, 3, 5, 1, 2), (40, .aload_n 0, 1, 0, 0, 0),
  (41, .getfield 94, 3, 5, 4, 0), (44, .putfield 123, 3, 7, 1, 0), (47, .aload_n 0, 1, 0, 0, 0), (48, .iconst 2, 1, 0, 0, 0), (49, .iconst 0, 1, 0, 0, 0), (50, .aload_n 0, 1, 0, 0, 0), (51, .getfield 15, 3, 5, 1, 2), (54, .getfield 120, 3, 7, 0, 0),
  (57, .iconst 1, 1, 0, 0, 0), (58, .isub, 1, 0, 0, 0), (59, .invokevirtual 116, 3, 38, 4, 2), (62, .ifCond .ne 5, 3, 67, 0, 0), (65, .iconst 0, 1, 0, 0, 0), (66, .ireturn, 1, 0, 0, 0), (67, .aload_n 0, 1, 0, 0, 0), (68, .getfield 15, 3, 5, 1, 2),
  (71, .aload_n 0, 1, 0, 0, 0), (72, .getfield 94, 3, 5, 4, 0), (75, .putfield 126, 3, 7, 2, 0), (78, .aload_n 0, 1, 0, 0, 0), (79, .iconst 3, 1, 0, 0, 0), (80, .aload_n 0, 1, 0, 0, 0), (81, .getfield 15, 3, 5, 1, 2), (84, .getfield 126, 3, 7, 2, 0),
  (87, .aload_n 0, 1, 0, 0, 0), (88, .getfield 15, 3, 5, 1, 2), (91, .getfield 120, 3, 7, 0, 0), (94, .iconst 1, 1, 0, 0, 0), (95, .isub, 1, 0, 0, 0), (96, .invokevirtual 116, 3, 38, 4, 2), (99, .ifCond .ne 5, 3, 104, 0, 0), (102, .iconst 0, 1, 0, 0, 0),
  (103, .ireturn, 1, 0, 0, 0), (104, .aload_n 0, 1, 0, 0, 0), (105, .getfield 15, 3, 5, 1, 2), (108, .aload_n 0, 1, 0, 0, 0), (109, .getfield 94, 3, 5, 4, 0), (112, .putfield 129, 3, 7, 3, 0), (115, .aload_n 0, 1, 0, 0, 0), (116, .iconst 4, 1, 0, 0, 0),
  (117, .iconst 0, 1, 0, 0, 0), (118, .aload_n 0, 1, 0, 0, 0), (119, .getfield 15, 3, 5, 1, 2), (122, .getfield 123, 3, 7, 1, 0), (125, .invokevirtual 116, 3, 38, 4, 2), (128, .ifCond .ne 5, 3, 133, 0, 0), (131, .iconst 0, 1, 0, 0, 0), (132, .ireturn, 1, 0, 0, 0),
  (133, .aload_n 0, 1, 0, 0, 0), (134, .getfield 15, 3, 5, 1, 2), (137, .aload_n 0, 1, 0, 0, 0), (138, .getfield 94, 3, 5, 4, 0), (141, .putfield 132, 3, 7, 4, 0), (144, .aload_n 0, 1, 0, 0, 0), (145, .bipush 59, 2, 0, 0, 0), (147, .invokevirtual 71, 3, 39, 2, 2),
  (150, .ireturn, 1, 0, 0, 0)]
/-- SamePassers$Reader.readNumberBehind(III)Z -/
def mm_c38 : List (Nat × mm_E) := [(0, .aload_n 0, 1, 0, 0, 0), (1, .iload_n 1, 1, 0, 0, 0), (2, .invokevirtual 71, 3, 39, 2, 2), (5, .ifCond .eq 16, 3, 21, 0, 0), (8, .aload_n 0, 1, 0, 0, 0), (9, .iload_n 2, 1, 0, 0, 0), (10, .iload_n 3, 1, 0, 0, 0), (11, .invokevirtual 95, 3, 41, 3, 2),
  (14, .ifCond .eq 7, 3, 21, 0, 0), (17, .iconst 1, 1, 0, 0, 0), (18, .goto 4, 3, 22, 0, 0), (21, .iconst 0, 1, 0, 0, 0), (22, .ireturn, 1, 0, 0, 0)]
/-- SamePassers$Reader.readToken(I)Z -/
def mm_c39 : List (Nat × mm_E) := [(0, .aload_n 0, 1, 0, 0, 0), (1, .getfield 9, 3, 5, 0, 2), (4, .getfield 41, 3, 8, 4, 0), (7, .iload_n 1, 1, 0, 0, 0), (8, .if_icmp .eq 9, 3, 17, 0, 0), (11, .aload_n 0, 1, 0, 0, 0), (12, .iconst 1, 1, 0, 0, 0), (13, .invokevirtual 67, 3, 40, 2, 2),
  (16, .ireturn, 1, 0, 0, 0), (17, .aload_n 0, 1, 0, 0, 0), (18, .getfield 9, 3, 5, 0, 2), (21, .invokevirtual 88, 3, 79, 1, 2), (24, .iconst 1, 1, 0, 0, 0), (25, .ireturn, 1, 0, 0, 0)]
/-- SamePassers$Reader.fail(I)Z -/
def mm_c40 : List (Nat × mm_E) := [(0, .aload_n 0, 1, 0, 0, 0), (1, .iload_n 1, 1, 0, 0, 0), (2, .bipush 16, 2, 0, 0, 0), (4, .aload_n 0, 1, 0, 0, 0), (5, .getfield 9, 3, 5, 0, 2), (8, .getfield 85, 3, 8, 5, 0), (11, .imul, 1, 0, 0, 0), (12, .iadd, 1, 0, 0, 0),
  (13, .putfield 28, 3, 5, 3, 0), (16, .iconst 0, 1, 0, 0, 0), (17, .ireturn, 1, 0, 0, 0)]
/-- SamePassers$Reader.readNumber(II)Z -/
def mm_c41 : List (Nat × mm_E) := [(0, .aload_n 0, 1, 0, 0, 0), (1, .getfield 9, 3, 5, 0, 2), (4, .getfield 41, 3, 8, 4, 0), (7, .bipush 31, 2, 0, 0, 0), (9, .if_icmp .eq 9, 3, 18, 0, 0), (12, .aload_n 0, 1, 0, 0, 0), (13, .iconst 1, 1, 0, 0, 0), (14, .invokevirtual 67, 3, 40, 2, 2),
  (17, .ireturn, 1, 0, 0, 0), (18, .aload_n 0, 1, 0, 0, 0), (19, .getfield 9, 3, 5, 0, 2), (22, .getfield 91, 3, 8, 6, 0), (25, .iload_n 1, 1, 0, 0, 0), (26, .if_icmp .lt 14, 3, 40, 0, 0), (29, .aload_n 0, 1, 0, 0, 0), (30, .getfield 9, 3, 5, 0, 2),
  (33, .getfield 91, 3, 8, 6, 0), (36, .iload_n 2, 1, 0, 0, 0), (37, .if_icmp .le 9, 3, 46, 0, 0), (40, .aload_n 0, 1, 0, 0, 0), (41, .iconst 4, 1, 0, 0, 0), (42, .invokevirtual 67, 3, 40, 2, 2), (45, .ireturn, 1, 0, 0, 0), (46, .aload_n 0, 1, 0, 0, 0),
  (47, .aload_n 0, 1, 0, 0, 0), (48, .getfield 9, 3, 5, 0, 2), (51, .getfield 91, 3, 8, 6, 0), (54, .putfield 94, 3, 5, 4, 0), (57, .aload_n 0, 1, 0, 0, 0), (58, .getfield 9, 3, 5, 0, 2), (61, .invokevirtual 88, 3, 79, 1, 2), (64, .iconst 1, 1, 0, 0, 0),
  (65, .ireturn, 1, 0, 0, 0)]
/-- SamePassers$Reader.readSay()Z -/
def mm_c42 : List (Nat × mm_E) := [(0, .aload_n 0, 1, 0, 0, 0), (1, .getfield 15, 3, 5, 1, 2), (4, .getfield 135, 3, 7, 7, 0), (7, .bipush 6, 2, 0, 0, 0), (9, .if_icmp .lt 9, 3, 18, 0, 0), (12, .aload_n 0, 1, 0, 0, 0), (13, .iconst 5, 1, 0, 0, 0), (14, .invokevirtual 67, 3, 40, 2, 2),
  (17, .ireturn, 1, 0, 0, 0), (18, .aload_n 0, 1, 0, 0, 0), (19, .getfield 9, 3, 5, 0, 2), (22, .invokevirtual 88, 3, 79, 1, 2), (25, .aload_n 0, 1, 0, 0, 0), (26, .invokevirtual 138, 3, 43, 1, 2), (29, .ifCond .eq 16, 3, 45, 0, 0), (32, .aload_n 0, 1, 0, 0, 0),
  (33, .bipush 6, 2, 0, 0, 0), (35, .iconst 0, 1, 0, 0, 0), (36, .sipush 600, 3, 0, 0, 0), (39, .invokevirtual 116, 3, 38, 4, 2), (42, .ifCond .ne 5, 3, 47, 0, 0), (45, .iconst 0, 1, 0, 0, 0), (46, .ireturn, 1, 0, 0, 0), (47, .aload_n 0, 1, 0, 0, 0),
  (48, .getfield 15, 3, 5, 1, 2), (51, .getfield 141, 3, 7, 8, 2), (54, .aload_n 0, 1, 0, 0, 0), (55, .getfield 15, 3, 5, 1, 2), (58, .getfield 135, 3, 7, 7, 0), (61, .aload_n 0, 1, 0, 0, 0), (62, .getfield 110, 3, 5, 6, 1), (65, .lastore, 1, 0, 0, 0),
  (66, .aload_n 0, 1, 0, 0, 0), (67, .getfield 15, 3, 5, 1, 2), (70, .getfield 145, 3, 7, 9, 2), (73, .aload_n 0, 1, 0, 0, 0), (74, .getfield 15, 3, 5, 1, 2), (77, .getfield 135, 3, 7, 7, 0), (80, .aload_n 0, 1, 0, 0, 0), (81, .getfield 94, 3, 5, 4, 0),
  (84, .iastore, 1, 0, 0, 0), (85, .aload_n 0, 1, 0, 0, 0), (86, .getfield 15, 3, 5, 1, 2), (89, .dup, 1, 0, 0, 0), (90, .getfield 135, 3, 7, 7, 0), (93, .iconst 1, 1, 0, 0, 0), (94, .iadd, 1, 0, 0, 0), (95, .putfield 135, 3, 7, 7, 0),
  (98, .iconst 1, 1, 0, 0, 0), (99, .ireturn, 1, 0, 0, 0)]
/-- SamePassers$Reader.readNewName()Z -/
def mm_c43 : List (Nat × mm_E) := [(0, .aload_n 0, 1, 0, 0, 0), (1, .getfield 9, 3, 5, 0, 2), (4, .getfield 41, 3, 8, 4, 0), (7, .bipush 30, 2, 0, 0, 0), (9, .if_icmp .eq 9, 3, 18, 0, 0), (12, .aload_n 0, 1, 0, 0, 0), (13, .iconst 1, 1, 0, 0, 0), (14, .invokevirtual 67, 3, 40, 2, 2),
  (17, .ireturn, 1, 0, 0, 0), (18, .aload_n 0, 1, 0, 0, 0), (19, .getfield 15, 3, 5, 1, 2), (22, .aload_n 0, 1, 0, 0, 0), (23, .getfield 9, 3, 5, 0, 2), (26, .getfield 99, 3, 8, 7, 1), (29, .invokevirtual 103, 3, 66, 2, 2), (32, .iconst (-1), 1, 0, 0, 0),
  (33, .if_icmp .ne 21, 3, 54, 0, 0), (36, .aload_n 0, 1, 0, 0, 0), (37, .getfield 15, 3, 5, 1, 2), (40, .aload_n 0, 1, 0, 0, 0), (41, .getfield 9, 3, 5, 0, 2), (44, .getfield 99, 3, 8, 7, 1), (47, .invokevirtual 107, 3, 67, 2, 2), (50, .iconst (-1), 1, 0, 0, 0),
  (51, .if_icmp .eq 9, 3, 60, 0, 0), (54, .aload_n 0, 1, 0, 0, 0), (55, .iconst 3, 1, 0, 0, 0), (56, .invokevirtual 67, 3, 40, 2, 2), (59, .ireturn, 1, 0, 0, 0), (60, .aload_n 0, 1, 0, 0, 0), (61, .aload_n 0, 1, 0, 0, 0), (62, .getfield 9, 3, 5, 0, 2),
  (65, .getfield 99, 3, 8, 7, 1), (68, .putfield 110, 3, 5, 6, 1), (71, .aload_n 0, 1, 0, 0, 0), (72, .getfield 9, 3, 5, 0, 2), (75, .invokevirtual 88, 3, 79, 1, 2), (78, .iconst 1, 1, 0, 0, 0), (79, .ireturn, 1, 0, 0, 0)]
/-- SamePassers$Reader.readWalker()Z -/
def mm_c44 : List (Nat × mm_E) := [(0, .aload_n 0, 1, 0, 0, 0), (1, .getfield 15, 3, 5, 1, 2), (4, .getfield 149, 3, 7, 10, 0), (7, .bipush 8, 2, 0, 0, 0), (9, .if_icmp .lt 9, 3, 18, 0, 0), (12, .aload_n 0, 1, 0, 0, 0), (13, .iconst 5, 1, 0, 0, 0), (14, .invokevirtual 67, 3, 40, 2, 2),
  (17, .ireturn, 1, 0, 0, 0), (18, .aload_n 0, 1, 0, 0, 0), (19, .getfield 9, 3, 5, 0, 2), (22, .invokevirtual 88, 3, 79, 1, 2), (25, .aload_n 0, 1, 0, 0, 0), (26, .getfield 15, 3, 5, 1, 2), (29, .getfield 152, 3, 7, 11, 2), (32, .aload_n 0, 1, 0, 0, 0),
  (33, .getfield 15, 3, 5, 1, 2), (36, .getfield 149, 3, 7, 10, 0), (39, .aaload, 1, 0, 0, 0), (40, .astore_n 1, 1, 0, 0, 0), (41, .aload_n 0, 1, 0, 0, 0), (42, .invokevirtual 138, 3, 43, 1, 2), (45, .ifCond .eq 39, 3, 84, 0, 0), (48, .aload_n 0, 1, 0, 0, 0),
  (49, .aload_n 1, 1, 0, 0, 0), (50, .invokevirtual 156, 3, 45, 2, 2), (53, .ifCond .eq 31, 3, 84, 0, 0), (56, .aload_n 0, 1, 0, 0, 0), (57, .aload_n 1, 1, 0, 0, 0), (58, .invokevirtual 160, 3, 46, 2, 2), (61, .ifCond .eq 23, 3, 84, 0, 0), (64, .aload_n 0, 1, 0, 0, 0),
  (65, .aload_n 1, 1, 0, 0, 0), (66, .invokevirtual 163, 3, 47, 2, 2), (69, .ifCond .eq 15, 3, 84, 0, 0), (72, .aload_n 0, 1, 0, 0, 0), (73, .aload_n 1, 1, 0, 0, 0), (74, .invokevirtual 166, 3, 48, 2, 2), (77, .ifCond .eq 7, 3, 84, 0, 0), (80, .iconst 1, 1, 0, 0, 0),
  (81, .goto 4, 3, 85, 0, 0), (84, .iconst 0, 1, 0, 0, 0), (85, .istore_n 2, 1, 0, 0, 0), (86, .iload_n 2, 1, 0, 0, 0), (87, .ifCond .eq 24, 3, 111, 0, 0), (90, .aload_n 1, 1, 0, 0, 0), (91, .aload_n 0, 1, 0, 0, 0), (92, .getfield 110, 3, 5, 6, 1),
  (95, .putfield 169, 3, 9, 0, 1), (98, .aload_n 0, 1, 0, 0, 0), (99, .getfield 15, 3, 5, 1, 2), (102, .dup, 1, 0, 0, 0), (103, .getfield 149, 3, 7, 10, 0), (106, .iconst 1, 1, 0, 0, 0), (107, .iadd, 1, 0, 0, 0), (108, .putfield 149, 3, 7, 10, 0),
  (111, .iload_n 2, 1, 0, 0, 0), (112, .ireturn, 1, 0, 0, 0)]
/-- SamePassers$Reader.readKind(LSamePassers$Walker;)Z -/
def mm_c45 : List (Nat × mm_E) := [(0, .aload_n 0, 1, 0, 0, 0), (1, .getfield 9, 3, 5, 0, 2), (4, .getfield 41, 3, 8, 4, 0), (7, .bipush 23, 2, 0, 0, 0), (9, .if_icmp .lt 15, 3, 24, 0, 0), (12, .aload_n 0, 1, 0, 0, 0), (13, .getfield 9, 3, 5, 0, 2), (16, .getfield 41, 3, 8, 4, 0),
  (19, .bipush 26, 2, 0, 0, 0), (21, .if_icmp .le 9, 3, 30, 0, 0), (24, .aload_n 0, 1, 0, 0, 0), (25, .iconst 1, 1, 0, 0, 0), (26, .invokevirtual 67, 3, 40, 2, 2), (29, .ireturn, 1, 0, 0, 0), (30, .aload_n 1, 1, 0, 0, 0), (31, .aload_n 0, 1, 0, 0, 0),
  (32, .getfield 9, 3, 5, 0, 2), (35, .getfield 41, 3, 8, 4, 0), (38, .bipush 23, 2, 0, 0, 0), (40, .isub, 1, 0, 0, 0), (41, .putfield 172, 3, 9, 1, 0), (44, .aload_n 0, 1, 0, 0, 0), (45, .getfield 9, 3, 5, 0, 2), (48, .invokevirtual 88, 3, 79, 1, 2),
  (51, .iconst 1, 1, 0, 0, 0), (52, .ireturn, 1, 0, 0, 0)]
/-- SamePassers$Reader.readPlace(LSamePassers$Walker;)Z -/
def mm_c46 : List (Nat × mm_E) := [(0, .aload_n 0, 1, 0, 0, 0), (1, .bipush 8, 2, 0, 0, 0), (3, .iconst 0, 1, 0, 0, 0), (4, .aload_n 0, 1, 0, 0, 0), (5, .getfield 15, 3, 5, 1, 2), (8, .getfield 123, 3, 7, 1, 0), (11, .iconst 1, 1, 0, 0, 0), (12, .isub, 1, 0, 0, 0),
  (13, .invokevirtual 116, 3, 38, 4, 2), (16, .ifCond .ne 5, 3, 21, 0, 0), (19, .iconst 0, 1, 0, 0, 0), (20, .ireturn, 1, 0, 0, 0), (21, .aload_n 1, 1, 0, 0, 0), (22, .aload_n 0, 1, 0, 0, 0), (23, .getfield 94, 3, 5, 4, 0), (26, .putfield 175, 3, 9, 2, 0),
  (29, .aload_n 0, 1, 0, 0, 0), (30, .bipush 9, 2, 0, 0, 0), (32, .iconst 0, 1, 0, 0, 0), (33, .aload_n 0, 1, 0, 0, 0), (34, .getfield 15, 3, 5, 1, 2), (37, .getfield 120, 3, 7, 0, 0), (40, .iconst 1, 1, 0, 0, 0), (41, .isub, 1, 0, 0, 0),
  (42, .invokevirtual 116, 3, 38, 4, 2), (45, .ifCond .ne 5, 3, 50, 0, 0), (48, .iconst 0, 1, 0, 0, 0), (49, .ireturn, 1, 0, 0, 0), (50, .aload_n 1, 1, 0, 0, 0), (51, .aload_n 0, 1, 0, 0, 0), (52, .getfield 94, 3, 5, 4, 0), (55, .putfield 178, 3, 9, 3, 0),
  (58, .aload_n 0, 1, 0, 0, 0), (59, .getfield 9, 3, 5, 0, 2), (62, .getfield 41, 3, 8, 4, 0), (65, .bipush 21, 2, 0, 0, 0), (67, .if_icmp .eq 21, 3, 88, 0, 0), (70, .aload_n 0, 1, 0, 0, 0), (71, .getfield 9, 3, 5, 0, 2), (74, .getfield 41, 3, 8, 4, 0),
  (77, .bipush 22, 2, 0, 0, 0), (79, .if_icmp .eq 9, 3, 88, 0, 0), (82, .aload_n 0, 1, 0, 0, 0), (83, .iconst 1, 1, 0, 0, 0), (84, .invokevirtual 67, 3, 40, 2, 2), (87, .ireturn, 1, 0, 0, 0), (88, .aload_n 1, 1, 0, 0, 0), (89, .aload_n 0, 1, 0, 0, 0),
  (90, .getfield 9, 3, 5, 0, 2), (93, .getfield 41, 3, 8, 4, 0), (96, .bipush 22, 2, 0, 0, 0), (98, .if_icmp .ne 7, 3, 105, 0, 0), (101, .iconst 1, 1, 0, 0, 0), (102, .goto 4, 3, 106, 0, 0), (105, .iconst 0, 1, 0, 0, 0), (106, .putfield 181, 3, 9, 4, 0),
  (109, .aload_n 0, 1, 0, 0, 0), (110, .getfield 9, 3, 5, 0, 2), (113, .invokevirtual 88, 3, 79, 1, 2), (116, .iconst 1, 1, 0, 0, 0), (117, .ireturn, 1, 0, 0, 0)]
/-- SamePassers$Reader.readGait(LSamePassers$Walker;)Z -/
def mm_c47 : List (Nat × mm_E) := [(0, .aload_n 0, 1, 0, 0, 0), (1, .bipush 10, 2, 0, 0, 0), (3, .iconst 1, 1, 0, 0, 0), (4, .bipush 9, 2, 0, 0, 0), (6, .invokevirtual 116, 3, 38, 4, 2), (9, .ifCond .ne 5, 3, 14, 0, 0), (12, .iconst 0, 1, 0, 0, 0), (13, .ireturn, 1, 0, 0, 0),
  (14, .aload_n 1, 1, 0, 0, 0), (15, .aload_n 0, 1, 0, 0, 0), (16, .getfield 94, 3, 5, 4, 0), (19, .putfield 184, 3, 9, 5, 0), (22, .aload_n 0, 1, 0, 0, 0), (23, .bipush 11, 2, 0, 0, 0), (25, .iconst 0, 1, 0, 0, 0), (26, .bipush 99, 2, 0, 0, 0),
  (28, .invokevirtual 116, 3, 38, 4, 2), (31, .ifCond .ne 5, 3, 36, 0, 0), (34, .iconst 0, 1, 0, 0, 0), (35, .ireturn, 1, 0, 0, 0), (36, .aload_n 1, 1, 0, 0, 0), (37, .aload_n 0, 1, 0, 0, 0), (38, .getfield 94, 3, 5, 4, 0), (41, .putfield 187, 3, 9, 6, 0),
  (44, .iconst 1, 1, 0, 0, 0), (45, .ireturn, 1, 0, 0, 0)]
/-- SamePassers$Reader.readCue(LSamePassers$Walker;)Z -/
def mm_c48 : List (Nat × mm_E) := [(0, .aload_n 1, 1, 0, 0, 0), (1, .iconst (-1), 1, 0, 0, 0), (2, .putfield 190, 3, 9, 7, 0), (5, .aload_n 0, 1, 0, 0, 0), (6, .getfield 9, 3, 5, 0, 2), (9, .getfield 41, 3, 8, 4, 0), (12, .bipush 12, 2, 0, 0, 0), (14, .if_icmp .eq 5, 3, 19, 0, 0),
  (17, .iconst 1, 1, 0, 0, 0), (18, .ireturn, 1, 0, 0, 0), (19, .aload_n 0, 1, 0, 0, 0), (20, .getfield 9, 3, 5, 0, 2), (23, .invokevirtual 88, 3, 79, 1, 2), (26, .aload_n 0, 1, 0, 0, 0), (27, .invokevirtual 192, 3, 49, 1, 2), (30, .ifCond .ne 5, 3, 35, 0, 0),
  (33, .iconst 0, 1, 0, 0, 0), (34, .ireturn, 1, 0, 0, 0), (35, .aload_n 1, 1, 0, 0, 0), (36, .aload_n 0, 1, 0, 0, 0), (37, .getfield 113, 3, 5, 5, 0), (40, .putfield 190, 3, 9, 7, 0), (43, .aload_n 0, 1, 0, 0, 0), (44, .getfield 9, 3, 5, 0, 2),
  (47, .invokevirtual 88, 3, 79, 1, 2), (50, .iconst 1, 1, 0, 0, 0), (51, .ireturn, 1, 0, 0, 0)]
/-- SamePassers$Reader.seeWordName()Z -/
def mm_c49 : List (Nat × mm_E) := [(0, .aload_n 0, 1, 0, 0, 0), (1, .getfield 9, 3, 5, 0, 2), (4, .getfield 41, 3, 8, 4, 0), (7, .bipush 30, 2, 0, 0, 0), (9, .if_icmp .eq 9, 3, 18, 0, 0), (12, .aload_n 0, 1, 0, 0, 0), (13, .iconst 1, 1, 0, 0, 0), (14, .invokevirtual 67, 3, 40, 2, 2),
  (17, .ireturn, 1, 0, 0, 0), (18, .aload_n 0, 1, 0, 0, 0), (19, .aload_n 0, 1, 0, 0, 0), (20, .getfield 15, 3, 5, 1, 2), (23, .aload_n 0, 1, 0, 0, 0), (24, .getfield 9, 3, 5, 0, 2), (27, .getfield 99, 3, 8, 7, 1), (30, .invokevirtual 103, 3, 66, 2, 2),
  (33, .putfield 113, 3, 5, 5, 0), (36, .aload_n 0, 1, 0, 0, 0), (37, .getfield 113, 3, 5, 5, 0), (40, .iconst (-1), 1, 0, 0, 0), (41, .if_icmp .ne 11, 3, 52, 0, 0), (44, .aload_n 0, 1, 0, 0, 0), (45, .iconst 2, 1, 0, 0, 0), (46, .invokevirtual 67, 3, 40, 2, 2),
  (49, .ifCond .eq 7, 3, 56, 0, 0), (52, .iconst 1, 1, 0, 0, 0), (53, .goto 4, 3, 57, 0, 0), (56, .iconst 0, 1, 0, 0, 0), (57, .ireturn, 1, 0, 0, 0)]
/-- SamePassers$Reader.readMust()Z -/
def mm_c50 : List (Nat × mm_E) := [(0, .aload_n 0, 1, 0, 0, 0), (1, .getfield 15, 3, 5, 1, 2), (4, .getfield 195, 3, 7, 12, 0), (7, .bipush 8, 2, 0, 0, 0), (9, .if_icmp .lt 9, 3, 18, 0, 0), (12, .aload_n 0, 1, 0, 0, 0), (13, .iconst 5, 1, 0, 0, 0), (14, .invokevirtual 67, 3, 40, 2, 2),
  (17, .ireturn, 1, 0, 0, 0), (18, .aload_n 0, 1, 0, 0, 0), (19, .getfield 9, 3, 5, 0, 2), (22, .invokevirtual 88, 3, 79, 1, 2), (25, .aload_n 0, 1, 0, 0, 0), (26, .invokevirtual 198, 3, 51, 1, 2), (29, .ifCond .ne 5, 3, 34, 0, 0), (32, .iconst 0, 1, 0, 0, 0),
  (33, .ireturn, 1, 0, 0, 0), (34, .aload_n 0, 1, 0, 0, 0), (35, .getfield 113, 3, 5, 5, 0), (38, .istore_n 1, 1, 0, 0, 0), (39, .aload_n 0, 1, 0, 0, 0), (40, .invokevirtual 192, 3, 49, 1, 2), (43, .ifCond .ne 5, 3, 48, 0, 0), (46, .iconst 0, 1, 0, 0, 0),
  (47, .ireturn, 1, 0, 0, 0), (48, .aload_n 0, 1, 0, 0, 0), (49, .getfield 113, 3, 5, 5, 0), (52, .istore_n 2, 1, 0, 0, 0), (53, .aload_n 0, 1, 0, 0, 0), (54, .getfield 15, 3, 5, 1, 2), (57, .iload_n 1, 1, 0, 0, 0), (58, .iload_n 2, 1, 0, 0, 0),
  (59, .invokevirtual 201, 3, 68, 3, 2), (62, .ifCond .eq 9, 3, 71, 0, 0), (65, .aload_n 0, 1, 0, 0, 0), (66, .iconst 3, 1, 0, 0, 0), (67, .invokevirtual 67, 3, 40, 2, 2), (70, .ireturn, 1, 0, 0, 0), (71, .aload_n 0, 1, 0, 0, 0), (72, .getfield 9, 3, 5, 0, 2),
  (75, .invokevirtual 88, 3, 79, 1, 2), (78, .aload_n 0, 1, 0, 0, 0), (79, .iconst 0, 1, 0, 0, 0), (80, .aload_n 0, 1, 0, 0, 0), (81, .getfield 15, 3, 5, 1, 2), (84, .getfield 120, 3, 7, 0, 0), (87, .iconst 1, 1, 0, 0, 0), (88, .isub, 1, 0, 0, 0),
  (89, .invokevirtual 95, 3, 41, 3, 2), (92, .ifCond .ne 5, 3, 97, 0, 0), (95, .iconst 0, 1, 0, 0, 0), (96, .ireturn, 1, 0, 0, 0), (97, .aload_n 0, 1, 0, 0, 0), (98, .getfield 15, 3, 5, 1, 2), (101, .iload_n 1, 1, 0, 0, 0), (102, .iload_n 2, 1, 0, 0, 0),
  (103, .aload_n 0, 1, 0, 0, 0), (104, .getfield 94, 3, 5, 4, 0), (107, .invokevirtual 204, 3, 69, 4, 2), (110, .iconst 1, 1, 0, 0, 0), (111, .ireturn, 1, 0, 0, 0)]
/-- SamePassers$Reader.readWalkerName()Z -/
def mm_c51 : List (Nat × mm_E) := [(0, .aload_n 0, 1, 0, 0, 0), (1, .getfield 9, 3, 5, 0, 2), (4, .getfield 41, 3, 8, 4, 0), (7, .bipush 30, 2, 0, 0, 0), (9, .if_icmp .eq 9, 3, 18, 0, 0), (12, .aload_n 0, 1, 0, 0, 0), (13, .iconst 1, 1, 0, 0, 0), (14, .invokevirtual 67, 3, 40, 2, 2),
  (17, .ireturn, 1, 0, 0, 0), (18, .aload_n 0, 1, 0, 0, 0), (19, .aload_n 0, 1, 0, 0, 0), (20, .getfield 15, 3, 5, 1, 2), (23, .aload_n 0, 1, 0, 0, 0), (24, .getfield 9, 3, 5, 0, 2), (27, .getfield 99, 3, 8, 7, 1), (30, .invokevirtual 107, 3, 67, 2, 2),
  (33, .putfield 113, 3, 5, 5, 0), (36, .aload_n 0, 1, 0, 0, 0), (37, .getfield 113, 3, 5, 5, 0), (40, .iconst (-1), 1, 0, 0, 0), (41, .if_icmp .ne 9, 3, 50, 0, 0), (44, .aload_n 0, 1, 0, 0, 0), (45, .iconst 2, 1, 0, 0, 0), (46, .invokevirtual 67, 3, 40, 2, 2),
  (49, .ireturn, 1, 0, 0, 0), (50, .aload_n 0, 1, 0, 0, 0), (51, .getfield 9, 3, 5, 0, 2), (54, .invokevirtual 88, 3, 79, 1, 2), (57, .iconst 1, 1, 0, 0, 0), (58, .ireturn, 1, 0, 0, 0)]
/-- SamePassers$Reader.readRound()Z -/
def mm_c52 : List (Nat × mm_E) := [(0, .aload_n 0, 1, 0, 0, 0), (1, .getfield 15, 3, 5, 1, 2), (4, .getfield 208, 3, 7, 6, 3), (7, .ifCond .eq 9, 3, 16, 0, 0), (10, .aload_n 0, 1, 0, 0, 0), (11, .iconst 3, 1, 0, 0, 0), (12, .invokevirtual 67, 3, 40, 2, 2), (15, .ireturn, 1, 0, 0, 0),
  (16, .aload_n 0, 1, 0, 0, 0), (17, .bipush 14, 2, 0, 0, 0), (19, .iconst 0, 1, 0, 0, 0), (20, .bipush 99, 2, 0, 0, 0), (22, .invokevirtual 116, 3, 38, 4, 2), (25, .ifCond .ne 5, 3, 30, 0, 0), (28, .iconst 0, 1, 0, 0, 0), (29, .ireturn, 1, 0, 0, 0),
  (30, .aload_n 0, 1, 0, 0, 0), (31, .getfield 15, 3, 5, 1, 2), (34, .aload_n 0, 1, 0, 0, 0), (35, .getfield 94, 3, 5, 4, 0), (38, .putfield 212, 3, 7, 5, 0), (41, .aload_n 0, 1, 0, 0, 0), (42, .getfield 15, 3, 5, 1, 2), (45, .iconst 1, 1, 0, 0, 0),
  (46, .putfield 208, 3, 7, 6, 3), (49, .iconst 1, 1, 0, 0, 0), (50, .ireturn, 1, 0, 0, 0)]
/-- SamePassers$Reader.readLaw(LSamePassers$Law;)Z -/
def mm_c53 : List (Nat × mm_E) := [(0, .aload_n 1, 1, 0, 0, 0), (1, .getfield 215, 3, 3, 5, 3), (4, .ifCond .eq 9, 3, 13, 0, 0), (7, .aload_n 0, 1, 0, 0, 0), (8, .iconst 3, 1, 0, 0, 0), (9, .invokevirtual 67, 3, 40, 2, 2), (12, .ireturn, 1, 0, 0, 0), (13, .aload_n 0, 1, 0, 0, 0),
  (14, .getfield 9, 3, 5, 0, 2), (17, .invokevirtual 88, 3, 79, 1, 2), (20, .aload_n 1, 1, 0, 0, 0), (21, .invokevirtual 220, 3, 24, 1, 2), (24, .aload_n 1, 1, 0, 0, 0), (25, .iconst 1, 1, 0, 0, 0), (26, .putfield 215, 3, 3, 5, 3), (29, .aload_n 0, 1, 0, 0, 0),
  (30, .aload_n 1, 1, 0, 0, 0), (31, .iconst 0, 1, 0, 0, 0), (32, .iconst 0, 1, 0, 0, 0), (33, .invokevirtual 221, 3, 54, 4, 2), (36, .ireturn, 1, 0, 0, 0)]
/-- SamePassers$Reader.readLevel(LSamePassers$Law;II)Z -/
def mm_c54 : List (Nat × mm_E) := [(0, .iload_n 2, 1, 0, 0, 0), (1, .iconst 4, 1, 0, 0, 0), (2, .if_icmp .lt 10, 3, 12, 0, 0), (5, .aload_n 0, 1, 0, 0, 0), (6, .aload_n 1, 1, 0, 0, 0), (7, .iload_n 3, 1, 0, 0, 0), (8, .invokevirtual 225, 3, 55, 3, 2), (11, .ireturn, 1, 0, 0, 0),
  (12, .aload_n 0, 1, 0, 0, 0), (13, .aload_n 1, 1, 0, 0, 0), (14, .iload_n 2, 1, 0, 0, 0), (15, .iconst 1, 1, 0, 0, 0), (16, .iadd, 1, 0, 0, 0), (17, .iload_n 3, 1, 0, 0, 0), (18, .invokevirtual 221, 3, 54, 4, 2), (21, .ifCond .ne 5, 3, 26, 0, 0),
  (24, .iconst 0, 1, 0, 0, 0), (25, .ireturn, 1, 0, 0, 0), (26, .iload_n 2, 1, 0, 0, 0), (27, .iconst 1, 1, 0, 0, 0), (28, .if_icmp .ne 7, 3, 35, 0, 0), (31, .iconst 1, 1, 0, 0, 0), (32, .goto 6, 3, 38, 0, 0), (35, .sipush 1000, 3, 0, 0, 0),
  (38, .istore 4, 2, 0, 0, 0), (40, .iconst 0, 1, 0, 0, 0), (41, .istore 5, 2, 0, 0, 0), (43, .iload 5, 2, 0, 0, 0), (45, .iload 4, 2, 0, 0, 0), (47, .if_icmp .ge 62, 3, 109, 0, 0), (50, .aload_n 0, 1, 0, 0, 0), (51, .getfield 9, 3, 5, 0, 2),
  (54, .getfield 41, 3, 8, 4, 0), (57, .invokestatic 229, 3, 57, 1, 0), (60, .iload_n 2, 1, 0, 0, 0), (61, .if_icmp .ne 48, 3, 109, 0, 0), (64, .aload_n 0, 1, 0, 0, 0), (65, .getfield 9, 3, 5, 0, 2), (68, .getfield 41, 3, 8, 4, 0), (71, .invokestatic 233, 3, 58, 1, 0),
  (74, .istore 6, 2, 0, 0, 0), (76, .aload_n 0, 1, 0, 0, 0), (77, .getfield 9, 3, 5, 0, 2), (80, .invokevirtual 88, 3, 79, 1, 2), (83, .aload_n 0, 1, 0, 0, 0), (84, .aload_n 1, 1, 0, 0, 0), (85, .iload_n 2, 1, 0, 0, 0), (86, .iconst 1, 1, 0, 0, 0),
  (87, .iadd, 1, 0, 0, 0), (88, .iload_n 3, 1, 0, 0, 0), (89, .invokevirtual 221, 3, 54, 4, 2), (92, .ifCond .ne 5, 3, 97, 0, 0), (95, .iconst 0, 1, 0, 0, 0), (96, .ireturn, 1, 0, 0, 0), (97, .aload_n 1, 1, 0, 0, 0), (98, .iload 6, 2, 0, 0, 0),
  (100, .invokevirtual 236, 3, 25, 2, 2), (103, .iinc 5 1, 3, 0, 0, 0), (106, .goto (-63), 3, 43, 0, 0), (109, .iconst 1, 1, 0, 0, 0), (110, .ireturn, 1, 0, 0, 0)]
/-- SamePassers$Reader.readPart(LSamePassers$Law;I)Z -/
def mm_c55 : List (Nat × mm_E) := [(0, .aload_n 0, 1, 0, 0, 0), (1, .aload_n 1, 1, 0, 0, 0), (2, .invokevirtual 240, 3, 56, 2, 2), (5, .istore_n 3, 1, 0, 0, 0), (6, .iload_n 3, 1, 0, 0, 0), (7, .iconst (-1), 1, 0, 0, 0), (8, .if_icmp .ne 9, 3, 17, 0, 0), (11, .aload_n 0, 1, 0, 0, 0),
  (12, .iconst 1, 1, 0, 0, 0), (13, .invokevirtual 67, 3, 40, 2, 2), (16, .ireturn, 1, 0, 0, 0), (17, .iload_n 2, 1, 0, 0, 0), (18, .iconst 5, 1, 0, 0, 0), (19, .if_icmp .lt 9, 3, 28, 0, 0), (22, .aload_n 0, 1, 0, 0, 0), (23, .iconst 5, 1, 0, 0, 0),
  (24, .invokevirtual 67, 3, 40, 2, 2), (27, .ireturn, 1, 0, 0, 0), (28, .aload_n 0, 1, 0, 0, 0), (29, .getfield 9, 3, 5, 0, 2), (32, .getfield 41, 3, 8, 4, 0), (35, .bipush 31, 2, 0, 0, 0), (37, .if_icmp .ne 13, 3, 50, 0, 0), (40, .aload_n 0, 1, 0, 0, 0),
  (41, .getfield 9, 3, 5, 0, 2), (44, .getfield 91, 3, 8, 6, 0), (47, .goto 4, 3, 51, 0, 0), (50, .iload_n 3, 1, 0, 0, 0), (51, .istore 4, 2, 0, 0, 0), (53, .aload_n 0, 1, 0, 0, 0), (54, .getfield 9, 3, 5, 0, 2), (57, .invokevirtual 88, 3, 79, 1, 2),
  (60, .iload_n 3, 1, 0, 0, 0), (61, .bipush 40, 2, 0, 0, 0), (63, .if_icmp .ne 44, 3, 107, 0, 0), (66, .aload_n 0, 1, 0, 0, 0), (67, .aload_n 1, 1, 0, 0, 0), (68, .iconst 0, 1, 0, 0, 0), (69, .iload_n 2, 1, 0, 0, 0), (70, .iconst 1, 1, 0, 0, 0),
  (71, .iadd, 1, 0, 0, 0), (72, .invokevirtual 221, 3, 54, 4, 2), (75, .ifCond .ne 5, 3, 80, 0, 0), (78, .iconst 0, 1, 0, 0, 0), (79, .ireturn, 1, 0, 0, 0), (80, .aload_n 0, 1, 0, 0, 0), (81, .getfield 9, 3, 5, 0, 2), (84, .getfield 41, 3, 8, 4, 0),
  (87, .bipush 41, 2, 0, 0, 0), (89, .if_icmp .eq 9, 3, 98, 0, 0), (92, .aload_n 0, 1, 0, 0, 0), (93, .iconst 1, 1, 0, 0, 0), (94, .invokevirtual 67, 3, 40, 2, 2), (97, .ireturn, 1, 0, 0, 0), (98, .aload_n 0, 1, 0, 0, 0), (99, .getfield 9, 3, 5, 0, 2),
  (102, .invokevirtual 88, 3, 79, 1, 2), (105, .iconst 1, 1, 0, 0, 0), (106, .ireturn, 1, 0, 0, 0), (107, .iload_n 3, 1, 0, 0, 0), (108, .bipush 27, 2, 0, 0, 0), (110, .if_icmp .ne 16, 3, 126, 0, 0), (113, .aload_n 0, 1, 0, 0, 0), (114, .aload_n 1, 1, 0, 0, 0),
  (115, .iload_n 2, 1, 0, 0, 0), (116, .iconst 1, 1, 0, 0, 0), (117, .iadd, 1, 0, 0, 0), (118, .invokevirtual 225, 3, 55, 3, 2), (121, .ifCond .ne 5, 3, 126, 0, 0), (124, .iconst 0, 1, 0, 0, 0), (125, .ireturn, 1, 0, 0, 0), (126, .aload_n 1, 1, 0, 0, 0),
  (127, .iload_n 3, 1, 0, 0, 0), (128, .bipush 27, 2, 0, 0, 0), (130, .if_icmp .ne 8, 3, 138, 0, 0), (133, .bipush (-4), 2, 0, 0, 0), (135, .goto 5, 3, 140, 0, 0), (138, .iload 4, 2, 0, 0, 0), (140, .invokevirtual 236, 3, 25, 2, 2), (143, .iconst 1, 1, 0, 0, 0),
  (144, .ireturn, 1, 0, 0, 0)]
/-- SamePassers$Reader.partOf(LSamePassers$Law;)I -/
def mm_c56 : List (Nat × mm_E) := [(0, .aload_n 0, 1, 0, 0, 0), (1, .getfield 9, 3, 5, 0, 2), (4, .getfield 41, 3, 8, 4, 0), (7, .bipush 31, 2, 0, 0, 0), (9, .if_icmp .eq 27, 3, 36, 0, 0), (12, .aload_n 0, 1, 0, 0, 0), (13, .getfield 9, 3, 5, 0, 2), (16, .getfield 41, 3, 8, 4, 0),
  (19, .bipush 27, 2, 0, 0, 0), (21, .if_icmp .eq 15, 3, 36, 0, 0), (24, .aload_n 0, 1, 0, 0, 0), (25, .getfield 9, 3, 5, 0, 2), (28, .getfield 41, 3, 8, 4, 0), (31, .bipush 40, 2, 0, 0, 0), (33, .if_icmp .ne 11, 3, 44, 0, 0), (36, .aload_n 0, 1, 0, 0, 0),
  (37, .getfield 9, 3, 5, 0, 2), (40, .getfield 41, 3, 8, 4, 0), (43, .ireturn, 1, 0, 0, 0), (44, .aload_n 0, 1, 0, 0, 0), (45, .getfield 9, 3, 5, 0, 2), (48, .getfield 41, 3, 8, 4, 0), (51, .bipush 30, 2, 0, 0, 0), (53, .if_icmp .eq 5, 3, 58, 0, 0),
  (56, .iconst (-1), 1, 0, 0, 0), (57, .ireturn, 1, 0, 0, 0), (58, .aload_n 0, 1, 0, 0, 0), (59, .getfield 9, 3, 5, 0, 2), (62, .getfield 99, 3, 8, 7, 1), (65, .aload_n 1, 1, 0, 0, 0), (66, .getfield 244, 3, 3, 0, 1), (69, .lcmp, 1, 0, 0, 0),
  (70, .ifCond .ne 8, 3, 78, 0, 0), (73, .bipush (-2), 2, 0, 0, 0), (75, .goto 24, 3, 99, 0, 0), (78, .aload_n 0, 1, 0, 0, 0), (79, .getfield 9, 3, 5, 0, 2), (82, .getfield 99, 3, 8, 7, 1), (85, .aload_n 1, 1, 0, 0, 0), (86, .getfield 247, 3, 3, 1, 1),
  (89, .lcmp, 1, 0, 0, 0), (90, .ifCond .ne 8, 3, 98, 0, 0), (93, .bipush (-3), 2, 0, 0, 0), (95, .goto 4, 3, 99, 0, 0), (98, .iconst (-1), 1, 0, 0, 0), (99, .ireturn, 1, 0, 0, 0)]
/-- SamePassers$Reader.levelOf(I)I -/
def mm_c57 : List (Nat × mm_E) := [(0, .iload_n 0, 1, 0, 0, 0), (1, .lookupswitch 75 #[(28, 67), (29, 67), (42, 73), (43, 71), (45, 71), (60, 69), (61, 69)], 67, 0, 0, 0), (68, .iconst 0, 1, 0, 0, 0), (69, .ireturn, 1, 0, 0, 0), (70, .iconst 1, 1, 0, 0, 0), (71, .ireturn, 1, 0, 0, 0), (72, .iconst 2, 1, 0, 0, 0), (73, .ireturn, 1, 0, 0, 0),
  (74, .iconst 3, 1, 0, 0, 0), (75, .ireturn, 1, 0, 0, 0), (76, .iconst (-1), 1, 0, 0, 0), (77, .ireturn, 1, 0, 0, 0)]
/-- SamePassers$Reader.actOf(I)I -/
def mm_c58 : List (Nat × mm_E) := [(0, .iload_n 0, 1, 0, 0, 0), (1, .lookupswitch 77 #[(28, 59), (29, 62), (43, 71), (45, 74), (60, 65), (61, 68)], 59, 0, 0, 0), (60, .bipush (-5), 2, 0, 0, 0), (62, .ireturn, 1, 0, 0, 0), (63, .bipush (-6), 2, 0, 0, 0), (65, .ireturn, 1, 0, 0, 0), (66, .bipush (-7), 2, 0, 0, 0), (68, .ireturn, 1, 0, 0, 0),
  (69, .bipush (-8), 2, 0, 0, 0), (71, .ireturn, 1, 0, 0, 0), (72, .bipush (-9), 2, 0, 0, 0), (74, .ireturn, 1, 0, 0, 0), (75, .bipush (-10), 2, 0, 0, 0), (77, .ireturn, 1, 0, 0, 0), (78, .bipush (-11), 2, 0, 0, 0), (80, .ireturn, 1, 0, 0, 0)]
/-- SamePassers$Reader.readTakes(LSamePassers$Street;LSamePassers$Script;)I -/
def mm_c59 : List (Nat × mm_E) := [(0, .aload_n 0, 1, 0, 0, 0), (1, .aload_n 1, 1, 0, 0, 0), (2, .putfield 15, 3, 5, 1, 2), (5, .aload_n 0, 1, 0, 0, 0), (6, .aload_n 2, 1, 0, 0, 0), (7, .putfield 19, 3, 5, 2, 2), (10, .aload_n 0, 1, 0, 0, 0), (11, .getfield 19, 3, 5, 2, 2),
  (14, .iconst 0, 1, 0, 0, 0), (15, .putfield 77, 3, 6, 0, 0), (18, .aload_n 0, 1, 0, 0, 0), (19, .iconst 0, 1, 0, 0, 0), (20, .putfield 28, 3, 5, 3, 0), (23, .aload_n 0, 1, 0, 0, 0), (24, .getfield 9, 3, 5, 0, 2), (27, .invokevirtual 32, 3, 78, 1, 2),
  (30, .iconst 1, 1, 0, 0, 0), (31, .istore_n 3, 1, 0, 0, 0), (32, .iconst 0, 1, 0, 0, 0), (33, .istore 4, 2, 0, 0, 0), (35, .iload_n 3, 1, 0, 0, 0), (36, .ifCond .eq 35, 3, 71, 0, 0), (39, .iload 4, 2, 0, 0, 0), (41, .sipush 1000, 3, 0, 0, 0),
  (44, .if_icmp .ge 27, 3, 71, 0, 0), (47, .aload_n 0, 1, 0, 0, 0), (48, .getfield 9, 3, 5, 0, 2), (51, .getfield 41, 3, 8, 4, 0), (54, .sipush 128, 3, 0, 0, 0), (57, .if_icmp .eq 14, 3, 71, 0, 0), (60, .aload_n 0, 1, 0, 0, 0), (61, .invokevirtual 82, 3, 60, 1, 2),
  (64, .istore_n 3, 1, 0, 0, 0), (65, .iinc 4 1, 3, 0, 0, 0), (68, .goto (-33), 3, 35, 0, 0), (71, .aload_n 0, 1, 0, 0, 0), (72, .getfield 9, 3, 5, 0, 2), (75, .invokevirtual 74, 3, 82, 1, 2), (78, .aload_n 0, 1, 0, 0, 0), (79, .getfield 28, 3, 5, 3, 0),
  (82, .ireturn, 1, 0, 0, 0)]
/-- SamePassers$Reader.readTakesLine()Z -/
def mm_c60 : List (Nat × mm_E) := [(0, .aload_n 0, 1, 0, 0, 0), (1, .getfield 9, 3, 5, 0, 2), (4, .getfield 41, 3, 8, 4, 0), (7, .istore_n 1, 1, 0, 0, 0), (8, .iload_n 1, 1, 0, 0, 0), (9, .bipush 17, 2, 0, 0, 0), (11, .if_icmp .lt 9, 3, 20, 0, 0), (14, .iload_n 1, 1, 0, 0, 0),
  (15, .bipush 20, 2, 0, 0, 0), (17, .if_icmp .le 9, 3, 26, 0, 0), (20, .aload_n 0, 1, 0, 0, 0), (21, .iconst 1, 1, 0, 0, 0), (22, .invokevirtual 67, 3, 40, 2, 2), (25, .ireturn, 1, 0, 0, 0), (26, .aload_n 0, 1, 0, 0, 0), (27, .getfield 19, 3, 5, 2, 2),
  (30, .getfield 77, 3, 6, 0, 0), (33, .bipush 30, 2, 0, 0, 0), (35, .if_icmp .lt 9, 3, 44, 0, 0), (38, .aload_n 0, 1, 0, 0, 0), (39, .iconst 5, 1, 0, 0, 0), (40, .invokevirtual 67, 3, 40, 2, 2), (43, .ireturn, 1, 0, 0, 0), (44, .aload_n 0, 1, 0, 0, 0),
  (45, .getfield 9, 3, 5, 0, 2), (48, .invokevirtual 88, 3, 79, 1, 2), (51, .aload_n 0, 1, 0, 0, 0), (52, .iconst (-1), 1, 0, 0, 0), (53, .putfield 113, 3, 5, 5, 0), (56, .aload_n 0, 1, 0, 0, 0), (57, .iconst 0, 1, 0, 0, 0), (58, .putfield 94, 3, 5, 4, 0),
  (61, .iload_n 1, 1, 0, 0, 0), (62, .bipush 20, 2, 0, 0, 0), (64, .if_icmp .eq 12, 3, 76, 0, 0), (67, .aload_n 0, 1, 0, 0, 0), (68, .invokevirtual 198, 3, 51, 1, 2), (71, .ifCond .ne 5, 3, 76, 0, 0), (74, .iconst 0, 1, 0, 0, 0), (75, .ireturn, 1, 0, 0, 0),
  (76, .iload_n 1, 1, 0, 0, 0), (77, .bipush 17, 2, 0, 0, 0), (79, .if_icmp .ne 22, 3, 101, 0, 0), (82, .aload_n 0, 1, 0, 0, 0), (83, .iconst 0, 1, 0, 0, 0), (84, .aload_n 0, 1, 0, 0, 0), (85, .getfield 15, 3, 5, 1, 2), (88, .getfield 120, 3, 7, 0, 0),
  (91, .iconst 1, 1, 0, 0, 0), (92, .isub, 1, 0, 0, 0), (93, .invokevirtual 95, 3, 41, 3, 2), (96, .ifCond .ne 5, 3, 101, 0, 0), (99, .iconst 0, 1, 0, 0, 0), (100, .ireturn, 1, 0, 0, 0), (101, .iload_n 1, 1, 0, 0, 0), (102, .bipush 19, 2, 0, 0, 0),
  (104, .if_icmp .ne 15, 3, 119, 0, 0), (107, .aload_n 0, 1, 0, 0, 0), (108, .iconst 0, 1, 0, 0, 0), (109, .bipush 99, 2, 0, 0, 0), (111, .invokevirtual 95, 3, 41, 3, 2), (114, .ifCond .ne 5, 3, 119, 0, 0), (117, .iconst 0, 1, 0, 0, 0), (118, .ireturn, 1, 0, 0, 0),
  (119, .aload_n 0, 1, 0, 0, 0), (120, .getfield 19, 3, 5, 2, 2), (123, .iload_n 1, 1, 0, 0, 0), (124, .aload_n 0, 1, 0, 0, 0), (125, .getfield 113, 3, 5, 5, 0), (128, .aload_n 0, 1, 0, 0, 0), (129, .getfield 94, 3, 5, 4, 0), (132, .invokevirtual 250, 3, 62, 4, 2),
  (135, .aload_n 0, 1, 0, 0, 0), (136, .bipush 59, 2, 0, 0, 0), (138, .invokevirtual 71, 3, 39, 2, 2), (141, .ireturn, 1, 0, 0, 0)]
/-- SamePassers$Script.<init>()V -/
def mm_c61 : List (Nat × mm_E) := [(0, .aload_n 0, 1, 0, 0, 0), (1, .invokespecial 3, 3, 0, 0, 4), (4, .aload_n 0, 1, 0, 0, 0), (5, .bipush 30, 2, 0, 0, 0), (7, .newarray .int, 2, 0, 0, 0), (9, .putfield 9, 3, 6, 1, 2), (12, .aload_n 0, 1, 0, 0, 0), (13, .bipush 30, 2, 0, 0, 0),
  (15, .newarray .int, 2, 0, 0, 0), (17, .putfield 15, 3, 6, 2, 2), (20, .aload_n 0, 1, 0, 0, 0), (21, .bipush 30, 2, 0, 0, 0), (23, .newarray .int, 2, 0, 0, 0), (25, .putfield 18, 3, 6, 3, 2), (28, .return_, 1, 0, 0, 0)]
/-- SamePassers$Script.add(III)V -/
def mm_c62 : List (Nat × mm_E) := [(0, .aload_n 0, 1, 0, 0, 0), (1, .getfield 21, 3, 6, 0, 0), (4, .bipush 30, 2, 0, 0, 0), (6, .if_icmp .ge 43, 3, 49, 0, 0), (9, .aload_n 0, 1, 0, 0, 0), (10, .getfield 9, 3, 6, 1, 2), (13, .aload_n 0, 1, 0, 0, 0), (14, .getfield 21, 3, 6, 0, 0),
  (17, .iload_n 1, 1, 0, 0, 0), (18, .iastore, 1, 0, 0, 0), (19, .aload_n 0, 1, 0, 0, 0), (20, .getfield 15, 3, 6, 2, 2), (23, .aload_n 0, 1, 0, 0, 0), (24, .getfield 21, 3, 6, 0, 0), (27, .iload_n 2, 1, 0, 0, 0), (28, .iastore, 1, 0, 0, 0),
  (29, .aload_n 0, 1, 0, 0, 0), (30, .getfield 18, 3, 6, 3, 2), (33, .aload_n 0, 1, 0, 0, 0), (34, .getfield 21, 3, 6, 0, 0), (37, .iload_n 3, 1, 0, 0, 0), (38, .iastore, 1, 0, 0, 0), (39, .aload_n 0, 1, 0, 0, 0), (40, .dup, 1, 0, 0, 0),
  (41, .getfield 21, 3, 6, 0, 0), (44, .iconst 1, 1, 0, 0, 0), (45, .iadd, 1, 0, 0, 0), (46, .putfield 21, 3, 6, 0, 0), (49, .return_, 1, 0, 0, 0)]
/-- SamePassers$Script.play(ILSamePassers$Hands;)V -/
def mm_c63 : List (Nat × mm_E) := [(0, .aload_n 0, 1, 0, 0, 0), (1, .getfield 15, 3, 6, 2, 2), (4, .iload_n 1, 1, 0, 0, 0), (5, .iaload, 1, 0, 0, 0), (6, .istore_n 3, 1, 0, 0, 0), (7, .aload_n 0, 1, 0, 0, 0), (8, .getfield 9, 3, 6, 1, 2), (11, .iload_n 1, 1, 0, 0, 0),
  (12, .iaload, 1, 0, 0, 0), (13, .bipush 20, 2, 0, 0, 0), (15, .if_icmp .ne 10, 3, 25, 0, 0), (18, .aload_n 2, 1, 0, 0, 0), (19, .invokevirtual 27, 3, 12, 1, 2), (22, .goto 90, 3, 112, 0, 0), (25, .iload_n 3, 1, 0, 0, 0), (26, .ifCond .lt 86, 3, 112, 0, 0),
  (29, .iload_n 3, 1, 0, 0, 0), (30, .bipush 8, 2, 0, 0, 0), (32, .if_icmp .ge 80, 3, 112, 0, 0), (35, .aload_n 0, 1, 0, 0, 0), (36, .getfield 9, 3, 6, 1, 2), (39, .iload_n 1, 1, 0, 0, 0), (40, .iaload, 1, 0, 0, 0), (41, .lookupswitch 59 #[(17, 27), (18, 42)], 27, 0, 0, 0),
  (68, .aload_n 2, 1, 0, 0, 0), (69, .getfield 32, 3, 1, 1, 2), (72, .iload_n 3, 1, 0, 0, 0), (73, .aload_n 0, 1, 0, 0, 0), (74, .getfield 18, 3, 6, 3, 2), (77, .iload_n 1, 1, 0, 0, 0), (78, .iaload, 1, 0, 0, 0), (79, .iastore, 1, 0, 0, 0),
  (80, .goto 32, 3, 112, 0, 0), (83, .aload_n 2, 1, 0, 0, 0), (84, .getfield 35, 3, 1, 2, 2), (87, .iload_n 3, 1, 0, 0, 0), (88, .iconst 1, 1, 0, 0, 0), (89, .aload_n 2, 1, 0, 0, 0), (90, .getfield 35, 3, 1, 2, 2), (93, .iload_n 3, 1, 0, 0, 0),
  (94, .iaload, 1, 0, 0, 0), (95, .isub, 1, 0, 0, 0), (96, .iastore, 1, 0, 0, 0), (97, .goto 15, 3, 112, 0, 0), (100, .aload_n 2, 1, 0, 0, 0), (101, .getfield 38, 3, 1, 3, 2), (104, .iload_n 3, 1, 0, 0, 0), (105, .aload_n 0, 1, 0, 0, 0),
  (106, .getfield 18, 3, 6, 3, 2), (109, .iload_n 1, 1, 0, 0, 0), (110, .iaload, 1, 0, 0, 0), (111, .iastore, 1, 0, 0, 0), (112, .return_, 1, 0, 0, 0)]
/-- SamePassers$Street.<init>()V -/
def mm_c64 : List (Nat × mm_E) := [(0, .aload_n 0, 1, 0, 0, 0), (1, .invokespecial 3, 3, 0, 0, 4), (4, .aload_n 0, 1, 0, 0, 0), (5, .bipush 6, 2, 0, 0, 0), (7, .newarray .long, 2, 0, 0, 0), (9, .putfield 9, 3, 7, 8, 2), (12, .aload_n 0, 1, 0, 0, 0), (13, .bipush 6, 2, 0, 0, 0),
  (15, .newarray .int, 2, 0, 0, 0), (17, .putfield 15, 3, 7, 9, 2), (20, .aload_n 0, 1, 0, 0, 0), (21, .bipush 8, 2, 0, 0, 0), (23, .anewarray 19, 3, 26, 0, 0), (26, .putfield 21, 3, 7, 11, 2), (29, .aload_n 0, 1, 0, 0, 0), (30, .bipush 8, 2, 0, 0, 0),
  (32, .newarray .int, 2, 0, 0, 0), (34, .putfield 25, 3, 7, 13, 2), (37, .aload_n 0, 1, 0, 0, 0), (38, .bipush 8, 2, 0, 0, 0), (40, .newarray .int, 2, 0, 0, 0), (42, .putfield 28, 3, 7, 14, 2), (45, .aload_n 0, 1, 0, 0, 0), (46, .bipush 8, 2, 0, 0, 0),
  (48, .newarray .int, 2, 0, 0, 0), (50, .putfield 31, 3, 7, 15, 2), (53, .aload_n 0, 1, 0, 0, 0), (54, .new 34, 3, 3, 0, 0), (57, .dup, 1, 0, 0, 0), (58, .ldc 36, 2, 2, 2, 0), (60, .ldc 38, 2, 2, 3, 0), (62, .invokespecial 40, 3, 23, 3, 3),
  (65, .putfield 43, 3, 7, 16, 2), (68, .aload_n 0, 1, 0, 0, 0), (69, .new 34, 3, 3, 0, 0), (72, .dup, 1, 0, 0, 0), (73, .ldc 47, 2, 2, 4, 0), (75, .ldc 49, 2, 2, 5, 0), (77, .invokespecial 40, 3, 23, 3, 3), (80, .putfield 51, 3, 7, 17, 2),
  (83, .iconst 0, 1, 0, 0, 0), (84, .istore_n 1, 1, 0, 0, 0), (85, .iload_n 1, 1, 0, 0, 0), (86, .bipush 8, 2, 0, 0, 0), (88, .if_icmp .ge 22, 3, 110, 0, 0), (91, .aload_n 0, 1, 0, 0, 0), (92, .getfield 21, 3, 7, 11, 2), (95, .iload_n 1, 1, 0, 0, 0),
  (96, .new 19, 3, 9, 0, 0), (99, .dup, 1, 0, 0, 0), (100, .invokespecial 54, 3, 83, 1, 5), (103, .aastore, 1, 0, 0, 0), (104, .iinc 1 1, 3, 0, 0, 0), (107, .goto (-22), 3, 85, 0, 0), (110, .aload_n 0, 1, 0, 0, 0), (111, .invokevirtual 55, 3, 65, 1, 2),
  (114, .return_, 1, 0, 0, 0)]
/-- SamePassers$Street.clear()V -/
def mm_c65 : List (Nat × mm_E) := [(0, .aload_n 0, 1, 0, 0, 0), (1, .iconst 4, 1, 0, 0, 0), (2, .putfield 58, 3, 7, 0, 0), (5, .aload_n 0, 1, 0, 0, 0), (6, .iconst 1, 1, 0, 0, 0), (7, .putfield 62, 3, 7, 1, 0), (10, .aload_n 0, 1, 0, 0, 0), (11, .iconst 0, 1, 0, 0, 0),
  (12, .putfield 65, 3, 7, 2, 0), (15, .aload_n 0, 1, 0, 0, 0), (16, .iconst 3, 1, 0, 0, 0), (17, .putfield 68, 3, 7, 3, 0), (20, .aload_n 0, 1, 0, 0, 0), (21, .iconst 1, 1, 0, 0, 0), (22, .putfield 71, 3, 7, 4, 0), (25, .aload_n 0, 1, 0, 0, 0),
  (26, .bipush 20, 2, 0, 0, 0), (28, .putfield 74, 3, 7, 5, 0), (31, .aload_n 0, 1, 0, 0, 0), (32, .iconst 0, 1, 0, 0, 0), (33, .putfield 77, 3, 7, 6, 3), (36, .aload_n 0, 1, 0, 0, 0), (37, .iconst 0, 1, 0, 0, 0), (38, .putfield 81, 3, 7, 7, 0),
  (41, .aload_n 0, 1, 0, 0, 0), (42, .iconst 0, 1, 0, 0, 0), (43, .putfield 84, 3, 7, 10, 0), (46, .aload_n 0, 1, 0, 0, 0), (47, .iconst 0, 1, 0, 0, 0), (48, .putfield 87, 3, 7, 12, 0), (51, .aload_n 0, 1, 0, 0, 0), (52, .getfield 43, 3, 7, 16, 2),
  (55, .invokevirtual 90, 3, 24, 1, 2), (58, .aload_n 0, 1, 0, 0, 0), (59, .getfield 43, 3, 7, 16, 2), (62, .bipush (-2), 2, 0, 0, 0), (64, .invokevirtual 91, 3, 25, 2, 2), (67, .aload_n 0, 1, 0, 0, 0), (68, .getfield 51, 3, 7, 17, 2), (71, .invokevirtual 90, 3, 24, 1, 2),
  (74, .aload_n 0, 1, 0, 0, 0), (75, .getfield 51, 3, 7, 17, 2), (78, .bipush (-3), 2, 0, 0, 0), (80, .invokevirtual 91, 3, 25, 2, 2), (83, .aload_n 0, 1, 0, 0, 0), (84, .getfield 51, 3, 7, 17, 2), (87, .iconst 1, 1, 0, 0, 0), (88, .invokevirtual 91, 3, 25, 2, 2),
  (91, .aload_n 0, 1, 0, 0, 0), (92, .getfield 51, 3, 7, 17, 2), (95, .bipush (-10), 2, 0, 0, 0), (97, .invokevirtual 91, 3, 25, 2, 2), (100, .return_, 1, 0, 0, 0)]
/-- SamePassers$Street.findWord(J)I -/
def mm_c66 : List (Nat × mm_E) := [(0, .iconst 0, 1, 0, 0, 0), (1, .istore_n 3, 1, 0, 0, 0), (2, .iload_n 3, 1, 0, 0, 0), (3, .aload_n 0, 1, 0, 0, 0), (4, .getfield 81, 3, 7, 7, 0), (7, .if_icmp .ge 22, 3, 29, 0, 0), (10, .aload_n 0, 1, 0, 0, 0), (11, .getfield 9, 3, 7, 8, 2),
  (14, .iload_n 3, 1, 0, 0, 0), (15, .laload, 1, 0, 0, 0), (16, .lload_n 1, 1, 0, 0, 0), (17, .lcmp, 1, 0, 0, 0), (18, .ifCond .ne 5, 3, 23, 0, 0), (21, .iload_n 3, 1, 0, 0, 0), (22, .ireturn, 1, 0, 0, 0), (23, .iinc 3 1, 3, 0, 0, 0),
  (26, .goto (-24), 3, 2, 0, 0), (29, .iconst (-1), 1, 0, 0, 0), (30, .ireturn, 1, 0, 0, 0)]
/-- SamePassers$Street.findWalker(J)I -/
def mm_c67 : List (Nat × mm_E) := [(0, .iconst 0, 1, 0, 0, 0), (1, .istore_n 3, 1, 0, 0, 0), (2, .iload_n 3, 1, 0, 0, 0), (3, .aload_n 0, 1, 0, 0, 0), (4, .getfield 84, 3, 7, 10, 0), (7, .if_icmp .ge 25, 3, 32, 0, 0), (10, .aload_n 0, 1, 0, 0, 0), (11, .getfield 21, 3, 7, 11, 2),
  (14, .iload_n 3, 1, 0, 0, 0), (15, .aaload, 1, 0, 0, 0), (16, .getfield 95, 3, 9, 0, 1), (19, .lload_n 1, 1, 0, 0, 0), (20, .lcmp, 1, 0, 0, 0), (21, .ifCond .ne 5, 3, 26, 0, 0), (24, .iload_n 3, 1, 0, 0, 0), (25, .ireturn, 1, 0, 0, 0),
  (26, .iinc 3 1, 3, 0, 0, 0), (29, .goto (-27), 3, 2, 0, 0), (32, .iconst (-1), 1, 0, 0, 0), (33, .ireturn, 1, 0, 0, 0)]
/-- SamePassers$Street.hasMust(II)Z -/
def mm_c68 : List (Nat × mm_E) := [(0, .iconst 0, 1, 0, 0, 0), (1, .istore_n 3, 1, 0, 0, 0), (2, .iload_n 3, 1, 0, 0, 0), (3, .aload_n 0, 1, 0, 0, 0), (4, .getfield 87, 3, 7, 12, 0), (7, .if_icmp .ge 31, 3, 38, 0, 0), (10, .aload_n 0, 1, 0, 0, 0), (11, .getfield 25, 3, 7, 13, 2),
  (14, .iload_n 3, 1, 0, 0, 0), (15, .iaload, 1, 0, 0, 0), (16, .iload_n 1, 1, 0, 0, 0), (17, .if_icmp .ne 15, 3, 32, 0, 0), (20, .aload_n 0, 1, 0, 0, 0), (21, .getfield 28, 3, 7, 14, 2), (24, .iload_n 3, 1, 0, 0, 0), (25, .iaload, 1, 0, 0, 0),
  (26, .iload_n 2, 1, 0, 0, 0), (27, .if_icmp .ne 5, 3, 32, 0, 0), (30, .iconst 1, 1, 0, 0, 0), (31, .ireturn, 1, 0, 0, 0), (32, .iinc 3 1, 3, 0, 0, 0), (35, .goto (-33), 3, 2, 0, 0), (38, .iconst 0, 1, 0, 0, 0), (39, .ireturn, 1, 0, 0, 0)]
/-- SamePassers$Street.addMust(III)V -/
def mm_c69 : List (Nat × mm_E) := [(0, .aload_n 0, 1, 0, 0, 0), (1, .getfield 87, 3, 7, 12, 0), (4, .bipush 8, 2, 0, 0, 0), (6, .if_icmp .ge 43, 3, 49, 0, 0), (9, .aload_n 0, 1, 0, 0, 0), (10, .getfield 25, 3, 7, 13, 2), (13, .aload_n 0, 1, 0, 0, 0), (14, .getfield 87, 3, 7, 12, 0),
  (17, .iload_n 1, 1, 0, 0, 0), (18, .iastore, 1, 0, 0, 0), (19, .aload_n 0, 1, 0, 0, 0), (20, .getfield 28, 3, 7, 14, 2), (23, .aload_n 0, 1, 0, 0, 0), (24, .getfield 87, 3, 7, 12, 0), (27, .iload_n 2, 1, 0, 0, 0), (28, .iastore, 1, 0, 0, 0),
  (29, .aload_n 0, 1, 0, 0, 0), (30, .getfield 31, 3, 7, 15, 2), (33, .aload_n 0, 1, 0, 0, 0), (34, .getfield 87, 3, 7, 12, 0), (37, .iload_n 3, 1, 0, 0, 0), (38, .iastore, 1, 0, 0, 0), (39, .aload_n 0, 1, 0, 0, 0), (40, .dup, 1, 0, 0, 0),
  (41, .getfield 87, 3, 7, 12, 0), (44, .iconst 1, 1, 0, 0, 0), (45, .iadd, 1, 0, 0, 0), (46, .putfield 87, 3, 7, 12, 0), (49, .return_, 1, 0, 0, 0)]
/-- SamePassers$Street.tempoOf(II)I -/
def mm_c70 : List (Nat × mm_E) := [(0, .aload_n 0, 1, 0, 0, 0), (1, .getfield 43, 3, 7, 16, 2), (4, .aload_n 0, 1, 0, 0, 0), (5, .getfield 21, 3, 7, 11, 2), (8, .iload_n 1, 1, 0, 0, 0), (9, .aaload, 1, 0, 0, 0), (10, .getfield 99, 3, 9, 5, 0), (13, .iload_n 2, 1, 0, 0, 0),
  (14, .invokevirtual 102, 3, 26, 3, 2), (17, .istore_n 3, 1, 0, 0, 0), (18, .iconst 1, 1, 0, 0, 0), (19, .bipush 99, 2, 0, 0, 0), (21, .iload_n 3, 1, 0, 0, 0), (22, .invokestatic 106, 3, 0, 0, 11), (25, .invokestatic 111, 3, 0, 0, 10), (28, .ireturn, 1, 0, 0, 0)]
/-- SamePassers$Street.cueOf(I)I -/
def mm_c71 : List (Nat × mm_E) := [(0, .aload_n 0, 1, 0, 0, 0), (1, .getfield 21, 3, 7, 11, 2), (4, .iload_n 1, 1, 0, 0, 0), (5, .aaload, 1, 0, 0, 0), (6, .astore_n 2, 1, 0, 0, 0), (7, .aload_n 2, 1, 0, 0, 0), (8, .getfield 114, 3, 9, 1, 0), (11, .iconst 3, 1, 0, 0, 0),
  (12, .if_icmp .eq 25, 3, 37, 0, 0), (15, .aload_n 2, 1, 0, 0, 0), (16, .getfield 116, 3, 9, 7, 0), (19, .ifCond .lt 18, 3, 37, 0, 0), (22, .aload_n 2, 1, 0, 0, 0), (23, .getfield 116, 3, 9, 7, 0), (26, .aload_n 0, 1, 0, 0, 0), (27, .getfield 81, 3, 7, 7, 0),
  (30, .if_icmp .ge 7, 3, 37, 0, 0), (33, .iconst 1, 1, 0, 0, 0), (34, .goto 4, 3, 38, 0, 0), (37, .iconst 0, 1, 0, 0, 0), (38, .istore_n 3, 1, 0, 0, 0), (39, .iload_n 3, 1, 0, 0, 0), (40, .ifCond .eq 20, 3, 60, 0, 0), (43, .aload_n 0, 1, 0, 0, 0),
  (44, .getfield 15, 3, 7, 9, 2), (47, .aload_n 2, 1, 0, 0, 0), (48, .getfield 116, 3, 9, 7, 0), (51, .iaload, 1, 0, 0, 0), (52, .aload_n 2, 1, 0, 0, 0), (53, .getfield 119, 3, 9, 6, 0), (56, .iadd, 1, 0, 0, 0), (57, .goto 7, 3, 64, 0, 0),
  (60, .aload_n 2, 1, 0, 0, 0), (61, .getfield 119, 3, 9, 6, 0), (64, .ireturn, 1, 0, 0, 0)]
/-- SamePassers$Street.inFrame(I)Z -/
def mm_c72 : List (Nat × mm_E) := [(0, .iload_n 1, 1, 0, 0, 0), (1, .aload_n 0, 1, 0, 0, 0), (2, .getfield 65, 3, 7, 2, 0), (5, .if_icmp .lt 15, 3, 20, 0, 0), (8, .iload_n 1, 1, 0, 0, 0), (9, .aload_n 0, 1, 0, 0, 0), (10, .getfield 68, 3, 7, 3, 0), (13, .if_icmp .gt 7, 3, 20, 0, 0),
  (16, .iconst 1, 1, 0, 0, 0), (17, .goto 4, 3, 21, 0, 0), (20, .iconst 0, 1, 0, 0, 0), (21, .ireturn, 1, 0, 0, 0)]
/-- SamePassers$Street.knownBy(II)I -/
def mm_c73 : List (Nat × mm_E) := [(0, .iload_n 2, 1, 0, 0, 0), (1, .iconst 2, 1, 0, 0, 0), (2, .if_icmp .ge 5, 3, 7, 0, 0), (5, .iconst 0, 1, 0, 0, 0), (6, .ireturn, 1, 0, 0, 0), (7, .iconst 0, 1, 0, 0, 0), (8, .bipush 10, 2, 0, 0, 0), (10, .aload_n 0, 1, 0, 0, 0),
  (11, .getfield 51, 3, 7, 17, 2), (14, .aload_n 0, 1, 0, 0, 0), (15, .getfield 21, 3, 7, 11, 2), (18, .iload_n 1, 1, 0, 0, 0), (19, .aaload, 1, 0, 0, 0), (20, .getfield 114, 3, 9, 1, 0), (23, .iload_n 2, 1, 0, 0, 0), (24, .invokevirtual 102, 3, 26, 3, 2),
  (27, .invokestatic 106, 3, 0, 0, 11), (30, .invokestatic 111, 3, 0, 0, 10), (33, .ireturn, 1, 0, 0, 0)]
/-- SamePassers$Street.jumpBetween(II)I -/
def mm_c74 : List (Nat × mm_E) := [(0, .iload_n 1, 1, 0, 0, 0), (1, .iconst (-1), 1, 0, 0, 0), (2, .if_icmp .eq 15, 3, 17, 0, 0), (5, .iload_n 2, 1, 0, 0, 0), (6, .iconst (-1), 1, 0, 0, 0), (7, .if_icmp .eq 10, 3, 17, 0, 0), (10, .iload_n 1, 1, 0, 0, 0), (11, .iload_n 2, 1, 0, 0, 0),
  (12, .isub, 1, 0, 0, 0), (13, .invokestatic 122, 3, 0, 0, 12), (16, .ireturn, 1, 0, 0, 0), (17, .iload_n 1, 1, 0, 0, 0), (18, .iload_n 2, 1, 0, 0, 0), (19, .if_icmp .ne 7, 3, 26, 0, 0), (22, .iconst 0, 1, 0, 0, 0), (23, .goto 14, 3, 37, 0, 0),
  (26, .aload_n 0, 1, 0, 0, 0), (27, .getfield 68, 3, 7, 3, 0), (30, .aload_n 0, 1, 0, 0, 0), (31, .getfield 65, 3, 7, 2, 0), (34, .isub, 1, 0, 0, 0), (35, .iconst 1, 1, 0, 0, 0), (36, .iadd, 1, 0, 0, 0), (37, .ireturn, 1, 0, 0, 0)]
/-- SamePassers$Tape.<init>()V -/
def mm_c75 : List (Nat × mm_E) := [(0, .aload_n 0, 1, 0, 0, 0), (1, .invokespecial 3, 3, 0, 0, 4), (4, .aload_n 0, 1, 0, 0, 0), (5, .sipush 1000, 3, 0, 0, 0), (8, .newarray .char, 2, 0, 0, 0), (10, .putfield 9, 3, 8, 0, 2), (13, .aload_n 0, 1, 0, 0, 0), (14, .bipush 30, 2, 0, 0, 0),
  (16, .newarray .long, 2, 0, 0, 0), (18, .putfield 15, 3, 8, 1, 2), (21, .iconst 0, 1, 0, 0, 0), (22, .istore_n 1, 1, 0, 0, 0), (23, .iconst 0, 1, 0, 0, 0), (24, .istore_n 2, 1, 0, 0, 0), (25, .iload_n 2, 1, 0, 0, 0), (26, .ldc 19, 2, 2, 1, 0),
  (28, .invokevirtual 21, 3, 282, 1, 2), (31, .if_icmp .ge 56, 3, 87, 0, 0), (34, .iload_n 1, 1, 0, 0, 0), (35, .bipush 30, 2, 0, 0, 0), (37, .if_icmp .ge 50, 3, 87, 0, 0), (40, .ldc 19, 2, 2, 1, 0), (42, .iload_n 2, 1, 0, 0, 0), (43, .invokevirtual 27, 3, 284, 2, 2),
  (46, .istore_n 3, 1, 0, 0, 0), (47, .iload_n 3, 1, 0, 0, 0), (48, .bipush 32, 2, 0, 0, 0), (50, .if_icmp .ne 9, 3, 59, 0, 0), (53, .iinc 1 1, 3, 0, 0, 0), (56, .goto 25, 3, 81, 0, 0), (59, .aload_n 0, 1, 0, 0, 0), (60, .getfield 15, 3, 8, 1, 2),
  (63, .iload_n 1, 1, 0, 0, 0), (64, .aload_n 0, 1, 0, 0, 0), (65, .getfield 15, 3, 8, 1, 2), (68, .iload_n 1, 1, 0, 0, 0), (69, .laload, 1, 0, 0, 0), (70, .ldc2_w 31, 3, 1, 0, 27), (73, .lmul, 1, 0, 0, 0), (74, .iload_n 3, 1, 0, 0, 0),
  (75, .bipush 96, 2, 0, 0, 0), (77, .isub, 1, 0, 0, 0), (78, .i2l, 1, 0, 0, 0), (79, .ladd, 1, 0, 0, 0), (80, .lastore, 1, 0, 0, 0), (81, .iinc 2 1, 3, 0, 0, 0), (84, .goto (-59), 3, 25, 0, 0), (87, .return_, 1, 0, 0, 0)]
/-- SamePassers$Tape.asWord(Ljava/lang/String;)J -/
def mm_c76 : List (Nat × mm_E) := [(0, .lconst 0, 1, 0, 0, 0), (1, .lstore_n 1, 1, 0, 0, 0), (2, .iconst 0, 1, 0, 0, 0), (3, .istore_n 3, 1, 0, 0, 0), (4, .iload_n 3, 1, 0, 0, 0), (5, .aload_n 0, 1, 0, 0, 0), (6, .invokevirtual 21, 3, 282, 1, 2), (9, .if_icmp .ge 25, 3, 34, 0, 0),
  (12, .lload_n 1, 1, 0, 0, 0), (13, .ldc2_w 31, 3, 1, 0, 27), (16, .lmul, 1, 0, 0, 0), (17, .aload_n 0, 1, 0, 0, 0), (18, .iload_n 3, 1, 0, 0, 0), (19, .invokevirtual 27, 3, 284, 2, 2), (22, .bipush 96, 2, 0, 0, 0), (24, .isub, 1, 0, 0, 0),
  (25, .i2l, 1, 0, 0, 0), (26, .ladd, 1, 0, 0, 0), (27, .lstore_n 1, 1, 0, 0, 0), (28, .iinc 3 1, 3, 0, 0, 0), (31, .goto (-27), 3, 4, 0, 0), (34, .lload_n 1, 1, 0, 0, 0), (35, .lreturn, 1, 0, 0, 0)]
/-- SamePassers$Tape.add(J)V -/
def mm_c77 : List (Nat × mm_E) := [(0, .bipush 56, 2, 0, 0, 0), (2, .istore_n 3, 1, 0, 0, 0), (3, .iload_n 3, 1, 0, 0, 0), (4, .ifCond .lt 86, 3, 90, 0, 0), (7, .lload_n 1, 1, 0, 0, 0), (8, .iload_n 3, 1, 0, 0, 0), (9, .lushr, 1, 0, 0, 0), (10, .l2i, 1, 0, 0, 0),
  (11, .sipush 255, 3, 0, 0, 0), (14, .iand, 1, 0, 0, 0), (15, .istore 4, 2, 0, 0, 0), (17, .iload 4, 2, 0, 0, 0), (19, .bipush 10, 2, 0, 0, 0), (21, .if_icmp .eq 17, 3, 38, 0, 0), (24, .iload 4, 2, 0, 0, 0), (26, .bipush 32, 2, 0, 0, 0),
  (28, .if_icmp .lt 14, 3, 42, 0, 0), (31, .iload 4, 2, 0, 0, 0), (33, .bipush 126, 2, 0, 0, 0), (35, .if_icmp .gt 7, 3, 42, 0, 0), (38, .iconst 1, 1, 0, 0, 0), (39, .goto 4, 3, 43, 0, 0), (42, .iconst 0, 1, 0, 0, 0), (43, .istore 5, 2, 0, 0, 0),
  (45, .iload 5, 2, 0, 0, 0), (47, .ifCond .eq 37, 3, 84, 0, 0), (50, .aload_n 0, 1, 0, 0, 0), (51, .getfield 33, 3, 8, 3, 0), (54, .aload_n 0, 1, 0, 0, 0), (55, .getfield 9, 3, 8, 0, 2), (58, .arraylength, 1, 0, 0, 0), (59, .if_icmp .ge 25, 3, 84, 0, 0),
  (62, .aload_n 0, 1, 0, 0, 0), (63, .getfield 9, 3, 8, 0, 2), (66, .aload_n 0, 1, 0, 0, 0), (67, .getfield 33, 3, 8, 3, 0), (70, .iload 4, 2, 0, 0, 0), (72, .i2c, 1, 0, 0, 0), (73, .castore, 1, 0, 0, 0), (74, .aload_n 0, 1, 0, 0, 0),
  (75, .dup, 1, 0, 0, 0), (76, .getfield 33, 3, 8, 3, 0), (79, .iconst 1, 1, 0, 0, 0), (80, .iadd, 1, 0, 0, 0), (81, .putfield 33, 3, 8, 3, 0), (84, .iinc 3 (-8), 3, 0, 0, 0), (87, .goto (-84), 3, 3, 0, 0), (90, .return_, 1, 0, 0, 0)]
/-- SamePassers$Tape.rewind()V -/
def mm_c78 : List (Nat × mm_E) := [(0, .aload_n 0, 1, 0, 0, 0), (1, .iconst 0, 1, 0, 0, 0), (2, .putfield 36, 3, 8, 2, 0), (5, .aload_n 0, 1, 0, 0, 0), (6, .invokevirtual 39, 3, 79, 1, 2), (9, .return_, 1, 0, 0, 0)]
/-- SamePassers$Tape.step()V -/
def mm_c79 : List (Nat × mm_E) := [(0, .aload_n 0, 1, 0, 0, 0), (1, .getfield 36, 3, 8, 2, 0), (4, .aload_n 0, 1, 0, 0, 0), (5, .getfield 33, 3, 8, 3, 0), (8, .if_icmp .ge 44, 3, 52, 0, 0), (11, .aload_n 0, 1, 0, 0, 0), (12, .getfield 9, 3, 8, 0, 2), (15, .aload_n 0, 1, 0, 0, 0),
  (16, .getfield 36, 3, 8, 2, 0), (19, .caload, 1, 0, 0, 0), (20, .bipush 10, 2, 0, 0, 0), (22, .if_icmp .eq 17, 3, 39, 0, 0), (25, .aload_n 0, 1, 0, 0, 0), (26, .getfield 9, 3, 8, 0, 2), (29, .aload_n 0, 1, 0, 0, 0), (30, .getfield 36, 3, 8, 2, 0),
  (33, .caload, 1, 0, 0, 0), (34, .bipush 32, 2, 0, 0, 0), (36, .if_icmp .ne 16, 3, 52, 0, 0), (39, .aload_n 0, 1, 0, 0, 0), (40, .dup, 1, 0, 0, 0), (41, .getfield 36, 3, 8, 2, 0), (44, .iconst 1, 1, 0, 0, 0), (45, .iadd, 1, 0, 0, 0),
  (46, .putfield 36, 3, 8, 2, 0), (49, .goto (-49), 3, 0, 0, 0), (52, .aload_n 0, 1, 0, 0, 0), (53, .aload_n 0, 1, 0, 0, 0), (54, .getfield 36, 3, 8, 2, 0), (57, .putfield 42, 3, 8, 5, 0), (60, .aload_n 0, 1, 0, 0, 0), (61, .getfield 36, 3, 8, 2, 0),
  (64, .aload_n 0, 1, 0, 0, 0), (65, .getfield 33, 3, 8, 3, 0), (68, .if_icmp .lt 11, 3, 79, 0, 0), (71, .aload_n 0, 1, 0, 0, 0), (72, .sipush 128, 3, 0, 0, 0), (75, .putfield 45, 3, 8, 4, 0), (78, .return_, 1, 0, 0, 0), (79, .aload_n 0, 1, 0, 0, 0),
  (80, .getfield 9, 3, 8, 0, 2), (83, .aload_n 0, 1, 0, 0, 0), (84, .getfield 36, 3, 8, 2, 0), (87, .caload, 1, 0, 0, 0), (88, .istore_n 1, 1, 0, 0, 0), (89, .iload_n 1, 1, 0, 0, 0), (90, .bipush 97, 2, 0, 0, 0), (92, .if_icmp .lt 16, 3, 108, 0, 0),
  (95, .iload_n 1, 1, 0, 0, 0), (96, .bipush 122, 2, 0, 0, 0), (98, .if_icmp .gt 10, 3, 108, 0, 0), (101, .aload_n 0, 1, 0, 0, 0), (102, .invokevirtual 48, 3, 80, 1, 2), (105, .goto 51, 3, 156, 0, 0), (108, .iload_n 1, 1, 0, 0, 0), (109, .bipush 48, 2, 0, 0, 0),
  (111, .if_icmp .lt 16, 3, 127, 0, 0), (114, .iload_n 1, 1, 0, 0, 0), (115, .bipush 57, 2, 0, 0, 0), (117, .if_icmp .gt 10, 3, 127, 0, 0), (120, .aload_n 0, 1, 0, 0, 0), (121, .invokevirtual 51, 3, 81, 1, 2), (124, .goto 32, 3, 156, 0, 0), (127, .aload_n 0, 1, 0, 0, 0),
  (128, .dup, 1, 0, 0, 0), (129, .getfield 36, 3, 8, 2, 0), (132, .iconst 1, 1, 0, 0, 0), (133, .iadd, 1, 0, 0, 0), (134, .putfield 36, 3, 8, 2, 0), (137, .aload_n 0, 1, 0, 0, 0), (138, .ldc 54, 2, 2, 6, 0), (140, .iload_n 1, 1, 0, 0, 0),
  (141, .invokevirtual 56, 3, 287, 2, 2), (144, .ifCond .ge 8, 3, 152, 0, 0), (147, .bipush 127, 2, 0, 0, 0), (149, .goto 4, 3, 153, 0, 0), (152, .iload_n 1, 1, 0, 0, 0), (153, .putfield 45, 3, 8, 4, 0), (156, .return_, 1, 0, 0, 0)]
/-- SamePassers$Tape.stepWord()V -/
def mm_c80 : List (Nat × mm_E) := [(0, .aload_n 0, 1, 0, 0, 0), (1, .lconst 0, 1, 0, 0, 0), (2, .putfield 60, 3, 8, 7, 1), (5, .aload_n 0, 1, 0, 0, 0), (6, .getfield 36, 3, 8, 2, 0), (9, .aload_n 0, 1, 0, 0, 0), (10, .getfield 33, 3, 8, 3, 0), (13, .if_icmp .ge 70, 3, 83, 0, 0),
  (16, .aload_n 0, 1, 0, 0, 0), (17, .getfield 9, 3, 8, 0, 2), (20, .aload_n 0, 1, 0, 0, 0), (21, .getfield 36, 3, 8, 2, 0), (24, .caload, 1, 0, 0, 0), (25, .bipush 97, 2, 0, 0, 0), (27, .if_icmp .lt 56, 3, 83, 0, 0), (30, .aload_n 0, 1, 0, 0, 0),
  (31, .getfield 9, 3, 8, 0, 2), (34, .aload_n 0, 1, 0, 0, 0), (35, .getfield 36, 3, 8, 2, 0), (38, .caload, 1, 0, 0, 0), (39, .bipush 122, 2, 0, 0, 0), (41, .if_icmp .gt 42, 3, 83, 0, 0), (44, .aload_n 0, 1, 0, 0, 0), (45, .aload_n 0, 1, 0, 0, 0),
  (46, .getfield 60, 3, 8, 7, 1), (49, .ldc2_w 31, 3, 1, 0, 27), (52, .lmul, 1, 0, 0, 0), (53, .aload_n 0, 1, 0, 0, 0), (54, .getfield 9, 3, 8, 0, 2), (57, .aload_n 0, 1, 0, 0, 0), (58, .getfield 36, 3, 8, 2, 0), (61, .caload, 1, 0, 0, 0),
  (62, .bipush 96, 2, 0, 0, 0), (64, .isub, 1, 0, 0, 0), (65, .i2l, 1, 0, 0, 0), (66, .ladd, 1, 0, 0, 0), (67, .putfield 60, 3, 8, 7, 1), (70, .aload_n 0, 1, 0, 0, 0), (71, .dup, 1, 0, 0, 0), (72, .getfield 36, 3, 8, 2, 0),
  (75, .iconst 1, 1, 0, 0, 0), (76, .iadd, 1, 0, 0, 0), (77, .putfield 36, 3, 8, 2, 0), (80, .goto (-75), 3, 5, 0, 0), (83, .aload_n 0, 1, 0, 0, 0), (84, .getfield 36, 3, 8, 2, 0), (87, .aload_n 0, 1, 0, 0, 0), (88, .getfield 42, 3, 8, 5, 0),
  (91, .isub, 1, 0, 0, 0), (92, .bipush 8, 2, 0, 0, 0), (94, .if_icmp .le 10, 3, 104, 0, 0), (97, .aload_n 0, 1, 0, 0, 0), (98, .bipush 127, 2, 0, 0, 0), (100, .putfield 45, 3, 8, 4, 0), (103, .return_, 1, 0, 0, 0), (104, .aload_n 0, 1, 0, 0, 0),
  (105, .bipush 30, 2, 0, 0, 0), (107, .putfield 45, 3, 8, 4, 0), (110, .iconst 0, 1, 0, 0, 0), (111, .istore_n 1, 1, 0, 0, 0), (112, .iload_n 1, 1, 0, 0, 0), (113, .bipush 30, 2, 0, 0, 0), (115, .if_icmp .ge 37, 3, 152, 0, 0), (118, .aload_n 0, 1, 0, 0, 0),
  (119, .getfield 45, 3, 8, 4, 0), (122, .bipush 30, 2, 0, 0, 0), (124, .if_icmp .ne 28, 3, 152, 0, 0), (127, .aload_n 0, 1, 0, 0, 0), (128, .getfield 15, 3, 8, 1, 2), (131, .iload_n 1, 1, 0, 0, 0), (132, .laload, 1, 0, 0, 0), (133, .aload_n 0, 1, 0, 0, 0),
  (134, .getfield 60, 3, 8, 7, 1), (137, .lcmp, 1, 0, 0, 0), (138, .ifCond .ne 8, 3, 146, 0, 0), (141, .aload_n 0, 1, 0, 0, 0), (142, .iload_n 1, 1, 0, 0, 0), (143, .putfield 45, 3, 8, 4, 0), (146, .iinc 1 1, 3, 0, 0, 0), (149, .goto (-37), 3, 112, 0, 0),
  (152, .return_, 1, 0, 0, 0)]
/-- SamePassers$Tape.stepNumber()V -/
def mm_c81 : List (Nat × mm_E) := [(0, .aload_n 0, 1, 0, 0, 0), (1, .iconst 0, 1, 0, 0, 0), (2, .putfield 64, 3, 8, 6, 0), (5, .aload_n 0, 1, 0, 0, 0), (6, .getfield 36, 3, 8, 2, 0), (9, .aload_n 0, 1, 0, 0, 0), (10, .getfield 33, 3, 8, 3, 0), (13, .if_icmp .ge 68, 3, 81, 0, 0),
  (16, .aload_n 0, 1, 0, 0, 0), (17, .getfield 9, 3, 8, 0, 2), (20, .aload_n 0, 1, 0, 0, 0), (21, .getfield 36, 3, 8, 2, 0), (24, .caload, 1, 0, 0, 0), (25, .bipush 48, 2, 0, 0, 0), (27, .if_icmp .lt 54, 3, 81, 0, 0), (30, .aload_n 0, 1, 0, 0, 0),
  (31, .getfield 9, 3, 8, 0, 2), (34, .aload_n 0, 1, 0, 0, 0), (35, .getfield 36, 3, 8, 2, 0), (38, .caload, 1, 0, 0, 0), (39, .bipush 57, 2, 0, 0, 0), (41, .if_icmp .gt 40, 3, 81, 0, 0), (44, .aload_n 0, 1, 0, 0, 0), (45, .aload_n 0, 1, 0, 0, 0),
  (46, .getfield 64, 3, 8, 6, 0), (49, .bipush 10, 2, 0, 0, 0), (51, .imul, 1, 0, 0, 0), (52, .aload_n 0, 1, 0, 0, 0), (53, .getfield 9, 3, 8, 0, 2), (56, .aload_n 0, 1, 0, 0, 0), (57, .getfield 36, 3, 8, 2, 0), (60, .caload, 1, 0, 0, 0),
  (61, .bipush 48, 2, 0, 0, 0), (63, .isub, 1, 0, 0, 0), (64, .iadd, 1, 0, 0, 0), (65, .putfield 64, 3, 8, 6, 0), (68, .aload_n 0, 1, 0, 0, 0), (69, .dup, 1, 0, 0, 0), (70, .getfield 36, 3, 8, 2, 0), (73, .iconst 1, 1, 0, 0, 0),
  (74, .iadd, 1, 0, 0, 0), (75, .putfield 36, 3, 8, 2, 0), (78, .goto (-73), 3, 5, 0, 0), (81, .aload_n 0, 1, 0, 0, 0), (82, .aload_n 0, 1, 0, 0, 0), (83, .getfield 36, 3, 8, 2, 0), (86, .aload_n 0, 1, 0, 0, 0), (87, .getfield 42, 3, 8, 5, 0),
  (90, .isub, 1, 0, 0, 0), (91, .iconst 4, 1, 0, 0, 0), (92, .if_icmp .le 8, 3, 100, 0, 0), (95, .bipush 127, 2, 0, 0, 0), (97, .goto 5, 3, 102, 0, 0), (100, .bipush 31, 2, 0, 0, 0), (102, .putfield 45, 3, 8, 4, 0), (105, .return_, 1, 0, 0, 0)]
/-- SamePassers$Tape.empty()V -/
def mm_c82 : List (Nat × mm_E) := [(0, .aload_n 0, 1, 0, 0, 0), (1, .iconst 0, 1, 0, 0, 0), (2, .putfield 33, 3, 8, 3, 0), (5, .return_, 1, 0, 0, 0)]
/-- SamePassers$Walker.<init>()V -/
def mm_c83 : List (Nat × mm_E) := [(0, .aload_n 0, 1, 0, 0, 0), (1, .invokespecial 1, 3, 0, 0, 4), (4, .return_, 1, 0, 0, 0)]
/-- SamePassers$Walks.<init>(LSamePassers$Street;)V -/
def mm_c84 : List (Nat × mm_E) := [(0, .aload_n 0, 1, 0, 0, 0), (1, .invokespecial 3, 3, 0, 0, 4), (4, .aload_n 0, 1, 0, 0, 0), (5, .bipush 8, 2, 0, 0, 0), (7, .newarray .int, 2, 0, 0, 0), (9, .putfield 9, 3, 10, 0, 2), (12, .aload_n 0, 1, 0, 0, 0), (13, .bipush 8, 2, 0, 0, 0),
  (15, .newarray .int, 2, 0, 0, 0), (17, .putfield 15, 3, 10, 1, 2), (20, .aload_n 0, 1, 0, 0, 0), (21, .bipush 8, 2, 0, 0, 0), (23, .newarray .int, 2, 0, 0, 0), (25, .putfield 18, 3, 10, 2, 2), (28, .aload_n 0, 1, 0, 0, 0), (29, .iconst 4, 1, 0, 0, 0),
  (30, .newarray .long, 2, 0, 0, 0), (32, .putfield 21, 3, 10, 3, 2), (35, .aload_n 0, 1, 0, 0, 0), (36, .bipush 8, 2, 0, 0, 0), (38, .newarray .int, 2, 0, 0, 0), (40, .putfield 25, 3, 10, 5, 2), (43, .aload_n 0, 1, 0, 0, 0), (44, .aload_n 1, 1, 0, 0, 0),
  (45, .putfield 28, 3, 10, 4, 2), (48, .return_, 1, 0, 0, 0)]
/-- SamePassers$Walks.set(LSamePassers$Street;LSamePassers$Hands;IZ)V -/
def mm_c85 : List (Nat × mm_E) := [(0, .aload_n 0, 1, 0, 0, 0), (1, .aload_n 1, 1, 0, 0, 0), (2, .putfield 28, 3, 10, 4, 2), (5, .iconst 0, 1, 0, 0, 0), (6, .istore 5, 2, 0, 0, 0), (8, .iload 5, 2, 0, 0, 0), (10, .aload_n 0, 1, 0, 0, 0), (11, .getfield 28, 3, 10, 4, 2),
  (14, .getfield 32, 3, 7, 10, 0), (17, .if_icmp .ge 87, 3, 104, 0, 0), (20, .aload_n 0, 1, 0, 0, 0), (21, .getfield 9, 3, 10, 0, 2), (24, .iload 5, 2, 0, 0, 0), (26, .aload_n 2, 1, 0, 0, 0), (27, .getfield 38, 3, 1, 1, 2), (30, .iload 5, 2, 0, 0, 0),
  (32, .iaload, 1, 0, 0, 0), (33, .iastore, 1, 0, 0, 0), (34, .aload_n 0, 1, 0, 0, 0), (35, .getfield 15, 3, 10, 1, 2), (38, .iload 5, 2, 0, 0, 0), (40, .aload_n 2, 1, 0, 0, 0), (41, .getfield 41, 3, 1, 2, 2), (44, .iload 5, 2, 0, 0, 0),
  (46, .iaload, 1, 0, 0, 0), (47, .iastore, 1, 0, 0, 0), (48, .aload_n 0, 1, 0, 0, 0), (49, .getfield 25, 3, 10, 5, 2), (52, .iload 5, 2, 0, 0, 0), (54, .aload_n 0, 1, 0, 0, 0), (55, .getfield 28, 3, 10, 4, 2), (58, .iload 5, 2, 0, 0, 0),
  (60, .iload_n 3, 1, 0, 0, 0), (61, .invokevirtual 42, 3, 70, 3, 2), (64, .iastore, 1, 0, 0, 0), (65, .aload_n 0, 1, 0, 0, 0), (66, .getfield 18, 3, 10, 2, 2), (69, .iload 5, 2, 0, 0, 0), (71, .aload_n 0, 1, 0, 0, 0), (72, .getfield 28, 3, 10, 4, 2),
  (75, .iload 5, 2, 0, 0, 0), (77, .invokevirtual 46, 3, 71, 2, 2), (80, .iload 4, 2, 0, 0, 0), (82, .ifCond .eq 13, 3, 95, 0, 0), (85, .aload_n 2, 1, 0, 0, 0), (86, .getfield 50, 3, 1, 3, 2), (89, .iload 5, 2, 0, 0, 0), (91, .iaload, 1, 0, 0, 0),
  (92, .goto 4, 3, 96, 0, 0), (95, .iconst 0, 1, 0, 0, 0), (96, .iadd, 1, 0, 0, 0), (97, .iastore, 1, 0, 0, 0), (98, .iinc 5 1, 3, 0, 0, 0), (101, .goto (-93), 3, 8, 0, 0), (104, .return_, 1, 0, 0, 0)]
/-- SamePassers$Walks.passesOf(I)I -/
def mm_c86 : List (Nat × mm_E) := [(0, .iconst 0, 1, 0, 0, 0), (1, .istore_n 2, 1, 0, 0, 0), (2, .iconst 0, 1, 0, 0, 0), (3, .istore_n 3, 1, 0, 0, 0), (4, .iconst 0, 1, 0, 0, 0), (5, .istore 4, 2, 0, 0, 0), (7, .iload 4, 2, 0, 0, 0), (9, .sipush 600, 3, 0, 0, 0),
  (12, .if_icmp .gt 40, 3, 52, 0, 0), (15, .aload_n 0, 1, 0, 0, 0), (16, .getfield 28, 3, 10, 4, 2), (19, .aload_n 0, 1, 0, 0, 0), (20, .iload_n 1, 1, 0, 0, 0), (21, .iload 4, 2, 0, 0, 0), (23, .invokevirtual 75, 3, 87, 3, 2), (26, .invokevirtual 78, 3, 72, 2, 2),
  (29, .istore 5, 2, 0, 0, 0), (31, .iload 5, 2, 0, 0, 0), (33, .ifCond .eq 10, 3, 43, 0, 0), (36, .iload_n 3, 1, 0, 0, 0), (37, .ifCond .ne 6, 3, 43, 0, 0), (40, .iinc 2 1, 3, 0, 0, 0), (43, .iload 5, 2, 0, 0, 0), (45, .istore_n 3, 1, 0, 0, 0),
  (46, .iinc 4 1, 3, 0, 0, 0), (49, .goto (-42), 3, 7, 0, 0), (52, .iload_n 2, 1, 0, 0, 0), (53, .ireturn, 1, 0, 0, 0)]
/-- SamePassers$Walks.cellOf(II)I -/
def mm_c87 : List (Nat × mm_E) := [(0, .aload_n 0, 1, 0, 0, 0), (1, .iload_n 1, 1, 0, 0, 0), (2, .iload_n 2, 1, 0, 0, 0), (3, .aload_n 0, 1, 0, 0, 0), (4, .getfield 18, 3, 10, 2, 2), (7, .iload_n 1, 1, 0, 0, 0), (8, .iaload, 1, 0, 0, 0), (9, .isub, 1, 0, 0, 0),
  (10, .invokevirtual 53, 3, 88, 3, 2), (13, .ireturn, 1, 0, 0, 0)]
/-- SamePassers$Walks.cellAfter(II)I -/
def mm_c88 : List (Nat × mm_E) := [(0, .aload_n 0, 1, 0, 0, 0), (1, .getfield 28, 3, 10, 4, 2), (4, .getfield 56, 3, 7, 0, 0), (7, .iconst 1, 1, 0, 0, 0), (8, .isub, 1, 0, 0, 0), (9, .istore_n 3, 1, 0, 0, 0), (10, .aload_n 0, 1, 0, 0, 0), (11, .getfield 15, 3, 10, 1, 2),
  (14, .iload_n 1, 1, 0, 0, 0), (15, .iaload, 1, 0, 0, 0), (16, .iconst 1, 1, 0, 0, 0), (17, .if_icmp .ne 7, 3, 24, 0, 0), (20, .iconst 1, 1, 0, 0, 0), (21, .goto 4, 3, 25, 0, 0), (24, .iconst 0, 1, 0, 0, 0), (25, .istore 4, 2, 0, 0, 0),
  (27, .iload 4, 2, 0, 0, 0), (29, .ifCond .eq 12, 3, 41, 0, 0), (32, .aload_n 0, 1, 0, 0, 0), (33, .getfield 9, 3, 10, 0, 2), (36, .iload_n 1, 1, 0, 0, 0), (37, .iaload, 1, 0, 0, 0), (38, .goto 11, 3, 49, 0, 0), (41, .iload_n 3, 1, 0, 0, 0),
  (42, .aload_n 0, 1, 0, 0, 0), (43, .getfield 9, 3, 10, 0, 2), (46, .iload_n 1, 1, 0, 0, 0), (47, .iaload, 1, 0, 0, 0), (48, .isub, 1, 0, 0, 0), (49, .istore 5, 2, 0, 0, 0), (51, .iload_n 2, 1, 0, 0, 0), (52, .ifCond .gt 8, 3, 60, 0, 0),
  (55, .iload 5, 2, 0, 0, 0), (57, .goto 28, 3, 85, 0, 0), (60, .aload_n 0, 1, 0, 0, 0), (61, .aload_n 0, 1, 0, 0, 0), (62, .getfield 28, 3, 10, 4, 2), (65, .getfield 59, 3, 7, 11, 2), (68, .iload_n 1, 1, 0, 0, 0), (69, .aaload, 1, 0, 0, 0),
  (70, .getfield 63, 3, 9, 1, 0), (73, .iload 5, 2, 0, 0, 0), (75, .iload_n 2, 1, 0, 0, 0), (76, .aload_n 0, 1, 0, 0, 0), (77, .getfield 25, 3, 10, 5, 2), (80, .iload_n 1, 1, 0, 0, 0), (81, .iaload, 1, 0, 0, 0), (82, .invokevirtual 68, 3, 89, 5, 2),
  (85, .istore 6, 2, 0, 0, 0), (87, .iload 6, 2, 0, 0, 0), (89, .iconst (-1), 1, 0, 0, 0), (90, .if_icmp .eq 8, 3, 98, 0, 0), (93, .iload 4, 2, 0, 0, 0), (95, .ifCond .eq 8, 3, 103, 0, 0), (98, .iload 6, 2, 0, 0, 0), (100, .goto 7, 3, 107, 0, 0),
  (103, .iload_n 3, 1, 0, 0, 0), (104, .iload 6, 2, 0, 0, 0), (106, .isub, 1, 0, 0, 0), (107, .ireturn, 1, 0, 0, 0)]
/-- SamePassers$Walks.along(IIII)I -/
def mm_c89 : List (Nat × mm_E) := [(0, .aload_n 0, 1, 0, 0, 0), (1, .getfield 28, 3, 10, 4, 2), (4, .getfield 56, 3, 7, 0, 0), (7, .istore 5, 2, 0, 0, 0), (9, .iload 4, 2, 0, 0, 0), (11, .iconst 1, 1, 0, 0, 0), (12, .if_icmp .lt 9, 3, 21, 0, 0), (15, .iload 5, 2, 0, 0, 0),
  (17, .iconst 1, 1, 0, 0, 0), (18, .if_icmp .ge 5, 3, 23, 0, 0), (21, .iconst (-1), 1, 0, 0, 0), (22, .ireturn, 1, 0, 0, 0), (23, .iload_n 2, 1, 0, 0, 0), (24, .iload_n 3, 1, 0, 0, 0), (25, .iload 4, 2, 0, 0, 0), (27, .idiv, 1, 0, 0, 0),
  (28, .iadd, 1, 0, 0, 0), (29, .istore 6, 2, 0, 0, 0), (31, .iload 6, 2, 0, 0, 0), (33, .iload 5, 2, 0, 0, 0), (35, .if_icmp .ge 6, 3, 41, 0, 0), (38, .iload 6, 2, 0, 0, 0), (40, .ireturn, 1, 0, 0, 0), (41, .iload_n 1, 1, 0, 0, 0),
  (42, .iconst 1, 1, 0, 0, 0), (43, .if_icmp .ne 5, 3, 48, 0, 0), (46, .iconst (-1), 1, 0, 0, 0), (47, .ireturn, 1, 0, 0, 0), (48, .iload_n 1, 1, 0, 0, 0), (49, .iconst 2, 1, 0, 0, 0), (50, .if_icmp .ne 34, 3, 84, 0, 0), (53, .iload 6, 2, 0, 0, 0),
  (55, .iconst 2, 1, 0, 0, 0), (56, .iload 5, 2, 0, 0, 0), (58, .imul, 1, 0, 0, 0), (59, .irem, 1, 0, 0, 0), (60, .istore 7, 2, 0, 0, 0), (62, .iload 7, 2, 0, 0, 0), (64, .iload 5, 2, 0, 0, 0), (66, .if_icmp .ge 8, 3, 74, 0, 0),
  (69, .iload 7, 2, 0, 0, 0), (71, .goto 12, 3, 83, 0, 0), (74, .iconst 2, 1, 0, 0, 0), (75, .iload 5, 2, 0, 0, 0), (77, .imul, 1, 0, 0, 0), (78, .iconst 1, 1, 0, 0, 0), (79, .isub, 1, 0, 0, 0), (80, .iload 7, 2, 0, 0, 0),
  (82, .isub, 1, 0, 0, 0), (83, .ireturn, 1, 0, 0, 0), (84, .iload_n 3, 1, 0, 0, 0), (85, .iload 5, 2, 0, 0, 0), (87, .iload_n 2, 1, 0, 0, 0), (88, .isub, 1, 0, 0, 0), (89, .iload 4, 2, 0, 0, 0), (91, .imul, 1, 0, 0, 0),
  (92, .isub, 1, 0, 0, 0), (93, .istore 7, 2, 0, 0, 0), (95, .iload 7, 2, 0, 0, 0), (97, .aload_n 0, 1, 0, 0, 0), (98, .getfield 28, 3, 10, 4, 2), (101, .getfield 72, 3, 7, 5, 0), (104, .iload 5, 2, 0, 0, 0), (106, .iload 4, 2, 0, 0, 0),
  (108, .imul, 1, 0, 0, 0), (109, .iadd, 1, 0, 0, 0), (110, .irem, 1, 0, 0, 0), (111, .aload_n 0, 1, 0, 0, 0), (112, .getfield 28, 3, 10, 4, 2), (115, .getfield 72, 3, 7, 5, 0), (118, .isub, 1, 0, 0, 0), (119, .istore 8, 2, 0, 0, 0),
  (121, .iload 8, 2, 0, 0, 0), (123, .ifCond .ge 7, 3, 130, 0, 0), (126, .iconst (-1), 1, 0, 0, 0), (127, .goto 8, 3, 135, 0, 0), (130, .iload 8, 2, 0, 0, 0), (132, .iload 4, 2, 0, 0, 0), (134, .idiv, 1, 0, 0, 0), (135, .ireturn, 1, 0, 0, 0)]
/-- SamePassers$Walks.knownOf(I)I -/
def mm_c90 : List (Nat × mm_E) := [(0, .aload_n 0, 1, 0, 0, 0), (1, .getfield 28, 3, 10, 4, 2), (4, .iload_n 1, 1, 0, 0, 0), (5, .aload_n 0, 1, 0, 0, 0), (6, .iload_n 1, 1, 0, 0, 0), (7, .invokevirtual 88, 3, 86, 2, 2), (10, .invokevirtual 91, 3, 73, 3, 2), (13, .ireturn, 1, 0, 0, 0)]
/-- SamePassers$Walks.isGood()Z -/
def mm_c91 : List (Nat × mm_E) := [(0, .aload_n 0, 1, 0, 0, 0), (1, .invokevirtual 126, 3, 92, 1, 2), (4, .ifCond .ne 14, 3, 18, 0, 0), (7, .aload_n 0, 1, 0, 0, 0), (8, .invokevirtual 130, 3, 94, 1, 2), (11, .ifCond .ne 7, 3, 18, 0, 0), (14, .iconst 1, 1, 0, 0, 0), (15, .goto 4, 3, 19, 0, 0),
  (18, .iconst 0, 1, 0, 0, 0), (19, .ireturn, 1, 0, 0, 0)]
/-- SamePassers$Walks.missedMusts()I -/
def mm_c92 : List (Nat × mm_E) := [(0, .iconst 0, 1, 0, 0, 0), (1, .istore_n 1, 1, 0, 0, 0), (2, .iconst 0, 1, 0, 0, 0), (3, .istore_n 2, 1, 0, 0, 0), (4, .iload_n 2, 1, 0, 0, 0), (5, .aload_n 0, 1, 0, 0, 0), (6, .getfield 28, 3, 10, 4, 2), (9, .getfield 120, 3, 7, 12, 0),
  (12, .if_icmp .ge 20, 3, 32, 0, 0), (15, .aload_n 0, 1, 0, 0, 0), (16, .iload_n 2, 1, 0, 0, 0), (17, .invokevirtual 123, 3, 93, 2, 2), (20, .ifCond .eq 6, 3, 26, 0, 0), (23, .iinc 1 1, 3, 0, 0, 0), (26, .iinc 2 1, 3, 0, 0, 0), (29, .goto (-25), 3, 4, 0, 0),
  (32, .iload_n 1, 1, 0, 0, 0), (33, .ireturn, 1, 0, 0, 0)]
/-- SamePassers$Walks.offOf(I)I -/
def mm_c93 : List (Nat × mm_E) := [(0, .aload_n 0, 1, 0, 0, 0), (1, .aload_n 0, 1, 0, 0, 0), (2, .getfield 28, 3, 10, 4, 2), (5, .getfield 103, 3, 7, 13, 2), (8, .iload_n 1, 1, 0, 0, 0), (9, .iaload, 1, 0, 0, 0), (10, .aload_n 0, 1, 0, 0, 0), (11, .getfield 28, 3, 10, 4, 2),
  (14, .getfield 106, 3, 7, 9, 2), (17, .aload_n 0, 1, 0, 0, 0), (18, .getfield 28, 3, 10, 4, 2), (21, .getfield 109, 3, 7, 14, 2), (24, .iload_n 1, 1, 0, 0, 0), (25, .iaload, 1, 0, 0, 0), (26, .iaload, 1, 0, 0, 0), (27, .invokevirtual 75, 3, 87, 3, 2),
  (30, .istore_n 2, 1, 0, 0, 0), (31, .iload_n 2, 1, 0, 0, 0), (32, .iconst (-1), 1, 0, 0, 0), (33, .if_icmp .ne 8, 3, 41, 0, 0), (36, .bipush 100, 2, 0, 0, 0), (38, .goto 17, 3, 55, 0, 0), (41, .iload_n 2, 1, 0, 0, 0), (42, .aload_n 0, 1, 0, 0, 0),
  (43, .getfield 28, 3, 10, 4, 2), (46, .getfield 112, 3, 7, 15, 2), (49, .iload_n 1, 1, 0, 0, 0), (50, .iaload, 1, 0, 0, 0), (51, .isub, 1, 0, 0, 0), (52, .invokestatic 115, 3, 0, 0, 12), (55, .ireturn, 1, 0, 0, 0)]
/-- SamePassers$Walks.anyBump()Z -/
def mm_c94 : List (Nat × mm_E) := [(0, .iconst 0, 1, 0, 0, 0), (1, .istore_n 1, 1, 0, 0, 0), (2, .iload_n 1, 1, 0, 0, 0), (3, .sipush 600, 3, 0, 0, 0), (6, .if_icmp .gt 19, 3, 25, 0, 0), (9, .aload_n 0, 1, 0, 0, 0), (10, .iload_n 1, 1, 0, 0, 0), (11, .invokevirtual 94, 3, 95, 2, 2),
  (14, .ifCond .eq 5, 3, 19, 0, 0), (17, .iconst 1, 1, 0, 0, 0), (18, .ireturn, 1, 0, 0, 0), (19, .iinc 1 1, 3, 0, 0, 0), (22, .goto (-20), 3, 2, 0, 0), (25, .iconst 0, 1, 0, 0, 0), (26, .ireturn, 1, 0, 0, 0)]
/-- SamePassers$Walks.bumpsAt(I)Z -/
def mm_c95 : List (Nat × mm_E) := [(0, .aload_n 0, 1, 0, 0, 0), (1, .getfield 21, 3, 10, 3, 2), (4, .lconst 0, 1, 0, 0, 0), (5, .invokestatic 97, 3, 281, 2, 1), (8, .iconst 0, 1, 0, 0, 0), (9, .istore_n 2, 1, 0, 0, 0), (10, .iload_n 2, 1, 0, 0, 0), (11, .aload_n 0, 1, 0, 0, 0),
  (12, .getfield 28, 3, 10, 4, 2), (15, .getfield 32, 3, 7, 10, 0), (18, .if_icmp .ge 73, 3, 91, 0, 0), (21, .aload_n 0, 1, 0, 0, 0), (22, .getfield 28, 3, 10, 4, 2), (25, .getfield 59, 3, 7, 11, 2), (28, .iload_n 2, 1, 0, 0, 0), (29, .aaload, 1, 0, 0, 0),
  (30, .getfield 82, 3, 9, 2, 0), (33, .istore_n 3, 1, 0, 0, 0), (34, .aload_n 0, 1, 0, 0, 0), (35, .iload_n 2, 1, 0, 0, 0), (36, .iload_n 1, 1, 0, 0, 0), (37, .invokevirtual 75, 3, 87, 3, 2), (40, .istore 4, 2, 0, 0, 0), (42, .iload 4, 2, 0, 0, 0),
  (44, .iconst (-1), 1, 0, 0, 0), (45, .if_icmp .ne 7, 3, 52, 0, 0), (48, .lconst 0, 1, 0, 0, 0), (49, .goto 7, 3, 56, 0, 0), (52, .lconst 1, 1, 0, 0, 0), (53, .iload 4, 2, 0, 0, 0), (55, .lshl, 1, 0, 0, 0), (56, .lstore 5, 2, 0, 0, 0),
  (58, .aload_n 0, 1, 0, 0, 0), (59, .getfield 21, 3, 10, 3, 2), (62, .iload_n 3, 1, 0, 0, 0), (63, .laload, 1, 0, 0, 0), (64, .lload 5, 2, 0, 0, 0), (66, .land, 1, 0, 0, 0), (67, .lconst 0, 1, 0, 0, 0), (68, .lcmp, 1, 0, 0, 0),
  (69, .ifCond .eq 5, 3, 74, 0, 0), (72, .iconst 1, 1, 0, 0, 0), (73, .ireturn, 1, 0, 0, 0), (74, .aload_n 0, 1, 0, 0, 0), (75, .getfield 21, 3, 10, 3, 2), (78, .iload_n 3, 1, 0, 0, 0), (79, .dup2, 1, 0, 0, 0), (80, .laload, 1, 0, 0, 0),
  (81, .lload 5, 2, 0, 0, 0), (83, .lor, 1, 0, 0, 0), (84, .lastore, 1, 0, 0, 0), (85, .iinc 2 1, 3, 0, 0, 0), (88, .goto (-78), 3, 10, 0, 0), (91, .iconst 0, 1, 0, 0, 0), (92, .ireturn, 1, 0, 0, 0)]
/-- SamePassers$Walks.sharpness(II)I -/
def mm_c96 : List (Nat × mm_E) := [(0, .aload_n 0, 1, 0, 0, 0), (1, .getfield 28, 3, 10, 4, 2), (4, .aload_n 0, 1, 0, 0, 0), (5, .iload_n 1, 1, 0, 0, 0), (6, .iload_n 2, 1, 0, 0, 0), (7, .invokevirtual 75, 3, 87, 3, 2), (10, .invokevirtual 78, 3, 72, 2, 2), (13, .ifCond .ne 5, 3, 18, 0, 0),
  (16, .iconst 0, 1, 0, 0, 0), (17, .ireturn, 1, 0, 0, 0), (18, .aload_n 0, 1, 0, 0, 0), (19, .getfield 28, 3, 10, 4, 2), (22, .getfield 59, 3, 7, 11, 2), (25, .iload_n 1, 1, 0, 0, 0), (26, .aaload, 1, 0, 0, 0), (27, .getfield 82, 3, 9, 2, 0),
  (30, .aload_n 0, 1, 0, 0, 0), (31, .getfield 28, 3, 10, 4, 2), (34, .getfield 85, 3, 7, 4, 0), (37, .if_icmp .ge 7, 3, 44, 0, 0), (40, .iconst 2, 1, 0, 0, 0), (41, .goto 4, 3, 45, 0, 0), (44, .iconst 1, 1, 0, 0, 0), (45, .ireturn, 1, 0, 0, 0)]
/-- SamePassers$Walks.firstBump(II)I -/
def mm_c97 : List (Nat × mm_E) := [(0, .aload_n 0, 1, 0, 0, 0), (1, .getfield 28, 3, 10, 4, 2), (4, .getfield 59, 3, 7, 11, 2), (7, .iload_n 1, 1, 0, 0, 0), (8, .aaload, 1, 0, 0, 0), (9, .getfield 82, 3, 9, 2, 0), (12, .aload_n 0, 1, 0, 0, 0), (13, .getfield 28, 3, 10, 4, 2),
  (16, .getfield 59, 3, 7, 11, 2), (19, .iload_n 2, 1, 0, 0, 0), (20, .aaload, 1, 0, 0, 0), (21, .getfield 82, 3, 9, 2, 0), (24, .if_icmp .eq 5, 3, 29, 0, 0), (27, .iconst (-1), 1, 0, 0, 0), (28, .ireturn, 1, 0, 0, 0), (29, .iconst 0, 1, 0, 0, 0),
  (30, .istore_n 3, 1, 0, 0, 0), (31, .iload_n 3, 1, 0, 0, 0), (32, .sipush 600, 3, 0, 0, 0), (35, .if_icmp .gt 36, 3, 71, 0, 0), (38, .aload_n 0, 1, 0, 0, 0), (39, .iload_n 1, 1, 0, 0, 0), (40, .iload_n 3, 1, 0, 0, 0), (41, .invokevirtual 75, 3, 87, 3, 2),
  (44, .istore 4, 2, 0, 0, 0), (46, .iload 4, 2, 0, 0, 0), (48, .iconst (-1), 1, 0, 0, 0), (49, .if_icmp .eq 16, 3, 65, 0, 0), (52, .iload 4, 2, 0, 0, 0), (54, .aload_n 0, 1, 0, 0, 0), (55, .iload_n 2, 1, 0, 0, 0), (56, .iload_n 3, 1, 0, 0, 0),
  (57, .invokevirtual 75, 3, 87, 3, 2), (60, .if_icmp .ne 5, 3, 65, 0, 0), (63, .iload_n 3, 1, 0, 0, 0), (64, .ireturn, 1, 0, 0, 0), (65, .iinc 3 1, 3, 0, 0, 0), (68, .goto (-37), 3, 31, 0, 0), (71, .iconst (-1), 1, 0, 0, 0), (72, .ireturn, 1, 0, 0, 0)]
/-- SamePassers$Walks.seenCell(II)I -/
def mm_c98 : List (Nat × mm_E) := [(0, .aload_n 0, 1, 0, 0, 0), (1, .iload_n 1, 1, 0, 0, 0), (2, .iload_n 2, 1, 0, 0, 0), (3, .invokevirtual 75, 3, 87, 3, 2), (6, .istore_n 3, 1, 0, 0, 0), (7, .aload_n 0, 1, 0, 0, 0), (8, .getfield 28, 3, 10, 4, 2), (11, .iload_n 3, 1, 0, 0, 0),
  (12, .invokevirtual 78, 3, 72, 2, 2), (15, .ifCond .eq 7, 3, 22, 0, 0), (18, .iload_n 3, 1, 0, 0, 0), (19, .goto 4, 3, 23, 0, 0), (22, .iconst (-1), 1, 0, 0, 0), (23, .ireturn, 1, 0, 0, 0)]
/-- SamePassers.<init>()V -/
def mm_c99 : List (Nat × mm_E) := [(0, .aload_n 0, 1, 0, 0, 0), (1, .invokespecial 3, 3, 0, 0, 4), (4, .aload_n 0, 1, 0, 0, 0), (5, .new 9, 3, 8, 0, 0), (8, .dup, 1, 0, 0, 0), (9, .invokespecial 11, 3, 75, 1, 3), (12, .putfield 12, 3, 11, 0, 2), (15, .aload_n 0, 1, 0, 0, 0),
  (16, .new 16, 3, 7, 0, 0), (19, .dup, 1, 0, 0, 0), (20, .invokespecial 18, 3, 64, 1, 3), (23, .putfield 19, 3, 11, 1, 2), (26, .aload_n 0, 1, 0, 0, 0), (27, .new 16, 3, 7, 0, 0), (30, .dup, 1, 0, 0, 0), (31, .invokespecial 18, 3, 64, 1, 3),
  (34, .putfield 23, 3, 11, 2, 2), (37, .aload_n 0, 1, 0, 0, 0), (38, .new 26, 3, 6, 0, 0), (41, .dup, 1, 0, 0, 0), (42, .invokespecial 28, 3, 61, 1, 5), (45, .putfield 29, 3, 11, 3, 2), (48, .aload_n 0, 1, 0, 0, 0), (49, .new 26, 3, 6, 0, 0),
  (52, .dup, 1, 0, 0, 0), (53, .invokespecial 28, 3, 61, 1, 5), (56, .putfield 33, 3, 11, 4, 2), (59, .aload_n 0, 1, 0, 0, 0), (60, .new 36, 3, 5, 0, 0), (63, .dup, 1, 0, 0, 0), (64, .aload_n 0, 1, 0, 0, 0), (65, .getfield 12, 3, 11, 0, 2),
  (68, .aload_n 0, 1, 0, 0, 0), (69, .getfield 23, 3, 11, 2, 2), (72, .aload_n 0, 1, 0, 0, 0), (73, .getfield 33, 3, 11, 4, 2), (76, .invokespecial 38, 3, 35, 4, 3), (79, .putfield 41, 3, 11, 5, 2), (82, .aload_n 0, 1, 0, 0, 0), (83, .new 45, 3, 1, 0, 0),
  (86, .dup, 1, 0, 0, 0), (87, .invokespecial 47, 3, 9, 1, 5), (90, .putfield 48, 3, 11, 6, 2), (93, .aload_n 0, 1, 0, 0, 0), (94, .new 45, 3, 1, 0, 0), (97, .dup, 1, 0, 0, 0), (98, .invokespecial 47, 3, 9, 1, 5), (101, .putfield 52, 3, 11, 7, 2),
  (104, .aload_n 0, 1, 0, 0, 0), (105, .new 55, 3, 4, 0, 0), (108, .dup, 1, 0, 0, 0), (109, .invokespecial 57, 3, 28, 1, 5), (112, .putfield 58, 3, 11, 8, 2), (115, .aload_n 0, 1, 0, 0, 0), (116, .bipush 16, 2, 0, 0, 0), (118, .anewarray 45, 3, 24, 0, 0),
  (121, .putfield 62, 3, 11, 9, 2), (124, .aload_n 0, 1, 0, 0, 0), (125, .iconst 4, 1, 0, 0, 0), (126, .anewarray 45, 3, 24, 0, 0), (129, .putfield 66, 3, 11, 12, 2), (132, .aload_n 0, 1, 0, 0, 0), (133, .iconst 4, 1, 0, 0, 0), (134, .anewarray 55, 3, 25, 0, 0),
  (137, .putfield 69, 3, 11, 13, 2), (140, .aload_n 0, 1, 0, 0, 0), (141, .new 73, 3, 10, 0, 0), (144, .dup, 1, 0, 0, 0), (145, .aload_n 0, 1, 0, 0, 0), (146, .getfield 19, 3, 11, 1, 2), (149, .invokespecial 75, 3, 84, 2, 3), (152, .putfield 78, 3, 11, 15, 2),
  (155, .aload_n 0, 1, 0, 0, 0), (156, .new 73, 3, 10, 0, 0), (159, .dup, 1, 0, 0, 0), (160, .aload_n 0, 1, 0, 0, 0), (161, .getfield 19, 3, 11, 1, 2), (164, .invokespecial 75, 3, 84, 2, 3), (167, .putfield 82, 3, 11, 16, 2), (170, .aload_n 0, 1, 0, 0, 0),
  (171, .new 85, 3, 2, 0, 0), (174, .dup, 1, 0, 0, 0), (175, .aload_n 0, 1, 0, 0, 0), (176, .getfield 19, 3, 11, 1, 2), (179, .invokespecial 87, 3, 13, 2, 3), (182, .putfield 88, 3, 11, 17, 2), (185, .aload_n 0, 1, 0, 0, 0), (186, .new 92, 3, 0, 0, 0),
  (189, .dup, 1, 0, 0, 0), (190, .invokespecial 94, 3, 0, 1, 5), (193, .putfield 95, 3, 11, 18, 2), (196, .iconst 0, 1, 0, 0, 0), (197, .istore_n 1, 1, 0, 0, 0), (198, .iload_n 1, 1, 0, 0, 0), (199, .bipush 16, 2, 0, 0, 0), (201, .if_icmp .ge 22, 3, 223, 0, 0),
  (204, .aload_n 0, 1, 0, 0, 0), (205, .getfield 62, 3, 11, 9, 2), (208, .iload_n 1, 1, 0, 0, 0), (209, .new 45, 3, 1, 0, 0), (212, .dup, 1, 0, 0, 0), (213, .invokespecial 47, 3, 9, 1, 5), (216, .aastore, 1, 0, 0, 0), (217, .iinc 1 1, 3, 0, 0, 0),
  (220, .goto (-22), 3, 198, 0, 0), (223, .iconst 0, 1, 0, 0, 0), (224, .istore_n 1, 1, 0, 0, 0), (225, .iload_n 1, 1, 0, 0, 0), (226, .iconst 4, 1, 0, 0, 0), (227, .if_icmp .ge 35, 3, 262, 0, 0), (230, .aload_n 0, 1, 0, 0, 0), (231, .getfield 66, 3, 11, 12, 2),
  (234, .iload_n 1, 1, 0, 0, 0), (235, .new 45, 3, 1, 0, 0), (238, .dup, 1, 0, 0, 0), (239, .invokespecial 47, 3, 9, 1, 5), (242, .aastore, 1, 0, 0, 0), (243, .aload_n 0, 1, 0, 0, 0), (244, .getfield 69, 3, 11, 13, 2), (247, .iload_n 1, 1, 0, 0, 0),
  (248, .new 55, 3, 4, 0, 0), (251, .dup, 1, 0, 0, 0), (252, .invokespecial 57, 3, 28, 1, 5), (255, .aastore, 1, 0, 0, 0), (256, .iinc 1 1, 3, 0, 0, 0), (259, .goto (-34), 3, 225, 0, 0), (262, .return_, 1, 0, 0, 0)]
/-- SamePassers.feed(JJJ)I -/
def mm_c100 : List (Nat × mm_E) := [(0, .aload_n 0, 1, 0, 0, 0), (1, .getfield 12, 3, 11, 0, 2), (4, .lload_n 1, 1, 0, 0, 0), (5, .invokevirtual 99, 3, 77, 2, 2), (8, .aload_n 0, 1, 0, 0, 0), (9, .getfield 12, 3, 11, 0, 2), (12, .lload_n 3, 1, 0, 0, 0), (13, .invokevirtual 99, 3, 77, 2, 2),
  (16, .aload_n 0, 1, 0, 0, 0), (17, .getfield 12, 3, 11, 0, 2), (20, .lload 5, 2, 0, 0, 0), (22, .invokevirtual 99, 3, 77, 2, 2), (25, .aload_n 0, 1, 0, 0, 0), (26, .getfield 12, 3, 11, 0, 2), (29, .getfield 103, 3, 8, 3, 0), (32, .ireturn, 1, 0, 0, 0)]
/-- SamePassers.street()I -/
def mm_c101 : List (Nat × mm_E) := [(0, .aload_n 0, 1, 0, 0, 0), (1, .getfield 41, 3, 11, 5, 2), (4, .aload_n 0, 1, 0, 0, 0), (5, .getfield 23, 3, 11, 2, 2), (8, .invokevirtual 107, 3, 36, 2, 2), (11, .istore_n 1, 1, 0, 0, 0), (12, .iload_n 1, 1, 0, 0, 0), (13, .ifCond .ne 25, 3, 38, 0, 0),
  (16, .aload_n 0, 1, 0, 0, 0), (17, .getfield 19, 3, 11, 1, 2), (20, .astore_n 2, 1, 0, 0, 0), (21, .aload_n 0, 1, 0, 0, 0), (22, .aload_n 0, 1, 0, 0, 0), (23, .getfield 23, 3, 11, 2, 2), (26, .putfield 19, 3, 11, 1, 2), (29, .aload_n 0, 1, 0, 0, 0),
  (30, .aload_n 2, 1, 0, 0, 0), (31, .putfield 23, 3, 11, 2, 2), (34, .aload_n 0, 1, 0, 0, 0), (35, .invokevirtual 111, 3, 102, 1, 2), (38, .iload_n 1, 1, 0, 0, 0), (39, .ireturn, 1, 0, 0, 0)]
/-- SamePassers.beginStreet()V -/
def mm_c102 : List (Nat × mm_E) := [(0, .aload_n 0, 1, 0, 0, 0), (1, .getfield 48, 3, 11, 6, 2), (4, .aload_n 0, 1, 0, 0, 0), (5, .getfield 19, 3, 11, 1, 2), (8, .invokevirtual 191, 3, 10, 2, 2), (11, .aload_n 0, 1, 0, 0, 0), (12, .getfield 29, 3, 11, 3, 2), (15, .iconst 0, 1, 0, 0, 0),
  (16, .putfield 194, 3, 6, 0, 0), (19, .aload_n 0, 1, 0, 0, 0), (20, .getfield 58, 3, 11, 8, 2), (23, .iconst 0, 1, 0, 0, 0), (24, .putfield 386, 3, 4, 0, 0), (27, .aload_n 0, 1, 0, 0, 0), (28, .getfield 58, 3, 11, 8, 2), (31, .iconst 0, 1, 0, 0, 0),
  (32, .putfield 350, 3, 4, 3, 0), (35, .aload_n 0, 1, 0, 0, 0), (36, .iconst 0, 1, 0, 0, 0), (37, .putfield 371, 3, 11, 14, 0), (40, .aload_n 0, 1, 0, 0, 0), (41, .invokevirtual 377, 3, 103, 1, 2), (44, .aload_n 0, 1, 0, 0, 0), (45, .invokevirtual 172, 3, 104, 1, 2),
  (48, .return_, 1, 0, 0, 0)]
/-- SamePassers.forgetPast()V -/
def mm_c103 : List (Nat × mm_E) := [(0, .aload_n 0, 1, 0, 0, 0), (1, .iconst 0, 1, 0, 0, 0), (2, .putfield 181, 3, 11, 10, 0), (5, .aload_n 0, 1, 0, 0, 0), (6, .iconst 0, 1, 0, 0, 0), (7, .putfield 184, 3, 11, 11, 0), (10, .return_, 1, 0, 0, 0)]
/-- SamePassers.setNow()V -/
def mm_c104 : List (Nat × mm_E) := [(0, .aload_n 0, 1, 0, 0, 0), (1, .getfield 78, 3, 11, 15, 2), (4, .aload_n 0, 1, 0, 0, 0), (5, .getfield 19, 3, 11, 1, 2), (8, .aload_n 0, 1, 0, 0, 0), (9, .getfield 48, 3, 11, 6, 2), (12, .aload_n 0, 1, 0, 0, 0), (13, .getfield 48, 3, 11, 6, 2),
  (16, .getfield 175, 3, 1, 0, 0), (19, .iconst 1, 1, 0, 0, 0), (20, .invokevirtual 200, 3, 85, 5, 2), (23, .return_, 1, 0, 0, 0)]
/-- SamePassers.takes()I -/
def mm_c105 : List (Nat × mm_E) := [(0, .aload_n 0, 1, 0, 0, 0), (1, .getfield 41, 3, 11, 5, 2), (4, .aload_n 0, 1, 0, 0, 0), (5, .getfield 19, 3, 11, 1, 2), (8, .aload_n 0, 1, 0, 0, 0), (9, .getfield 33, 3, 11, 4, 2), (12, .invokevirtual 114, 3, 59, 3, 2), (15, .istore_n 1, 1, 0, 0, 0),
  (16, .iload_n 1, 1, 0, 0, 0), (17, .ifCond .ne 21, 3, 38, 0, 0), (20, .aload_n 0, 1, 0, 0, 0), (21, .getfield 29, 3, 11, 3, 2), (24, .astore_n 2, 1, 0, 0, 0), (25, .aload_n 0, 1, 0, 0, 0), (26, .aload_n 0, 1, 0, 0, 0), (27, .getfield 33, 3, 11, 4, 2),
  (30, .putfield 29, 3, 11, 3, 2), (33, .aload_n 0, 1, 0, 0, 0), (34, .aload_n 2, 1, 0, 0, 0), (35, .putfield 33, 3, 11, 4, 2), (38, .iload_n 1, 1, 0, 0, 0), (39, .ireturn, 1, 0, 0, 0)]
/-- SamePassers.walker(II)I -/
def mm_c106 : List (Nat × mm_E) := [(0, .aload_n 0, 1, 0, 0, 0), (1, .iload_n 1, 1, 0, 0, 0), (2, .invokevirtual 118, 3, 107, 2, 2), (5, .ifCond .ne 5, 3, 10, 0, 0), (8, .iconst (-1), 1, 0, 0, 0), (9, .ireturn, 1, 0, 0, 0), (10, .aload_n 0, 1, 0, 0, 0), (11, .getfield 19, 3, 11, 1, 2),
  (14, .getfield 122, 3, 7, 11, 2), (17, .iload_n 1, 1, 0, 0, 0), (18, .aaload, 1, 0, 0, 0), (19, .astore_n 3, 1, 0, 0, 0), (20, .iload_n 2, 1, 0, 0, 0), (21, .tableswitch 133 0 9 #[55, 60, 65, 75, 85, 95, 100, 105, 115, 124], 55, 0, 0, 0), (76, .aload_n 3, 1, 0, 0, 0), (77, .getfield 126, 3, 9, 1, 0),
  (80, .ireturn, 1, 0, 0, 0), (81, .aload_n 3, 1, 0, 0, 0), (82, .getfield 131, 3, 9, 2, 0), (85, .ireturn, 1, 0, 0, 0), (86, .aload_n 0, 1, 0, 0, 0), (87, .getfield 48, 3, 11, 6, 2), (90, .getfield 134, 3, 1, 1, 2), (93, .iload_n 1, 1, 0, 0, 0),
  (94, .iaload, 1, 0, 0, 0), (95, .ireturn, 1, 0, 0, 0), (96, .aload_n 0, 1, 0, 0, 0), (97, .getfield 48, 3, 11, 6, 2), (100, .getfield 138, 3, 1, 2, 2), (103, .iload_n 1, 1, 0, 0, 0), (104, .iaload, 1, 0, 0, 0), (105, .ireturn, 1, 0, 0, 0),
  (106, .aload_n 0, 1, 0, 0, 0), (107, .getfield 78, 3, 11, 15, 2), (110, .getfield 141, 3, 10, 5, 2), (113, .iload_n 1, 1, 0, 0, 0), (114, .iaload, 1, 0, 0, 0), (115, .ireturn, 1, 0, 0, 0), (116, .aload_n 3, 1, 0, 0, 0), (117, .getfield 144, 3, 9, 6, 0),
  (120, .ireturn, 1, 0, 0, 0), (121, .aload_n 3, 1, 0, 0, 0), (122, .getfield 147, 3, 9, 7, 0), (125, .ireturn, 1, 0, 0, 0), (126, .aload_n 0, 1, 0, 0, 0), (127, .getfield 48, 3, 11, 6, 2), (130, .getfield 150, 3, 1, 3, 2), (133, .iload_n 1, 1, 0, 0, 0),
  (134, .iaload, 1, 0, 0, 0), (135, .ireturn, 1, 0, 0, 0), (136, .aload_n 0, 1, 0, 0, 0), (137, .getfield 78, 3, 11, 15, 2), (140, .iload_n 1, 1, 0, 0, 0), (141, .invokevirtual 153, 3, 86, 2, 2), (144, .ireturn, 1, 0, 0, 0), (145, .aload_n 0, 1, 0, 0, 0),
  (146, .getfield 78, 3, 11, 15, 2), (149, .iload_n 1, 1, 0, 0, 0), (150, .invokevirtual 157, 3, 90, 2, 2), (153, .ireturn, 1, 0, 0, 0), (154, .iconst (-1), 1, 0, 0, 0), (155, .ireturn, 1, 0, 0, 0)]
/-- SamePassers.isWalker(I)Z -/
def mm_c107 : List (Nat × mm_E) := [(0, .iload_n 1, 1, 0, 0, 0), (1, .ifCond .lt 18, 3, 19, 0, 0), (4, .iload_n 1, 1, 0, 0, 0), (5, .aload_n 0, 1, 0, 0, 0), (6, .getfield 19, 3, 11, 1, 2), (9, .getfield 233, 3, 7, 10, 0), (12, .if_icmp .ge 7, 3, 19, 0, 0), (15, .iconst 1, 1, 0, 0, 0),
  (16, .goto 4, 3, 20, 0, 0), (19, .iconst 0, 1, 0, 0, 0), (20, .ireturn, 1, 0, 0, 0)]
/-- SamePassers.tenth(I)I -/
def mm_c108 : List (Nat × mm_E) := [(0, .aload_n 0, 1, 0, 0, 0), (1, .iload_n 1, 1, 0, 0, 0), (2, .invokevirtual 160, 3, 109, 2, 2), (5, .ifCond .eq 15, 3, 20, 0, 0), (8, .aload_n 0, 1, 0, 0, 0), (9, .getfield 19, 3, 11, 1, 2), (12, .getfield 163, 3, 7, 9, 2), (15, .iload_n 1, 1, 0, 0, 0),
  (16, .iaload, 1, 0, 0, 0), (17, .goto 4, 3, 21, 0, 0), (20, .iconst (-1), 1, 0, 0, 0), (21, .ireturn, 1, 0, 0, 0)]
/-- SamePassers.isWord(I)Z -/
def mm_c109 : List (Nat × mm_E) := [(0, .iload_n 1, 1, 0, 0, 0), (1, .ifCond .lt 18, 3, 19, 0, 0), (4, .iload_n 1, 1, 0, 0, 0), (5, .aload_n 0, 1, 0, 0, 0), (6, .getfield 19, 3, 11, 1, 2), (9, .getfield 284, 3, 7, 7, 0), (12, .if_icmp .ge 7, 3, 19, 0, 0), (15, .iconst 1, 1, 0, 0, 0),
  (16, .goto 4, 3, 20, 0, 0), (19, .iconst 0, 1, 0, 0, 0), (20, .ireturn, 1, 0, 0, 0)]
/-- SamePassers.start(II)Z -/
def mm_c110 : List (Nat × mm_E) := [(0, .aload_n 0, 1, 0, 0, 0), (1, .iload_n 1, 1, 0, 0, 0), (2, .invokevirtual 118, 3, 107, 2, 2), (5, .ifCond .eq 11, 3, 16, 0, 0), (8, .aload_n 0, 1, 0, 0, 0), (9, .iload_n 2, 1, 0, 0, 0), (10, .invokevirtual 166, 3, 111, 2, 2), (13, .ifCond .ne 5, 3, 18, 0, 0),
  (16, .iconst 0, 1, 0, 0, 0), (17, .ireturn, 1, 0, 0, 0), (18, .aload_n 0, 1, 0, 0, 0), (19, .invokevirtual 169, 3, 112, 1, 2), (22, .aload_n 0, 1, 0, 0, 0), (23, .getfield 48, 3, 11, 6, 2), (26, .getfield 134, 3, 1, 1, 2), (29, .iload_n 1, 1, 0, 0, 0),
  (30, .iload_n 2, 1, 0, 0, 0), (31, .iastore, 1, 0, 0, 0), (32, .aload_n 0, 1, 0, 0, 0), (33, .invokevirtual 172, 3, 104, 1, 2), (36, .iconst 1, 1, 0, 0, 0), (37, .ireturn, 1, 0, 0, 0)]
/-- SamePassers.isCell(I)Z -/
def mm_c111 : List (Nat × mm_E) := [(0, .iload_n 1, 1, 0, 0, 0), (1, .ifCond .lt 18, 3, 19, 0, 0), (4, .iload_n 1, 1, 0, 0, 0), (5, .aload_n 0, 1, 0, 0, 0), (6, .getfield 19, 3, 11, 1, 2), (9, .getfield 380, 3, 7, 0, 0), (12, .if_icmp .ge 7, 3, 19, 0, 0), (15, .iconst 1, 1, 0, 0, 0),
  (16, .goto 4, 3, 20, 0, 0), (19, .iconst 0, 1, 0, 0, 0), (20, .ireturn, 1, 0, 0, 0)]
/-- SamePassers.remember()V -/
def mm_c112 : List (Nat × mm_E) := [(0, .aload_n 0, 1, 0, 0, 0), (1, .getfield 62, 3, 11, 9, 2), (4, .aload_n 0, 1, 0, 0, 0), (5, .getfield 184, 3, 11, 11, 0), (8, .aaload, 1, 0, 0, 0), (9, .aload_n 0, 1, 0, 0, 0), (10, .getfield 48, 3, 11, 6, 2), (13, .invokevirtual 187, 3, 11, 2, 2),
  (16, .aload_n 0, 1, 0, 0, 0), (17, .aload_n 0, 1, 0, 0, 0), (18, .getfield 184, 3, 11, 11, 0), (21, .bipush 15, 2, 0, 0, 0), (23, .if_icmp .ge 12, 3, 35, 0, 0), (26, .aload_n 0, 1, 0, 0, 0), (27, .getfield 184, 3, 11, 11, 0), (30, .iconst 1, 1, 0, 0, 0),
  (31, .iadd, 1, 0, 0, 0), (32, .goto 4, 3, 36, 0, 0), (35, .iconst 0, 1, 0, 0, 0), (36, .putfield 184, 3, 11, 11, 0), (39, .aload_n 0, 1, 0, 0, 0), (40, .aload_n 0, 1, 0, 0, 0), (41, .getfield 181, 3, 11, 10, 0), (44, .iconst 1, 1, 0, 0, 0),
  (45, .iadd, 1, 0, 0, 0), (46, .bipush 16, 2, 0, 0, 0), (48, .invokestatic 389, 3, 0, 0, 11), (51, .putfield 181, 3, 11, 10, 0), (54, .return_, 1, 0, 0, 0)]
/-- SamePassers.turn(I)Z -/
def mm_c113 : List (Nat × mm_E) := [(0, .aload_n 0, 1, 0, 0, 0), (1, .iload_n 1, 1, 0, 0, 0), (2, .invokevirtual 118, 3, 107, 2, 2), (5, .ifCond .ne 5, 3, 10, 0, 0), (8, .iconst 0, 1, 0, 0, 0), (9, .ireturn, 1, 0, 0, 0), (10, .aload_n 0, 1, 0, 0, 0), (11, .invokevirtual 169, 3, 112, 1, 2),
  (14, .aload_n 0, 1, 0, 0, 0), (15, .getfield 48, 3, 11, 6, 2), (18, .getfield 138, 3, 1, 2, 2), (21, .iload_n 1, 1, 0, 0, 0), (22, .iconst 1, 1, 0, 0, 0), (23, .aload_n 0, 1, 0, 0, 0), (24, .getfield 48, 3, 11, 6, 2), (27, .getfield 138, 3, 1, 2, 2),
  (30, .iload_n 1, 1, 0, 0, 0), (31, .iaload, 1, 0, 0, 0), (32, .isub, 1, 0, 0, 0), (33, .iastore, 1, 0, 0, 0), (34, .aload_n 0, 1, 0, 0, 0), (35, .invokevirtual 172, 3, 104, 1, 2), (38, .iconst 1, 1, 0, 0, 0), (39, .ireturn, 1, 0, 0, 0)]
/-- SamePassers.late(II)Z -/
def mm_c114 : List (Nat × mm_E) := [(0, .aload_n 0, 1, 0, 0, 0), (1, .iload_n 1, 1, 0, 0, 0), (2, .invokevirtual 118, 3, 107, 2, 2), (5, .ifCond .eq 13, 3, 18, 0, 0), (8, .iload_n 2, 1, 0, 0, 0), (9, .ifCond .lt 9, 3, 18, 0, 0), (12, .iload_n 2, 1, 0, 0, 0), (13, .bipush 99, 2, 0, 0, 0),
  (15, .if_icmp .le 5, 3, 20, 0, 0), (18, .iconst 0, 1, 0, 0, 0), (19, .ireturn, 1, 0, 0, 0), (20, .aload_n 0, 1, 0, 0, 0), (21, .invokevirtual 169, 3, 112, 1, 2), (24, .aload_n 0, 1, 0, 0, 0), (25, .getfield 48, 3, 11, 6, 2), (28, .getfield 150, 3, 1, 3, 2),
  (31, .iload_n 1, 1, 0, 0, 0), (32, .iload_n 2, 1, 0, 0, 0), (33, .iastore, 1, 0, 0, 0), (34, .aload_n 0, 1, 0, 0, 0), (35, .invokevirtual 172, 3, 104, 1, 2), (38, .iconst 1, 1, 0, 0, 0), (39, .ireturn, 1, 0, 0, 0)]
/-- SamePassers.take()I -/
def mm_c115 : List (Nat × mm_E) := [(0, .aload_n 0, 1, 0, 0, 0), (1, .getfield 48, 3, 11, 6, 2), (4, .getfield 175, 3, 1, 0, 0), (7, .bipush 60, 2, 0, 0, 0), (9, .if_icmp .lt 5, 3, 14, 0, 0), (12, .iconst (-1), 1, 0, 0, 0), (13, .ireturn, 1, 0, 0, 0), (14, .aload_n 0, 1, 0, 0, 0),
  (15, .invokevirtual 169, 3, 112, 1, 2), (18, .aload_n 0, 1, 0, 0, 0), (19, .getfield 48, 3, 11, 6, 2), (22, .invokevirtual 178, 3, 12, 1, 2), (25, .aload_n 0, 1, 0, 0, 0), (26, .invokevirtual 172, 3, 104, 1, 2), (29, .aload_n 0, 1, 0, 0, 0), (30, .getfield 48, 3, 11, 6, 2),
  (33, .getfield 175, 3, 1, 0, 0), (36, .ireturn, 1, 0, 0, 0)]
/-- SamePassers.undo()Z -/
def mm_c116 : List (Nat × mm_E) := [(0, .aload_n 0, 1, 0, 0, 0), (1, .getfield 181, 3, 11, 10, 0), (4, .ifCond .gt 5, 3, 9, 0, 0), (7, .iconst 0, 1, 0, 0, 0), (8, .ireturn, 1, 0, 0, 0), (9, .aload_n 0, 1, 0, 0, 0), (10, .dup, 1, 0, 0, 0), (11, .getfield 181, 3, 11, 10, 0),
  (14, .iconst 1, 1, 0, 0, 0), (15, .isub, 1, 0, 0, 0), (16, .putfield 181, 3, 11, 10, 0), (19, .aload_n 0, 1, 0, 0, 0), (20, .aload_n 0, 1, 0, 0, 0), (21, .getfield 184, 3, 11, 11, 0), (24, .ifCond .le 12, 3, 36, 0, 0), (27, .aload_n 0, 1, 0, 0, 0),
  (28, .getfield 184, 3, 11, 11, 0), (31, .iconst 1, 1, 0, 0, 0), (32, .isub, 1, 0, 0, 0), (33, .goto 5, 3, 38, 0, 0), (36, .bipush 15, 2, 0, 0, 0), (38, .putfield 184, 3, 11, 11, 0), (41, .aload_n 0, 1, 0, 0, 0), (42, .getfield 48, 3, 11, 6, 2),
  (45, .aload_n 0, 1, 0, 0, 0), (46, .getfield 62, 3, 11, 9, 2), (49, .aload_n 0, 1, 0, 0, 0), (50, .getfield 184, 3, 11, 11, 0), (53, .aaload, 1, 0, 0, 0), (54, .invokevirtual 187, 3, 11, 2, 2), (57, .aload_n 0, 1, 0, 0, 0), (58, .invokevirtual 172, 3, 104, 1, 2),
  (61, .iconst 1, 1, 0, 0, 0), (62, .ireturn, 1, 0, 0, 0)]
/-- SamePassers.judged(I)I -/
def mm_c117 : List (Nat × mm_E) := [(0, .iload_n 1, 1, 0, 0, 0), (1, .ifCond .lt 8, 3, 9, 0, 0), (4, .iload_n 1, 1, 0, 0, 0), (5, .iconst 2, 1, 0, 0, 0), (6, .if_icmp .le 6, 3, 12, 0, 0), (9, .bipush (-2), 2, 0, 0, 0), (11, .ireturn, 1, 0, 0, 0), (12, .aload_n 0, 1, 0, 0, 0),
  (13, .getfield 52, 3, 11, 7, 2), (16, .aload_n 0, 1, 0, 0, 0), (17, .getfield 19, 3, 11, 1, 2), (20, .invokevirtual 191, 3, 10, 2, 2), (23, .iconst (-1), 1, 0, 0, 0), (24, .istore_n 2, 1, 0, 0, 0), (25, .iconst 0, 1, 0, 0, 0), (26, .istore_n 3, 1, 0, 0, 0),
  (27, .iconst 0, 1, 0, 0, 0), (28, .istore 4, 2, 0, 0, 0), (30, .iload 4, 2, 0, 0, 0), (32, .aload_n 0, 1, 0, 0, 0), (33, .getfield 29, 3, 11, 3, 2), (36, .getfield 194, 3, 6, 0, 0), (39, .if_icmp .ge 84, 3, 123, 0, 0), (42, .aload_n 0, 1, 0, 0, 0),
  (43, .getfield 29, 3, 11, 3, 2), (46, .getfield 197, 3, 6, 1, 2), (49, .iload 4, 2, 0, 0, 0), (51, .iaload, 1, 0, 0, 0), (52, .bipush 20, 2, 0, 0, 0), (54, .if_icmp .ne 50, 3, 104, 0, 0), (57, .aload_n 0, 1, 0, 0, 0), (58, .getfield 82, 3, 11, 16, 2),
  (61, .aload_n 0, 1, 0, 0, 0), (62, .getfield 19, 3, 11, 1, 2), (65, .aload_n 0, 1, 0, 0, 0), (66, .getfield 52, 3, 11, 7, 2), (69, .aload_n 0, 1, 0, 0, 0), (70, .getfield 52, 3, 11, 7, 2), (73, .getfield 175, 3, 1, 0, 0), (76, .iconst 1, 1, 0, 0, 0),
  (77, .invokevirtual 200, 3, 85, 5, 2), (80, .aload_n 0, 1, 0, 0, 0), (81, .getfield 82, 3, 11, 16, 2), (84, .invokevirtual 204, 3, 91, 1, 2), (87, .ifCond .eq 9, 3, 96, 0, 0), (90, .iinc 3 1, 3, 0, 0, 0), (93, .goto 11, 3, 104, 0, 0), (96, .iload_n 2, 1, 0, 0, 0),
  (97, .iconst (-1), 1, 0, 0, 0), (98, .if_icmp .ne 6, 3, 104, 0, 0), (101, .iload 4, 2, 0, 0, 0), (103, .istore_n 2, 1, 0, 0, 0), (104, .aload_n 0, 1, 0, 0, 0), (105, .getfield 29, 3, 11, 3, 2), (108, .iload 4, 2, 0, 0, 0), (110, .aload_n 0, 1, 0, 0, 0),
  (111, .getfield 52, 3, 11, 7, 2), (114, .invokevirtual 208, 3, 63, 3, 2), (117, .iinc 4 1, 3, 0, 0, 0), (120, .goto (-90), 3, 30, 0, 0), (123, .iload_n 1, 1, 0, 0, 0), (124, .ifCond .ne 7, 3, 131, 0, 0), (127, .iload_n 2, 1, 0, 0, 0), (128, .goto 19, 3, 147, 0, 0),
  (131, .iload_n 1, 1, 0, 0, 0), (132, .iconst 1, 1, 0, 0, 0), (133, .if_icmp .ne 7, 3, 140, 0, 0), (136, .iload_n 3, 1, 0, 0, 0), (137, .goto 10, 3, 147, 0, 0), (140, .aload_n 0, 1, 0, 0, 0), (141, .getfield 52, 3, 11, 7, 2), (144, .getfield 175, 3, 1, 0, 0),
  (147, .ireturn, 1, 0, 0, 0)]
/-- SamePassers.where(II)I -/
def mm_c118 : List (Nat × mm_E) := [(0, .aload_n 0, 1, 0, 0, 0), (1, .iload_n 1, 1, 0, 0, 0), (2, .invokevirtual 118, 3, 107, 2, 2), (5, .ifCond .eq 22, 3, 27, 0, 0), (8, .iload_n 2, 1, 0, 0, 0), (9, .invokestatic 212, 3, 119, 1, 0), (12, .ifCond .eq 15, 3, 27, 0, 0), (15, .aload_n 0, 1, 0, 0, 0),
  (16, .getfield 78, 3, 11, 15, 2), (19, .iload_n 1, 1, 0, 0, 0), (20, .iload_n 2, 1, 0, 0, 0), (21, .invokevirtual 215, 3, 87, 3, 2), (24, .goto 4, 3, 28, 0, 0), (27, .iconst (-1), 1, 0, 0, 0), (28, .ireturn, 1, 0, 0, 0)]
/-- SamePassers.isTenth(I)Z -/
def mm_c119 : List (Nat × mm_E) := [(0, .iload_n 0, 1, 0, 0, 0), (1, .ifCond .lt 14, 3, 15, 0, 0), (4, .iload_n 0, 1, 0, 0, 0), (5, .sipush 600, 3, 0, 0, 0), (8, .if_icmp .gt 7, 3, 15, 0, 0), (11, .iconst 1, 1, 0, 0, 0), (12, .goto 4, 3, 16, 0, 0), (15, .iconst 0, 1, 0, 0, 0),
  (16, .ireturn, 1, 0, 0, 0)]
/-- SamePassers.seen(II)I -/
def mm_c120 : List (Nat × mm_E) := [(0, .aload_n 0, 1, 0, 0, 0), (1, .iload_n 1, 1, 0, 0, 0), (2, .invokevirtual 118, 3, 107, 2, 2), (5, .ifCond .eq 22, 3, 27, 0, 0), (8, .iload_n 2, 1, 0, 0, 0), (9, .invokestatic 212, 3, 119, 1, 0), (12, .ifCond .eq 15, 3, 27, 0, 0), (15, .aload_n 0, 1, 0, 0, 0),
  (16, .getfield 78, 3, 11, 15, 2), (19, .iload_n 1, 1, 0, 0, 0), (20, .iload_n 2, 1, 0, 0, 0), (21, .invokevirtual 219, 3, 96, 3, 2), (24, .goto 4, 3, 28, 0, 0), (27, .iconst (-1), 1, 0, 0, 0), (28, .ireturn, 1, 0, 0, 0)]
/-- SamePassers.first(II)I -/
def mm_c121 : List (Nat × mm_E) := [(0, .aload_n 0, 1, 0, 0, 0), (1, .iload_n 1, 1, 0, 0, 0), (2, .invokevirtual 118, 3, 107, 2, 2), (5, .ifCond .eq 16, 3, 21, 0, 0), (8, .aload_n 0, 1, 0, 0, 0), (9, .iload_n 2, 1, 0, 0, 0), (10, .invokevirtual 118, 3, 107, 2, 2), (13, .ifCond .eq 8, 3, 21, 0, 0),
  (16, .iload_n 1, 1, 0, 0, 0), (17, .iload_n 2, 1, 0, 0, 0), (18, .if_icmp .ne 5, 3, 23, 0, 0), (21, .iconst (-1), 1, 0, 0, 0), (22, .ireturn, 1, 0, 0, 0), (23, .aload_n 0, 1, 0, 0, 0), (24, .getfield 78, 3, 11, 15, 2), (27, .iload_n 1, 1, 0, 0, 0),
  (28, .iload_n 2, 1, 0, 0, 0), (29, .invokevirtual 222, 3, 97, 3, 2), (32, .ireturn, 1, 0, 0, 0)]
/-- SamePassers.good()Z -/
def mm_c122 : List (Nat × mm_E) := [(0, .aload_n 0, 1, 0, 0, 0), (1, .getfield 78, 3, 11, 15, 2), (4, .invokevirtual 204, 3, 91, 1, 2), (7, .ireturn, 1, 0, 0, 0)]
/-- SamePassers.off(I)I -/
def mm_c123 : List (Nat × mm_E) := [(0, .aload_n 0, 1, 0, 0, 0), (1, .iload_n 1, 1, 0, 0, 0), (2, .invokevirtual 225, 3, 124, 2, 2), (5, .ifCond .eq 14, 3, 19, 0, 0), (8, .aload_n 0, 1, 0, 0, 0), (9, .getfield 78, 3, 11, 15, 2), (12, .iload_n 1, 1, 0, 0, 0), (13, .invokevirtual 228, 3, 93, 2, 2),
  (16, .goto 4, 3, 20, 0, 0), (19, .iconst (-1), 1, 0, 0, 0), (20, .ireturn, 1, 0, 0, 0)]
/-- SamePassers.isMust(I)Z -/
def mm_c124 : List (Nat × mm_E) := [(0, .iload_n 1, 1, 0, 0, 0), (1, .ifCond .lt 18, 3, 19, 0, 0), (4, .iload_n 1, 1, 0, 0, 0), (5, .aload_n 0, 1, 0, 0, 0), (6, .getfield 19, 3, 11, 1, 2), (9, .getfield 383, 3, 7, 12, 0), (12, .if_icmp .ge 7, 3, 19, 0, 0), (15, .iconst 1, 1, 0, 0, 0),
  (16, .goto 4, 3, 20, 0, 0), (19, .iconst 0, 1, 0, 0, 0), (20, .ireturn, 1, 0, 0, 0)]
/-- SamePassers.until(II)I -/
def mm_c125 : List (Nat × mm_E) := [(0, .aload_n 0, 1, 0, 0, 0), (1, .iload_n 1, 1, 0, 0, 0), (2, .invokevirtual 225, 3, 124, 2, 2), (5, .ifCond .eq 14, 3, 19, 0, 0), (8, .iload_n 2, 1, 0, 0, 0), (9, .iconst 1, 1, 0, 0, 0), (10, .if_icmp .lt 9, 3, 19, 0, 0), (13, .iload_n 2, 1, 0, 0, 0),
  (14, .bipush 100, 2, 0, 0, 0), (16, .if_icmp .le 5, 3, 21, 0, 0), (19, .iconst (-1), 1, 0, 0, 0), (20, .ireturn, 1, 0, 0, 0), (21, .iconst 0, 1, 0, 0, 0), (22, .istore_n 3, 1, 0, 0, 0), (23, .iload_n 3, 1, 0, 0, 0), (24, .bipush 60, 2, 0, 0, 0),
  (26, .if_icmp .gt 56, 3, 82, 0, 0), (29, .aload_n 0, 1, 0, 0, 0), (30, .getfield 82, 3, 11, 16, 2), (33, .aload_n 0, 1, 0, 0, 0), (34, .getfield 19, 3, 11, 1, 2), (37, .aload_n 0, 1, 0, 0, 0), (38, .getfield 48, 3, 11, 6, 2), (41, .aload_n 0, 1, 0, 0, 0),
  (42, .getfield 48, 3, 11, 6, 2), (45, .getfield 175, 3, 1, 0, 0), (48, .iload_n 3, 1, 0, 0, 0), (49, .iadd, 1, 0, 0, 0), (50, .iload_n 3, 1, 0, 0, 0), (51, .ifCond .ne 7, 3, 58, 0, 0), (54, .iconst 1, 1, 0, 0, 0), (55, .goto 4, 3, 59, 0, 0),
  (58, .iconst 0, 1, 0, 0, 0), (59, .invokevirtual 200, 3, 85, 5, 2), (62, .aload_n 0, 1, 0, 0, 0), (63, .getfield 82, 3, 11, 16, 2), (66, .iload_n 1, 1, 0, 0, 0), (67, .invokevirtual 228, 3, 93, 2, 2), (70, .iload_n 2, 1, 0, 0, 0), (71, .if_icmp .lt 5, 3, 76, 0, 0),
  (74, .iload_n 3, 1, 0, 0, 0), (75, .ireturn, 1, 0, 0, 0), (76, .iinc 3 1, 3, 0, 0, 0), (79, .goto (-56), 3, 23, 0, 0), (82, .iconst (-1), 1, 0, 0, 0), (83, .ireturn, 1, 0, 0, 0)]
/-- SamePassers.unknown()I -/
def mm_c126 : List (Nat × mm_E) := [(0, .ldc2_w 231, 3, 1, 0, 1000000), (3, .lstore_n 1, 1, 0, 0, 0), (4, .lconst 1, 1, 0, 0, 0), (5, .lstore_n 3, 1, 0, 0, 0), (6, .iconst 0, 1, 0, 0, 0), (7, .istore 5, 2, 0, 0, 0), (9, .iload 5, 2, 0, 0, 0), (11, .aload_n 0, 1, 0, 0, 0),
  (12, .getfield 19, 3, 11, 1, 2), (15, .getfield 233, 3, 7, 10, 0), (18, .if_icmp .ge 31, 3, 49, 0, 0), (21, .lload_n 1, 1, 0, 0, 0), (22, .bipush 10, 2, 0, 0, 0), (24, .aload_n 0, 1, 0, 0, 0), (25, .getfield 78, 3, 11, 15, 2), (28, .iload 5, 2, 0, 0, 0),
  (30, .invokevirtual 157, 3, 90, 2, 2), (33, .isub, 1, 0, 0, 0), (34, .i2l, 1, 0, 0, 0), (35, .lmul, 1, 0, 0, 0), (36, .lstore_n 1, 1, 0, 0, 0), (37, .lload_n 3, 1, 0, 0, 0), (38, .ldc2_w 236, 3, 1, 0, 10), (41, .lmul, 1, 0, 0, 0),
  (42, .lstore_n 3, 1, 0, 0, 0), (43, .iinc 5 1, 3, 0, 0, 0), (46, .goto (-37), 3, 9, 0, 0), (49, .lload_n 3, 1, 0, 0, 0), (50, .lconst 0, 1, 0, 0, 0), (51, .lcmp, 1, 0, 0, 0), (52, .ifCond .le 10, 3, 62, 0, 0), (55, .lload_n 1, 1, 0, 0, 0),
  (56, .lload_n 3, 1, 0, 0, 0), (57, .ldiv, 1, 0, 0, 0), (58, .l2i, 1, 0, 0, 0), (59, .goto 4, 3, 63, 0, 0), (62, .iconst 0, 1, 0, 0, 0), (63, .ireturn, 1, 0, 0, 0)]
/-- SamePassers.lags(II)I -/
def mm_c127 : List (Nat × mm_E) := [(0, .iload_n 1, 1, 0, 0, 0), (1, .invokestatic 238, 3, 279, 1, 1), (4, .istore_n 3, 1, 0, 0, 0), (5, .aload_n 0, 1, 0, 0, 0), (6, .iload_n 1, 1, 0, 0, 0), (7, .invokevirtual 243, 3, 128, 2, 2), (10, .ifCond .eq 22, 3, 32, 0, 0), (13, .iload_n 3, 1, 0, 0, 0),
  (14, .iconst 1, 1, 0, 0, 0), (15, .if_icmp .lt 17, 3, 32, 0, 0), (18, .iload_n 3, 1, 0, 0, 0), (19, .iconst 4, 1, 0, 0, 0), (20, .if_icmp .gt 12, 3, 32, 0, 0), (23, .iload_n 2, 1, 0, 0, 0), (24, .ifCond .lt 8, 3, 32, 0, 0), (27, .iload_n 2, 1, 0, 0, 0),
  (28, .iload_n 3, 1, 0, 0, 0), (29, .if_icmp .le 5, 3, 34, 0, 0), (32, .iconst (-1), 1, 0, 0, 0), (33, .ireturn, 1, 0, 0, 0), (34, .aload_n 0, 1, 0, 0, 0), (35, .getfield 82, 3, 11, 16, 2), (38, .aload_n 0, 1, 0, 0, 0), (39, .getfield 19, 3, 11, 1, 2),
  (42, .aload_n 0, 1, 0, 0, 0), (43, .getfield 48, 3, 11, 6, 2), (46, .aload_n 0, 1, 0, 0, 0), (47, .getfield 48, 3, 11, 6, 2), (50, .getfield 175, 3, 1, 0, 0), (53, .iconst 0, 1, 0, 0, 0), (54, .invokevirtual 200, 3, 85, 5, 2), (57, .aload_n 0, 1, 0, 0, 0),
  (58, .getfield 88, 3, 11, 17, 2), (61, .aload_n 0, 1, 0, 0, 0), (62, .getfield 19, 3, 11, 1, 2), (65, .aload_n 0, 1, 0, 0, 0), (66, .getfield 82, 3, 11, 16, 2), (69, .iload_n 1, 1, 0, 0, 0), (70, .invokevirtual 246, 3, 14, 4, 2), (73, .ifCond .ne 5, 3, 78, 0, 0),
  (76, .iconst (-1), 1, 0, 0, 0), (77, .ireturn, 1, 0, 0, 0), (78, .iload_n 2, 1, 0, 0, 0), (79, .ifCond .ne 13, 3, 92, 0, 0), (82, .aload_n 0, 1, 0, 0, 0), (83, .getfield 88, 3, 11, 17, 2), (86, .getfield 250, 3, 2, 8, 0), (89, .goto 14, 3, 103, 0, 0),
  (92, .aload_n 0, 1, 0, 0, 0), (93, .getfield 88, 3, 11, 17, 2), (96, .getfield 253, 3, 2, 7, 2), (99, .iload_n 2, 1, 0, 0, 0), (100, .iconst 1, 1, 0, 0, 0), (101, .isub, 1, 0, 0, 0), (102, .iaload, 1, 0, 0, 0), (103, .ireturn, 1, 0, 0, 0)]
/-- SamePassers.areWalkers(I)Z -/
def mm_c128 : List (Nat × mm_E) := [(0, .iload_n 1, 1, 0, 0, 0), (1, .ifCond .lt 20, 3, 21, 0, 0), (4, .iload_n 1, 1, 0, 0, 0), (5, .iconst 1, 1, 0, 0, 0), (6, .aload_n 0, 1, 0, 0, 0), (7, .getfield 19, 3, 11, 1, 2), (10, .getfield 233, 3, 7, 10, 0), (13, .ishl, 1, 0, 0, 0),
  (14, .if_icmp .ge 7, 3, 21, 0, 0), (17, .iconst 1, 1, 0, 0, 0), (18, .goto 4, 3, 22, 0, 0), (21, .iconst 0, 1, 0, 0, 0), (22, .ireturn, 1, 0, 0, 0)]
/-- SamePassers.full(I)I -/
def mm_c129 : List (Nat × mm_E) := [(0, .iload_n 1, 1, 0, 0, 0), (1, .ifCond .lt 9, 3, 10, 0, 0), (4, .iload_n 1, 1, 0, 0, 0), (5, .bipush 8, 2, 0, 0, 0), (7, .if_icmp .le 5, 3, 12, 0, 0), (10, .iconst (-1), 1, 0, 0, 0), (11, .ireturn, 1, 0, 0, 0), (12, .iconst (-1), 1, 0, 0, 0),
  (13, .istore_n 2, 1, 0, 0, 0), (14, .bipush 9, 2, 0, 0, 0), (16, .istore_n 3, 1, 0, 0, 0), (17, .iconst 1, 1, 0, 0, 0), (18, .aload_n 0, 1, 0, 0, 0), (19, .getfield 19, 3, 11, 1, 2), (22, .getfield 233, 3, 7, 10, 0), (25, .ishl, 1, 0, 0, 0),
  (26, .istore 4, 2, 0, 0, 0), (28, .aload_n 0, 1, 0, 0, 0), (29, .invokevirtual 256, 3, 130, 1, 2), (32, .lstore 5, 2, 0, 0, 0), (34, .iconst 0, 1, 0, 0, 0), (35, .istore 7, 2, 0, 0, 0), (37, .iload 7, 2, 0, 0, 0), (39, .iload 4, 2, 0, 0, 0),
  (41, .if_icmp .ge 40, 3, 81, 0, 0), (44, .iload 7, 2, 0, 0, 0), (46, .invokestatic 238, 3, 279, 1, 1), (49, .istore 8, 2, 0, 0, 0), (51, .iload 8, 2, 0, 0, 0), (53, .iload_n 3, 1, 0, 0, 0), (54, .if_icmp .ge 21, 3, 75, 0, 0), (57, .aload_n 0, 1, 0, 0, 0),
  (58, .iload 7, 2, 0, 0, 0), (60, .iload_n 1, 1, 0, 0, 0), (61, .lload 5, 2, 0, 0, 0), (63, .invokevirtual 260, 3, 131, 4, 2), (66, .ifCond .eq 9, 3, 75, 0, 0), (69, .iload 8, 2, 0, 0, 0), (71, .istore_n 3, 1, 0, 0, 0), (72, .iload 7, 2, 0, 0, 0),
  (74, .istore_n 2, 1, 0, 0, 0), (75, .iinc 7 1, 3, 0, 0, 0), (78, .goto (-41), 3, 37, 0, 0), (81, .iload_n 2, 1, 0, 0, 0), (82, .ireturn, 1, 0, 0, 0)]
/-- SamePassers.seenOnWords()J -/
def mm_c130 : List (Nat × mm_E) := [(0, .lconst 0, 1, 0, 0, 0), (1, .lstore_n 1, 1, 0, 0, 0), (2, .iconst 0, 1, 0, 0, 0), (3, .istore_n 3, 1, 0, 0, 0), (4, .iload_n 3, 1, 0, 0, 0), (5, .aload_n 0, 1, 0, 0, 0), (6, .getfield 19, 3, 11, 1, 2), (9, .getfield 284, 3, 7, 7, 0),
  (12, .if_icmp .ge 64, 3, 76, 0, 0), (15, .iconst 0, 1, 0, 0, 0), (16, .istore 4, 2, 0, 0, 0), (18, .iload 4, 2, 0, 0, 0), (20, .aload_n 0, 1, 0, 0, 0), (21, .getfield 19, 3, 11, 1, 2), (24, .getfield 233, 3, 7, 10, 0), (27, .if_icmp .ge 43, 3, 70, 0, 0),
  (30, .aload_n 0, 1, 0, 0, 0), (31, .getfield 78, 3, 11, 15, 2), (34, .iload 4, 2, 0, 0, 0), (36, .aload_n 0, 1, 0, 0, 0), (37, .getfield 19, 3, 11, 1, 2), (40, .getfield 163, 3, 7, 9, 2), (43, .iload_n 3, 1, 0, 0, 0), (44, .iaload, 1, 0, 0, 0),
  (45, .invokevirtual 294, 3, 98, 3, 2), (48, .iconst (-1), 1, 0, 0, 0), (49, .if_icmp .eq 15, 3, 64, 0, 0), (52, .lload_n 1, 1, 0, 0, 0), (53, .lconst 1, 1, 0, 0, 0), (54, .iload_n 3, 1, 0, 0, 0), (55, .bipush 8, 2, 0, 0, 0), (57, .imul, 1, 0, 0, 0),
  (58, .iload 4, 2, 0, 0, 0), (60, .iadd, 1, 0, 0, 0), (61, .lshl, 1, 0, 0, 0), (62, .lor, 1, 0, 0, 0), (63, .lstore_n 1, 1, 0, 0, 0), (64, .iinc 4 1, 3, 0, 0, 0), (67, .goto (-49), 3, 18, 0, 0), (70, .iinc 3 1, 3, 0, 0, 0),
  (73, .goto (-69), 3, 4, 0, 0), (76, .lload_n 1, 1, 0, 0, 0), (77, .lreturn, 1, 0, 0, 0)]
/-- SamePassers.fills(IIJ)Z -/
def mm_c131 : List (Nat × mm_E) := [(0, .iconst 0, 1, 0, 0, 0), (1, .istore 5, 2, 0, 0, 0), (3, .iload 5, 2, 0, 0, 0), (5, .aload_n 0, 1, 0, 0, 0), (6, .getfield 19, 3, 11, 1, 2), (9, .getfield 284, 3, 7, 7, 0), (12, .if_icmp .ge 32, 3, 44, 0, 0), (15, .lload_n 3, 1, 0, 0, 0),
  (16, .iload 5, 2, 0, 0, 0), (18, .bipush 8, 2, 0, 0, 0), (20, .imul, 1, 0, 0, 0), (21, .lshr, 1, 0, 0, 0), (22, .l2i, 1, 0, 0, 0), (23, .iload_n 1, 1, 0, 0, 0), (24, .iand, 1, 0, 0, 0), (25, .istore 6, 2, 0, 0, 0),
  (27, .iload 6, 2, 0, 0, 0), (29, .invokestatic 238, 3, 279, 1, 1), (32, .iload_n 2, 1, 0, 0, 0), (33, .if_icmp .ge 5, 3, 38, 0, 0), (36, .iconst 0, 1, 0, 0, 0), (37, .ireturn, 1, 0, 0, 0), (38, .iinc 5 1, 3, 0, 0, 0), (41, .goto (-38), 3, 3, 0, 0),
  (44, .iconst 1, 1, 0, 0, 0), (45, .ireturn, 1, 0, 0, 0)]
/-- SamePassers.jump(IIIII)I -/
def mm_c132 : List (Nat × mm_E) := [(0, .iload_n 2, 1, 0, 0, 0), (1, .invokestatic 264, 3, 133, 1, 0), (4, .ifCond .eq 15, 3, 19, 0, 0), (7, .iload 4, 2, 0, 0, 0), (9, .invokestatic 264, 3, 133, 1, 0), (12, .ifCond .eq 7, 3, 19, 0, 0), (15, .iconst 1, 1, 0, 0, 0), (16, .goto 4, 3, 20, 0, 0),
  (19, .iconst 0, 1, 0, 0, 0), (20, .istore 6, 2, 0, 0, 0), (22, .iload 6, 2, 0, 0, 0), (24, .ifCond .eq 33, 3, 57, 0, 0), (27, .aload_n 0, 1, 0, 0, 0), (28, .iload_n 3, 1, 0, 0, 0), (29, .invokevirtual 160, 3, 109, 2, 2), (32, .ifCond .eq 25, 3, 57, 0, 0),
  (35, .aload_n 0, 1, 0, 0, 0), (36, .iload 5, 2, 0, 0, 0), (38, .invokevirtual 160, 3, 109, 2, 2), (41, .ifCond .eq 16, 3, 57, 0, 0), (44, .iload_n 1, 1, 0, 0, 0), (45, .iconst (-1), 1, 0, 0, 0), (46, .if_icmp .eq 14, 3, 60, 0, 0), (49, .aload_n 0, 1, 0, 0, 0),
  (50, .iload_n 1, 1, 0, 0, 0), (51, .invokevirtual 118, 3, 107, 2, 2), (54, .ifCond .ne 6, 3, 60, 0, 0), (57, .bipush (-2), 2, 0, 0, 0), (59, .ireturn, 1, 0, 0, 0), (60, .aload_n 0, 1, 0, 0, 0), (61, .iconst 0, 1, 0, 0, 0), (62, .iload_n 2, 1, 0, 0, 0),
  (63, .iload_n 3, 1, 0, 0, 0), (64, .invokevirtual 267, 3, 134, 4, 2), (67, .aload_n 0, 1, 0, 0, 0), (68, .iconst 1, 1, 0, 0, 0), (69, .iload 4, 2, 0, 0, 0), (71, .iload 5, 2, 0, 0, 0), (73, .invokevirtual 267, 3, 134, 4, 2), (76, .iload_n 1, 1, 0, 0, 0),
  (77, .iconst (-1), 1, 0, 0, 0), (78, .if_icmp .ne 19, 3, 97, 0, 0), (81, .aload_n 0, 1, 0, 0, 0), (82, .getfield 95, 3, 11, 18, 2), (85, .aload_n 0, 1, 0, 0, 0), (86, .getfield 19, 3, 11, 1, 2), (89, .iconst 0, 1, 0, 0, 0), (90, .iconst 1, 1, 0, 0, 0),
  (91, .invokevirtual 271, 3, 2, 4, 2), (94, .goto 17, 3, 111, 0, 0), (97, .aload_n 0, 1, 0, 0, 0), (98, .getfield 95, 3, 11, 18, 2), (101, .aload_n 0, 1, 0, 0, 0), (102, .getfield 19, 3, 11, 1, 2), (105, .iload_n 1, 1, 0, 0, 0), (106, .iconst 0, 1, 0, 0, 0),
  (107, .iconst 1, 1, 0, 0, 0), (108, .invokevirtual 275, 3, 3, 5, 2), (111, .ireturn, 1, 0, 0, 0)]
/-- SamePassers.isTake(I)Z -/
def mm_c133 : List (Nat × mm_E) := [(0, .iload_n 0, 1, 0, 0, 0), (1, .ifCond .lt 13, 3, 14, 0, 0), (4, .iload_n 0, 1, 0, 0, 0), (5, .bipush 60, 2, 0, 0, 0), (7, .if_icmp .gt 7, 3, 14, 0, 0), (10, .iconst 1, 1, 0, 0, 0), (11, .goto 4, 3, 15, 0, 0), (14, .iconst 0, 1, 0, 0, 0),
  (15, .ireturn, 1, 0, 0, 0)]
/-- SamePassers.shoot(III)V -/
def mm_c134 : List (Nat × mm_E) := [(0, .aload_n 0, 1, 0, 0, 0), (1, .getfield 82, 3, 11, 16, 2), (4, .aload_n 0, 1, 0, 0, 0), (5, .getfield 19, 3, 11, 1, 2), (8, .aload_n 0, 1, 0, 0, 0), (9, .getfield 48, 3, 11, 6, 2), (12, .iload_n 2, 1, 0, 0, 0), (13, .iconst 0, 1, 0, 0, 0),
  (14, .invokevirtual 200, 3, 85, 5, 2), (17, .aload_n 0, 1, 0, 0, 0), (18, .getfield 95, 3, 11, 18, 2), (21, .iload_n 1, 1, 0, 0, 0), (22, .aload_n 0, 1, 0, 0, 0), (23, .getfield 82, 3, 11, 16, 2), (26, .aload_n 0, 1, 0, 0, 0), (27, .getfield 19, 3, 11, 1, 2),
  (30, .aload_n 0, 1, 0, 0, 0), (31, .getfield 19, 3, 11, 1, 2), (34, .getfield 163, 3, 7, 9, 2), (37, .iload_n 3, 1, 0, 0, 0), (38, .iaload, 1, 0, 0, 0), (39, .invokevirtual 392, 3, 1, 5, 2), (42, .return_, 1, 0, 0, 0)]
/-- SamePassers.best(II)I -/
def mm_c135 : List (Nat × mm_E) := [(0, .aload_n 0, 1, 0, 0, 0), (1, .iload_n 1, 1, 0, 0, 0), (2, .invokevirtual 160, 3, 109, 2, 2), (5, .ifCond .eq 12, 3, 17, 0, 0), (8, .iload_n 2, 1, 0, 0, 0), (9, .ifCond .lt 8, 3, 17, 0, 0), (12, .iload_n 2, 1, 0, 0, 0), (13, .iconst 2, 1, 0, 0, 0),
  (14, .if_icmp .le 5, 3, 19, 0, 0), (17, .iconst (-1), 1, 0, 0, 0), (18, .ireturn, 1, 0, 0, 0), (19, .sipush 321, 3, 0, 0, 0), (22, .istore_n 3, 1, 0, 0, 0), (23, .iconst 0, 1, 0, 0, 0), (24, .istore 4, 2, 0, 0, 0), (26, .iconst 0, 1, 0, 0, 0),
  (27, .istore 5, 2, 0, 0, 0), (29, .iconst 0, 1, 0, 0, 0), (30, .istore 6, 2, 0, 0, 0), (32, .iload 6, 2, 0, 0, 0), (34, .bipush 12, 2, 0, 0, 0), (36, .if_icmp .ge 18, 3, 54, 0, 0), (39, .aload_n 0, 1, 0, 0, 0), (40, .iload 6, 2, 0, 0, 0),
  (42, .iload 6, 2, 0, 0, 0), (44, .iload_n 1, 1, 0, 0, 0), (45, .invokevirtual 267, 3, 134, 4, 2), (48, .iinc 6 1, 3, 0, 0, 0), (51, .goto (-19), 3, 32, 0, 0), (54, .iconst 0, 1, 0, 0, 0), (55, .istore 6, 2, 0, 0, 0), (57, .iload 6, 2, 0, 0, 0),
  (59, .bipush 12, 2, 0, 0, 0), (61, .if_icmp .ge 62, 3, 123, 0, 0), (64, .iload 6, 2, 0, 0, 0), (66, .iconst 1, 1, 0, 0, 0), (67, .iadd, 1, 0, 0, 0), (68, .istore 7, 2, 0, 0, 0), (70, .iload 7, 2, 0, 0, 0), (72, .bipush 12, 2, 0, 0, 0),
  (74, .if_icmp .ge 43, 3, 117, 0, 0), (77, .aload_n 0, 1, 0, 0, 0), (78, .getfield 95, 3, 11, 18, 2), (81, .aload_n 0, 1, 0, 0, 0), (82, .getfield 19, 3, 11, 1, 2), (85, .iload 6, 2, 0, 0, 0), (87, .iload 7, 2, 0, 0, 0), (89, .invokevirtual 271, 3, 2, 4, 2),
  (92, .istore 8, 2, 0, 0, 0), (94, .iload 8, 2, 0, 0, 0), (96, .iload_n 3, 1, 0, 0, 0), (97, .if_icmp .ge 14, 3, 111, 0, 0), (100, .iload 8, 2, 0, 0, 0), (102, .istore_n 3, 1, 0, 0, 0), (103, .iload 6, 2, 0, 0, 0), (105, .istore 4, 2, 0, 0, 0),
  (107, .iload 7, 2, 0, 0, 0), (109, .istore 5, 2, 0, 0, 0), (111, .iinc 7 1, 3, 0, 0, 0), (114, .goto (-44), 3, 70, 0, 0), (117, .iinc 6 1, 3, 0, 0, 0), (120, .goto (-63), 3, 57, 0, 0), (123, .iload_n 2, 1, 0, 0, 0), (124, .ifCond .ne 7, 3, 131, 0, 0),
  (127, .iload_n 3, 1, 0, 0, 0), (128, .goto 15, 3, 143, 0, 0), (131, .iload_n 2, 1, 0, 0, 0), (132, .iconst 1, 1, 0, 0, 0), (133, .if_icmp .ne 8, 3, 141, 0, 0), (136, .iload 4, 2, 0, 0, 0), (138, .goto 5, 3, 143, 0, 0), (141, .iload 5, 2, 0, 0, 0),
  (143, .ireturn, 1, 0, 0, 0)]
/-- SamePassers.row(II)J -/
def mm_c136 : List (Nat × mm_E) := [(0, .aload_n 0, 1, 0, 0, 0), (1, .iload_n 1, 1, 0, 0, 0), (2, .invokevirtual 279, 3, 137, 2, 2), (5, .ifCond .eq 10, 3, 15, 0, 0), (8, .iload_n 2, 1, 0, 0, 0), (9, .invokestatic 212, 3, 119, 1, 0), (12, .ifCond .ne 7, 3, 19, 0, 0), (15, .ldc2_w 282, 3, 1, 0, (-1)),
  (18, .lreturn, 1, 0, 0, 0), (19, .lconst 0, 1, 0, 0, 0), (20, .lstore_n 3, 1, 0, 0, 0), (21, .iconst 0, 1, 0, 0, 0), (22, .istore 5, 2, 0, 0, 0), (24, .iload 5, 2, 0, 0, 0), (26, .aload_n 0, 1, 0, 0, 0), (27, .getfield 19, 3, 11, 1, 2),
  (30, .getfield 233, 3, 7, 10, 0), (33, .if_icmp .ge 50, 3, 83, 0, 0), (36, .aload_n 0, 1, 0, 0, 0), (37, .getfield 78, 3, 11, 15, 2), (40, .iload 5, 2, 0, 0, 0), (42, .iload_n 2, 1, 0, 0, 0), (43, .invokevirtual 215, 3, 87, 3, 2), (46, .istore 6, 2, 0, 0, 0),
  (48, .iload 6, 2, 0, 0, 0), (50, .ifCond .lt 27, 3, 77, 0, 0), (53, .aload_n 0, 1, 0, 0, 0), (54, .getfield 19, 3, 11, 1, 2), (57, .getfield 122, 3, 7, 11, 2), (60, .iload 5, 2, 0, 0, 0), (62, .aaload, 1, 0, 0, 0), (63, .getfield 131, 3, 9, 2, 0),
  (66, .iload_n 1, 1, 0, 0, 0), (67, .if_icmp .ne 10, 3, 77, 0, 0), (70, .lload_n 3, 1, 0, 0, 0), (71, .lconst 1, 1, 0, 0, 0), (72, .iload 6, 2, 0, 0, 0), (74, .lshl, 1, 0, 0, 0), (75, .lor, 1, 0, 0, 0), (76, .lstore_n 3, 1, 0, 0, 0),
  (77, .iinc 5 1, 3, 0, 0, 0), (80, .goto (-56), 3, 24, 0, 0), (83, .lload_n 3, 1, 0, 0, 0), (84, .lreturn, 1, 0, 0, 0)]
/-- SamePassers.isLane(I)Z -/
def mm_c137 : List (Nat × mm_E) := [(0, .iload_n 1, 1, 0, 0, 0), (1, .ifCond .lt 18, 3, 19, 0, 0), (4, .iload_n 1, 1, 0, 0, 0), (5, .aload_n 0, 1, 0, 0, 0), (6, .getfield 19, 3, 11, 1, 2), (9, .getfield 291, 3, 7, 1, 0), (12, .if_icmp .ge 7, 3, 19, 0, 0), (15, .iconst 1, 1, 0, 0, 0),
  (16, .goto 4, 3, 20, 0, 0), (19, .iconst 0, 1, 0, 0, 0), (20, .ireturn, 1, 0, 0, 0)]
/-- SamePassers.wrong()I -/
def mm_c138 : List (Nat × mm_E) := [(0, .iconst 0, 1, 0, 0, 0), (1, .istore_n 1, 1, 0, 0, 0), (2, .iconst 0, 1, 0, 0, 0), (3, .istore_n 2, 1, 0, 0, 0), (4, .iload_n 2, 1, 0, 0, 0), (5, .aload_n 0, 1, 0, 0, 0), (6, .getfield 19, 3, 11, 1, 2), (9, .getfield 233, 3, 7, 10, 0),
  (12, .if_icmp .ge 74, 3, 86, 0, 0), (15, .iconst 0, 1, 0, 0, 0), (16, .istore_n 3, 1, 0, 0, 0), (17, .iconst 0, 1, 0, 0, 0), (18, .istore 4, 2, 0, 0, 0), (20, .iload 4, 2, 0, 0, 0), (22, .aload_n 0, 1, 0, 0, 0), (23, .getfield 19, 3, 11, 1, 2),
  (26, .getfield 284, 3, 7, 7, 0), (29, .if_icmp .ge 41, 3, 70, 0, 0), (32, .iload_n 3, 1, 0, 0, 0), (33, .ifCond .ne 25, 3, 58, 0, 0), (36, .aload_n 0, 1, 0, 0, 0), (37, .getfield 78, 3, 11, 15, 2), (40, .iload_n 2, 1, 0, 0, 0), (41, .aload_n 0, 1, 0, 0, 0),
  (42, .getfield 19, 3, 11, 1, 2), (45, .getfield 163, 3, 7, 9, 2), (48, .iload 4, 2, 0, 0, 0), (50, .iaload, 1, 0, 0, 0), (51, .invokevirtual 219, 3, 96, 3, 2), (54, .iconst 2, 1, 0, 0, 0), (55, .if_icmp .ne 7, 3, 62, 0, 0), (58, .iconst 1, 1, 0, 0, 0),
  (59, .goto 4, 3, 63, 0, 0), (62, .iconst 0, 1, 0, 0, 0), (63, .istore_n 3, 1, 0, 0, 0), (64, .iinc 4 1, 3, 0, 0, 0), (67, .goto (-47), 3, 20, 0, 0), (70, .iload_n 3, 1, 0, 0, 0), (71, .ifCond .ne 9, 3, 80, 0, 0), (74, .iload_n 1, 1, 0, 0, 0),
  (75, .iconst 1, 1, 0, 0, 0), (76, .iload_n 2, 1, 0, 0, 0), (77, .ishl, 1, 0, 0, 0), (78, .ior, 1, 0, 0, 0), (79, .istore_n 1, 1, 0, 0, 0), (80, .iinc 2 1, 3, 0, 0, 0), (83, .goto (-79), 3, 4, 0, 0), (86, .iload_n 1, 1, 0, 0, 0),
  (87, .ireturn, 1, 0, 0, 0)]
/-- SamePassers.change(II)I -/
def mm_c139 : List (Nat × mm_E) := [(0, .aload_n 0, 1, 0, 0, 0), (1, .iload_n 1, 1, 0, 0, 0), (2, .invokevirtual 118, 3, 107, 2, 2), (5, .ifCond .eq 13, 3, 18, 0, 0), (8, .iload_n 2, 1, 0, 0, 0), (9, .ifCond .lt 9, 3, 18, 0, 0), (12, .iload_n 2, 1, 0, 0, 0), (13, .bipush 40, 2, 0, 0, 0),
  (15, .if_icmp .le 5, 3, 20, 0, 0), (18, .iconst (-1), 1, 0, 0, 0), (19, .ireturn, 1, 0, 0, 0), (20, .iconst 0, 1, 0, 0, 0), (21, .istore_n 3, 1, 0, 0, 0), (22, .iconst 0, 1, 0, 0, 0), (23, .istore 4, 2, 0, 0, 0), (25, .iload 4, 2, 0, 0, 0),
  (27, .aload_n 0, 1, 0, 0, 0), (28, .getfield 19, 3, 11, 1, 2), (31, .getfield 233, 3, 7, 10, 0), (34, .if_icmp .ge 33, 3, 67, 0, 0), (37, .iload 4, 2, 0, 0, 0), (39, .iload_n 1, 1, 0, 0, 0), (40, .if_icmp .eq 21, 3, 61, 0, 0), (43, .aload_n 0, 1, 0, 0, 0),
  (44, .iload_n 1, 1, 0, 0, 0), (45, .iload 4, 2, 0, 0, 0), (47, .iload_n 2, 1, 0, 0, 0), (48, .invokevirtual 287, 3, 140, 4, 2), (51, .ifCond .eq 10, 3, 61, 0, 0), (54, .iload_n 3, 1, 0, 0, 0), (55, .iconst 1, 1, 0, 0, 0), (56, .iload 4, 2, 0, 0, 0),
  (58, .ishl, 1, 0, 0, 0), (59, .ior, 1, 0, 0, 0), (60, .istore_n 3, 1, 0, 0, 0), (61, .iinc 4 1, 3, 0, 0, 0), (64, .goto (-39), 3, 25, 0, 0), (67, .iload_n 3, 1, 0, 0, 0), (68, .ireturn, 1, 0, 0, 0)]
/-- SamePassers.canStandFor(III)Z -/
def mm_c140 : List (Nat × mm_E) := [(0, .aload_n 0, 1, 0, 0, 0), (1, .getfield 19, 3, 11, 1, 2), (4, .getfield 122, 3, 7, 11, 2), (7, .iload_n 1, 1, 0, 0, 0), (8, .aaload, 1, 0, 0, 0), (9, .getfield 126, 3, 9, 1, 0), (12, .aload_n 0, 1, 0, 0, 0), (13, .getfield 19, 3, 11, 1, 2),
  (16, .getfield 122, 3, 7, 11, 2), (19, .iload_n 2, 1, 0, 0, 0), (20, .aaload, 1, 0, 0, 0), (21, .getfield 126, 3, 9, 1, 0), (24, .if_icmp .eq 5, 3, 29, 0, 0), (27, .iconst 0, 1, 0, 0, 0), (28, .ireturn, 1, 0, 0, 0), (29, .iconst 0, 1, 0, 0, 0),
  (30, .istore 4, 2, 0, 0, 0), (32, .iload 4, 2, 0, 0, 0), (34, .aload_n 0, 1, 0, 0, 0), (35, .getfield 19, 3, 11, 1, 2), (38, .getfield 284, 3, 7, 7, 0), (41, .if_icmp .ge 97, 3, 138, 0, 0), (44, .aload_n 0, 1, 0, 0, 0), (45, .getfield 78, 3, 11, 15, 2),
  (48, .iload_n 1, 1, 0, 0, 0), (49, .aload_n 0, 1, 0, 0, 0), (50, .getfield 19, 3, 11, 1, 2), (53, .getfield 163, 3, 7, 9, 2), (56, .iload 4, 2, 0, 0, 0), (58, .iaload, 1, 0, 0, 0), (59, .invokevirtual 294, 3, 98, 3, 2), (62, .istore 5, 2, 0, 0, 0),
  (64, .aload_n 0, 1, 0, 0, 0), (65, .getfield 78, 3, 11, 15, 2), (68, .iload_n 2, 1, 0, 0, 0), (69, .aload_n 0, 1, 0, 0, 0), (70, .getfield 19, 3, 11, 1, 2), (73, .getfield 163, 3, 7, 9, 2), (76, .iload 4, 2, 0, 0, 0), (78, .iaload, 1, 0, 0, 0),
  (79, .invokevirtual 294, 3, 98, 3, 2), (82, .istore 6, 2, 0, 0, 0), (84, .iload 5, 2, 0, 0, 0), (86, .iconst (-1), 1, 0, 0, 0), (87, .if_icmp .eq 13, 3, 100, 0, 0), (90, .iload 6, 2, 0, 0, 0), (92, .iconst (-1), 1, 0, 0, 0), (93, .if_icmp .eq 7, 3, 100, 0, 0),
  (96, .iconst 1, 1, 0, 0, 0), (97, .goto 4, 3, 101, 0, 0), (100, .iconst 0, 1, 0, 0, 0), (101, .istore 7, 2, 0, 0, 0), (103, .iload 7, 2, 0, 0, 0), (105, .ifCond .eq 18, 3, 123, 0, 0), (108, .iload 5, 2, 0, 0, 0), (110, .iload 6, 2, 0, 0, 0),
  (112, .isub, 1, 0, 0, 0), (113, .invokestatic 395, 3, 0, 0, 12), (116, .iload_n 3, 1, 0, 0, 0), (117, .if_icmp .le 15, 3, 132, 0, 0), (120, .goto 10, 3, 130, 0, 0), (123, .iload 5, 2, 0, 0, 0), (125, .iload 6, 2, 0, 0, 0), (127, .if_icmp .eq 5, 3, 132, 0, 0),
  (130, .iconst 0, 1, 0, 0, 0), (131, .ireturn, 1, 0, 0, 0), (132, .iinc 4 1, 3, 0, 0, 0), (135, .goto (-103), 3, 32, 0, 0), (138, .iconst 1, 1, 0, 0, 0), (139, .ireturn, 1, 0, 0, 0)]
/-- SamePassers.other(III)I -/
def mm_c141 : List (Nat × mm_E) := [(0, .aload_n 0, 1, 0, 0, 0), (1, .iload_n 1, 1, 0, 0, 0), (2, .invokevirtual 118, 3, 107, 2, 2), (5, .ifCond .eq 20, 3, 25, 0, 0), (8, .aload_n 0, 1, 0, 0, 0), (9, .iload_n 2, 1, 0, 0, 0), (10, .invokevirtual 160, 3, 109, 2, 2), (13, .ifCond .eq 12, 3, 25, 0, 0),
  (16, .iload_n 3, 1, 0, 0, 0), (17, .ifCond .lt 8, 3, 25, 0, 0), (20, .iload_n 3, 1, 0, 0, 0), (21, .iconst 1, 1, 0, 0, 0), (22, .if_icmp .le 6, 3, 28, 0, 0), (25, .bipush (-2), 2, 0, 0, 0), (27, .ireturn, 1, 0, 0, 0), (28, .iload_n 3, 1, 0, 0, 0),
  (29, .iconst 1, 1, 0, 0, 0), (30, .if_icmp .ne 26, 3, 56, 0, 0), (33, .aload_n 0, 1, 0, 0, 0), (34, .getfield 19, 3, 11, 1, 2), (37, .getfield 291, 3, 7, 1, 0), (40, .iconst 1, 1, 0, 0, 0), (41, .isub, 1, 0, 0, 0), (42, .aload_n 0, 1, 0, 0, 0),
  (43, .getfield 19, 3, 11, 1, 2), (46, .getfield 122, 3, 7, 11, 2), (49, .iload_n 1, 1, 0, 0, 0), (50, .aaload, 1, 0, 0, 0), (51, .getfield 131, 3, 9, 2, 0), (54, .isub, 1, 0, 0, 0), (55, .ireturn, 1, 0, 0, 0), (56, .aload_n 0, 1, 0, 0, 0),
  (57, .getfield 78, 3, 11, 15, 2), (60, .iload_n 1, 1, 0, 0, 0), (61, .aload_n 0, 1, 0, 0, 0), (62, .getfield 19, 3, 11, 1, 2), (65, .getfield 163, 3, 7, 9, 2), (68, .iload_n 2, 1, 0, 0, 0), (69, .iaload, 1, 0, 0, 0), (70, .invokevirtual 294, 3, 98, 3, 2),
  (73, .istore 4, 2, 0, 0, 0), (75, .iload 4, 2, 0, 0, 0), (77, .iconst (-1), 1, 0, 0, 0), (78, .if_icmp .ne 7, 3, 85, 0, 0), (81, .iconst (-1), 1, 0, 0, 0), (82, .goto 21, 3, 103, 0, 0), (85, .aload_n 0, 1, 0, 0, 0), (86, .getfield 19, 3, 11, 1, 2),
  (89, .getfield 297, 3, 7, 2, 0), (92, .aload_n 0, 1, 0, 0, 0), (93, .getfield 19, 3, 11, 1, 2), (96, .getfield 300, 3, 7, 3, 0), (99, .iadd, 1, 0, 0, 0), (100, .iload 4, 2, 0, 0, 0), (102, .isub, 1, 0, 0, 0), (103, .ireturn, 1, 0, 0, 0)]
/-- SamePassers.tell(II)Z -/
def mm_c142 : List (Nat × mm_E) := [(0, .iload_n 1, 1, 0, 0, 0), (1, .invokestatic 264, 3, 133, 1, 0), (4, .ifCond .eq 10, 3, 14, 0, 0), (7, .iload_n 2, 1, 0, 0, 0), (8, .invokestatic 212, 3, 119, 1, 0), (11, .ifCond .ne 5, 3, 16, 0, 0), (14, .iconst 0, 1, 0, 0, 0), (15, .ireturn, 1, 0, 0, 0),
  (16, .aload_n 0, 1, 0, 0, 0), (17, .getfield 58, 3, 11, 8, 2), (20, .iload_n 1, 1, 0, 0, 0), (21, .iload_n 2, 1, 0, 0, 0), (22, .invokevirtual 303, 3, 29, 3, 2), (25, .ireturn, 1, 0, 0, 0)]
/-- SamePassers.notes(I)I -/
def mm_c143 : List (Nat × mm_E) := [(0, .iload_n 1, 1, 0, 0, 0), (1, .ifCond .lt 19, 3, 20, 0, 0), (4, .iload_n 1, 1, 0, 0, 0), (5, .bipush 30, 2, 0, 0, 0), (7, .if_icmp .gt 13, 3, 20, 0, 0), (10, .aload_n 0, 1, 0, 0, 0), (11, .getfield 19, 3, 11, 1, 2), (14, .getfield 284, 3, 7, 7, 0),
  (17, .ifCond .ne 5, 3, 22, 0, 0), (20, .iconst (-1), 1, 0, 0, 0), (21, .ireturn, 1, 0, 0, 0), (22, .aload_n 0, 1, 0, 0, 0), (23, .iconst 0, 1, 0, 0, 0), (24, .iconst 0, 1, 0, 0, 0), (25, .iconst 0, 1, 0, 0, 0), (26, .invokevirtual 267, 3, 134, 4, 2),
  (29, .aload_n 0, 1, 0, 0, 0), (30, .iconst 1, 1, 0, 0, 0), (31, .aload_n 0, 1, 0, 0, 0), (32, .getfield 48, 3, 11, 6, 2), (35, .getfield 175, 3, 1, 0, 0), (38, .iconst 0, 1, 0, 0, 0), (39, .invokevirtual 267, 3, 134, 4, 2), (42, .iconst 0, 1, 0, 0, 0),
  (43, .istore_n 2, 1, 0, 0, 0), (44, .iconst 0, 1, 0, 0, 0), (45, .istore_n 3, 1, 0, 0, 0), (46, .iconst 1, 1, 0, 0, 0), (47, .aload_n 0, 1, 0, 0, 0), (48, .getfield 19, 3, 11, 1, 2), (51, .getfield 233, 3, 7, 10, 0), (54, .ishl, 1, 0, 0, 0),
  (55, .istore 4, 2, 0, 0, 0), (57, .iconst 1, 1, 0, 0, 0), (58, .istore 5, 2, 0, 0, 0), (60, .iload 5, 2, 0, 0, 0), (62, .iload 4, 2, 0, 0, 0), (64, .if_icmp .ge 39, 3, 103, 0, 0), (67, .aload_n 0, 1, 0, 0, 0), (68, .iload 5, 2, 0, 0, 0),
  (70, .invokevirtual 340, 3, 144, 2, 2), (73, .iload_n 1, 1, 0, 0, 0), (74, .if_icmp .gt 23, 3, 97, 0, 0), (77, .aload_n 0, 1, 0, 0, 0), (78, .iload 5, 2, 0, 0, 0), (80, .invokevirtual 343, 3, 145, 2, 2), (83, .istore 6, 2, 0, 0, 0), (85, .iload 6, 2, 0, 0, 0),
  (87, .iload_n 3, 1, 0, 0, 0), (88, .if_icmp .le 9, 3, 97, 0, 0), (91, .iload 6, 2, 0, 0, 0), (93, .istore_n 3, 1, 0, 0, 0), (94, .iload 5, 2, 0, 0, 0), (96, .istore_n 2, 1, 0, 0, 0), (97, .iinc 5 1, 3, 0, 0, 0), (100, .goto (-40), 3, 60, 0, 0),
  (103, .iload_n 2, 1, 0, 0, 0), (104, .ireturn, 1, 0, 0, 0)]
/-- SamePassers.secondsOf(I)I -/
def mm_c144 : List (Nat × mm_E) := [(0, .iconst 0, 1, 0, 0, 0), (1, .istore_n 2, 1, 0, 0, 0), (2, .iconst 0, 1, 0, 0, 0), (3, .istore_n 3, 1, 0, 0, 0), (4, .iload_n 3, 1, 0, 0, 0), (5, .aload_n 0, 1, 0, 0, 0), (6, .getfield 19, 3, 11, 1, 2), (9, .getfield 233, 3, 7, 10, 0),
  (12, .if_icmp .ge 34, 3, 46, 0, 0), (15, .iload_n 1, 1, 0, 0, 0), (16, .iload_n 3, 1, 0, 0, 0), (17, .ishr, 1, 0, 0, 0), (18, .iconst 1, 1, 0, 0, 0), (19, .iand, 1, 0, 0, 0), (20, .ifCond .eq 20, 3, 40, 0, 0), (23, .iload_n 2, 1, 0, 0, 0),
  (24, .iconst 1, 1, 0, 0, 0), (25, .aload_n 0, 1, 0, 0, 0), (26, .getfield 19, 3, 11, 1, 2), (29, .getfield 122, 3, 7, 11, 2), (32, .iload_n 3, 1, 0, 0, 0), (33, .aaload, 1, 0, 0, 0), (34, .getfield 131, 3, 9, 2, 0), (37, .iadd, 1, 0, 0, 0),
  (38, .iadd, 1, 0, 0, 0), (39, .istore_n 2, 1, 0, 0, 0), (40, .iinc 3 1, 3, 0, 0, 0), (43, .goto (-39), 3, 4, 0, 0), (46, .iload_n 2, 1, 0, 0, 0), (47, .ireturn, 1, 0, 0, 0)]
/-- SamePassers.worthOf(I)I -/
def mm_c145 : List (Nat × mm_E) := [(0, .iconst 0, 1, 0, 0, 0), (1, .istore_n 2, 1, 0, 0, 0), (2, .iconst 0, 1, 0, 0, 0), (3, .istore_n 3, 1, 0, 0, 0), (4, .iload_n 3, 1, 0, 0, 0), (5, .aload_n 0, 1, 0, 0, 0), (6, .getfield 19, 3, 11, 1, 2), (9, .getfield 233, 3, 7, 10, 0),
  (12, .if_icmp .ge 34, 3, 46, 0, 0), (15, .iload_n 1, 1, 0, 0, 0), (16, .iload_n 3, 1, 0, 0, 0), (17, .ishr, 1, 0, 0, 0), (18, .iconst 1, 1, 0, 0, 0), (19, .iand, 1, 0, 0, 0), (20, .ifCond .eq 20, 3, 40, 0, 0), (23, .iload_n 2, 1, 0, 0, 0),
  (24, .aload_n 0, 1, 0, 0, 0), (25, .getfield 95, 3, 11, 18, 2), (28, .aload_n 0, 1, 0, 0, 0), (29, .getfield 19, 3, 11, 1, 2), (32, .iload_n 3, 1, 0, 0, 0), (33, .iconst 0, 1, 0, 0, 0), (34, .iconst 1, 1, 0, 0, 0), (35, .invokevirtual 275, 3, 3, 5, 2),
  (38, .iadd, 1, 0, 0, 0), (39, .istore_n 2, 1, 0, 0, 0), (40, .iinc 3 1, 3, 0, 0, 0), (43, .goto (-39), 3, 4, 0, 0), (46, .iload_n 2, 1, 0, 0, 0), (47, .ireturn, 1, 0, 0, 0)]
/-- SamePassers.whose(III)I -/
def mm_c146 : List (Nat × mm_E) := [(0, .aload_n 0, 1, 0, 0, 0), (1, .iload_n 1, 1, 0, 0, 0), (2, .invokevirtual 166, 3, 111, 2, 2), (5, .ifCond .eq 18, 3, 23, 0, 0), (8, .aload_n 0, 1, 0, 0, 0), (9, .iload_n 2, 1, 0, 0, 0), (10, .invokevirtual 279, 3, 137, 2, 2), (13, .ifCond .eq 10, 3, 23, 0, 0),
  (16, .iload_n 3, 1, 0, 0, 0), (17, .invokestatic 212, 3, 119, 1, 0), (20, .ifCond .ne 5, 3, 25, 0, 0), (23, .iconst (-1), 1, 0, 0, 0), (24, .ireturn, 1, 0, 0, 0), (25, .iconst 0, 1, 0, 0, 0), (26, .istore 4, 2, 0, 0, 0), (28, .iconst 0, 1, 0, 0, 0),
  (29, .istore 5, 2, 0, 0, 0), (31, .iload 5, 2, 0, 0, 0), (33, .aload_n 0, 1, 0, 0, 0), (34, .getfield 19, 3, 11, 1, 2), (37, .getfield 233, 3, 7, 10, 0), (40, .if_icmp .ge 49, 3, 89, 0, 0), (43, .aload_n 0, 1, 0, 0, 0), (44, .getfield 19, 3, 11, 1, 2),
  (47, .getfield 122, 3, 7, 11, 2), (50, .iload 5, 2, 0, 0, 0), (52, .aaload, 1, 0, 0, 0), (53, .getfield 131, 3, 9, 2, 0), (56, .iload_n 2, 1, 0, 0, 0), (57, .if_icmp .ne 26, 3, 83, 0, 0), (60, .aload_n 0, 1, 0, 0, 0), (61, .getfield 78, 3, 11, 15, 2),
  (64, .iload 5, 2, 0, 0, 0), (66, .iload_n 3, 1, 0, 0, 0), (67, .invokevirtual 215, 3, 87, 3, 2), (70, .iload_n 1, 1, 0, 0, 0), (71, .if_icmp .ne 12, 3, 83, 0, 0), (74, .iload 4, 2, 0, 0, 0), (76, .iconst 1, 1, 0, 0, 0), (77, .iload 5, 2, 0, 0, 0),
  (79, .ishl, 1, 0, 0, 0), (80, .ior, 1, 0, 0, 0), (81, .istore 4, 2, 0, 0, 0), (83, .iinc 5 1, 3, 0, 0, 0), (86, .goto (-55), 3, 31, 0, 0), (89, .iload 4, 2, 0, 0, 0), (91, .ireturn, 1, 0, 0, 0)]
/-- SamePassers.sight(IIZ)Z -/
def mm_c147 : List (Nat × mm_E) := [(0, .iload_n 1, 1, 0, 0, 0), (1, .invokestatic 212, 3, 119, 1, 0), (4, .ifCond .eq 11, 3, 15, 0, 0), (7, .aload_n 0, 1, 0, 0, 0), (8, .iload_n 2, 1, 0, 0, 0), (9, .invokevirtual 166, 3, 111, 2, 2), (12, .ifCond .ne 5, 3, 17, 0, 0), (15, .iconst 0, 1, 0, 0, 0),
  (16, .ireturn, 1, 0, 0, 0), (17, .aload_n 0, 1, 0, 0, 0), (18, .getfield 58, 3, 11, 8, 2), (21, .iload_n 1, 1, 0, 0, 0), (22, .iload_n 2, 1, 0, 0, 0), (23, .iload_n 3, 1, 0, 0, 0), (24, .invokevirtual 346, 3, 30, 4, 2), (27, .ireturn, 1, 0, 0, 0)]
/-- SamePassers.hired(I)I -/
def mm_c148 : List (Nat × mm_E) := [(0, .iload_n 1, 1, 0, 0, 0), (1, .iconst (-1), 1, 0, 0, 0), (2, .if_icmp .lt 14, 3, 16, 0, 0), (5, .iload_n 1, 1, 0, 0, 0), (6, .aload_n 0, 1, 0, 0, 0), (7, .getfield 58, 3, 11, 8, 2), (10, .getfield 350, 3, 4, 3, 0), (13, .if_icmp .lt 6, 3, 19, 0, 0),
  (16, .bipush (-2), 2, 0, 0, 0), (18, .ireturn, 1, 0, 0, 0), (19, .aload_n 0, 1, 0, 0, 0), (20, .getfield 95, 3, 11, 18, 2), (23, .aload_n 0, 1, 0, 0, 0), (24, .getfield 58, 3, 11, 8, 2), (27, .aload_n 0, 1, 0, 0, 0), (28, .getfield 19, 3, 11, 1, 2),
  (31, .invokevirtual 353, 3, 4, 3, 2), (34, .istore_n 2, 1, 0, 0, 0), (35, .iload_n 1, 1, 0, 0, 0), (36, .iconst (-1), 1, 0, 0, 0), (37, .if_icmp .ne 15, 3, 52, 0, 0), (40, .aload_n 0, 1, 0, 0, 0), (41, .getfield 58, 3, 11, 8, 2), (44, .getfield 350, 3, 4, 3, 0),
  (47, .iload_n 2, 1, 0, 0, 0), (48, .isub, 1, 0, 0, 0), (49, .goto 12, 3, 61, 0, 0), (52, .aload_n 0, 1, 0, 0, 0), (53, .getfield 95, 3, 11, 18, 2), (56, .getfield 357, 3, 0, 5, 2), (59, .iload_n 1, 1, 0, 0, 0), (60, .iaload, 1, 0, 0, 0),
  (61, .ireturn, 1, 0, 0, 0)]
/-- SamePassers.days(III)I -/
def mm_c149 : List (Nat × mm_E) := [(0, .iload_n 1, 1, 0, 0, 0), (1, .ifCond .lt 25, 3, 26, 0, 0), (4, .iload_n 1, 1, 0, 0, 0), (5, .sipush 9999, 3, 0, 0, 0), (8, .if_icmp .gt 18, 3, 26, 0, 0), (11, .iload_n 2, 1, 0, 0, 0), (12, .iconst 1, 1, 0, 0, 0), (13, .if_icmp .lt 13, 3, 26, 0, 0),
  (16, .iload_n 2, 1, 0, 0, 0), (17, .bipush 20, 2, 0, 0, 0), (19, .if_icmp .gt 7, 3, 26, 0, 0), (22, .iconst 1, 1, 0, 0, 0), (23, .goto 4, 3, 27, 0, 0), (26, .iconst 0, 1, 0, 0, 0), (27, .istore 4, 2, 0, 0, 0), (29, .iload 4, 2, 0, 0, 0),
  (31, .ifCond .eq 12, 3, 43, 0, 0), (34, .iload_n 3, 1, 0, 0, 0), (35, .ifCond .lt 8, 3, 43, 0, 0), (38, .iload_n 3, 1, 0, 0, 0), (39, .iconst 2, 1, 0, 0, 0), (40, .if_icmp .le 5, 3, 45, 0, 0), (43, .iconst (-1), 1, 0, 0, 0), (44, .ireturn, 1, 0, 0, 0),
  (45, .iconst 0, 1, 0, 0, 0), (46, .istore 5, 2, 0, 0, 0), (48, .iconst 0, 1, 0, 0, 0), (49, .istore 6, 2, 0, 0, 0), (51, .iconst 0, 1, 0, 0, 0), (52, .istore 7, 2, 0, 0, 0), (54, .bipush 9, 2, 0, 0, 0), (56, .istore 8, 2, 0, 0, 0),
  (58, .iload_n 1, 1, 0, 0, 0), (59, .i2l, 1, 0, 0, 0), (60, .lstore 9, 2, 0, 0, 0), (62, .aload_n 0, 1, 0, 0, 0), (63, .getfield 52, 3, 11, 7, 2), (66, .aload_n 0, 1, 0, 0, 0), (67, .getfield 48, 3, 11, 6, 2), (70, .invokevirtual 187, 3, 11, 2, 2),
  (73, .iconst 0, 1, 0, 0, 0), (74, .istore 11, 2, 0, 0, 0), (76, .iload 11, 2, 0, 0, 0), (78, .iload_n 2, 1, 0, 0, 0), (79, .if_icmp .ge 96, 3, 175, 0, 0), (82, .aload_n 0, 1, 0, 0, 0), (83, .lload 9, 2, 0, 0, 0), (85, .invokevirtual 360, 3, 150, 2, 2),
  (88, .lstore 9, 2, 0, 0, 0), (90, .aload_n 0, 1, 0, 0, 0), (91, .getfield 82, 3, 11, 16, 2), (94, .aload_n 0, 1, 0, 0, 0), (95, .getfield 19, 3, 11, 1, 2), (98, .aload_n 0, 1, 0, 0, 0), (99, .getfield 52, 3, 11, 7, 2), (102, .aload_n 0, 1, 0, 0, 0),
  (103, .getfield 48, 3, 11, 6, 2), (106, .getfield 175, 3, 1, 0, 0), (109, .iload 11, 2, 0, 0, 0), (111, .iadd, 1, 0, 0, 0), (112, .iconst 1, 1, 0, 0, 0), (113, .invokevirtual 200, 3, 85, 5, 2), (116, .aload_n 0, 1, 0, 0, 0), (117, .getfield 82, 3, 11, 16, 2),
  (120, .invokevirtual 364, 3, 92, 1, 2), (123, .istore 12, 2, 0, 0, 0), (125, .iload 6, 2, 0, 0, 0), (127, .iload 12, 2, 0, 0, 0), (129, .iadd, 1, 0, 0, 0), (130, .istore 6, 2, 0, 0, 0), (132, .iload 12, 2, 0, 0, 0), (134, .iload 8, 2, 0, 0, 0),
  (136, .if_icmp .ge 11, 3, 147, 0, 0), (139, .iload 12, 2, 0, 0, 0), (141, .istore 8, 2, 0, 0, 0), (143, .iload 11, 2, 0, 0, 0), (145, .istore 7, 2, 0, 0, 0), (147, .iload 12, 2, 0, 0, 0), (149, .ifCond .ne 20, 3, 169, 0, 0), (152, .iload_n 3, 1, 0, 0, 0),
  (153, .ifCond .ne 16, 3, 169, 0, 0), (156, .aload_n 0, 1, 0, 0, 0), (157, .getfield 82, 3, 11, 16, 2), (160, .invokevirtual 368, 3, 94, 1, 2), (163, .ifCond .ne 6, 3, 169, 0, 0), (166, .iinc 5 1, 3, 0, 0, 0), (169, .iinc 11 1, 3, 0, 0, 0), (172, .goto (-96), 3, 76, 0, 0),
  (175, .iload_n 3, 1, 0, 0, 0), (176, .ifCond .ne 8, 3, 184, 0, 0), (179, .iload 5, 2, 0, 0, 0), (181, .goto 15, 3, 196, 0, 0), (184, .iload_n 3, 1, 0, 0, 0), (185, .iconst 1, 1, 0, 0, 0), (186, .if_icmp .ne 8, 3, 194, 0, 0), (189, .iload 6, 2, 0, 0, 0),
  (191, .goto 5, 3, 196, 0, 0), (194, .iload 7, 2, 0, 0, 0), (196, .ireturn, 1, 0, 0, 0)]
/-- SamePassers.drawLates(J)J -/
def mm_c150 : List (Nat × mm_E) := [(0, .lload_n 1, 1, 0, 0, 0), (1, .lstore_n 3, 1, 0, 0, 0), (2, .iconst 0, 1, 0, 0, 0), (3, .istore 5, 2, 0, 0, 0), (5, .iload 5, 2, 0, 0, 0), (7, .aload_n 0, 1, 0, 0, 0), (8, .getfield 19, 3, 11, 1, 2), (11, .getfield 233, 3, 7, 10, 0),
  (14, .if_icmp .ge 62, 3, 76, 0, 0), (17, .iconst 0, 1, 0, 0, 0), (18, .istore 6, 2, 0, 0, 0), (20, .lload_n 3, 1, 0, 0, 0), (21, .invokestatic 398, 3, 151, 1, 0), (24, .lstore_n 3, 1, 0, 0, 0), (25, .lload_n 3, 1, 0, 0, 0), (26, .ldc2_w 401, 3, 1, 0, 65536),
  (29, .ldiv, 1, 0, 0, 0), (30, .ldc2_w 236, 3, 1, 0, 10), (33, .lrem, 1, 0, 0, 0), (34, .lconst 1, 1, 0, 0, 0), (35, .lcmp, 1, 0, 0, 0), (36, .ifCond .gt 22, 3, 58, 0, 0), (39, .lload_n 3, 1, 0, 0, 0), (40, .invokestatic 398, 3, 151, 1, 0),
  (43, .lstore_n 3, 1, 0, 0, 0), (44, .lload_n 3, 1, 0, 0, 0), (45, .ldc2_w 401, 3, 1, 0, 65536), (48, .ldiv, 1, 0, 0, 0), (49, .ldc2_w 403, 3, 1, 0, 9), (52, .lrem, 1, 0, 0, 0), (53, .l2i, 1, 0, 0, 0), (54, .iconst 1, 1, 0, 0, 0),
  (55, .iadd, 1, 0, 0, 0), (56, .istore 6, 2, 0, 0, 0), (58, .aload_n 0, 1, 0, 0, 0), (59, .getfield 52, 3, 11, 7, 2), (62, .getfield 150, 3, 1, 3, 2), (65, .iload 5, 2, 0, 0, 0), (67, .iload 6, 2, 0, 0, 0), (69, .iastore, 1, 0, 0, 0),
  (70, .iinc 5 1, 3, 0, 0, 0), (73, .goto (-68), 3, 5, 0, 0), (76, .lload_n 3, 1, 0, 0, 0), (77, .lreturn, 1, 0, 0, 0)]
/-- SamePassers.nextDraw(J)J -/
def mm_c151 : List (Nat × mm_E) := [(0, .lload_n 0, 1, 0, 0, 0), (1, .ldc2_w 405, 3, 1, 0, 1103515245), (4, .lmul, 1, 0, 0, 0), (5, .ldc2_w 407, 3, 1, 0, 12345), (8, .ladd, 1, 0, 0, 0), (9, .ldc2_w 409, 3, 1, 0, 2147483648), (12, .lrem, 1, 0, 0, 0), (13, .lreturn, 1, 0, 0, 0)]
/-- SamePassers.mark(IZ)Z -/
def mm_c152 : List (Nat × mm_E) := [(0, .iload_n 1, 1, 0, 0, 0), (1, .ifCond .lt 23, 3, 24, 0, 0), (4, .iload_n 1, 1, 0, 0, 0), (5, .iconst 4, 1, 0, 0, 0), (6, .if_icmp .ge 18, 3, 24, 0, 0), (9, .iload_n 2, 1, 0, 0, 0), (10, .ifCond .eq 16, 3, 26, 0, 0), (13, .aload_n 0, 1, 0, 0, 0),
  (14, .getfield 371, 3, 11, 14, 0), (17, .iload_n 1, 1, 0, 0, 0), (18, .ishr, 1, 0, 0, 0), (19, .iconst 1, 1, 0, 0, 0), (20, .iand, 1, 0, 0, 0), (21, .ifCond .ne 5, 3, 26, 0, 0), (24, .iconst 0, 1, 0, 0, 0), (25, .ireturn, 1, 0, 0, 0),
  (26, .iload_n 2, 1, 0, 0, 0), (27, .ifCond .eq 40, 3, 67, 0, 0), (30, .aload_n 0, 1, 0, 0, 0), (31, .getfield 48, 3, 11, 6, 2), (34, .aload_n 0, 1, 0, 0, 0), (35, .getfield 66, 3, 11, 12, 2), (38, .iload_n 1, 1, 0, 0, 0), (39, .aaload, 1, 0, 0, 0),
  (40, .invokevirtual 187, 3, 11, 2, 2), (43, .aload_n 0, 1, 0, 0, 0), (44, .getfield 58, 3, 11, 8, 2), (47, .aload_n 0, 1, 0, 0, 0), (48, .getfield 69, 3, 11, 13, 2), (51, .iload_n 1, 1, 0, 0, 0), (52, .aaload, 1, 0, 0, 0), (53, .invokevirtual 374, 3, 31, 2, 2),
  (56, .aload_n 0, 1, 0, 0, 0), (57, .invokevirtual 377, 3, 103, 1, 2), (60, .aload_n 0, 1, 0, 0, 0), (61, .invokevirtual 172, 3, 104, 1, 2), (64, .goto 41, 3, 105, 0, 0), (67, .aload_n 0, 1, 0, 0, 0), (68, .getfield 66, 3, 11, 12, 2), (71, .iload_n 1, 1, 0, 0, 0),
  (72, .aaload, 1, 0, 0, 0), (73, .aload_n 0, 1, 0, 0, 0), (74, .getfield 48, 3, 11, 6, 2), (77, .invokevirtual 187, 3, 11, 2, 2), (80, .aload_n 0, 1, 0, 0, 0), (81, .getfield 69, 3, 11, 13, 2), (84, .iload_n 1, 1, 0, 0, 0), (85, .aaload, 1, 0, 0, 0),
  (86, .aload_n 0, 1, 0, 0, 0), (87, .getfield 58, 3, 11, 8, 2), (90, .invokevirtual 374, 3, 31, 2, 2), (93, .aload_n 0, 1, 0, 0, 0), (94, .dup, 1, 0, 0, 0), (95, .getfield 371, 3, 11, 14, 0), (98, .iconst 1, 1, 0, 0, 0), (99, .iload_n 1, 1, 0, 0, 0),
  (100, .ishl, 1, 0, 0, 0), (101, .ior, 1, 0, 0, 0), (102, .putfield 371, 3, 11, 14, 0), (105, .iconst 1, 1, 0, 0, 0), (106, .ireturn, 1, 0, 0, 0)]
/-- SamePassers.count(I)I -/
def mm_c153 : List (Nat × mm_E) := [(0, .iload_n 1, 1, 0, 0, 0), (1, .tableswitch 156 0 11 #[63, 71, 79, 87, 95, 103, 111, 119, 127, 135, 140, 148], 63, 0, 0, 0), (64, .aload_n 0, 1, 0, 0, 0), (65, .getfield 19, 3, 11, 1, 2), (68, .getfield 380, 3, 7, 0, 0), (71, .ireturn, 1, 0, 0, 0), (72, .aload_n 0, 1, 0, 0, 0), (73, .getfield 19, 3, 11, 1, 2),
  (76, .getfield 291, 3, 7, 1, 0), (79, .ireturn, 1, 0, 0, 0), (80, .aload_n 0, 1, 0, 0, 0), (81, .getfield 19, 3, 11, 1, 2), (84, .getfield 284, 3, 7, 7, 0), (87, .ireturn, 1, 0, 0, 0), (88, .aload_n 0, 1, 0, 0, 0), (89, .getfield 19, 3, 11, 1, 2),
  (92, .getfield 233, 3, 7, 10, 0), (95, .ireturn, 1, 0, 0, 0), (96, .aload_n 0, 1, 0, 0, 0), (97, .getfield 19, 3, 11, 1, 2), (100, .getfield 383, 3, 7, 12, 0), (103, .ireturn, 1, 0, 0, 0), (104, .aload_n 0, 1, 0, 0, 0), (105, .getfield 48, 3, 11, 6, 2),
  (108, .getfield 175, 3, 1, 0, 0), (111, .ireturn, 1, 0, 0, 0), (112, .aload_n 0, 1, 0, 0, 0), (113, .getfield 29, 3, 11, 3, 2), (116, .getfield 194, 3, 6, 0, 0), (119, .ireturn, 1, 0, 0, 0), (120, .aload_n 0, 1, 0, 0, 0), (121, .getfield 58, 3, 11, 8, 2),
  (124, .getfield 386, 3, 4, 0, 0), (127, .ireturn, 1, 0, 0, 0), (128, .aload_n 0, 1, 0, 0, 0), (129, .getfield 58, 3, 11, 8, 2), (132, .getfield 350, 3, 4, 3, 0), (135, .ireturn, 1, 0, 0, 0), (136, .aload_n 0, 1, 0, 0, 0), (137, .getfield 181, 3, 11, 10, 0),
  (140, .ireturn, 1, 0, 0, 0), (141, .aload_n 0, 1, 0, 0, 0), (142, .getfield 12, 3, 11, 0, 2), (145, .getfield 103, 3, 8, 3, 0), (148, .ireturn, 1, 0, 0, 0), (149, .aload_n 0, 1, 0, 0, 0), (150, .getfield 78, 3, 11, 15, 2), (153, .invokevirtual 364, 3, 92, 1, 2),
  (156, .ireturn, 1, 0, 0, 0), (157, .iconst (-1), 1, 0, 0, 0), (158, .ireturn, 1, 0, 0, 0)]
/-- SamePassers.laws(I)I -/
def mm_c154 : List (Nat × mm_E) := [(0, .iload_n 1, 1, 0, 0, 0), (1, .bipush (-2), 2, 0, 0, 0), (3, .if_icmp .lt 9, 3, 12, 0, 0), (6, .iload_n 1, 1, 0, 0, 0), (7, .bipush 60, 2, 0, 0, 0), (9, .if_icmp .le 14, 3, 23, 0, 0), (12, .new 307, 3, 99, 0, 0), (15, .dup, 1, 0, 0, 0),
  (16, .ldc_w 309, 3, 2, 7, 0), (19, .invokespecial 311, 3, 999, 0, 98), (22, .athrow, 1, 0, 0, 0), (23, .aload_n 0, 1, 0, 0, 0), (24, .getfield 58, 3, 11, 8, 2), (27, .iload_n 1, 1, 0, 0, 0), (28, .iconst 0, 1, 0, 0, 0), (29, .invokestatic 314, 3, 0, 0, 10),
  (32, .invokevirtual 319, 3, 32, 2, 2), (35, .iload_n 1, 1, 0, 0, 0), (36, .iconst (-1), 1, 0, 0, 0), (37, .if_icmp .ne 11, 3, 48, 0, 0), (40, .aload_n 0, 1, 0, 0, 0), (41, .getfield 58, 3, 11, 8, 2), (44, .getfield 323, 3, 4, 7, 0), (47, .ireturn, 1, 0, 0, 0),
  (48, .aload_n 0, 1, 0, 0, 0), (49, .getfield 58, 3, 11, 8, 2), (52, .getfield 323, 3, 4, 7, 0), (55, .ifCond .ne 14, 3, 69, 0, 0), (58, .new 307, 3, 99, 0, 0), (61, .dup, 1, 0, 0, 0), (62, .ldc_w 326, 3, 2, 8, 0), (65, .invokespecial 311, 3, 999, 0, 98),
  (68, .athrow, 1, 0, 0, 0), (69, .iload_n 1, 1, 0, 0, 0), (70, .bipush (-2), 2, 0, 0, 0), (72, .if_icmp .ne 11, 3, 83, 0, 0), (75, .aload_n 0, 1, 0, 0, 0), (76, .getfield 58, 3, 11, 8, 2), (79, .getfield 328, 3, 4, 8, 0), (82, .ireturn, 1, 0, 0, 0),
  (83, .aload_n 0, 1, 0, 0, 0), (84, .getfield 58, 3, 11, 8, 2), (87, .getfield 331, 3, 4, 10, 3), (90, .ifCond .ne 14, 3, 104, 0, 0), (93, .new 307, 3, 99, 0, 0), (96, .dup, 1, 0, 0, 0), (97, .ldc_w 335, 3, 2, 9, 0), (100, .invokespecial 311, 3, 999, 0, 98),
  (103, .athrow, 1, 0, 0, 0), (104, .aload_n 0, 1, 0, 0, 0), (105, .getfield 58, 3, 11, 8, 2), (108, .getfield 337, 3, 4, 9, 0), (111, .ireturn, 1, 0, 0, 0)]
/-- SamePassersModel.thrown()I -/
def mm_c155 : List (Nat × mm_E) := [(0, .aload_n 0, 1, 0, 0, 0), (1, .getfield 1, 3, 12, 0, 0), (4, .ireturn, 1, 0, 0, 0)]
/-- SamePassersModel.feed(JJJ)I -/
def mm_c156 : List (Nat × mm_E) := [(0, .aload_n 0, 1, 0, 0, 0), (1, .iconst 0, 1, 0, 0, 0), (2, .putfield 1, 3, 12, 0, 0), (5, .aload_n 0, 1, 0, 0, 0), (6, .lload_n 1, 1, 0, 0, 0), (7, .invokevirtual 7, 3, 157, 2, 2), (10, .aload_n 0, 1, 0, 0, 0), (11, .lload_n 3, 1, 0, 0, 0),
  (12, .invokevirtual 7, 3, 157, 2, 2), (15, .aload_n 0, 1, 0, 0, 0), (16, .lload 5, 2, 0, 0, 0), (18, .invokevirtual 7, 3, 157, 2, 2), (21, .aload_n 0, 1, 0, 0, 0), (22, .getfield 11, 3, 12, 2, 0), (25, .ireturn, 1, 0, 0, 0)]
/-- SamePassersModel.lay(J)V -/
def mm_c157 : List (Nat × mm_E) := [(0, .bipush 56, 2, 0, 0, 0), (2, .istore_n 3, 1, 0, 0, 0), (3, .iload_n 3, 1, 0, 0, 0), (4, .ifCond .lt 71, 3, 75, 0, 0), (7, .lload_n 1, 1, 0, 0, 0), (8, .iload_n 3, 1, 0, 0, 0), (9, .lshr, 1, 0, 0, 0), (10, .l2i, 1, 0, 0, 0),
  (11, .sipush 255, 3, 0, 0, 0), (14, .iand, 1, 0, 0, 0), (15, .istore 4, 2, 0, 0, 0), (17, .iload 4, 2, 0, 0, 0), (19, .bipush 10, 2, 0, 0, 0), (21, .if_icmp .eq 17, 3, 38, 0, 0), (24, .iload 4, 2, 0, 0, 0), (26, .bipush 32, 2, 0, 0, 0),
  (28, .if_icmp .lt 41, 3, 69, 0, 0), (31, .iload 4, 2, 0, 0, 0), (33, .bipush 126, 2, 0, 0, 0), (35, .if_icmp .gt 34, 3, 69, 0, 0), (38, .aload_n 0, 1, 0, 0, 0), (39, .getfield 11, 3, 12, 2, 0), (42, .sipush 1000, 3, 0, 0, 0), (45, .if_icmp .ge 24, 3, 69, 0, 0),
  (48, .aload_n 0, 1, 0, 0, 0), (49, .getfield 14, 3, 12, 1, 2), (52, .aload_n 0, 1, 0, 0, 0), (53, .getfield 11, 3, 12, 2, 0), (56, .iload 4, 2, 0, 0, 0), (58, .iastore, 1, 0, 0, 0), (59, .aload_n 0, 1, 0, 0, 0), (60, .dup, 1, 0, 0, 0),
  (61, .getfield 11, 3, 12, 2, 0), (64, .iconst 1, 1, 0, 0, 0), (65, .iadd, 1, 0, 0, 0), (66, .putfield 11, 3, 12, 2, 0), (69, .iinc 3 (-8), 3, 0, 0, 0), (72, .goto (-69), 3, 3, 0, 0), (75, .return_, 1, 0, 0, 0)]
/-- SamePassersModel.<init>()V -/
def mm_c158 : List (Nat × mm_E) := [(0, .aload_n 0, 1, 0, 0, 0), (1, .invokespecial 18, 3, 0, 0, 4), (4, .aload_n 0, 1, 0, 0, 0), (5, .sipush 1000, 3, 0, 0, 0), (8, .newarray .int, 2, 0, 0, 0), (10, .putfield 14, 3, 12, 1, 2), (13, .aload_n 0, 1, 0, 0, 0), (14, .sipush 1002, 3, 0, 0, 0),
  (17, .newarray .int, 2, 0, 0, 0), (19, .putfield 24, 3, 12, 4, 2), (22, .aload_n 0, 1, 0, 0, 0), (23, .sipush 1002, 3, 0, 0, 0), (26, .newarray .int, 2, 0, 0, 0), (28, .putfield 27, 3, 12, 5, 2), (31, .aload_n 0, 1, 0, 0, 0), (32, .sipush 1002, 3, 0, 0, 0),
  (35, .newarray .long, 2, 0, 0, 0), (37, .putfield 30, 3, 12, 6, 2), (40, .aload_n 0, 1, 0, 0, 0), (41, .bipush 34, 2, 0, 0, 0), (43, .newarray .long, 2, 0, 0, 0), (45, .dup, 1, 0, 0, 0), (46, .iconst 0, 1, 0, 0, 0), (47, .ldc2_w 34, 3, 1, 0, 1355937207),
  (50, .lastore, 1, 0, 0, 0), (51, .dup, 1, 0, 0, 0), (52, .iconst 1, 1, 0, 0, 0), (53, .ldc2_w 36, 3, 1, 0, 22559955), (56, .lastore, 1, 0, 0, 0), (57, .dup, 1, 0, 0, 0), (58, .iconst 2, 1, 0, 0, 0), (59, .ldc2_w 38, 3, 1, 0, 12158575),
  (62, .lastore, 1, 0, 0, 0), (63, .dup, 1, 0, 0, 0), (64, .iconst 3, 1, 0, 0, 0), (65, .ldc2_w 40, 3, 1, 0, 755), (68, .lastore, 1, 0, 0, 0), (69, .dup, 1, 0, 0, 0), (70, .iconst 4, 1, 0, 0, 0), (71, .ldc2_w 42, 3, 1, 0, 36016334),
  (74, .lastore, 1, 0, 0, 0), (75, .dup, 1, 0, 0, 0), (76, .iconst 5, 1, 0, 0, 0), (77, .ldc2_w 44, 3, 1, 0, 26073), (80, .lastore, 1, 0, 0, 0), (81, .dup, 1, 0, 0, 0), (82, .bipush 6, 2, 0, 0, 0), (84, .ldc2_w 46, 3, 1, 0, 57),
  (87, .lastore, 1, 0, 0, 0), (88, .dup, 1, 0, 0, 0), (89, .bipush 7, 2, 0, 0, 0), (91, .ldc2_w 48, 3, 1, 0, 1597408270), (94, .lastore, 1, 0, 0, 0), (95, .dup, 1, 0, 0, 0), (96, .bipush 8, 2, 0, 0, 0), (98, .ldc2_w 50, 3, 1, 0, 609728),
  (101, .lastore, 1, 0, 0, 0), (102, .dup, 1, 0, 0, 0), (103, .bipush 9, 2, 0, 0, 0), (105, .ldc2_w 52, 3, 1, 0, 329128), (108, .lastore, 1, 0, 0, 0), (109, .dup, 1, 0, 0, 0), (110, .bipush 10, 2, 0, 0, 0), (112, .ldc2_w 54, 3, 1, 0, 811933),
  (115, .lastore, 1, 0, 0, 0), (116, .dup, 1, 0, 0, 0), (117, .bipush 11, 2, 0, 0, 0), (119, .ldc2_w 56, 3, 1, 0, 16472), (122, .lastore, 1, 0, 0, 0), (123, .dup, 1, 0, 0, 0), (124, .bipush 12, 2, 0, 0, 0), (126, .ldc2_w 58, 3, 1, 0, 569),
  (129, .lastore, 1, 0, 0, 0), (130, .dup, 1, 0, 0, 0), (131, .bipush 13, 2, 0, 0, 0), (133, .ldc2_w 60, 3, 1, 0, 687961), (136, .lastore, 1, 0, 0, 0), (137, .dup, 1, 0, 0, 0), (138, .bipush 14, 2, 0, 0, 0), (140, .ldc2_w 62, 3, 1, 0, 34523964),
  (143, .lastore, 1, 0, 0, 0), (144, .dup, 1, 0, 0, 0), (145, .bipush 15, 2, 0, 0, 0), (147, .ldc2_w 64, 3, 1, 0, 32936893), (150, .lastore, 1, 0, 0, 0), (151, .dup, 1, 0, 0, 0), (152, .bipush 16, 2, 0, 0, 0), (154, .ldc2_w 66, 3, 1, 0, 20687),
  (157, .lastore, 1, 0, 0, 0), (158, .dup, 1, 0, 0, 0), (159, .bipush 17, 2, 0, 0, 0), (161, .ldc2_w 68, 3, 1, 0, 36624174), (164, .lastore, 1, 0, 0, 0), (165, .dup, 1, 0, 0, 0), (166, .bipush 18, 2, 0, 0, 0), (168, .ldc2_w 70, 3, 1, 0, 1042489),
  (171, .lastore, 1, 0, 0, 0), (172, .dup, 1, 0, 0, 0), (173, .bipush 19, 2, 0, 0, 0), (175, .ldc2_w 72, 3, 1, 0, 609950), (178, .lastore, 1, 0, 0, 0), (179, .dup, 1, 0, 0, 0), (180, .bipush 20, 2, 0, 0, 0), (182, .ldc2_w 74, 3, 1, 0, 1014841),
  (185, .lastore, 1, 0, 0, 0), (186, .dup, 1, 0, 0, 0), (187, .bipush 21, 2, 0, 0, 0), (189, .ldc2_w 76, 3, 1, 0, 614923), (192, .lastore, 1, 0, 0, 0), (193, .dup, 1, 0, 0, 0), (194, .bipush 22, 2, 0, 0, 0), (196, .ldc2_w 78, 3, 1, 0, 34200674),
  (199, .lastore, 1, 0, 0, 0), (200, .dup, 1, 0, 0, 0), (201, .bipush 23, 2, 0, 0, 0), (203, .ldc2_w 80, 3, 1, 0, 30596128), (206, .lastore, 1, 0, 0, 0), (207, .dup, 1, 0, 0, 0), (208, .bipush 24, 2, 0, 0, 0), (210, .ldc2_w 82, 3, 1, 0, 835140),
  (213, .lastore, 1, 0, 0, 0), (214, .dup, 1, 0, 0, 0), (215, .bipush 25, 2, 0, 0, 0), (217, .ldc2_w 84, 3, 1, 0, 6038), (220, .lastore, 1, 0, 0, 0), (221, .dup, 1, 0, 0, 0), (222, .bipush 26, 2, 0, 0, 0), (224, .ldc2_w 86, 3, 1, 0, 36646823),
  (227, .lastore, 1, 0, 0, 0), (228, .dup, 1, 0, 0, 0), (229, .bipush 27, 2, 0, 0, 0), (231, .ldc2_w 88, 3, 1, 0, 19741), (234, .lastore, 1, 0, 0, 0), (235, .dup, 1, 0, 0, 0), (236, .bipush 28, 2, 0, 0, 0), (238, .ldc2_w 90, 3, 1, 0, 1891),
  (241, .lastore, 1, 0, 0, 0), (242, .dup, 1, 0, 0, 0), (243, .bipush 29, 2, 0, 0, 0), (245, .ldc2_w 92, 3, 1, 0, 573), (248, .lastore, 1, 0, 0, 0), (249, .dup, 1, 0, 0, 0), (250, .bipush 30, 2, 0, 0, 0), (252, .ldc2_w 94, 3, 1, 0, 37754889),
  (255, .lastore, 1, 0, 0, 0), (256, .dup, 1, 0, 0, 0), (257, .bipush 31, 2, 0, 0, 0), (259, .ldc2_w 96, 3, 1, 0, 19914), (262, .lastore, 1, 0, 0, 0), (263, .dup, 1, 0, 0, 0), (264, .bipush 32, 2, 0, 0, 0), (266, .ldc2_w 98, 3, 1, 0, 570026),
  (269, .lastore, 1, 0, 0, 0), (270, .dup, 1, 0, 0, 0), (271, .bipush 33, 2, 0, 0, 0), (273, .ldc2_w 100, 3, 1, 0, 1112366095), (276, .lastore, 1, 0, 0, 0), (277, .putfield 102, 3, 12, 9, 2), (280, .aload_n 0, 1, 0, 0, 0), (281, .sipush 200, 3, 0, 0, 0),
  (284, .newarray .int, 2, 0, 0, 0), (286, .putfield 105, 3, 12, 10, 2), (289, .aload_n 0, 1, 0, 0, 0), (290, .sipush 2200, 3, 0, 0, 0), (293, .newarray .int, 2, 0, 0, 0), (295, .putfield 108, 3, 12, 11, 2), (298, .aload_n 0, 1, 0, 0, 0), (299, .sipush 2200, 3, 0, 0, 0),
  (302, .newarray .int, 2, 0, 0, 0), (304, .putfield 111, 3, 12, 12, 2), (307, .aload_n 0, 1, 0, 0, 0), (308, .bipush 14, 2, 0, 0, 0), (310, .newarray .long, 2, 0, 0, 0), (312, .putfield 114, 3, 12, 14, 2), (315, .aload_n 0, 1, 0, 0, 0), (316, .bipush 14, 2, 0, 0, 0),
  (318, .newarray .long, 2, 0, 0, 0), (320, .putfield 117, 3, 12, 15, 2), (323, .aload_n 0, 1, 0, 0, 0), (324, .bipush 14, 2, 0, 0, 0), (326, .newarray .int, 2, 0, 0, 0), (328, .putfield 120, 3, 12, 16, 2), (331, .aload_n 0, 1, 0, 0, 0), (332, .bipush 14, 2, 0, 0, 0),
  (334, .newarray .int, 2, 0, 0, 0), (336, .putfield 123, 3, 12, 17, 2), (339, .aload_n 0, 1, 0, 0, 0), (340, .sipush 200, 3, 0, 0, 0), (343, .newarray .int, 2, 0, 0, 0), (345, .putfield 126, 3, 12, 22, 2), (348, .aload_n 0, 1, 0, 0, 0), (349, .iconst 4, 1, 0, 0, 0),
  (350, .newarray .int, 2, 0, 0, 0), (352, .putfield 129, 3, 12, 23, 2), (355, .aload_n 0, 1, 0, 0, 0), (356, .sipush 1100, 3, 0, 0, 0), (359, .newarray .int, 2, 0, 0, 0), (361, .putfield 132, 3, 12, 24, 2), (364, .aload_n 0, 1, 0, 0, 0), (365, .sipush 1840, 3, 0, 0, 0),
  (368, .newarray .int, 2, 0, 0, 0), (370, .putfield 135, 3, 12, 25, 2), (373, .aload_n 0, 1, 0, 0, 0), (374, .iconst 4, 1, 0, 0, 0), (375, .newarray .boolean, 2, 0, 0, 0), (377, .putfield 138, 3, 12, 27, 2), (380, .aload_n 0, 1, 0, 0, 0), (381, .iconst 4, 1, 0, 0, 0),
  (382, .newarray .int, 2, 0, 0, 0), (384, .putfield 142, 3, 12, 28, 2), (387, .aload_n 0, 1, 0, 0, 0), (388, .iconst 4, 1, 0, 0, 0), (389, .newarray .int, 2, 0, 0, 0), (391, .putfield 145, 3, 12, 29, 2), (394, .aload_n 0, 1, 0, 0, 0), (395, .sipush 9216, 3, 0, 0, 0),
  (398, .newarray .boolean, 2, 0, 0, 0), (400, .putfield 148, 3, 12, 30, 2), (403, .aload_n 0, 1, 0, 0, 0), (404, .bipush 96, 2, 0, 0, 0), (406, .newarray .boolean, 2, 0, 0, 0), (408, .putfield 151, 3, 12, 31, 2), (411, .aload_n 0, 1, 0, 0, 0), (412, .iconst 4, 1, 0, 0, 0),
  (413, .newarray .int, 2, 0, 0, 0), (415, .putfield 154, 3, 12, 32, 2), (418, .aload_n 0, 1, 0, 0, 0), (419, .iconst 4, 1, 0, 0, 0), (420, .newarray .int, 2, 0, 0, 0), (422, .putfield 157, 3, 12, 33, 2), (425, .aload_n 0, 1, 0, 0, 0), (426, .bipush 10, 2, 0, 0, 0),
  (428, .newarray .int, 2, 0, 0, 0), (430, .putfield 160, 3, 12, 36, 2), (433, .aload_n 0, 1, 0, 0, 0), (434, .bipush 10, 2, 0, 0, 0), (436, .newarray .boolean, 2, 0, 0, 0), (438, .putfield 163, 3, 12, 37, 2), (441, .aload_n 0, 1, 0, 0, 0), (442, .bipush 10, 2, 0, 0, 0),
  (444, .newarray .int, 2, 0, 0, 0), (446, .putfield 166, 3, 12, 38, 2), (449, .aload_n 0, 1, 0, 0, 0), (450, .iconst 0, 1, 0, 0, 0), (451, .invokevirtual 169, 3, 159, 2, 2), (454, .aload_n 0, 1, 0, 0, 0), (455, .invokevirtual 173, 3, 160, 1, 2), (458, .return_, 1, 0, 0, 0)]
/-- SamePassersModel.standsAsAlways(I)V -/
def mm_c159 : List (Nat × mm_E) := [(0, .iconst 0, 1, 0, 0, 0), (1, .istore_n 2, 1, 0, 0, 0), (2, .iload_n 2, 1, 0, 0, 0), (3, .bipush 100, 2, 0, 0, 0), (5, .if_icmp .ge 18, 3, 23, 0, 0), (8, .aload_n 0, 1, 0, 0, 0), (9, .getfield 105, 3, 12, 10, 2), (12, .iload_n 1, 1, 0, 0, 0),
  (13, .iload_n 2, 1, 0, 0, 0), (14, .iadd, 1, 0, 0, 0), (15, .iconst 0, 1, 0, 0, 0), (16, .iastore, 1, 0, 0, 0), (17, .iinc 2 1, 3, 0, 0, 0), (20, .goto (-18), 3, 2, 0, 0), (23, .aload_n 0, 1, 0, 0, 0), (24, .getfield 105, 3, 12, 10, 2),
  (27, .iload_n 1, 1, 0, 0, 0), (28, .iconst 0, 1, 0, 0, 0), (29, .iadd, 1, 0, 0, 0), (30, .iconst 4, 1, 0, 0, 0), (31, .iastore, 1, 0, 0, 0), (32, .aload_n 0, 1, 0, 0, 0), (33, .getfield 105, 3, 12, 10, 2), (36, .iload_n 1, 1, 0, 0, 0),
  (37, .iconst 1, 1, 0, 0, 0), (38, .iadd, 1, 0, 0, 0), (39, .iconst 1, 1, 0, 0, 0), (40, .iastore, 1, 0, 0, 0), (41, .aload_n 0, 1, 0, 0, 0), (42, .getfield 105, 3, 12, 10, 2), (45, .iload_n 1, 1, 0, 0, 0), (46, .iconst 2, 1, 0, 0, 0),
  (47, .iadd, 1, 0, 0, 0), (48, .iconst 1, 1, 0, 0, 0), (49, .iadd, 1, 0, 0, 0), (50, .iconst 3, 1, 0, 0, 0), (51, .iastore, 1, 0, 0, 0), (52, .aload_n 0, 1, 0, 0, 0), (53, .getfield 105, 3, 12, 10, 2), (56, .iload_n 1, 1, 0, 0, 0),
  (57, .iconst 4, 1, 0, 0, 0), (58, .iadd, 1, 0, 0, 0), (59, .iconst 1, 1, 0, 0, 0), (60, .iastore, 1, 0, 0, 0), (61, .aload_n 0, 1, 0, 0, 0), (62, .getfield 105, 3, 12, 10, 2), (65, .iload_n 1, 1, 0, 0, 0), (66, .bipush 8, 2, 0, 0, 0),
  (68, .iadd, 1, 0, 0, 0), (69, .bipush 20, 2, 0, 0, 0), (71, .iastore, 1, 0, 0, 0), (72, .aload_n 0, 1, 0, 0, 0), (73, .getfield 105, 3, 12, 10, 2), (76, .iload_n 1, 1, 0, 0, 0), (77, .bipush 9, 2, 0, 0, 0), (79, .iadd, 1, 0, 0, 0),
  (80, .iconst (-1), 1, 0, 0, 0), (81, .iastore, 1, 0, 0, 0), (82, .aload_n 0, 1, 0, 0, 0), (83, .getfield 105, 3, 12, 10, 2), (86, .iload_n 1, 1, 0, 0, 0), (87, .bipush 9, 2, 0, 0, 0), (89, .iadd, 1, 0, 0, 0), (90, .iconst 1, 1, 0, 0, 0),
  (91, .iadd, 1, 0, 0, 0), (92, .iconst (-1), 1, 0, 0, 0), (93, .iastore, 1, 0, 0, 0), (94, .return_, 1, 0, 0, 0)]
/-- SamePassersModel.begins()V -/
def mm_c160 : List (Nat × mm_E) := [(0, .aload_n 0, 1, 0, 0, 0), (1, .iconst 0, 1, 0, 0, 0), (2, .invokevirtual 325, 3, 161, 2, 2), (5, .aload_n 0, 1, 0, 0, 0), (6, .getfield 135, 3, 12, 25, 2), (9, .bipush 25, 2, 0, 0, 0), (11, .iconst 0, 1, 0, 0, 0), (12, .iastore, 1, 0, 0, 0),
  (13, .aload_n 0, 1, 0, 0, 0), (14, .getfield 135, 3, 12, 25, 2), (17, .bipush 46, 2, 0, 0, 0), (19, .iconst 0, 1, 0, 0, 0), (20, .iastore, 1, 0, 0, 0), (21, .aload_n 0, 1, 0, 0, 0), (22, .getfield 126, 3, 12, 22, 2), (25, .iconst 0, 1, 0, 0, 0),
  (26, .iconst 0, 1, 0, 0, 0), (27, .iastore, 1, 0, 0, 0), (28, .aload_n 0, 1, 0, 0, 0), (29, .iconst 0, 1, 0, 0, 0), (30, .putfield 328, 3, 12, 26, 0), (33, .iconst 0, 1, 0, 0, 0), (34, .istore_n 1, 1, 0, 0, 0), (35, .iload_n 1, 1, 0, 0, 0),
  (36, .iconst 4, 1, 0, 0, 0), (37, .if_icmp .ge 16, 3, 53, 0, 0), (40, .aload_n 0, 1, 0, 0, 0), (41, .getfield 138, 3, 12, 27, 2), (44, .iload_n 1, 1, 0, 0, 0), (45, .iconst 0, 1, 0, 0, 0), (46, .bastore, 1, 0, 0, 0), (47, .iinc 1 1, 3, 0, 0, 0),
  (50, .goto (-15), 3, 35, 0, 0), (53, .return_, 1, 0, 0, 0)]
/-- SamePassersModel.starts(I)V -/
def mm_c161 : List (Nat × mm_E) := [(0, .aload_n 0, 1, 0, 0, 0), (1, .getfield 135, 3, 12, 25, 2), (4, .iload_n 1, 1, 0, 0, 0), (5, .iconst 0, 1, 0, 0, 0), (6, .iadd, 1, 0, 0, 0), (7, .iconst 0, 1, 0, 0, 0), (8, .iastore, 1, 0, 0, 0), (9, .iconst 0, 1, 0, 0, 0),
  (10, .istore_n 2, 1, 0, 0, 0), (11, .iload_n 2, 1, 0, 0, 0), (12, .bipush 8, 2, 0, 0, 0), (14, .if_icmp .ge 54, 3, 68, 0, 0), (17, .aload_n 0, 1, 0, 0, 0), (18, .getfield 135, 3, 12, 25, 2), (21, .iload_n 1, 1, 0, 0, 0), (22, .iconst 1, 1, 0, 0, 0),
  (23, .iadd, 1, 0, 0, 0), (24, .iload_n 2, 1, 0, 0, 0), (25, .iadd, 1, 0, 0, 0), (26, .aload_n 0, 1, 0, 0, 0), (27, .iload_n 2, 1, 0, 0, 0), (28, .iconst 2, 1, 0, 0, 0), (29, .invokevirtual 322, 3, 162, 3, 2), (32, .iastore, 1, 0, 0, 0),
  (33, .aload_n 0, 1, 0, 0, 0), (34, .getfield 135, 3, 12, 25, 2), (37, .iload_n 1, 1, 0, 0, 0), (38, .bipush 9, 2, 0, 0, 0), (40, .iadd, 1, 0, 0, 0), (41, .iload_n 2, 1, 0, 0, 0), (42, .iadd, 1, 0, 0, 0), (43, .aload_n 0, 1, 0, 0, 0),
  (44, .iload_n 2, 1, 0, 0, 0), (45, .iconst 3, 1, 0, 0, 0), (46, .invokevirtual 322, 3, 162, 3, 2), (49, .iastore, 1, 0, 0, 0), (50, .aload_n 0, 1, 0, 0, 0), (51, .getfield 135, 3, 12, 25, 2), (54, .iload_n 1, 1, 0, 0, 0), (55, .bipush 17, 2, 0, 0, 0),
  (57, .iadd, 1, 0, 0, 0), (58, .iload_n 2, 1, 0, 0, 0), (59, .iadd, 1, 0, 0, 0), (60, .iconst 0, 1, 0, 0, 0), (61, .iastore, 1, 0, 0, 0), (62, .iinc 2 1, 3, 0, 0, 0), (65, .goto (-54), 3, 11, 0, 0), (68, .return_, 1, 0, 0, 0)]
/-- SamePassersModel.walkerOf(II)I -/
def mm_c162 : List (Nat × mm_E) := [(0, .aload_n 0, 1, 0, 0, 0), (1, .getfield 105, 3, 12, 10, 2), (4, .bipush 17, 2, 0, 0, 0), (6, .bipush 7, 2, 0, 0, 0), (8, .iload_n 1, 1, 0, 0, 0), (9, .imul, 1, 0, 0, 0), (10, .iadd, 1, 0, 0, 0), (11, .iload_n 2, 1, 0, 0, 0),
  (12, .iadd, 1, 0, 0, 0), (13, .iaload, 1, 0, 0, 0), (14, .ireturn, 1, 0, 0, 0)]
/-- SamePassersModel.street()I -/
def mm_c163 : List (Nat × mm_E) := [(0, .aload_n 0, 1, 0, 0, 0), (1, .iconst 0, 1, 0, 0, 0), (2, .putfield 1, 3, 12, 0, 0), (5, .aload_n 0, 1, 0, 0, 0), (6, .invokevirtual 249, 3, 164, 1, 2), (9, .aload_n 0, 1, 0, 0, 0), (10, .iconst 0, 1, 0, 0, 0), (11, .putfield 252, 3, 12, 13, 0),
  (14, .aload_n 0, 1, 0, 0, 0), (15, .iconst 0, 1, 0, 0, 0), (16, .putfield 227, 3, 12, 19, 0), (19, .aload_n 0, 1, 0, 0, 0), (20, .iconst 0, 1, 0, 0, 0), (21, .putfield 255, 3, 12, 20, 3), (24, .aload_n 0, 1, 0, 0, 0), (25, .bipush 100, 2, 0, 0, 0),
  (27, .invokevirtual 169, 3, 159, 2, 2), (30, .aload_n 0, 1, 0, 0, 0), (31, .iconst 0, 1, 0, 0, 0), (32, .invokevirtual 217, 3, 169, 2, 2), (35, .aload_n 0, 1, 0, 0, 0), (36, .getfield 105, 3, 12, 10, 2), (39, .bipush 100, 2, 0, 0, 0), (41, .aload_n 0, 1, 0, 0, 0),
  (42, .iconst 4, 1, 0, 0, 0), (43, .bipush 40, 2, 0, 0, 0), (45, .invokevirtual 220, 3, 173, 3, 2), (48, .iastore, 1, 0, 0, 0), (49, .aload_n 0, 1, 0, 0, 0), (50, .getfield 105, 3, 12, 10, 2), (53, .bipush 101, 2, 0, 0, 0), (55, .aload_n 0, 1, 0, 0, 0),
  (56, .iconst 1, 1, 0, 0, 0), (57, .iconst 1, 1, 0, 0, 0), (58, .iconst 4, 1, 0, 0, 0), (59, .invokevirtual 259, 3, 174, 4, 2), (62, .iastore, 1, 0, 0, 0), (63, .aload_n 0, 1, 0, 0, 0), (64, .getfield 105, 3, 12, 10, 2), (67, .bipush 102, 2, 0, 0, 0),
  (69, .aload_n 0, 1, 0, 0, 0), (70, .iconst 2, 1, 0, 0, 0), (71, .iconst 0, 1, 0, 0, 0), (72, .aload_n 0, 1, 0, 0, 0), (73, .getfield 105, 3, 12, 10, 2), (76, .bipush 100, 2, 0, 0, 0), (78, .iaload, 1, 0, 0, 0), (79, .iconst 1, 1, 0, 0, 0),
  (80, .isub, 1, 0, 0, 0), (81, .invokevirtual 259, 3, 174, 4, 2), (84, .iastore, 1, 0, 0, 0), (85, .aload_n 0, 1, 0, 0, 0), (86, .getfield 105, 3, 12, 10, 2), (89, .bipush 103, 2, 0, 0, 0), (91, .aload_n 0, 1, 0, 0, 0), (92, .iconst 3, 1, 0, 0, 0),
  (93, .aload_n 0, 1, 0, 0, 0), (94, .getfield 105, 3, 12, 10, 2), (97, .bipush 102, 2, 0, 0, 0), (99, .iaload, 1, 0, 0, 0), (100, .aload_n 0, 1, 0, 0, 0), (101, .getfield 105, 3, 12, 10, 2), (104, .bipush 100, 2, 0, 0, 0), (106, .iaload, 1, 0, 0, 0),
  (107, .iconst 1, 1, 0, 0, 0), (108, .isub, 1, 0, 0, 0), (109, .invokevirtual 259, 3, 174, 4, 2), (112, .iastore, 1, 0, 0, 0), (113, .aload_n 0, 1, 0, 0, 0), (114, .getfield 105, 3, 12, 10, 2), (117, .bipush 104, 2, 0, 0, 0), (119, .aload_n 0, 1, 0, 0, 0),
  (120, .iconst 4, 1, 0, 0, 0), (121, .iconst 0, 1, 0, 0, 0), (122, .aload_n 0, 1, 0, 0, 0), (123, .getfield 105, 3, 12, 10, 2), (126, .bipush 101, 2, 0, 0, 0), (128, .iaload, 1, 0, 0, 0), (129, .invokevirtual 259, 3, 174, 4, 2), (132, .iastore, 1, 0, 0, 0),
  (133, .aload_n 0, 1, 0, 0, 0), (134, .bipush 59, 2, 0, 0, 0), (136, .invokevirtual 263, 3, 175, 2, 2), (139, .aload_n 0, 1, 0, 0, 0), (140, .getfield 202, 3, 12, 8, 0), (143, .ifCond .ne 28, 3, 171, 0, 0), (146, .aload_n 0, 1, 0, 0, 0), (147, .getfield 24, 3, 12, 4, 2),
  (150, .aload_n 0, 1, 0, 0, 0), (151, .getfield 199, 3, 12, 7, 0), (154, .iaload, 1, 0, 0, 0), (155, .ifCond .eq 16, 3, 171, 0, 0), (158, .aload_n 0, 1, 0, 0, 0), (159, .invokevirtual 266, 3, 177, 1, 2), (162, .aload_n 0, 1, 0, 0, 0), (163, .bipush 59, 2, 0, 0, 0),
  (165, .invokevirtual 263, 3, 175, 2, 2), (168, .goto (-29), 3, 139, 0, 0), (171, .aload_n 0, 1, 0, 0, 0), (172, .getfield 202, 3, 12, 8, 0), (175, .ifCond .le 8, 3, 183, 0, 0), (178, .aload_n 0, 1, 0, 0, 0), (179, .getfield 202, 3, 12, 8, 0), (182, .ireturn, 1, 0, 0, 0),
  (183, .iconst 0, 1, 0, 0, 0), (184, .istore_n 1, 1, 0, 0, 0), (185, .iload_n 1, 1, 0, 0, 0), (186, .bipush 100, 2, 0, 0, 0), (188, .if_icmp .ge 24, 3, 212, 0, 0), (191, .aload_n 0, 1, 0, 0, 0), (192, .getfield 105, 3, 12, 10, 2), (195, .iload_n 1, 1, 0, 0, 0),
  (196, .aload_n 0, 1, 0, 0, 0), (197, .getfield 105, 3, 12, 10, 2), (200, .bipush 100, 2, 0, 0, 0), (202, .iload_n 1, 1, 0, 0, 0), (203, .iadd, 1, 0, 0, 0), (204, .iaload, 1, 0, 0, 0), (205, .iastore, 1, 0, 0, 0), (206, .iinc 1 1, 3, 0, 0, 0),
  (209, .goto (-24), 3, 185, 0, 0), (212, .iconst 0, 1, 0, 0, 0), (213, .istore_n 1, 1, 0, 0, 0), (214, .iload_n 1, 1, 0, 0, 0), (215, .aload_n 0, 1, 0, 0, 0), (216, .getfield 252, 3, 12, 13, 0), (219, .if_icmp .ge 41, 3, 260, 0, 0), (222, .aload_n 0, 1, 0, 0, 0),
  (223, .getfield 108, 3, 12, 11, 2), (226, .iload_n 1, 1, 0, 0, 0), (227, .aload_n 0, 1, 0, 0, 0), (228, .getfield 108, 3, 12, 11, 2), (231, .sipush 1100, 3, 0, 0, 0), (234, .iload_n 1, 1, 0, 0, 0), (235, .iadd, 1, 0, 0, 0), (236, .iaload, 1, 0, 0, 0),
  (237, .iastore, 1, 0, 0, 0), (238, .aload_n 0, 1, 0, 0, 0), (239, .getfield 111, 3, 12, 12, 2), (242, .iload_n 1, 1, 0, 0, 0), (243, .aload_n 0, 1, 0, 0, 0), (244, .getfield 111, 3, 12, 12, 2), (247, .sipush 1100, 3, 0, 0, 0), (250, .iload_n 1, 1, 0, 0, 0),
  (251, .iadd, 1, 0, 0, 0), (252, .iaload, 1, 0, 0, 0), (253, .iastore, 1, 0, 0, 0), (254, .iinc 1 1, 3, 0, 0, 0), (257, .goto (-43), 3, 214, 0, 0), (260, .iconst 0, 1, 0, 0, 0), (261, .istore_n 1, 1, 0, 0, 0), (262, .iload_n 1, 1, 0, 0, 0),
  (263, .aload_n 0, 1, 0, 0, 0), (264, .getfield 227, 3, 12, 19, 0), (267, .if_icmp .ge 33, 3, 300, 0, 0), (270, .aload_n 0, 1, 0, 0, 0), (271, .getfield 114, 3, 12, 14, 2), (274, .iload_n 1, 1, 0, 0, 0), (275, .aload_n 0, 1, 0, 0, 0), (276, .getfield 117, 3, 12, 15, 2),
  (279, .iload_n 1, 1, 0, 0, 0), (280, .laload, 1, 0, 0, 0), (281, .lastore, 1, 0, 0, 0), (282, .aload_n 0, 1, 0, 0, 0), (283, .getfield 120, 3, 12, 16, 2), (286, .iload_n 1, 1, 0, 0, 0), (287, .aload_n 0, 1, 0, 0, 0), (288, .getfield 123, 3, 12, 17, 2),
  (291, .iload_n 1, 1, 0, 0, 0), (292, .iaload, 1, 0, 0, 0), (293, .iastore, 1, 0, 0, 0), (294, .iinc 1 1, 3, 0, 0, 0), (297, .goto (-35), 3, 262, 0, 0), (300, .aload_n 0, 1, 0, 0, 0), (301, .aload_n 0, 1, 0, 0, 0), (302, .getfield 227, 3, 12, 19, 0),
  (305, .putfield 230, 3, 12, 18, 0), (308, .aload_n 0, 1, 0, 0, 0), (309, .invokevirtual 173, 3, 160, 1, 2), (312, .iconst 0, 1, 0, 0, 0), (313, .ireturn, 1, 0, 0, 0)]
/-- SamePassersModel.cutAll()V -/
def mm_c164 : List (Nat × mm_E) := [(0, .aload_n 0, 1, 0, 0, 0), (1, .aload_n 0, 1, 0, 0, 0), (2, .getfield 11, 3, 12, 2, 0), (5, .putfield 180, 3, 12, 3, 0), (8, .aload_n 0, 1, 0, 0, 0), (9, .iconst 0, 1, 0, 0, 0), (10, .putfield 11, 3, 12, 2, 0), (13, .iconst 0, 1, 0, 0, 0),
  (14, .istore_n 1, 1, 0, 0, 0), (15, .iconst 0, 1, 0, 0, 0), (16, .istore_n 2, 1, 0, 0, 0), (17, .iload_n 2, 1, 0, 0, 0), (18, .aload_n 0, 1, 0, 0, 0), (19, .getfield 180, 3, 12, 3, 0), (22, .if_icmp .ge 257, 3, 279, 0, 0), (25, .aload_n 0, 1, 0, 0, 0),
  (26, .getfield 14, 3, 12, 1, 2), (29, .iload_n 2, 1, 0, 0, 0), (30, .iaload, 1, 0, 0, 0), (31, .istore_n 3, 1, 0, 0, 0), (32, .iload_n 3, 1, 0, 0, 0), (33, .bipush 10, 2, 0, 0, 0), (35, .if_icmp .eq 9, 3, 44, 0, 0), (38, .iload_n 3, 1, 0, 0, 0),
  (39, .bipush 32, 2, 0, 0, 0), (41, .if_icmp .ne 9, 3, 50, 0, 0), (44, .iinc 2 1, 3, 0, 0, 0), (47, .goto (-30), 3, 17, 0, 0), (50, .iload_n 2, 1, 0, 0, 0), (51, .istore 4, 2, 0, 0, 0), (53, .lconst 0, 1, 0, 0, 0), (54, .lstore 5, 2, 0, 0, 0),
  (56, .aload_n 0, 1, 0, 0, 0), (57, .getfield 27, 3, 12, 5, 2), (60, .iload_n 1, 1, 0, 0, 0), (61, .iload_n 2, 1, 0, 0, 0), (62, .iastore, 1, 0, 0, 0), (63, .iload_n 3, 1, 0, 0, 0), (64, .invokestatic 176, 3, 165, 1, 0), (67, .ifCond .eq 85, 3, 152, 0, 0),
  (70, .iload_n 2, 1, 0, 0, 0), (71, .aload_n 0, 1, 0, 0, 0), (72, .getfield 180, 3, 12, 3, 0), (75, .if_icmp .ge 54, 3, 129, 0, 0), (78, .aload_n 0, 1, 0, 0, 0), (79, .getfield 14, 3, 12, 1, 2), (82, .iload_n 2, 1, 0, 0, 0), (83, .iaload, 1, 0, 0, 0),
  (84, .invokestatic 176, 3, 165, 1, 0), (87, .ifCond .eq 42, 3, 129, 0, 0), (90, .iload_n 2, 1, 0, 0, 0), (91, .iload 4, 2, 0, 0, 0), (93, .isub, 1, 0, 0, 0), (94, .bipush 8, 2, 0, 0, 0), (96, .if_icmp .ge 23, 3, 119, 0, 0), (99, .ldc2_w 183, 3, 1, 0, 37),
  (102, .lload 5, 2, 0, 0, 0), (104, .lmul, 1, 0, 0, 0), (105, .aload_n 0, 1, 0, 0, 0), (106, .getfield 14, 3, 12, 1, 2), (109, .iload_n 2, 1, 0, 0, 0), (110, .iaload, 1, 0, 0, 0), (111, .invokestatic 185, 3, 166, 1, 0), (114, .i2l, 1, 0, 0, 0),
  (115, .ladd, 1, 0, 0, 0), (116, .goto 5, 3, 121, 0, 0), (119, .lload 5, 2, 0, 0, 0), (121, .lstore 5, 2, 0, 0, 0), (123, .iinc 2 1, 3, 0, 0, 0), (126, .goto (-56), 3, 70, 0, 0), (129, .aload_n 0, 1, 0, 0, 0), (130, .getfield 24, 3, 12, 4, 2),
  (133, .iload_n 1, 1, 0, 0, 0), (134, .iload_n 2, 1, 0, 0, 0), (135, .iload 4, 2, 0, 0, 0), (137, .isub, 1, 0, 0, 0), (138, .bipush 8, 2, 0, 0, 0), (140, .if_icmp .le 7, 3, 147, 0, 0), (143, .iconst 4, 1, 0, 0, 0), (144, .goto 4, 3, 148, 0, 0),
  (147, .iconst 1, 1, 0, 0, 0), (148, .iastore, 1, 0, 0, 0), (149, .goto 116, 3, 265, 0, 0), (152, .iload_n 3, 1, 0, 0, 0), (153, .invokestatic 189, 3, 167, 1, 0), (156, .ifCond .eq 84, 3, 240, 0, 0), (159, .iload_n 2, 1, 0, 0, 0), (160, .aload_n 0, 1, 0, 0, 0),
  (161, .getfield 180, 3, 12, 3, 0), (164, .if_icmp .ge 54, 3, 218, 0, 0), (167, .aload_n 0, 1, 0, 0, 0), (168, .getfield 14, 3, 12, 1, 2), (171, .iload_n 2, 1, 0, 0, 0), (172, .iaload, 1, 0, 0, 0), (173, .invokestatic 189, 3, 167, 1, 0), (176, .ifCond .eq 42, 3, 218, 0, 0),
  (179, .iload_n 2, 1, 0, 0, 0), (180, .iload 4, 2, 0, 0, 0), (182, .isub, 1, 0, 0, 0), (183, .iconst 4, 1, 0, 0, 0), (184, .if_icmp .ge 24, 3, 208, 0, 0), (187, .ldc2_w 192, 3, 1, 0, 10), (190, .lload 5, 2, 0, 0, 0), (192, .lmul, 1, 0, 0, 0),
  (193, .aload_n 0, 1, 0, 0, 0), (194, .getfield 14, 3, 12, 1, 2), (197, .iload_n 2, 1, 0, 0, 0), (198, .iaload, 1, 0, 0, 0), (199, .i2l, 1, 0, 0, 0), (200, .ladd, 1, 0, 0, 0), (201, .ldc2_w 194, 3, 1, 0, 48), (204, .lsub, 1, 0, 0, 0),
  (205, .goto 5, 3, 210, 0, 0), (208, .lload 5, 2, 0, 0, 0), (210, .lstore 5, 2, 0, 0, 0), (212, .iinc 2 1, 3, 0, 0, 0), (215, .goto (-56), 3, 159, 0, 0), (218, .aload_n 0, 1, 0, 0, 0), (219, .getfield 24, 3, 12, 4, 2), (222, .iload_n 1, 1, 0, 0, 0),
  (223, .iload_n 2, 1, 0, 0, 0), (224, .iload 4, 2, 0, 0, 0), (226, .isub, 1, 0, 0, 0), (227, .iconst 4, 1, 0, 0, 0), (228, .if_icmp .le 7, 3, 235, 0, 0), (231, .iconst 4, 1, 0, 0, 0), (232, .goto 4, 3, 236, 0, 0), (235, .iconst 2, 1, 0, 0, 0),
  (236, .iastore, 1, 0, 0, 0), (237, .goto 28, 3, 265, 0, 0), (240, .iload_n 3, 1, 0, 0, 0), (241, .i2l, 1, 0, 0, 0), (242, .lstore 5, 2, 0, 0, 0), (244, .aload_n 0, 1, 0, 0, 0), (245, .getfield 24, 3, 12, 4, 2), (248, .iload_n 1, 1, 0, 0, 0),
  (249, .iload_n 3, 1, 0, 0, 0), (250, .invokestatic 196, 3, 168, 1, 0), (253, .ifCond .eq 7, 3, 260, 0, 0), (256, .iconst 3, 1, 0, 0, 0), (257, .goto 4, 3, 261, 0, 0), (260, .iconst 4, 1, 0, 0, 0), (261, .iastore, 1, 0, 0, 0), (262, .iinc 2 1, 3, 0, 0, 0),
  (265, .aload_n 0, 1, 0, 0, 0), (266, .getfield 30, 3, 12, 6, 2), (269, .iload_n 1, 1, 0, 0, 0), (270, .lload 5, 2, 0, 0, 0), (272, .lastore, 1, 0, 0, 0), (273, .iinc 1 1, 3, 0, 0, 0), (276, .goto (-259), 3, 17, 0, 0), (279, .aload_n 0, 1, 0, 0, 0),
  (280, .getfield 24, 3, 12, 4, 2), (283, .iload_n 1, 1, 0, 0, 0), (284, .iconst 0, 1, 0, 0, 0), (285, .iastore, 1, 0, 0, 0), (286, .aload_n 0, 1, 0, 0, 0), (287, .getfield 27, 3, 12, 5, 2), (290, .iload_n 1, 1, 0, 0, 0), (291, .aload_n 0, 1, 0, 0, 0),
  (292, .getfield 180, 3, 12, 3, 0), (295, .iastore, 1, 0, 0, 0), (296, .aload_n 0, 1, 0, 0, 0), (297, .iconst 0, 1, 0, 0, 0), (298, .putfield 199, 3, 12, 7, 0), (301, .aload_n 0, 1, 0, 0, 0), (302, .iconst 0, 1, 0, 0, 0), (303, .putfield 202, 3, 12, 8, 0),
  (306, .return_, 1, 0, 0, 0)]
/-- SamePassersModel.isLetter(I)Z -/
def mm_c165 : List (Nat × mm_E) := [(0, .iload_n 0, 1, 0, 0, 0), (1, .bipush 97, 2, 0, 0, 0), (3, .if_icmp .lt 13, 3, 16, 0, 0), (6, .iload_n 0, 1, 0, 0, 0), (7, .bipush 122, 2, 0, 0, 0), (9, .if_icmp .gt 7, 3, 16, 0, 0), (12, .iconst 1, 1, 0, 0, 0), (13, .goto 4, 3, 17, 0, 0),
  (16, .iconst 0, 1, 0, 0, 0), (17, .ireturn, 1, 0, 0, 0)]
/-- SamePassersModel.rank(I)I -/
def mm_c166 : List (Nat × mm_E) := [(0, .iload_n 0, 1, 0, 0, 0), (1, .invokestatic 176, 3, 165, 1, 0), (4, .ifCond .eq 10, 3, 14, 0, 0), (7, .iload_n 0, 1, 0, 0, 0), (8, .bipush 96, 2, 0, 0, 0), (10, .isub, 1, 0, 0, 0), (11, .goto 7, 3, 18, 0, 0), (14, .iload_n 0, 1, 0, 0, 0),
  (15, .bipush 21, 2, 0, 0, 0), (17, .isub, 1, 0, 0, 0), (18, .ireturn, 1, 0, 0, 0)]
/-- SamePassersModel.isDigit(I)Z -/
def mm_c167 : List (Nat × mm_E) := [(0, .iload_n 0, 1, 0, 0, 0), (1, .bipush 48, 2, 0, 0, 0), (3, .if_icmp .lt 13, 3, 16, 0, 0), (6, .iload_n 0, 1, 0, 0, 0), (7, .bipush 57, 2, 0, 0, 0), (9, .if_icmp .gt 7, 3, 16, 0, 0), (12, .iconst 1, 1, 0, 0, 0), (13, .goto 4, 3, 17, 0, 0),
  (16, .iconst 0, 1, 0, 0, 0), (17, .ireturn, 1, 0, 0, 0)]
/-- SamePassersModel.isSignOf(I)Z -/
def mm_c168 : List (Nat × mm_E) := [(0, .iload_n 0, 1, 0, 0, 0), (1, .bipush 40, 2, 0, 0, 0), (3, .if_icmp .eq 45, 3, 48, 0, 0), (6, .iload_n 0, 1, 0, 0, 0), (7, .bipush 41, 2, 0, 0, 0), (9, .if_icmp .eq 39, 3, 48, 0, 0), (12, .iload_n 0, 1, 0, 0, 0), (13, .bipush 59, 2, 0, 0, 0),
  (15, .if_icmp .eq 33, 3, 48, 0, 0), (18, .iload_n 0, 1, 0, 0, 0), (19, .bipush 61, 2, 0, 0, 0), (21, .if_icmp .eq 27, 3, 48, 0, 0), (24, .iload_n 0, 1, 0, 0, 0), (25, .bipush 60, 2, 0, 0, 0), (27, .if_icmp .eq 21, 3, 48, 0, 0), (30, .iload_n 0, 1, 0, 0, 0),
  (31, .bipush 43, 2, 0, 0, 0), (33, .if_icmp .eq 15, 3, 48, 0, 0), (36, .iload_n 0, 1, 0, 0, 0), (37, .bipush 45, 2, 0, 0, 0), (39, .if_icmp .eq 9, 3, 48, 0, 0), (42, .iload_n 0, 1, 0, 0, 0), (43, .bipush 42, 2, 0, 0, 0), (45, .if_icmp .ne 7, 3, 52, 0, 0),
  (48, .iconst 1, 1, 0, 0, 0), (49, .goto 4, 3, 53, 0, 0), (52, .iconst 0, 1, 0, 0, 0), (53, .ireturn, 1, 0, 0, 0)]
/-- SamePassersModel.takeWord(I)V -/
def mm_c169 : List (Nat × mm_E) := [(0, .aload_n 0, 1, 0, 0, 0), (1, .iload_n 1, 1, 0, 0, 0), (2, .invokevirtual 214, 3, 170, 2, 2), (5, .ifCond .ne 8, 3, 13, 0, 0), (8, .aload_n 0, 1, 0, 0, 0), (9, .iconst 1, 1, 0, 0, 0), (10, .invokevirtual 208, 3, 172, 2, 2), (13, .return_, 1, 0, 0, 0)]
/-- SamePassersModel.hasWord(I)Z -/
def mm_c170 : List (Nat × mm_E) := [(0, .aload_n 0, 1, 0, 0, 0), (1, .iload_n 1, 1, 0, 0, 0), (2, .invokevirtual 211, 3, 171, 2, 2), (5, .istore_n 2, 1, 0, 0, 0), (6, .aload_n 0, 1, 0, 0, 0), (7, .dup, 1, 0, 0, 0), (8, .getfield 199, 3, 12, 7, 0), (11, .iload_n 2, 1, 0, 0, 0),
  (12, .ifCond .eq 7, 3, 19, 0, 0), (15, .iconst 1, 1, 0, 0, 0), (16, .goto 4, 3, 20, 0, 0), (19, .iconst 0, 1, 0, 0, 0), (20, .iadd, 1, 0, 0, 0), (21, .putfield 199, 3, 12, 7, 0), (24, .iload_n 2, 1, 0, 0, 0), (25, .ireturn, 1, 0, 0, 0)]
/-- SamePassersModel.isWord(I)Z -/
def mm_c171 : List (Nat × mm_E) := [(0, .aload_n 0, 1, 0, 0, 0), (1, .getfield 202, 3, 12, 8, 0), (4, .ifCond .ne 39, 3, 43, 0, 0), (7, .aload_n 0, 1, 0, 0, 0), (8, .getfield 24, 3, 12, 4, 2), (11, .aload_n 0, 1, 0, 0, 0), (12, .getfield 199, 3, 12, 7, 0), (15, .iaload, 1, 0, 0, 0),
  (16, .iconst 1, 1, 0, 0, 0), (17, .if_icmp .ne 26, 3, 43, 0, 0), (20, .aload_n 0, 1, 0, 0, 0), (21, .getfield 30, 3, 12, 6, 2), (24, .aload_n 0, 1, 0, 0, 0), (25, .getfield 199, 3, 12, 7, 0), (28, .laload, 1, 0, 0, 0), (29, .aload_n 0, 1, 0, 0, 0),
  (30, .getfield 102, 3, 12, 9, 2), (33, .iload_n 1, 1, 0, 0, 0), (34, .laload, 1, 0, 0, 0), (35, .lcmp, 1, 0, 0, 0), (36, .ifCond .ne 7, 3, 43, 0, 0), (39, .iconst 1, 1, 0, 0, 0), (40, .goto 4, 3, 44, 0, 0), (43, .iconst 0, 1, 0, 0, 0),
  (44, .ireturn, 1, 0, 0, 0)]
/-- SamePassersModel.wrong(I)V -/
def mm_c172 : List (Nat × mm_E) := [(0, .aload_n 0, 1, 0, 0, 0), (1, .getfield 202, 3, 12, 8, 0), (4, .ifCond .ne 21, 3, 25, 0, 0), (7, .aload_n 0, 1, 0, 0, 0), (8, .iload_n 1, 1, 0, 0, 0), (9, .bipush 16, 2, 0, 0, 0), (11, .aload_n 0, 1, 0, 0, 0), (12, .getfield 27, 3, 12, 5, 2),
  (15, .aload_n 0, 1, 0, 0, 0), (16, .getfield 199, 3, 12, 7, 0), (19, .iaload, 1, 0, 0, 0), (20, .imul, 1, 0, 0, 0), (21, .iadd, 1, 0, 0, 0), (22, .putfield 202, 3, 12, 8, 0), (25, .return_, 1, 0, 0, 0)]
/-- SamePassersModel.takeNumber(II)I -/
def mm_c173 : List (Nat × mm_E) := [(0, .aload_n 0, 1, 0, 0, 0), (1, .getfield 202, 3, 12, 8, 0), (4, .ifCond .ne 24, 3, 28, 0, 0), (7, .aload_n 0, 1, 0, 0, 0), (8, .getfield 24, 3, 12, 4, 2), (11, .aload_n 0, 1, 0, 0, 0), (12, .getfield 199, 3, 12, 7, 0), (15, .iaload, 1, 0, 0, 0),
  (16, .iconst 2, 1, 0, 0, 0), (17, .if_icmp .eq 11, 3, 28, 0, 0), (20, .aload_n 0, 1, 0, 0, 0), (21, .iconst 1, 1, 0, 0, 0), (22, .invokevirtual 208, 3, 172, 2, 2), (25, .goto 45, 3, 70, 0, 0), (28, .aload_n 0, 1, 0, 0, 0), (29, .getfield 202, 3, 12, 8, 0),
  (32, .ifCond .ne 38, 3, 70, 0, 0), (35, .aload_n 0, 1, 0, 0, 0), (36, .getfield 30, 3, 12, 6, 2), (39, .aload_n 0, 1, 0, 0, 0), (40, .getfield 199, 3, 12, 7, 0), (43, .laload, 1, 0, 0, 0), (44, .iload_n 1, 1, 0, 0, 0), (45, .i2l, 1, 0, 0, 0),
  (46, .lcmp, 1, 0, 0, 0), (47, .ifCond .lt 18, 3, 65, 0, 0), (50, .aload_n 0, 1, 0, 0, 0), (51, .getfield 30, 3, 12, 6, 2), (54, .aload_n 0, 1, 0, 0, 0), (55, .getfield 199, 3, 12, 7, 0), (58, .laload, 1, 0, 0, 0), (59, .iload_n 2, 1, 0, 0, 0),
  (60, .i2l, 1, 0, 0, 0), (61, .lcmp, 1, 0, 0, 0), (62, .ifCond .le 8, 3, 70, 0, 0), (65, .aload_n 0, 1, 0, 0, 0), (66, .iconst 4, 1, 0, 0, 0), (67, .invokevirtual 208, 3, 172, 2, 2), (70, .aload_n 0, 1, 0, 0, 0), (71, .getfield 202, 3, 12, 8, 0),
  (74, .ifCond .le 5, 3, 79, 0, 0), (77, .iconst 0, 1, 0, 0, 0), (78, .ireturn, 1, 0, 0, 0), (79, .aload_n 0, 1, 0, 0, 0), (80, .dup, 1, 0, 0, 0), (81, .getfield 199, 3, 12, 7, 0), (84, .iconst 1, 1, 0, 0, 0), (85, .iadd, 1, 0, 0, 0),
  (86, .putfield 199, 3, 12, 7, 0), (89, .aload_n 0, 1, 0, 0, 0), (90, .getfield 30, 3, 12, 6, 2), (93, .aload_n 0, 1, 0, 0, 0), (94, .getfield 199, 3, 12, 7, 0), (97, .iconst 1, 1, 0, 0, 0), (98, .isub, 1, 0, 0, 0), (99, .laload, 1, 0, 0, 0),
  (100, .l2i, 1, 0, 0, 0), (101, .ireturn, 1, 0, 0, 0)]
/-- SamePassersModel.takeAfter(III)I -/
def mm_c174 : List (Nat × mm_E) := [(0, .aload_n 0, 1, 0, 0, 0), (1, .iload_n 1, 1, 0, 0, 0), (2, .invokevirtual 217, 3, 169, 2, 2), (5, .aload_n 0, 1, 0, 0, 0), (6, .iload_n 2, 1, 0, 0, 0), (7, .iload_n 3, 1, 0, 0, 0), (8, .invokevirtual 220, 3, 173, 3, 2), (11, .ireturn, 1, 0, 0, 0)]
/-- SamePassersModel.takeSign(I)V -/
def mm_c175 : List (Nat × mm_E) := [(0, .aload_n 0, 1, 0, 0, 0), (1, .iload_n 1, 1, 0, 0, 0), (2, .invokevirtual 205, 3, 176, 2, 2), (5, .ifCond .eq 16, 3, 21, 0, 0), (8, .aload_n 0, 1, 0, 0, 0), (9, .dup, 1, 0, 0, 0), (10, .getfield 199, 3, 12, 7, 0), (13, .iconst 1, 1, 0, 0, 0),
  (14, .iadd, 1, 0, 0, 0), (15, .putfield 199, 3, 12, 7, 0), (18, .goto 8, 3, 26, 0, 0), (21, .aload_n 0, 1, 0, 0, 0), (22, .iconst 1, 1, 0, 0, 0), (23, .invokevirtual 208, 3, 172, 2, 2), (26, .return_, 1, 0, 0, 0)]
/-- SamePassersModel.isSign(I)Z -/
def mm_c176 : List (Nat × mm_E) := [(0, .aload_n 0, 1, 0, 0, 0), (1, .getfield 202, 3, 12, 8, 0), (4, .ifCond .ne 35, 3, 39, 0, 0), (7, .aload_n 0, 1, 0, 0, 0), (8, .getfield 24, 3, 12, 4, 2), (11, .aload_n 0, 1, 0, 0, 0), (12, .getfield 199, 3, 12, 7, 0), (15, .iaload, 1, 0, 0, 0),
  (16, .iconst 3, 1, 0, 0, 0), (17, .if_icmp .ne 22, 3, 39, 0, 0), (20, .aload_n 0, 1, 0, 0, 0), (21, .getfield 30, 3, 12, 6, 2), (24, .aload_n 0, 1, 0, 0, 0), (25, .getfield 199, 3, 12, 7, 0), (28, .laload, 1, 0, 0, 0), (29, .iload_n 1, 1, 0, 0, 0),
  (30, .i2l, 1, 0, 0, 0), (31, .lcmp, 1, 0, 0, 0), (32, .ifCond .ne 7, 3, 39, 0, 0), (35, .iconst 1, 1, 0, 0, 0), (36, .goto 4, 3, 40, 0, 0), (39, .iconst 0, 1, 0, 0, 0), (40, .ireturn, 1, 0, 0, 0)]
/-- SamePassersModel.readLine()V -/
def mm_c177 : List (Nat × mm_E) := [(0, .aload_n 0, 1, 0, 0, 0), (1, .iconst 5, 1, 0, 0, 0), (2, .invokevirtual 211, 3, 171, 2, 2), (5, .ifCond .eq 10, 3, 15, 0, 0), (8, .aload_n 0, 1, 0, 0, 0), (9, .invokevirtual 269, 3, 178, 1, 2), (12, .goto 39, 3, 51, 0, 0), (15, .aload_n 0, 1, 0, 0, 0),
  (16, .bipush 7, 2, 0, 0, 0), (18, .invokevirtual 211, 3, 171, 2, 2), (21, .ifCond .eq 10, 3, 31, 0, 0), (24, .aload_n 0, 1, 0, 0, 0), (25, .invokevirtual 272, 3, 183, 1, 2), (28, .goto 23, 3, 51, 0, 0), (31, .aload_n 0, 1, 0, 0, 0), (32, .bipush 13, 2, 0, 0, 0),
  (34, .invokevirtual 211, 3, 171, 2, 2), (37, .ifCond .eq 10, 3, 47, 0, 0), (40, .aload_n 0, 1, 0, 0, 0), (41, .invokevirtual 275, 3, 189, 1, 2), (44, .goto 7, 3, 51, 0, 0), (47, .aload_n 0, 1, 0, 0, 0), (48, .invokevirtual 278, 3, 190, 1, 2), (51, .return_, 1, 0, 0, 0)]
/-- SamePassersModel.readSay()V -/
def mm_c178 : List (Nat × mm_E) := [(0, .aload_n 0, 1, 0, 0, 0), (1, .getfield 105, 3, 12, 10, 2), (4, .bipush 105, 2, 0, 0, 0), (6, .iaload, 1, 0, 0, 0), (7, .istore_n 1, 1, 0, 0, 0), (8, .iload_n 1, 1, 0, 0, 0), (9, .bipush 6, 2, 0, 0, 0), (11, .if_icmp .ne 9, 3, 20, 0, 0),
  (14, .aload_n 0, 1, 0, 0, 0), (15, .iconst 5, 1, 0, 0, 0), (16, .invokevirtual 208, 3, 172, 2, 2), (19, .return_, 1, 0, 0, 0), (20, .aload_n 0, 1, 0, 0, 0), (21, .iload_n 1, 1, 0, 0, 0), (22, .invokevirtual 281, 3, 179, 2, 2), (25, .aload_n 0, 1, 0, 0, 0),
  (26, .getfield 105, 3, 12, 10, 2), (29, .bipush 111, 2, 0, 0, 0), (31, .iload_n 1, 1, 0, 0, 0), (32, .iadd, 1, 0, 0, 0), (33, .aload_n 0, 1, 0, 0, 0), (34, .bipush 6, 2, 0, 0, 0), (36, .iconst 0, 1, 0, 0, 0), (37, .sipush 600, 3, 0, 0, 0),
  (40, .invokevirtual 259, 3, 174, 4, 2), (43, .iastore, 1, 0, 0, 0), (44, .aload_n 0, 1, 0, 0, 0), (45, .getfield 105, 3, 12, 10, 2), (48, .bipush 105, 2, 0, 0, 0), (50, .dup2, 1, 0, 0, 0), (51, .iaload, 1, 0, 0, 0), (52, .iconst 1, 1, 0, 0, 0),
  (53, .iadd, 1, 0, 0, 0), (54, .iastore, 1, 0, 0, 0), (55, .return_, 1, 0, 0, 0)]
/-- SamePassersModel.readName(I)V -/
def mm_c179 : List (Nat × mm_E) := [(0, .aload_n 0, 1, 0, 0, 0), (1, .dup, 1, 0, 0, 0), (2, .getfield 199, 3, 12, 7, 0), (5, .iconst 1, 1, 0, 0, 0), (6, .iadd, 1, 0, 0, 0), (7, .putfield 199, 3, 12, 7, 0), (10, .aload_n 0, 1, 0, 0, 0), (11, .invokevirtual 233, 3, 180, 1, 2),
  (14, .ifCond .ne 11, 3, 25, 0, 0), (17, .aload_n 0, 1, 0, 0, 0), (18, .iconst 1, 1, 0, 0, 0), (19, .invokevirtual 208, 3, 172, 2, 2), (22, .goto 16, 3, 38, 0, 0), (25, .aload_n 0, 1, 0, 0, 0), (26, .iconst 1, 1, 0, 0, 0), (27, .invokevirtual 237, 3, 182, 2, 2),
  (30, .ifCond .lt 8, 3, 38, 0, 0), (33, .aload_n 0, 1, 0, 0, 0), (34, .iconst 3, 1, 0, 0, 0), (35, .invokevirtual 208, 3, 172, 2, 2), (38, .aload_n 0, 1, 0, 0, 0), (39, .getfield 202, 3, 12, 8, 0), (42, .ifCond .ne 51, 3, 93, 0, 0), (45, .aload_n 0, 1, 0, 0, 0),
  (46, .getfield 117, 3, 12, 15, 2), (49, .aload_n 0, 1, 0, 0, 0), (50, .getfield 227, 3, 12, 19, 0), (53, .aload_n 0, 1, 0, 0, 0), (54, .getfield 30, 3, 12, 6, 2), (57, .aload_n 0, 1, 0, 0, 0), (58, .getfield 199, 3, 12, 7, 0), (61, .laload, 1, 0, 0, 0),
  (62, .lastore, 1, 0, 0, 0), (63, .aload_n 0, 1, 0, 0, 0), (64, .getfield 123, 3, 12, 17, 2), (67, .aload_n 0, 1, 0, 0, 0), (68, .getfield 227, 3, 12, 19, 0), (71, .iload_n 1, 1, 0, 0, 0), (72, .iastore, 1, 0, 0, 0), (73, .aload_n 0, 1, 0, 0, 0),
  (74, .dup, 1, 0, 0, 0), (75, .getfield 227, 3, 12, 19, 0), (78, .iconst 1, 1, 0, 0, 0), (79, .iadd, 1, 0, 0, 0), (80, .putfield 227, 3, 12, 19, 0), (83, .aload_n 0, 1, 0, 0, 0), (84, .dup, 1, 0, 0, 0), (85, .getfield 199, 3, 12, 7, 0),
  (88, .iconst 1, 1, 0, 0, 0), (89, .iadd, 1, 0, 0, 0), (90, .putfield 199, 3, 12, 7, 0), (93, .return_, 1, 0, 0, 0)]
/-- SamePassersModel.isName()Z -/
def mm_c180 : List (Nat × mm_E) := [(0, .aload_n 0, 1, 0, 0, 0), (1, .getfield 202, 3, 12, 8, 0), (4, .ifCond .ne 30, 3, 34, 0, 0), (7, .aload_n 0, 1, 0, 0, 0), (8, .getfield 24, 3, 12, 4, 2), (11, .aload_n 0, 1, 0, 0, 0), (12, .getfield 199, 3, 12, 7, 0), (15, .iaload, 1, 0, 0, 0),
  (16, .iconst 1, 1, 0, 0, 0), (17, .if_icmp .ne 17, 3, 34, 0, 0), (20, .aload_n 0, 1, 0, 0, 0), (21, .iconst 0, 1, 0, 0, 0), (22, .bipush 30, 2, 0, 0, 0), (24, .invokevirtual 224, 3, 181, 3, 2), (27, .ifCond .ge 7, 3, 34, 0, 0), (30, .iconst 1, 1, 0, 0, 0),
  (31, .goto 4, 3, 35, 0, 0), (34, .iconst 0, 1, 0, 0, 0), (35, .ireturn, 1, 0, 0, 0)]
/-- SamePassersModel.wordHere(II)I -/
def mm_c181 : List (Nat × mm_E) := [(0, .iconst (-1), 1, 0, 0, 0), (1, .istore_n 3, 1, 0, 0, 0), (2, .iconst 0, 1, 0, 0, 0), (3, .istore 4, 2, 0, 0, 0), (5, .iload 4, 2, 0, 0, 0), (7, .iload_n 2, 1, 0, 0, 0), (8, .if_icmp .ge 27, 3, 35, 0, 0), (11, .aload_n 0, 1, 0, 0, 0),
  (12, .iload_n 1, 1, 0, 0, 0), (13, .iload 4, 2, 0, 0, 0), (15, .iadd, 1, 0, 0, 0), (16, .invokevirtual 211, 3, 171, 2, 2), (19, .ifCond .eq 8, 3, 27, 0, 0), (22, .iload 4, 2, 0, 0, 0), (24, .goto 4, 3, 28, 0, 0), (27, .iload_n 3, 1, 0, 0, 0),
  (28, .istore_n 3, 1, 0, 0, 0), (29, .iinc 4 1, 3, 0, 0, 0), (32, .goto (-27), 3, 5, 0, 0), (35, .iload_n 3, 1, 0, 0, 0), (36, .ireturn, 1, 0, 0, 0)]
/-- SamePassersModel.find(Z)I -/
def mm_c182 : List (Nat × mm_E) := [(0, .iconst 0, 1, 0, 0, 0), (1, .istore_n 2, 1, 0, 0, 0), (2, .iload_n 2, 1, 0, 0, 0), (3, .iload_n 1, 1, 0, 0, 0), (4, .ifCond .eq 10, 3, 14, 0, 0), (7, .aload_n 0, 1, 0, 0, 0), (8, .getfield 227, 3, 12, 19, 0), (11, .goto 7, 3, 18, 0, 0),
  (14, .aload_n 0, 1, 0, 0, 0), (15, .getfield 230, 3, 12, 18, 0), (18, .if_icmp .ge 61, 3, 79, 0, 0), (21, .iload_n 1, 1, 0, 0, 0), (22, .ifCond .eq 12, 3, 34, 0, 0), (25, .aload_n 0, 1, 0, 0, 0), (26, .getfield 117, 3, 12, 15, 2), (29, .iload_n 2, 1, 0, 0, 0),
  (30, .laload, 1, 0, 0, 0), (31, .goto 9, 3, 40, 0, 0), (34, .aload_n 0, 1, 0, 0, 0), (35, .getfield 114, 3, 12, 14, 2), (38, .iload_n 2, 1, 0, 0, 0), (39, .laload, 1, 0, 0, 0), (40, .aload_n 0, 1, 0, 0, 0), (41, .getfield 30, 3, 12, 6, 2),
  (44, .aload_n 0, 1, 0, 0, 0), (45, .getfield 199, 3, 12, 7, 0), (48, .laload, 1, 0, 0, 0), (49, .lcmp, 1, 0, 0, 0), (50, .ifCond .ne 23, 3, 73, 0, 0), (53, .iload_n 1, 1, 0, 0, 0), (54, .ifCond .eq 12, 3, 66, 0, 0), (57, .aload_n 0, 1, 0, 0, 0),
  (58, .getfield 123, 3, 12, 17, 2), (61, .iload_n 2, 1, 0, 0, 0), (62, .iaload, 1, 0, 0, 0), (63, .goto 9, 3, 72, 0, 0), (66, .aload_n 0, 1, 0, 0, 0), (67, .getfield 120, 3, 12, 16, 2), (70, .iload_n 2, 1, 0, 0, 0), (71, .iaload, 1, 0, 0, 0),
  (72, .ireturn, 1, 0, 0, 0), (73, .iinc 2 1, 3, 0, 0, 0), (76, .goto (-74), 3, 2, 0, 0), (79, .iconst (-1), 1, 0, 0, 0), (80, .ireturn, 1, 0, 0, 0)]
/-- SamePassersModel.readWalker()V -/
def mm_c183 : List (Nat × mm_E) := [(0, .aload_n 0, 1, 0, 0, 0), (1, .getfield 105, 3, 12, 10, 2), (4, .bipush 106, 2, 0, 0, 0), (6, .iaload, 1, 0, 0, 0), (7, .istore_n 1, 1, 0, 0, 0), (8, .iload_n 1, 1, 0, 0, 0), (9, .bipush 8, 2, 0, 0, 0), (11, .if_icmp .ne 9, 3, 20, 0, 0),
  (14, .aload_n 0, 1, 0, 0, 0), (15, .iconst 5, 1, 0, 0, 0), (16, .invokevirtual 208, 3, 172, 2, 2), (19, .return_, 1, 0, 0, 0), (20, .aload_n 0, 1, 0, 0, 0), (21, .bipush 20, 2, 0, 0, 0), (23, .iload_n 1, 1, 0, 0, 0), (24, .iadd, 1, 0, 0, 0),
  (25, .invokevirtual 281, 3, 179, 2, 2), (28, .bipush 117, 2, 0, 0, 0), (30, .bipush 7, 2, 0, 0, 0), (32, .iload_n 1, 1, 0, 0, 0), (33, .imul, 1, 0, 0, 0), (34, .iadd, 1, 0, 0, 0), (35, .istore_n 2, 1, 0, 0, 0), (36, .aload_n 0, 1, 0, 0, 0),
  (37, .getfield 105, 3, 12, 10, 2), (40, .iload_n 2, 1, 0, 0, 0), (41, .aload_n 0, 1, 0, 0, 0), (42, .bipush 23, 2, 0, 0, 0), (44, .iconst 4, 1, 0, 0, 0), (45, .invokevirtual 284, 3, 184, 3, 2), (48, .iastore, 1, 0, 0, 0), (49, .aload_n 0, 1, 0, 0, 0),
  (50, .getfield 105, 3, 12, 10, 2), (53, .iload_n 2, 1, 0, 0, 0), (54, .iconst 1, 1, 0, 0, 0), (55, .iadd, 1, 0, 0, 0), (56, .aload_n 0, 1, 0, 0, 0), (57, .bipush 8, 2, 0, 0, 0), (59, .iconst 0, 1, 0, 0, 0), (60, .aload_n 0, 1, 0, 0, 0),
  (61, .getfield 105, 3, 12, 10, 2), (64, .bipush 101, 2, 0, 0, 0), (66, .iaload, 1, 0, 0, 0), (67, .iconst 1, 1, 0, 0, 0), (68, .isub, 1, 0, 0, 0), (69, .invokevirtual 259, 3, 174, 4, 2), (72, .iastore, 1, 0, 0, 0), (73, .aload_n 0, 1, 0, 0, 0),
  (74, .getfield 105, 3, 12, 10, 2), (77, .iload_n 2, 1, 0, 0, 0), (78, .iconst 2, 1, 0, 0, 0), (79, .iadd, 1, 0, 0, 0), (80, .aload_n 0, 1, 0, 0, 0), (81, .bipush 9, 2, 0, 0, 0), (83, .iconst 0, 1, 0, 0, 0), (84, .aload_n 0, 1, 0, 0, 0),
  (85, .invokevirtual 287, 3, 185, 1, 2), (88, .invokevirtual 259, 3, 174, 4, 2), (91, .iastore, 1, 0, 0, 0), (92, .aload_n 0, 1, 0, 0, 0), (93, .getfield 105, 3, 12, 10, 2), (96, .iload_n 2, 1, 0, 0, 0), (97, .iconst 3, 1, 0, 0, 0), (98, .iadd, 1, 0, 0, 0),
  (99, .aload_n 0, 1, 0, 0, 0), (100, .bipush 21, 2, 0, 0, 0), (102, .iconst 2, 1, 0, 0, 0), (103, .invokevirtual 284, 3, 184, 3, 2), (106, .iastore, 1, 0, 0, 0), (107, .aload_n 0, 1, 0, 0, 0), (108, .getfield 105, 3, 12, 10, 2), (111, .iload_n 2, 1, 0, 0, 0),
  (112, .iconst 4, 1, 0, 0, 0), (113, .iadd, 1, 0, 0, 0), (114, .aload_n 0, 1, 0, 0, 0), (115, .bipush 10, 2, 0, 0, 0), (117, .iconst 1, 1, 0, 0, 0), (118, .bipush 9, 2, 0, 0, 0), (120, .invokevirtual 259, 3, 174, 4, 2), (123, .iastore, 1, 0, 0, 0),
  (124, .aload_n 0, 1, 0, 0, 0), (125, .getfield 105, 3, 12, 10, 2), (128, .iload_n 2, 1, 0, 0, 0), (129, .iconst 5, 1, 0, 0, 0), (130, .iadd, 1, 0, 0, 0), (131, .aload_n 0, 1, 0, 0, 0), (132, .bipush 11, 2, 0, 0, 0), (134, .iconst 0, 1, 0, 0, 0),
  (135, .bipush 99, 2, 0, 0, 0), (137, .invokevirtual 259, 3, 174, 4, 2), (140, .iastore, 1, 0, 0, 0), (141, .aload_n 0, 1, 0, 0, 0), (142, .getfield 105, 3, 12, 10, 2), (145, .iload_n 2, 1, 0, 0, 0), (146, .bipush 6, 2, 0, 0, 0), (148, .iadd, 1, 0, 0, 0),
  (149, .aload_n 0, 1, 0, 0, 0), (150, .bipush 12, 2, 0, 0, 0), (152, .invokevirtual 214, 3, 170, 2, 2), (155, .ifCond .eq 14, 3, 169, 0, 0), (158, .aload_n 0, 1, 0, 0, 0), (159, .iconst 1, 1, 0, 0, 0), (160, .iconst 0, 1, 0, 0, 0), (161, .bipush 6, 2, 0, 0, 0),
  (163, .invokevirtual 291, 3, 186, 4, 2), (166, .goto 4, 3, 170, 0, 0), (169, .iconst (-1), 1, 0, 0, 0), (170, .iastore, 1, 0, 0, 0), (171, .aload_n 0, 1, 0, 0, 0), (172, .getfield 105, 3, 12, 10, 2), (175, .bipush 106, 2, 0, 0, 0), (177, .dup2, 1, 0, 0, 0),
  (178, .iaload, 1, 0, 0, 0), (179, .iconst 1, 1, 0, 0, 0), (180, .iadd, 1, 0, 0, 0), (181, .iastore, 1, 0, 0, 0), (182, .return_, 1, 0, 0, 0)]
/-- SamePassersModel.takeOne(II)I -/
def mm_c184 : List (Nat × mm_E) := [(0, .aload_n 0, 1, 0, 0, 0), (1, .getfield 202, 3, 12, 8, 0), (4, .ifCond .le 7, 3, 11, 0, 0), (7, .iconst (-1), 1, 0, 0, 0), (8, .goto 9, 3, 17, 0, 0), (11, .aload_n 0, 1, 0, 0, 0), (12, .iload_n 1, 1, 0, 0, 0), (13, .iload_n 2, 1, 0, 0, 0),
  (14, .invokevirtual 224, 3, 181, 3, 2), (17, .istore_n 3, 1, 0, 0, 0), (18, .aload_n 0, 1, 0, 0, 0), (19, .getfield 202, 3, 12, 8, 0), (22, .ifCond .ne 12, 3, 34, 0, 0), (25, .iload_n 3, 1, 0, 0, 0), (26, .ifCond .ge 8, 3, 34, 0, 0), (29, .aload_n 0, 1, 0, 0, 0),
  (30, .iconst 1, 1, 0, 0, 0), (31, .invokevirtual 208, 3, 172, 2, 2), (34, .aload_n 0, 1, 0, 0, 0), (35, .dup, 1, 0, 0, 0), (36, .getfield 199, 3, 12, 7, 0), (39, .aload_n 0, 1, 0, 0, 0), (40, .getfield 202, 3, 12, 8, 0), (43, .ifCond .le 7, 3, 50, 0, 0),
  (46, .iconst 0, 1, 0, 0, 0), (47, .goto 4, 3, 51, 0, 0), (50, .iconst 1, 1, 0, 0, 0), (51, .iadd, 1, 0, 0, 0), (52, .putfield 199, 3, 12, 7, 0), (55, .aload_n 0, 1, 0, 0, 0), (56, .getfield 202, 3, 12, 8, 0), (59, .ifCond .le 7, 3, 66, 0, 0),
  (62, .iconst 0, 1, 0, 0, 0), (63, .goto 4, 3, 67, 0, 0), (66, .iload_n 3, 1, 0, 0, 0), (67, .ireturn, 1, 0, 0, 0)]
/-- SamePassersModel.lastCell()I -/
def mm_c185 : List (Nat × mm_E) := [(0, .aload_n 0, 1, 0, 0, 0), (1, .getfield 105, 3, 12, 10, 2), (4, .bipush 100, 2, 0, 0, 0), (6, .iaload, 1, 0, 0, 0), (7, .iconst 1, 1, 0, 0, 0), (8, .isub, 1, 0, 0, 0), (9, .ireturn, 1, 0, 0, 0)]
/-- SamePassersModel.takeTold(ZII)I -/
def mm_c186 : List (Nat × mm_E) := [(0, .aload_n 0, 1, 0, 0, 0), (1, .iload_n 1, 1, 0, 0, 0), (2, .iload_n 2, 1, 0, 0, 0), (3, .iload_n 3, 1, 0, 0, 0), (4, .invokevirtual 245, 3, 187, 4, 2), (7, .istore 4, 2, 0, 0, 0), (9, .aload_n 0, 1, 0, 0, 0), (10, .dup, 1, 0, 0, 0),
  (11, .getfield 199, 3, 12, 7, 0), (14, .aload_n 0, 1, 0, 0, 0), (15, .getfield 202, 3, 12, 8, 0), (18, .ifCond .le 7, 3, 25, 0, 0), (21, .iconst 0, 1, 0, 0, 0), (22, .goto 4, 3, 26, 0, 0), (25, .iconst 1, 1, 0, 0, 0), (26, .iadd, 1, 0, 0, 0),
  (27, .putfield 199, 3, 12, 7, 0), (30, .iload 4, 2, 0, 0, 0), (32, .ireturn, 1, 0, 0, 0)]
/-- SamePassersModel.toldHere(ZII)I -/
def mm_c187 : List (Nat × mm_E) := [(0, .aload_n 0, 1, 0, 0, 0), (1, .getfield 202, 3, 12, 8, 0), (4, .ifCond .ne 15, 3, 19, 0, 0), (7, .aload_n 0, 1, 0, 0, 0), (8, .invokevirtual 233, 3, 180, 1, 2), (11, .ifCond .ne 8, 3, 19, 0, 0), (14, .aload_n 0, 1, 0, 0, 0), (15, .iconst 1, 1, 0, 0, 0),
  (16, .invokevirtual 208, 3, 172, 2, 2), (19, .aload_n 0, 1, 0, 0, 0), (20, .getfield 202, 3, 12, 8, 0), (23, .ifCond .le 7, 3, 30, 0, 0), (26, .iconst (-1), 1, 0, 0, 0), (27, .goto 10, 3, 37, 0, 0), (30, .aload_n 0, 1, 0, 0, 0), (31, .iload_n 1, 1, 0, 0, 0),
  (32, .invokevirtual 237, 3, 182, 2, 2), (35, .iload_n 2, 1, 0, 0, 0), (36, .isub, 1, 0, 0, 0), (37, .istore 4, 2, 0, 0, 0), (39, .aload_n 0, 1, 0, 0, 0), (40, .getfield 202, 3, 12, 8, 0), (43, .ifCond .ne 20, 3, 63, 0, 0), (46, .iload 4, 2, 0, 0, 0),
  (48, .iconst 0, 1, 0, 0, 0), (49, .iload_n 3, 1, 0, 0, 0), (50, .iconst 1, 1, 0, 0, 0), (51, .isub, 1, 0, 0, 0), (52, .invokestatic 241, 3, 188, 3, 0), (55, .ifCond .ne 8, 3, 63, 0, 0), (58, .aload_n 0, 1, 0, 0, 0), (59, .iconst 2, 1, 0, 0, 0),
  (60, .invokevirtual 208, 3, 172, 2, 2), (63, .aload_n 0, 1, 0, 0, 0), (64, .getfield 202, 3, 12, 8, 0), (67, .ifCond .le 7, 3, 74, 0, 0), (70, .iconst 0, 1, 0, 0, 0), (71, .goto 5, 3, 76, 0, 0), (74, .iload 4, 2, 0, 0, 0), (76, .ireturn, 1, 0, 0, 0)]
/-- SamePassersModel.within(III)Z -/
def mm_c188 : List (Nat × mm_E) := [(0, .iload_n 0, 1, 0, 0, 0), (1, .iload_n 1, 1, 0, 0, 0), (2, .if_icmp .lt 12, 3, 14, 0, 0), (5, .iload_n 0, 1, 0, 0, 0), (6, .iload_n 2, 1, 0, 0, 0), (7, .if_icmp .gt 7, 3, 14, 0, 0), (10, .iconst 1, 1, 0, 0, 0), (11, .goto 4, 3, 15, 0, 0),
  (14, .iconst 0, 1, 0, 0, 0), (15, .ireturn, 1, 0, 0, 0)]
/-- SamePassersModel.readMust()V -/
def mm_c189 : List (Nat × mm_E) := [(0, .aload_n 0, 1, 0, 0, 0), (1, .getfield 105, 3, 12, 10, 2), (4, .bipush 107, 2, 0, 0, 0), (6, .iaload, 1, 0, 0, 0), (7, .istore_n 1, 1, 0, 0, 0), (8, .iload_n 1, 1, 0, 0, 0), (9, .bipush 8, 2, 0, 0, 0), (11, .if_icmp .ne 9, 3, 20, 0, 0),
  (14, .aload_n 0, 1, 0, 0, 0), (15, .iconst 5, 1, 0, 0, 0), (16, .invokevirtual 208, 3, 172, 2, 2), (19, .return_, 1, 0, 0, 0), (20, .aload_n 0, 1, 0, 0, 0), (21, .dup, 1, 0, 0, 0), (22, .getfield 199, 3, 12, 7, 0), (25, .iconst 1, 1, 0, 0, 0),
  (26, .iadd, 1, 0, 0, 0), (27, .putfield 199, 3, 12, 7, 0), (30, .aload_n 0, 1, 0, 0, 0), (31, .iconst 1, 1, 0, 0, 0), (32, .bipush 20, 2, 0, 0, 0), (34, .bipush 8, 2, 0, 0, 0), (36, .invokevirtual 291, 3, 186, 4, 2), (39, .istore_n 2, 1, 0, 0, 0),
  (40, .aload_n 0, 1, 0, 0, 0), (41, .iconst 1, 1, 0, 0, 0), (42, .iconst 0, 1, 0, 0, 0), (43, .bipush 6, 2, 0, 0, 0), (45, .invokevirtual 245, 3, 187, 4, 2), (48, .istore_n 3, 1, 0, 0, 0), (49, .iconst 0, 1, 0, 0, 0), (50, .istore 4, 2, 0, 0, 0),
  (52, .iload 4, 2, 0, 0, 0), (54, .iload_n 1, 1, 0, 0, 0), (55, .if_icmp .ge 57, 3, 112, 0, 0), (58, .aload_n 0, 1, 0, 0, 0), (59, .getfield 202, 3, 12, 8, 0), (62, .ifCond .ne 50, 3, 112, 0, 0), (65, .aload_n 0, 1, 0, 0, 0), (66, .getfield 105, 3, 12, 10, 2),
  (69, .sipush 173, 3, 0, 0, 0), (72, .iconst 3, 1, 0, 0, 0), (73, .iload 4, 2, 0, 0, 0), (75, .imul, 1, 0, 0, 0), (76, .iadd, 1, 0, 0, 0), (77, .iaload, 1, 0, 0, 0), (78, .iload_n 2, 1, 0, 0, 0), (79, .if_icmp .ne 27, 3, 106, 0, 0),
  (82, .aload_n 0, 1, 0, 0, 0), (83, .getfield 105, 3, 12, 10, 2), (86, .sipush 173, 3, 0, 0, 0), (89, .iconst 3, 1, 0, 0, 0), (90, .iload 4, 2, 0, 0, 0), (92, .imul, 1, 0, 0, 0), (93, .iadd, 1, 0, 0, 0), (94, .iconst 1, 1, 0, 0, 0),
  (95, .iadd, 1, 0, 0, 0), (96, .iaload, 1, 0, 0, 0), (97, .iload_n 3, 1, 0, 0, 0), (98, .if_icmp .ne 8, 3, 106, 0, 0), (101, .aload_n 0, 1, 0, 0, 0), (102, .iconst 3, 1, 0, 0, 0), (103, .invokevirtual 208, 3, 172, 2, 2), (106, .iinc 4 1, 3, 0, 0, 0),
  (109, .goto (-57), 3, 52, 0, 0), (112, .aload_n 0, 1, 0, 0, 0), (113, .getfield 202, 3, 12, 8, 0), (116, .ifCond .le 4, 3, 120, 0, 0), (119, .return_, 1, 0, 0, 0), (120, .aload_n 0, 1, 0, 0, 0), (121, .dup, 1, 0, 0, 0), (122, .getfield 199, 3, 12, 7, 0),
  (125, .iconst 1, 1, 0, 0, 0), (126, .iadd, 1, 0, 0, 0), (127, .putfield 199, 3, 12, 7, 0), (130, .sipush 173, 3, 0, 0, 0), (133, .iconst 3, 1, 0, 0, 0), (134, .iload_n 1, 1, 0, 0, 0), (135, .imul, 1, 0, 0, 0), (136, .iadd, 1, 0, 0, 0),
  (137, .istore 4, 2, 0, 0, 0), (139, .aload_n 0, 1, 0, 0, 0), (140, .getfield 105, 3, 12, 10, 2), (143, .iload 4, 2, 0, 0, 0), (145, .iload_n 2, 1, 0, 0, 0), (146, .iastore, 1, 0, 0, 0), (147, .aload_n 0, 1, 0, 0, 0), (148, .getfield 105, 3, 12, 10, 2),
  (151, .iload 4, 2, 0, 0, 0), (153, .iconst 1, 1, 0, 0, 0), (154, .iadd, 1, 0, 0, 0), (155, .iload_n 3, 1, 0, 0, 0), (156, .iastore, 1, 0, 0, 0), (157, .aload_n 0, 1, 0, 0, 0), (158, .getfield 105, 3, 12, 10, 2), (161, .iload 4, 2, 0, 0, 0),
  (163, .iconst 2, 1, 0, 0, 0), (164, .iadd, 1, 0, 0, 0), (165, .aload_n 0, 1, 0, 0, 0), (166, .iconst 0, 1, 0, 0, 0), (167, .aload_n 0, 1, 0, 0, 0), (168, .invokevirtual 287, 3, 185, 1, 2), (171, .invokevirtual 220, 3, 173, 3, 2), (174, .iastore, 1, 0, 0, 0),
  (175, .aload_n 0, 1, 0, 0, 0), (176, .getfield 105, 3, 12, 10, 2), (179, .bipush 107, 2, 0, 0, 0), (181, .dup2, 1, 0, 0, 0), (182, .iaload, 1, 0, 0, 0), (183, .iconst 1, 1, 0, 0, 0), (184, .iadd, 1, 0, 0, 0), (185, .iastore, 1, 0, 0, 0),
  (186, .return_, 1, 0, 0, 0)]
/-- SamePassersModel.readOnce()V -/
def mm_c190 : List (Nat × mm_E) := [(0, .aload_n 0, 1, 0, 0, 0), (1, .bipush 14, 2, 0, 0, 0), (3, .invokevirtual 211, 3, 171, 2, 2), (6, .ifCond .eq 7, 3, 13, 0, 0), (9, .iconst 2, 1, 0, 0, 0), (10, .goto 10, 3, 20, 0, 0), (13, .aload_n 0, 1, 0, 0, 0), (14, .bipush 15, 2, 0, 0, 0),
  (16, .iconst 2, 1, 0, 0, 0), (17, .invokevirtual 224, 3, 181, 3, 2), (20, .istore_n 1, 1, 0, 0, 0), (21, .iload_n 1, 1, 0, 0, 0), (22, .ifCond .ge 11, 3, 33, 0, 0), (25, .aload_n 0, 1, 0, 0, 0), (26, .iconst 1, 1, 0, 0, 0), (27, .invokevirtual 208, 3, 172, 2, 2),
  (30, .goto 35, 3, 65, 0, 0), (33, .iload_n 1, 1, 0, 0, 0), (34, .iconst 2, 1, 0, 0, 0), (35, .if_icmp .ne 13, 3, 48, 0, 0), (38, .aload_n 0, 1, 0, 0, 0), (39, .getfield 255, 3, 12, 20, 3), (42, .ifCond .eq 23, 3, 65, 0, 0), (45, .goto 15, 3, 60, 0, 0),
  (48, .aload_n 0, 1, 0, 0, 0), (49, .getfield 105, 3, 12, 10, 2), (52, .bipush 109, 2, 0, 0, 0), (54, .iload_n 1, 1, 0, 0, 0), (55, .iadd, 1, 0, 0, 0), (56, .iaload, 1, 0, 0, 0), (57, .ifCond .lt 8, 3, 65, 0, 0), (60, .aload_n 0, 1, 0, 0, 0),
  (61, .iconst 3, 1, 0, 0, 0), (62, .invokevirtual 208, 3, 172, 2, 2), (65, .aload_n 0, 1, 0, 0, 0), (66, .getfield 202, 3, 12, 8, 0), (69, .ifCond .le 4, 3, 73, 0, 0), (72, .return_, 1, 0, 0, 0), (73, .aload_n 0, 1, 0, 0, 0), (74, .dup, 1, 0, 0, 0),
  (75, .getfield 199, 3, 12, 7, 0), (78, .iconst 1, 1, 0, 0, 0), (79, .iadd, 1, 0, 0, 0), (80, .putfield 199, 3, 12, 7, 0), (83, .iload_n 1, 1, 0, 0, 0), (84, .iconst 2, 1, 0, 0, 0), (85, .if_icmp .ne 25, 3, 110, 0, 0), (88, .aload_n 0, 1, 0, 0, 0),
  (89, .iconst 1, 1, 0, 0, 0), (90, .putfield 255, 3, 12, 20, 3), (93, .aload_n 0, 1, 0, 0, 0), (94, .getfield 105, 3, 12, 10, 2), (97, .bipush 108, 2, 0, 0, 0), (99, .aload_n 0, 1, 0, 0, 0), (100, .iconst 0, 1, 0, 0, 0), (101, .bipush 99, 2, 0, 0, 0),
  (103, .invokevirtual 220, 3, 173, 3, 2), (106, .iastore, 1, 0, 0, 0), (107, .goto 41, 3, 148, 0, 0), (110, .aload_n 0, 1, 0, 0, 0), (111, .getfield 105, 3, 12, 10, 2), (114, .bipush 109, 2, 0, 0, 0), (116, .iload_n 1, 1, 0, 0, 0), (117, .iadd, 1, 0, 0, 0),
  (118, .aload_n 0, 1, 0, 0, 0), (119, .getfield 252, 3, 12, 13, 0), (122, .iastore, 1, 0, 0, 0), (123, .aload_n 0, 1, 0, 0, 0), (124, .iload_n 1, 1, 0, 0, 0), (125, .ifCond .ne 7, 3, 132, 0, 0), (128, .iconst 3, 1, 0, 0, 0), (129, .goto 5, 3, 134, 0, 0),
  (132, .bipush 12, 2, 0, 0, 0), (134, .putfield 294, 3, 12, 21, 0), (137, .aload_n 0, 1, 0, 0, 0), (138, .iconst 0, 1, 0, 0, 0), (139, .invokevirtual 297, 3, 191, 2, 2), (142, .aload_n 0, 1, 0, 0, 0), (143, .iconst 0, 1, 0, 0, 0), (144, .iconst 0, 1, 0, 0, 0),
  (145, .invokevirtual 300, 3, 196, 3, 2), (148, .return_, 1, 0, 0, 0)]
/-- SamePassersModel.all(I)V -/
def mm_c191 : List (Nat × mm_E) := [(0, .aload_n 0, 1, 0, 0, 0), (1, .iload_n 1, 1, 0, 0, 0), (2, .invokevirtual 304, 3, 192, 2, 2), (5, .aload_n 0, 1, 0, 0, 0), (6, .bipush 28, 2, 0, 0, 0), (8, .invokevirtual 211, 3, 171, 2, 2), (11, .ifCond .ne 12, 3, 23, 0, 0), (14, .aload_n 0, 1, 0, 0, 0),
  (15, .bipush 29, 2, 0, 0, 0), (17, .invokevirtual 211, 3, 171, 2, 2), (20, .ifCond .eq 44, 3, 64, 0, 0), (23, .aload_n 0, 1, 0, 0, 0), (24, .bipush 28, 2, 0, 0, 0), (26, .invokevirtual 211, 3, 171, 2, 2), (29, .istore_n 2, 1, 0, 0, 0), (30, .aload_n 0, 1, 0, 0, 0),
  (31, .dup, 1, 0, 0, 0), (32, .getfield 199, 3, 12, 7, 0), (35, .iconst 1, 1, 0, 0, 0), (36, .iadd, 1, 0, 0, 0), (37, .putfield 199, 3, 12, 7, 0), (40, .aload_n 0, 1, 0, 0, 0), (41, .iload_n 1, 1, 0, 0, 0), (42, .invokevirtual 304, 3, 192, 2, 2),
  (45, .aload_n 0, 1, 0, 0, 0), (46, .iload_n 2, 1, 0, 0, 0), (47, .ifCond .eq 8, 3, 55, 0, 0), (50, .bipush 9, 2, 0, 0, 0), (52, .goto 5, 3, 57, 0, 0), (55, .bipush 10, 2, 0, 0, 0), (57, .iconst 0, 1, 0, 0, 0), (58, .invokevirtual 300, 3, 196, 3, 2),
  (61, .goto (-56), 3, 5, 0, 0), (64, .return_, 1, 0, 0, 0)]
/-- SamePassersModel.test(I)V -/
def mm_c192 : List (Nat × mm_E) := [(0, .aload_n 0, 1, 0, 0, 0), (1, .iload_n 1, 1, 0, 0, 0), (2, .invokevirtual 307, 3, 193, 2, 2), (5, .aload_n 0, 1, 0, 0, 0), (6, .bipush 60, 2, 0, 0, 0), (8, .invokevirtual 205, 3, 176, 2, 2), (11, .istore_n 2, 1, 0, 0, 0), (12, .aload_n 0, 1, 0, 0, 0),
  (13, .bipush 60, 2, 0, 0, 0), (15, .invokevirtual 310, 3, 197, 2, 2), (18, .ifCond .ne 12, 3, 30, 0, 0), (21, .aload_n 0, 1, 0, 0, 0), (22, .bipush 61, 2, 0, 0, 0), (24, .invokevirtual 310, 3, 197, 2, 2), (27, .ifCond .eq 24, 3, 51, 0, 0), (30, .aload_n 0, 1, 0, 0, 0),
  (31, .iload_n 1, 1, 0, 0, 0), (32, .invokevirtual 307, 3, 193, 2, 2), (35, .aload_n 0, 1, 0, 0, 0), (36, .iload_n 2, 1, 0, 0, 0), (37, .ifCond .eq 8, 3, 45, 0, 0), (40, .bipush 7, 2, 0, 0, 0), (42, .goto 5, 3, 47, 0, 0), (45, .bipush 8, 2, 0, 0, 0),
  (47, .iconst 0, 1, 0, 0, 0), (48, .invokevirtual 300, 3, 196, 3, 2), (51, .return_, 1, 0, 0, 0)]
/-- SamePassersModel.sums(I)V -/
def mm_c193 : List (Nat × mm_E) := [(0, .aload_n 0, 1, 0, 0, 0), (1, .iload_n 1, 1, 0, 0, 0), (2, .invokevirtual 313, 3, 194, 2, 2), (5, .aload_n 0, 1, 0, 0, 0), (6, .bipush 43, 2, 0, 0, 0), (8, .invokevirtual 205, 3, 176, 2, 2), (11, .ifCond .ne 12, 3, 23, 0, 0), (14, .aload_n 0, 1, 0, 0, 0),
  (15, .bipush 45, 2, 0, 0, 0), (17, .invokevirtual 205, 3, 176, 2, 2), (20, .ifCond .eq 42, 3, 62, 0, 0), (23, .aload_n 0, 1, 0, 0, 0), (24, .bipush 43, 2, 0, 0, 0), (26, .invokevirtual 205, 3, 176, 2, 2), (29, .istore_n 2, 1, 0, 0, 0), (30, .aload_n 0, 1, 0, 0, 0),
  (31, .dup, 1, 0, 0, 0), (32, .getfield 199, 3, 12, 7, 0), (35, .iconst 1, 1, 0, 0, 0), (36, .iadd, 1, 0, 0, 0), (37, .putfield 199, 3, 12, 7, 0), (40, .aload_n 0, 1, 0, 0, 0), (41, .iload_n 1, 1, 0, 0, 0), (42, .invokevirtual 313, 3, 194, 2, 2),
  (45, .aload_n 0, 1, 0, 0, 0), (46, .iload_n 2, 1, 0, 0, 0), (47, .ifCond .eq 7, 3, 54, 0, 0), (50, .iconst 4, 1, 0, 0, 0), (51, .goto 4, 3, 55, 0, 0), (54, .iconst 5, 1, 0, 0, 0), (55, .iconst 0, 1, 0, 0, 0), (56, .invokevirtual 300, 3, 196, 3, 2),
  (59, .goto (-54), 3, 5, 0, 0), (62, .return_, 1, 0, 0, 0)]
/-- SamePassersModel.products(I)V -/
def mm_c194 : List (Nat × mm_E) := [(0, .aload_n 0, 1, 0, 0, 0), (1, .iload_n 1, 1, 0, 0, 0), (2, .invokevirtual 316, 3, 195, 2, 2), (5, .aload_n 0, 1, 0, 0, 0), (6, .bipush 42, 2, 0, 0, 0), (8, .invokevirtual 310, 3, 197, 2, 2), (11, .ifCond .eq 18, 3, 29, 0, 0), (14, .aload_n 0, 1, 0, 0, 0),
  (15, .iload_n 1, 1, 0, 0, 0), (16, .invokevirtual 316, 3, 195, 2, 2), (19, .aload_n 0, 1, 0, 0, 0), (20, .bipush 6, 2, 0, 0, 0), (22, .iconst 0, 1, 0, 0, 0), (23, .invokevirtual 300, 3, 196, 3, 2), (26, .goto (-21), 3, 5, 0, 0), (29, .return_, 1, 0, 0, 0)]
/-- SamePassersModel.takePart(I)V -/
def mm_c195 : List (Nat × mm_E) := [(0, .aload_n 0, 1, 0, 0, 0), (1, .getfield 202, 3, 12, 8, 0), (4, .ifCond .le 4, 3, 8, 0, 0), (7, .return_, 1, 0, 0, 0), (8, .aload_n 0, 1, 0, 0, 0), (9, .getfield 24, 3, 12, 4, 2), (12, .aload_n 0, 1, 0, 0, 0), (13, .getfield 199, 3, 12, 7, 0),
  (16, .iaload, 1, 0, 0, 0), (17, .iconst 2, 1, 0, 0, 0), (18, .if_icmp .ne 7, 3, 25, 0, 0), (21, .iconst 1, 1, 0, 0, 0), (22, .goto 4, 3, 26, 0, 0), (25, .iconst 0, 1, 0, 0, 0), (26, .istore_n 2, 1, 0, 0, 0), (27, .aload_n 0, 1, 0, 0, 0),
  (28, .bipush 30, 2, 0, 0, 0), (30, .iconst 4, 1, 0, 0, 0), (31, .invokevirtual 224, 3, 181, 3, 2), (34, .istore_n 3, 1, 0, 0, 0), (35, .iload_n 3, 1, 0, 0, 0), (36, .ifCond .lt 19, 3, 55, 0, 0), (39, .aload_n 0, 1, 0, 0, 0), (40, .getfield 294, 3, 12, 21, 0),
  (43, .iload_n 3, 1, 0, 0, 0), (44, .ishr, 1, 0, 0, 0), (45, .iconst 1, 1, 0, 0, 0), (46, .iand, 1, 0, 0, 0), (47, .iconst 1, 1, 0, 0, 0), (48, .if_icmp .ne 7, 3, 55, 0, 0), (51, .iload_n 3, 1, 0, 0, 0), (52, .goto 4, 3, 56, 0, 0),
  (55, .iconst (-1), 1, 0, 0, 0), (56, .istore_n 3, 1, 0, 0, 0), (57, .iload_n 3, 1, 0, 0, 0), (58, .ifCond .ge 33, 3, 91, 0, 0), (61, .iload_n 2, 1, 0, 0, 0), (62, .ifCond .ne 29, 3, 91, 0, 0), (65, .aload_n 0, 1, 0, 0, 0), (66, .bipush 40, 2, 0, 0, 0),
  (68, .invokevirtual 205, 3, 176, 2, 2), (71, .ifCond .ne 20, 3, 91, 0, 0), (74, .aload_n 0, 1, 0, 0, 0), (75, .bipush 27, 2, 0, 0, 0), (77, .invokevirtual 211, 3, 171, 2, 2), (80, .ifCond .ne 11, 3, 91, 0, 0), (83, .aload_n 0, 1, 0, 0, 0), (84, .iconst 1, 1, 0, 0, 0),
  (85, .invokevirtual 208, 3, 172, 2, 2), (88, .goto 13, 3, 101, 0, 0), (91, .iload_n 1, 1, 0, 0, 0), (92, .iconst 5, 1, 0, 0, 0), (93, .if_icmp .ne 8, 3, 101, 0, 0), (96, .aload_n 0, 1, 0, 0, 0), (97, .iconst 5, 1, 0, 0, 0), (98, .invokevirtual 208, 3, 172, 2, 2),
  (101, .aload_n 0, 1, 0, 0, 0), (102, .getfield 202, 3, 12, 8, 0), (105, .ifCond .le 4, 3, 109, 0, 0), (108, .return_, 1, 0, 0, 0), (109, .aload_n 0, 1, 0, 0, 0), (110, .bipush 27, 2, 0, 0, 0), (112, .invokevirtual 214, 3, 170, 2, 2), (115, .ifCond .eq 19, 3, 134, 0, 0),
  (118, .aload_n 0, 1, 0, 0, 0), (119, .iload_n 1, 1, 0, 0, 0), (120, .iconst 1, 1, 0, 0, 0), (121, .iadd, 1, 0, 0, 0), (122, .invokevirtual 316, 3, 195, 2, 2), (125, .aload_n 0, 1, 0, 0, 0), (126, .iconst 3, 1, 0, 0, 0), (127, .iconst 0, 1, 0, 0, 0),
  (128, .invokevirtual 300, 3, 196, 3, 2), (131, .goto 69, 3, 200, 0, 0), (134, .aload_n 0, 1, 0, 0, 0), (135, .bipush 40, 2, 0, 0, 0), (137, .invokevirtual 310, 3, 197, 2, 2), (140, .ifCond .eq 19, 3, 159, 0, 0), (143, .aload_n 0, 1, 0, 0, 0), (144, .iload_n 1, 1, 0, 0, 0),
  (145, .iconst 1, 1, 0, 0, 0), (146, .iadd, 1, 0, 0, 0), (147, .invokevirtual 297, 3, 191, 2, 2), (150, .aload_n 0, 1, 0, 0, 0), (151, .bipush 41, 2, 0, 0, 0), (153, .invokevirtual 263, 3, 175, 2, 2), (156, .goto 44, 3, 200, 0, 0), (159, .aload_n 0, 1, 0, 0, 0),
  (160, .iload_n 2, 1, 0, 0, 0), (161, .ifCond .eq 7, 3, 168, 0, 0), (164, .iconst 1, 1, 0, 0, 0), (165, .goto 4, 3, 169, 0, 0), (168, .iconst 2, 1, 0, 0, 0), (169, .iload_n 2, 1, 0, 0, 0), (170, .ifCond .eq 16, 3, 186, 0, 0), (173, .aload_n 0, 1, 0, 0, 0),
  (174, .getfield 30, 3, 12, 6, 2), (177, .aload_n 0, 1, 0, 0, 0), (178, .getfield 199, 3, 12, 7, 0), (181, .laload, 1, 0, 0, 0), (182, .l2i, 1, 0, 0, 0), (183, .goto 4, 3, 187, 0, 0), (186, .iload_n 3, 1, 0, 0, 0), (187, .invokevirtual 300, 3, 196, 3, 2),
  (190, .aload_n 0, 1, 0, 0, 0), (191, .dup, 1, 0, 0, 0), (192, .getfield 199, 3, 12, 7, 0), (195, .iconst 1, 1, 0, 0, 0), (196, .iadd, 1, 0, 0, 0), (197, .putfield 199, 3, 12, 7, 0), (200, .return_, 1, 0, 0, 0)]
/-- SamePassersModel.emit(II)V -/
def mm_c196 : List (Nat × mm_E) := [(0, .aload_n 0, 1, 0, 0, 0), (1, .getfield 108, 3, 12, 11, 2), (4, .sipush 1100, 3, 0, 0, 0), (7, .aload_n 0, 1, 0, 0, 0), (8, .getfield 252, 3, 12, 13, 0), (11, .iadd, 1, 0, 0, 0), (12, .iload_n 1, 1, 0, 0, 0), (13, .iastore, 1, 0, 0, 0),
  (14, .aload_n 0, 1, 0, 0, 0), (15, .getfield 111, 3, 12, 12, 2), (18, .sipush 1100, 3, 0, 0, 0), (21, .aload_n 0, 1, 0, 0, 0), (22, .getfield 252, 3, 12, 13, 0), (25, .iadd, 1, 0, 0, 0), (26, .iload_n 2, 1, 0, 0, 0), (27, .iastore, 1, 0, 0, 0),
  (28, .aload_n 0, 1, 0, 0, 0), (29, .dup, 1, 0, 0, 0), (30, .getfield 252, 3, 12, 13, 0), (33, .iconst 1, 1, 0, 0, 0), (34, .iadd, 1, 0, 0, 0), (35, .putfield 252, 3, 12, 13, 0), (38, .return_, 1, 0, 0, 0)]
/-- SamePassersModel.hasSign(I)Z -/
def mm_c197 : List (Nat × mm_E) := [(0, .aload_n 0, 1, 0, 0, 0), (1, .iload_n 1, 1, 0, 0, 0), (2, .invokevirtual 205, 3, 176, 2, 2), (5, .istore_n 2, 1, 0, 0, 0), (6, .aload_n 0, 1, 0, 0, 0), (7, .dup, 1, 0, 0, 0), (8, .getfield 199, 3, 12, 7, 0), (11, .iload_n 2, 1, 0, 0, 0),
  (12, .ifCond .eq 7, 3, 19, 0, 0), (15, .iconst 1, 1, 0, 0, 0), (16, .goto 4, 3, 20, 0, 0), (19, .iconst 0, 1, 0, 0, 0), (20, .iadd, 1, 0, 0, 0), (21, .putfield 199, 3, 12, 7, 0), (24, .iload_n 2, 1, 0, 0, 0), (25, .ireturn, 1, 0, 0, 0)]
/-- SamePassersModel.takes()I -/
def mm_c198 : List (Nat × mm_E) := [(0, .aload_n 0, 1, 0, 0, 0), (1, .iconst 0, 1, 0, 0, 0), (2, .putfield 1, 3, 12, 0, 0), (5, .aload_n 0, 1, 0, 0, 0), (6, .invokevirtual 249, 3, 164, 1, 2), (9, .iconst 0, 1, 0, 0, 0), (10, .istore_n 1, 1, 0, 0, 0), (11, .aload_n 0, 1, 0, 0, 0),
  (12, .getfield 202, 3, 12, 8, 0), (15, .ifCond .ne 159, 3, 174, 0, 0), (18, .aload_n 0, 1, 0, 0, 0), (19, .getfield 24, 3, 12, 4, 2), (22, .aload_n 0, 1, 0, 0, 0), (23, .getfield 199, 3, 12, 7, 0), (26, .iaload, 1, 0, 0, 0), (27, .ifCond .eq 147, 3, 174, 0, 0),
  (30, .aload_n 0, 1, 0, 0, 0), (31, .bipush 17, 2, 0, 0, 0), (33, .iconst 4, 1, 0, 0, 0), (34, .invokevirtual 224, 3, 181, 3, 2), (37, .istore_n 2, 1, 0, 0, 0), (38, .iload_n 2, 1, 0, 0, 0), (39, .ifCond .ge 11, 3, 50, 0, 0), (42, .aload_n 0, 1, 0, 0, 0),
  (43, .iconst 1, 1, 0, 0, 0), (44, .invokevirtual 208, 3, 172, 2, 2), (47, .goto 118, 3, 165, 0, 0), (50, .iload_n 1, 1, 0, 0, 0), (51, .bipush 30, 2, 0, 0, 0), (53, .if_icmp .ne 11, 3, 64, 0, 0), (56, .aload_n 0, 1, 0, 0, 0), (57, .iconst 5, 1, 0, 0, 0),
  (58, .invokevirtual 208, 3, 172, 2, 2), (61, .goto 104, 3, 165, 0, 0), (64, .aload_n 0, 1, 0, 0, 0), (65, .dup, 1, 0, 0, 0), (66, .getfield 199, 3, 12, 7, 0), (69, .iconst 1, 1, 0, 0, 0), (70, .iadd, 1, 0, 0, 0), (71, .putfield 199, 3, 12, 7, 0),
  (74, .aload_n 0, 1, 0, 0, 0), (75, .getfield 126, 3, 12, 22, 2), (78, .bipush 100, 2, 0, 0, 0), (80, .iconst 3, 1, 0, 0, 0), (81, .iload_n 1, 1, 0, 0, 0), (82, .imul, 1, 0, 0, 0), (83, .iadd, 1, 0, 0, 0), (84, .iload_n 2, 1, 0, 0, 0),
  (85, .iastore, 1, 0, 0, 0), (86, .aload_n 0, 1, 0, 0, 0), (87, .getfield 126, 3, 12, 22, 2), (90, .bipush 101, 2, 0, 0, 0), (92, .iconst 3, 1, 0, 0, 0), (93, .iload_n 1, 1, 0, 0, 0), (94, .imul, 1, 0, 0, 0), (95, .iadd, 1, 0, 0, 0),
  (96, .iload_n 2, 1, 0, 0, 0), (97, .iconst 3, 1, 0, 0, 0), (98, .if_icmp .ge 15, 3, 113, 0, 0), (101, .aload_n 0, 1, 0, 0, 0), (102, .iconst 0, 1, 0, 0, 0), (103, .bipush 20, 2, 0, 0, 0), (105, .bipush 8, 2, 0, 0, 0), (107, .invokevirtual 291, 3, 186, 4, 2),
  (110, .goto 4, 3, 114, 0, 0), (113, .iconst 0, 1, 0, 0, 0), (114, .iastore, 1, 0, 0, 0), (115, .aload_n 0, 1, 0, 0, 0), (116, .getfield 126, 3, 12, 22, 2), (119, .bipush 102, 2, 0, 0, 0), (121, .iconst 3, 1, 0, 0, 0), (122, .iload_n 1, 1, 0, 0, 0),
  (123, .imul, 1, 0, 0, 0), (124, .iadd, 1, 0, 0, 0), (125, .iload_n 2, 1, 0, 0, 0), (126, .ifCond .ne 19, 3, 145, 0, 0), (129, .aload_n 0, 1, 0, 0, 0), (130, .iconst 0, 1, 0, 0, 0), (131, .aload_n 0, 1, 0, 0, 0), (132, .getfield 105, 3, 12, 10, 2),
  (135, .iconst 0, 1, 0, 0, 0), (136, .iaload, 1, 0, 0, 0), (137, .iconst 1, 1, 0, 0, 0), (138, .isub, 1, 0, 0, 0), (139, .invokevirtual 220, 3, 173, 3, 2), (142, .goto 19, 3, 161, 0, 0), (145, .iload_n 2, 1, 0, 0, 0), (146, .iconst 2, 1, 0, 0, 0),
  (147, .if_icmp .ne 13, 3, 160, 0, 0), (150, .aload_n 0, 1, 0, 0, 0), (151, .iconst 0, 1, 0, 0, 0), (152, .bipush 99, 2, 0, 0, 0), (154, .invokevirtual 220, 3, 173, 3, 2), (157, .goto 4, 3, 161, 0, 0), (160, .iconst 0, 1, 0, 0, 0), (161, .iastore, 1, 0, 0, 0),
  (162, .iinc 1 1, 3, 0, 0, 0), (165, .aload_n 0, 1, 0, 0, 0), (166, .bipush 59, 2, 0, 0, 0), (168, .invokevirtual 263, 3, 175, 2, 2), (171, .goto (-160), 3, 11, 0, 0), (174, .aload_n 0, 1, 0, 0, 0), (175, .getfield 202, 3, 12, 8, 0), (178, .ifCond .le 8, 3, 186, 0, 0),
  (181, .aload_n 0, 1, 0, 0, 0), (182, .getfield 202, 3, 12, 8, 0), (185, .ireturn, 1, 0, 0, 0), (186, .aload_n 0, 1, 0, 0, 0), (187, .getfield 126, 3, 12, 22, 2), (190, .iconst 0, 1, 0, 0, 0), (191, .iload_n 1, 1, 0, 0, 0), (192, .iastore, 1, 0, 0, 0),
  (193, .iconst 0, 1, 0, 0, 0), (194, .istore_n 2, 1, 0, 0, 0), (195, .iload_n 2, 1, 0, 0, 0), (196, .iconst 3, 1, 0, 0, 0), (197, .iload_n 1, 1, 0, 0, 0), (198, .imul, 1, 0, 0, 0), (199, .if_icmp .ge 26, 3, 225, 0, 0), (202, .aload_n 0, 1, 0, 0, 0),
  (203, .getfield 126, 3, 12, 22, 2), (206, .iconst 1, 1, 0, 0, 0), (207, .iload_n 2, 1, 0, 0, 0), (208, .iadd, 1, 0, 0, 0), (209, .aload_n 0, 1, 0, 0, 0), (210, .getfield 126, 3, 12, 22, 2), (213, .bipush 100, 2, 0, 0, 0), (215, .iload_n 2, 1, 0, 0, 0),
  (216, .iadd, 1, 0, 0, 0), (217, .iaload, 1, 0, 0, 0), (218, .iastore, 1, 0, 0, 0), (219, .iinc 2 1, 3, 0, 0, 0), (222, .goto (-27), 3, 195, 0, 0), (225, .iconst 0, 1, 0, 0, 0), (226, .ireturn, 1, 0, 0, 0)]
/-- SamePassersModel.walker(II)I -/
def mm_c199 : List (Nat × mm_E) := [(0, .aload_n 0, 1, 0, 0, 0), (1, .iconst 0, 1, 0, 0, 0), (2, .putfield 1, 3, 12, 0, 0), (5, .aload_n 0, 1, 0, 0, 0), (6, .iload_n 1, 1, 0, 0, 0), (7, .invokevirtual 376, 3, 200, 2, 2), (10, .ifCond .eq 13, 3, 23, 0, 0), (13, .iload_n 2, 1, 0, 0, 0),
  (14, .iconst 0, 1, 0, 0, 0), (15, .bipush 9, 2, 0, 0, 0), (17, .invokestatic 241, 3, 188, 3, 0), (20, .ifCond .ne 5, 3, 25, 0, 0), (23, .iconst (-1), 1, 0, 0, 0), (24, .ireturn, 1, 0, 0, 0), (25, .iload_n 2, 1, 0, 0, 0), (26, .tableswitch 99 2 9 #[46, 55, 65, 99, 99, 77, 87, 93], 46, 0, 0, 0),
  (72, .aload_n 0, 1, 0, 0, 0), (73, .getfield 135, 3, 12, 25, 2), (76, .iconst 1, 1, 0, 0, 0), (77, .iload_n 1, 1, 0, 0, 0), (78, .iadd, 1, 0, 0, 0), (79, .iaload, 1, 0, 0, 0), (80, .ireturn, 1, 0, 0, 0), (81, .aload_n 0, 1, 0, 0, 0),
  (82, .getfield 135, 3, 12, 25, 2), (85, .bipush 9, 2, 0, 0, 0), (87, .iload_n 1, 1, 0, 0, 0), (88, .iadd, 1, 0, 0, 0), (89, .iaload, 1, 0, 0, 0), (90, .ireturn, 1, 0, 0, 0), (91, .aload_n 0, 1, 0, 0, 0), (92, .iload_n 1, 1, 0, 0, 0),
  (93, .aload_n 0, 1, 0, 0, 0), (94, .getfield 135, 3, 12, 25, 2), (97, .iconst 0, 1, 0, 0, 0), (98, .iaload, 1, 0, 0, 0), (99, .invokevirtual 353, 3, 202, 3, 2), (102, .ireturn, 1, 0, 0, 0), (103, .aload_n 0, 1, 0, 0, 0), (104, .getfield 135, 3, 12, 25, 2),
  (107, .bipush 17, 2, 0, 0, 0), (109, .iload_n 1, 1, 0, 0, 0), (110, .iadd, 1, 0, 0, 0), (111, .iaload, 1, 0, 0, 0), (112, .ireturn, 1, 0, 0, 0), (113, .aload_n 0, 1, 0, 0, 0), (114, .iload_n 1, 1, 0, 0, 0), (115, .invokevirtual 373, 3, 205, 2, 2),
  (118, .ireturn, 1, 0, 0, 0), (119, .aload_n 0, 1, 0, 0, 0), (120, .iload_n 1, 1, 0, 0, 0), (121, .invokevirtual 379, 3, 213, 2, 2), (124, .ireturn, 1, 0, 0, 0), (125, .aload_n 0, 1, 0, 0, 0), (126, .iload_n 1, 1, 0, 0, 0), (127, .iload_n 2, 1, 0, 0, 0),
  (128, .invokevirtual 322, 3, 162, 3, 2), (131, .ireturn, 1, 0, 0, 0)]
/-- SamePassersModel.isWalker(I)Z -/
def mm_c200 : List (Nat × mm_E) := [(0, .iload_n 1, 1, 0, 0, 0), (1, .ifCond .lt 15, 3, 16, 0, 0), (4, .iload_n 1, 1, 0, 0, 0), (5, .aload_n 0, 1, 0, 0, 0), (6, .invokevirtual 335, 3, 201, 1, 2), (9, .if_icmp .ge 7, 3, 16, 0, 0), (12, .iconst 1, 1, 0, 0, 0), (13, .goto 4, 3, 17, 0, 0),
  (16, .iconst 0, 1, 0, 0, 0), (17, .ireturn, 1, 0, 0, 0)]
/-- SamePassersModel.walkers()I -/
def mm_c201 : List (Nat × mm_E) := [(0, .aload_n 0, 1, 0, 0, 0), (1, .getfield 105, 3, 12, 10, 2), (4, .bipush 6, 2, 0, 0, 0), (6, .iaload, 1, 0, 0, 0), (7, .ireturn, 1, 0, 0, 0)]
/-- SamePassersModel.tempoOf(II)I -/
def mm_c202 : List (Nat × mm_E) := [(0, .aload_n 0, 1, 0, 0, 0), (1, .getfield 129, 3, 12, 23, 2), (4, .iconst 0, 1, 0, 0, 0), (5, .aload_n 0, 1, 0, 0, 0), (6, .iload_n 1, 1, 0, 0, 0), (7, .iconst 4, 1, 0, 0, 0), (8, .invokevirtual 322, 3, 162, 3, 2), (11, .iastore, 1, 0, 0, 0),
  (12, .aload_n 0, 1, 0, 0, 0), (13, .getfield 129, 3, 12, 23, 2), (16, .iconst 1, 1, 0, 0, 0), (17, .iload_n 2, 1, 0, 0, 0), (18, .iastore, 1, 0, 0, 0), (19, .aload_n 0, 1, 0, 0, 0), (20, .getfield 105, 3, 12, 10, 2), (23, .bipush 9, 2, 0, 0, 0),
  (25, .iaload, 1, 0, 0, 0), (26, .ifCond .ge 12, 3, 38, 0, 0), (29, .aload_n 0, 1, 0, 0, 0), (30, .getfield 129, 3, 12, 23, 2), (33, .iconst 0, 1, 0, 0, 0), (34, .iaload, 1, 0, 0, 0), (35, .goto 14, 3, 49, 0, 0), (38, .aload_n 0, 1, 0, 0, 0),
  (39, .aload_n 0, 1, 0, 0, 0), (40, .getfield 105, 3, 12, 10, 2), (43, .bipush 9, 2, 0, 0, 0), (45, .iaload, 1, 0, 0, 0), (46, .invokevirtual 341, 3, 203, 2, 2), (49, .istore_n 3, 1, 0, 0, 0), (50, .iload_n 3, 1, 0, 0, 0), (51, .iconst 1, 1, 0, 0, 0),
  (52, .if_icmp .ge 7, 3, 59, 0, 0), (55, .iconst 1, 1, 0, 0, 0), (56, .goto 15, 3, 71, 0, 0), (59, .iload_n 3, 1, 0, 0, 0), (60, .bipush 99, 2, 0, 0, 0), (62, .if_icmp .le 8, 3, 70, 0, 0), (65, .bipush 99, 2, 0, 0, 0), (67, .goto 4, 3, 71, 0, 0),
  (70, .iload_n 3, 1, 0, 0, 0), (71, .ireturn, 1, 0, 0, 0)]
/-- SamePassersModel.worthAt(I)I -/
def mm_c203 : List (Nat × mm_E) := [(0, .iconst 0, 1, 0, 0, 0), (1, .istore_n 2, 1, 0, 0, 0), (2, .iload_n 1, 1, 0, 0, 0), (3, .istore_n 3, 1, 0, 0, 0), (4, .aload_n 0, 1, 0, 0, 0), (5, .getfield 108, 3, 12, 11, 2), (8, .iload_n 3, 1, 0, 0, 0), (9, .iaload, 1, 0, 0, 0),
  (10, .ifCond .eq 130, 3, 140, 0, 0), (13, .aload_n 0, 1, 0, 0, 0), (14, .getfield 108, 3, 12, 11, 2), (17, .iload_n 3, 1, 0, 0, 0), (18, .iaload, 1, 0, 0, 0), (19, .istore 4, 2, 0, 0, 0), (21, .iload 4, 2, 0, 0, 0), (23, .iconst 1, 1, 0, 0, 0),
  (24, .if_icmp .eq 9, 3, 33, 0, 0), (27, .iload 4, 2, 0, 0, 0), (29, .iconst 2, 1, 0, 0, 0), (30, .if_icmp .ne 41, 3, 71, 0, 0), (33, .aload_n 0, 1, 0, 0, 0), (34, .getfield 132, 3, 12, 24, 2), (37, .iload_n 2, 1, 0, 0, 0), (38, .iload 4, 2, 0, 0, 0),
  (40, .iconst 1, 1, 0, 0, 0), (41, .if_icmp .ne 12, 3, 53, 0, 0), (44, .aload_n 0, 1, 0, 0, 0), (45, .getfield 111, 3, 12, 12, 2), (48, .iload_n 3, 1, 0, 0, 0), (49, .iaload, 1, 0, 0, 0), (50, .goto 14, 3, 64, 0, 0), (53, .aload_n 0, 1, 0, 0, 0),
  (54, .getfield 129, 3, 12, 23, 2), (57, .aload_n 0, 1, 0, 0, 0), (58, .getfield 111, 3, 12, 12, 2), (61, .iload_n 3, 1, 0, 0, 0), (62, .iaload, 1, 0, 0, 0), (63, .iaload, 1, 0, 0, 0), (64, .iastore, 1, 0, 0, 0), (65, .iinc 2 1, 3, 0, 0, 0),
  (68, .goto 66, 3, 134, 0, 0), (71, .iload 4, 2, 0, 0, 0), (73, .iconst 3, 1, 0, 0, 0), (74, .if_icmp .ne 30, 3, 104, 0, 0), (77, .aload_n 0, 1, 0, 0, 0), (78, .getfield 132, 3, 12, 24, 2), (81, .iload_n 2, 1, 0, 0, 0), (82, .iconst 1, 1, 0, 0, 0),
  (83, .isub, 1, 0, 0, 0), (84, .aload_n 0, 1, 0, 0, 0), (85, .getfield 132, 3, 12, 24, 2), (88, .iload_n 2, 1, 0, 0, 0), (89, .iconst 1, 1, 0, 0, 0), (90, .isub, 1, 0, 0, 0), (91, .iaload, 1, 0, 0, 0), (92, .ifCond .ne 7, 3, 99, 0, 0),
  (95, .iconst 1, 1, 0, 0, 0), (96, .goto 4, 3, 100, 0, 0), (99, .iconst 0, 1, 0, 0, 0), (100, .iastore, 1, 0, 0, 0), (101, .goto 33, 3, 134, 0, 0), (104, .iinc 2 (-1), 3, 0, 0, 0), (107, .aload_n 0, 1, 0, 0, 0), (108, .getfield 132, 3, 12, 24, 2),
  (111, .iload_n 2, 1, 0, 0, 0), (112, .iconst 1, 1, 0, 0, 0), (113, .isub, 1, 0, 0, 0), (114, .iload 4, 2, 0, 0, 0), (116, .aload_n 0, 1, 0, 0, 0), (117, .getfield 132, 3, 12, 24, 2), (120, .iload_n 2, 1, 0, 0, 0), (121, .iconst 1, 1, 0, 0, 0),
  (122, .isub, 1, 0, 0, 0), (123, .iaload, 1, 0, 0, 0), (124, .aload_n 0, 1, 0, 0, 0), (125, .getfield 132, 3, 12, 24, 2), (128, .iload_n 2, 1, 0, 0, 0), (129, .iaload, 1, 0, 0, 0), (130, .invokestatic 319, 3, 204, 3, 0), (133, .iastore, 1, 0, 0, 0),
  (134, .iinc 3 1, 3, 0, 0, 0), (137, .goto (-133), 3, 4, 0, 0), (140, .aload_n 0, 1, 0, 0, 0), (141, .getfield 132, 3, 12, 24, 2), (144, .iconst 0, 1, 0, 0, 0), (145, .iaload, 1, 0, 0, 0), (146, .ireturn, 1, 0, 0, 0)]
/-- SamePassersModel.both(III)I -/
def mm_c204 : List (Nat × mm_E) := [(0, .iload_n 0, 1, 0, 0, 0), (1, .tableswitch 87 4 9 #[39, 43, 47, 51, 62, 73], 39, 0, 0, 0), (40, .iload_n 1, 1, 0, 0, 0), (41, .iload_n 2, 1, 0, 0, 0), (42, .iadd, 1, 0, 0, 0), (43, .ireturn, 1, 0, 0, 0), (44, .iload_n 1, 1, 0, 0, 0), (45, .iload_n 2, 1, 0, 0, 0),
  (46, .isub, 1, 0, 0, 0), (47, .ireturn, 1, 0, 0, 0), (48, .iload_n 1, 1, 0, 0, 0), (49, .iload_n 2, 1, 0, 0, 0), (50, .imul, 1, 0, 0, 0), (51, .ireturn, 1, 0, 0, 0), (52, .iload_n 1, 1, 0, 0, 0), (53, .iload_n 2, 1, 0, 0, 0),
  (54, .if_icmp .ge 7, 3, 61, 0, 0), (57, .iconst 1, 1, 0, 0, 0), (58, .goto 4, 3, 62, 0, 0), (61, .iconst 0, 1, 0, 0, 0), (62, .ireturn, 1, 0, 0, 0), (63, .iload_n 1, 1, 0, 0, 0), (64, .iload_n 2, 1, 0, 0, 0), (65, .if_icmp .ne 7, 3, 72, 0, 0),
  (68, .iconst 1, 1, 0, 0, 0), (69, .goto 4, 3, 73, 0, 0), (72, .iconst 0, 1, 0, 0, 0), (73, .ireturn, 1, 0, 0, 0), (74, .iload_n 1, 1, 0, 0, 0), (75, .ifCond .eq 11, 3, 86, 0, 0), (78, .iload_n 2, 1, 0, 0, 0), (79, .ifCond .eq 7, 3, 86, 0, 0),
  (82, .iconst 1, 1, 0, 0, 0), (83, .goto 4, 3, 87, 0, 0), (86, .iconst 0, 1, 0, 0, 0), (87, .ireturn, 1, 0, 0, 0), (88, .iload_n 1, 1, 0, 0, 0), (89, .ifCond .ne 7, 3, 96, 0, 0), (92, .iload_n 2, 1, 0, 0, 0), (93, .ifCond .eq 7, 3, 100, 0, 0),
  (96, .iconst 1, 1, 0, 0, 0), (97, .goto 4, 3, 101, 0, 0), (100, .iconst 0, 1, 0, 0, 0), (101, .ireturn, 1, 0, 0, 0)]
/-- SamePassersModel.passesOf(I)I -/
def mm_c205 : List (Nat × mm_E) := [(0, .iconst 0, 1, 0, 0, 0), (1, .istore_n 2, 1, 0, 0, 0), (2, .iconst 0, 1, 0, 0, 0), (3, .istore_n 3, 1, 0, 0, 0), (4, .aload_n 0, 1, 0, 0, 0), (5, .iload_n 1, 1, 0, 0, 0), (6, .aload_n 0, 1, 0, 0, 0), (7, .getfield 135, 3, 12, 25, 2),
  (10, .iconst 0, 1, 0, 0, 0), (11, .iaload, 1, 0, 0, 0), (12, .invokevirtual 353, 3, 202, 3, 2), (15, .istore 4, 2, 0, 0, 0), (17, .iconst 0, 1, 0, 0, 0), (18, .istore 5, 2, 0, 0, 0), (20, .iload 5, 2, 0, 0, 0), (22, .sipush 600, 3, 0, 0, 0),
  (25, .if_icmp .gt 76, 3, 101, 0, 0), (28, .aload_n 0, 1, 0, 0, 0), (29, .iload_n 1, 1, 0, 0, 0), (30, .aload_n 0, 1, 0, 0, 0), (31, .iload_n 1, 1, 0, 0, 0), (32, .aload_n 0, 1, 0, 0, 0), (33, .getfield 135, 3, 12, 25, 2), (36, .iconst 1, 1, 0, 0, 0),
  (37, .iload_n 1, 1, 0, 0, 0), (38, .iadd, 1, 0, 0, 0), (39, .iaload, 1, 0, 0, 0), (40, .aload_n 0, 1, 0, 0, 0), (41, .getfield 135, 3, 12, 25, 2), (44, .bipush 9, 2, 0, 0, 0), (46, .iload_n 1, 1, 0, 0, 0), (47, .iadd, 1, 0, 0, 0),
  (48, .iaload, 1, 0, 0, 0), (49, .aload_n 0, 1, 0, 0, 0), (50, .iconst 0, 1, 0, 0, 0), (51, .iload_n 1, 1, 0, 0, 0), (52, .invokevirtual 367, 3, 206, 3, 2), (55, .iload 4, 2, 0, 0, 0), (57, .iload 5, 2, 0, 0, 0), (59, .invokevirtual 356, 3, 207, 7, 2),
  (62, .invokevirtual 370, 3, 211, 3, 2), (65, .ifCond .le 7, 3, 72, 0, 0), (68, .iconst 1, 1, 0, 0, 0), (69, .goto 4, 3, 73, 0, 0), (72, .iconst 0, 1, 0, 0, 0), (73, .istore 6, 2, 0, 0, 0), (75, .iload_n 2, 1, 0, 0, 0), (76, .iload 6, 2, 0, 0, 0),
  (78, .ifCond .eq 11, 3, 89, 0, 0), (81, .iload_n 3, 1, 0, 0, 0), (82, .ifCond .ne 7, 3, 89, 0, 0), (85, .iconst 1, 1, 0, 0, 0), (86, .goto 4, 3, 90, 0, 0), (89, .iconst 0, 1, 0, 0, 0), (90, .iadd, 1, 0, 0, 0), (91, .istore_n 2, 1, 0, 0, 0),
  (92, .iload 6, 2, 0, 0, 0), (94, .istore_n 3, 1, 0, 0, 0), (95, .iinc 5 1, 3, 0, 0, 0), (98, .goto (-78), 3, 20, 0, 0), (101, .iload_n 2, 1, 0, 0, 0), (102, .ireturn, 1, 0, 0, 0)]
/-- SamePassersModel.behindOf(II)I -/
def mm_c206 : List (Nat × mm_E) := [(0, .aload_n 0, 1, 0, 0, 0), (1, .iload_n 2, 1, 0, 0, 0), (2, .iconst 5, 1, 0, 0, 0), (3, .invokevirtual 322, 3, 162, 3, 2), (6, .aload_n 0, 1, 0, 0, 0), (7, .getfield 135, 3, 12, 25, 2), (10, .iload_n 1, 1, 0, 0, 0), (11, .bipush 17, 2, 0, 0, 0),
  (13, .iadd, 1, 0, 0, 0), (14, .iload_n 2, 1, 0, 0, 0), (15, .iadd, 1, 0, 0, 0), (16, .iaload, 1, 0, 0, 0), (17, .iadd, 1, 0, 0, 0), (18, .ireturn, 1, 0, 0, 0)]
/-- SamePassersModel.placeOf(IIIIII)I -/
def mm_c207 : List (Nat × mm_E) := [(0, .aload_n 0, 1, 0, 0, 0), (1, .invokevirtual 347, 3, 208, 1, 2), (4, .istore 7, 2, 0, 0, 0), (6, .iload_n 3, 1, 0, 0, 0), (7, .iconst 1, 1, 0, 0, 0), (8, .if_icmp .ne 7, 3, 15, 0, 0), (11, .iload_n 2, 1, 0, 0, 0), (12, .goto 9, 3, 21, 0, 0),
  (15, .iload 7, 2, 0, 0, 0), (17, .iconst 1, 1, 0, 0, 0), (18, .isub, 1, 0, 0, 0), (19, .iload_n 2, 1, 0, 0, 0), (20, .isub, 1, 0, 0, 0), (21, .istore 8, 2, 0, 0, 0), (23, .iload 6, 2, 0, 0, 0), (25, .aload_n 0, 1, 0, 0, 0),
  (26, .iload_n 1, 1, 0, 0, 0), (27, .invokevirtual 350, 3, 209, 2, 2), (30, .isub, 1, 0, 0, 0), (31, .iload 4, 2, 0, 0, 0), (33, .isub, 1, 0, 0, 0), (34, .istore 9, 2, 0, 0, 0), (36, .aload_n 0, 1, 0, 0, 0), (37, .iload_n 1, 1, 0, 0, 0),
  (38, .iconst 0, 1, 0, 0, 0), (39, .invokevirtual 322, 3, 162, 3, 2), (42, .istore 10, 2, 0, 0, 0), (44, .iload 9, 2, 0, 0, 0), (46, .ifCond .ge 10, 3, 56, 0, 0), (49, .iload 8, 2, 0, 0, 0), (51, .istore 11, 2, 0, 0, 0), (53, .goto 146, 3, 199, 0, 0),
  (56, .iload 10, 2, 0, 0, 0), (58, .iconst 2, 1, 0, 0, 0), (59, .if_icmp .ne 44, 3, 103, 0, 0), (62, .iload 8, 2, 0, 0, 0), (64, .iload 9, 2, 0, 0, 0), (66, .iload 5, 2, 0, 0, 0), (68, .idiv, 1, 0, 0, 0), (69, .iadd, 1, 0, 0, 0),
  (70, .iconst 2, 1, 0, 0, 0), (71, .iload 7, 2, 0, 0, 0), (73, .imul, 1, 0, 0, 0), (74, .irem, 1, 0, 0, 0), (75, .istore 12, 2, 0, 0, 0), (77, .iload 12, 2, 0, 0, 0), (79, .iload 7, 2, 0, 0, 0), (81, .if_icmp .ge 8, 3, 89, 0, 0),
  (84, .iload 12, 2, 0, 0, 0), (86, .goto 12, 3, 98, 0, 0), (89, .iconst 2, 1, 0, 0, 0), (90, .iload 7, 2, 0, 0, 0), (92, .imul, 1, 0, 0, 0), (93, .iconst 1, 1, 0, 0, 0), (94, .isub, 1, 0, 0, 0), (95, .iload 12, 2, 0, 0, 0),
  (97, .isub, 1, 0, 0, 0), (98, .istore 11, 2, 0, 0, 0), (100, .goto 99, 3, 199, 0, 0), (103, .iload 9, 2, 0, 0, 0), (105, .iload 5, 2, 0, 0, 0), (107, .iload 7, 2, 0, 0, 0), (109, .iload 8, 2, 0, 0, 0), (111, .isub, 1, 0, 0, 0),
  (112, .imul, 1, 0, 0, 0), (113, .if_icmp .ge 16, 3, 129, 0, 0), (116, .iload 8, 2, 0, 0, 0), (118, .iload 9, 2, 0, 0, 0), (120, .iload 5, 2, 0, 0, 0), (122, .idiv, 1, 0, 0, 0), (123, .iadd, 1, 0, 0, 0), (124, .istore 11, 2, 0, 0, 0),
  (126, .goto 73, 3, 199, 0, 0), (129, .iload 10, 2, 0, 0, 0), (131, .iconst 1, 1, 0, 0, 0), (132, .if_icmp .ne 9, 3, 141, 0, 0), (135, .iconst (-1), 1, 0, 0, 0), (136, .istore 11, 2, 0, 0, 0), (138, .goto 61, 3, 199, 0, 0), (141, .iload 9, 2, 0, 0, 0),
  (143, .iload 5, 2, 0, 0, 0), (145, .iload 7, 2, 0, 0, 0), (147, .iload 8, 2, 0, 0, 0), (149, .isub, 1, 0, 0, 0), (150, .imul, 1, 0, 0, 0), (151, .isub, 1, 0, 0, 0), (152, .iload 5, 2, 0, 0, 0), (154, .iload 7, 2, 0, 0, 0),
  (156, .imul, 1, 0, 0, 0), (157, .aload_n 0, 1, 0, 0, 0), (158, .getfield 105, 3, 12, 10, 2), (161, .bipush 8, 2, 0, 0, 0), (163, .iaload, 1, 0, 0, 0), (164, .iadd, 1, 0, 0, 0), (165, .irem, 1, 0, 0, 0), (166, .istore 12, 2, 0, 0, 0),
  (168, .iload 12, 2, 0, 0, 0), (170, .aload_n 0, 1, 0, 0, 0), (171, .getfield 105, 3, 12, 10, 2), (174, .bipush 8, 2, 0, 0, 0), (176, .iaload, 1, 0, 0, 0), (177, .if_icmp .ge 7, 3, 184, 0, 0), (180, .iconst (-1), 1, 0, 0, 0), (181, .goto 16, 3, 197, 0, 0),
  (184, .iload 12, 2, 0, 0, 0), (186, .aload_n 0, 1, 0, 0, 0), (187, .getfield 105, 3, 12, 10, 2), (190, .bipush 8, 2, 0, 0, 0), (192, .iaload, 1, 0, 0, 0), (193, .isub, 1, 0, 0, 0), (194, .iload 5, 2, 0, 0, 0), (196, .idiv, 1, 0, 0, 0),
  (197, .istore 11, 2, 0, 0, 0), (199, .iload 11, 2, 0, 0, 0), (201, .ifCond .ge 7, 3, 208, 0, 0), (204, .iconst (-1), 1, 0, 0, 0), (205, .goto 20, 3, 225, 0, 0), (208, .iload_n 3, 1, 0, 0, 0), (209, .iconst 1, 1, 0, 0, 0), (210, .if_icmp .ne 8, 3, 218, 0, 0),
  (213, .iload 11, 2, 0, 0, 0), (215, .goto 10, 3, 225, 0, 0), (218, .iload 7, 2, 0, 0, 0), (220, .iconst 1, 1, 0, 0, 0), (221, .isub, 1, 0, 0, 0), (222, .iload 11, 2, 0, 0, 0), (224, .isub, 1, 0, 0, 0), (225, .ireturn, 1, 0, 0, 0)]
/-- SamePassersModel.cells()I -/
def mm_c208 : List (Nat × mm_E) := [(0, .aload_n 0, 1, 0, 0, 0), (1, .getfield 105, 3, 12, 10, 2), (4, .iconst 0, 1, 0, 0, 0), (5, .iaload, 1, 0, 0, 0), (6, .ireturn, 1, 0, 0, 0)]
/-- SamePassersModel.cueOf(I)I -/
def mm_c209 : List (Nat × mm_E) := [(0, .aload_n 0, 1, 0, 0, 0), (1, .iload_n 1, 1, 0, 0, 0), (2, .bipush 6, 2, 0, 0, 0), (4, .invokevirtual 322, 3, 162, 3, 2), (7, .istore_n 2, 1, 0, 0, 0), (8, .iload_n 2, 1, 0, 0, 0), (9, .ifCond .lt 13, 3, 22, 0, 0), (12, .aload_n 0, 1, 0, 0, 0),
  (13, .iload_n 1, 1, 0, 0, 0), (14, .iconst 0, 1, 0, 0, 0), (15, .invokevirtual 322, 3, 162, 3, 2), (18, .iconst 3, 1, 0, 0, 0), (19, .if_icmp .ne 7, 3, 26, 0, 0), (22, .iconst 0, 1, 0, 0, 0), (23, .goto 8, 3, 31, 0, 0), (26, .aload_n 0, 1, 0, 0, 0),
  (27, .iload_n 2, 1, 0, 0, 0), (28, .invokevirtual 344, 3, 210, 2, 2), (31, .ireturn, 1, 0, 0, 0)]
/-- SamePassersModel.tenthOf(I)I -/
def mm_c210 : List (Nat × mm_E) := [(0, .aload_n 0, 1, 0, 0, 0), (1, .getfield 105, 3, 12, 10, 2), (4, .bipush 11, 2, 0, 0, 0), (6, .iload_n 1, 1, 0, 0, 0), (7, .iadd, 1, 0, 0, 0), (8, .iaload, 1, 0, 0, 0), (9, .ireturn, 1, 0, 0, 0)]
/-- SamePassersModel.sightOf(II)I -/
def mm_c211 : List (Nat × mm_E) := [(0, .iload_n 2, 1, 0, 0, 0), (1, .ifCond .lt 11, 3, 12, 0, 0), (4, .aload_n 0, 1, 0, 0, 0), (5, .iload_n 2, 1, 0, 0, 0), (6, .invokevirtual 364, 3, 212, 2, 2), (9, .ifCond .ne 7, 3, 16, 0, 0), (12, .iconst 0, 1, 0, 0, 0), (13, .goto 23, 3, 36, 0, 0),
  (16, .aload_n 0, 1, 0, 0, 0), (17, .iload_n 1, 1, 0, 0, 0), (18, .iconst 1, 1, 0, 0, 0), (19, .invokevirtual 322, 3, 162, 3, 2), (22, .aload_n 0, 1, 0, 0, 0), (23, .getfield 105, 3, 12, 10, 2), (26, .iconst 4, 1, 0, 0, 0), (27, .iaload, 1, 0, 0, 0),
  (28, .if_icmp .ge 7, 3, 35, 0, 0), (31, .iconst 2, 1, 0, 0, 0), (32, .goto 4, 3, 36, 0, 0), (35, .iconst 1, 1, 0, 0, 0), (36, .ireturn, 1, 0, 0, 0)]
/-- SamePassersModel.isFramed(I)Z -/
def mm_c212 : List (Nat × mm_E) := [(0, .iload_n 1, 1, 0, 0, 0), (1, .aload_n 0, 1, 0, 0, 0), (2, .getfield 105, 3, 12, 10, 2), (5, .iconst 2, 1, 0, 0, 0), (6, .iaload, 1, 0, 0, 0), (7, .if_icmp .lt 17, 3, 24, 0, 0), (10, .iload_n 1, 1, 0, 0, 0), (11, .aload_n 0, 1, 0, 0, 0),
  (12, .getfield 105, 3, 12, 10, 2), (15, .iconst 3, 1, 0, 0, 0), (16, .iaload, 1, 0, 0, 0), (17, .if_icmp .gt 7, 3, 24, 0, 0), (20, .iconst 1, 1, 0, 0, 0), (21, .goto 4, 3, 25, 0, 0), (24, .iconst 0, 1, 0, 0, 0), (25, .ireturn, 1, 0, 0, 0)]
/-- SamePassersModel.knownOf(I)I -/
def mm_c213 : List (Nat × mm_E) := [(0, .aload_n 0, 1, 0, 0, 0), (1, .iload_n 1, 1, 0, 0, 0), (2, .invokevirtual 373, 3, 205, 2, 2), (5, .istore_n 2, 1, 0, 0, 0), (6, .aload_n 0, 1, 0, 0, 0), (7, .getfield 129, 3, 12, 23, 2), (10, .iconst 2, 1, 0, 0, 0), (11, .aload_n 0, 1, 0, 0, 0),
  (12, .iload_n 1, 1, 0, 0, 0), (13, .iconst 0, 1, 0, 0, 0), (14, .invokevirtual 322, 3, 162, 3, 2), (17, .iastore, 1, 0, 0, 0), (18, .aload_n 0, 1, 0, 0, 0), (19, .getfield 129, 3, 12, 23, 2), (22, .iconst 3, 1, 0, 0, 0), (23, .iload_n 2, 1, 0, 0, 0),
  (24, .iastore, 1, 0, 0, 0), (25, .aload_n 0, 1, 0, 0, 0), (26, .getfield 105, 3, 12, 10, 2), (29, .bipush 10, 2, 0, 0, 0), (31, .iaload, 1, 0, 0, 0), (32, .ifCond .ge 9, 3, 41, 0, 0), (35, .iload_n 2, 1, 0, 0, 0), (36, .iconst 1, 1, 0, 0, 0),
  (37, .isub, 1, 0, 0, 0), (38, .goto 14, 3, 52, 0, 0), (41, .aload_n 0, 1, 0, 0, 0), (42, .aload_n 0, 1, 0, 0, 0), (43, .getfield 105, 3, 12, 10, 2), (46, .bipush 10, 2, 0, 0, 0), (48, .iaload, 1, 0, 0, 0), (49, .invokevirtual 341, 3, 203, 2, 2),
  (52, .istore_n 3, 1, 0, 0, 0), (53, .iload_n 2, 1, 0, 0, 0), (54, .iconst 2, 1, 0, 0, 0), (55, .if_icmp .lt 7, 3, 62, 0, 0), (58, .iload_n 3, 1, 0, 0, 0), (59, .ifCond .ge 7, 3, 66, 0, 0), (62, .iconst 0, 1, 0, 0, 0), (63, .goto 15, 3, 78, 0, 0),
  (66, .iload_n 3, 1, 0, 0, 0), (67, .bipush 10, 2, 0, 0, 0), (69, .if_icmp .le 8, 3, 77, 0, 0), (72, .bipush 10, 2, 0, 0, 0), (74, .goto 4, 3, 78, 0, 0), (77, .iload_n 3, 1, 0, 0, 0), (78, .ireturn, 1, 0, 0, 0)]
/-- SamePassersModel.tenth(I)I -/
def mm_c214 : List (Nat × mm_E) := [(0, .aload_n 0, 1, 0, 0, 0), (1, .iconst 0, 1, 0, 0, 0), (2, .putfield 1, 3, 12, 0, 0), (5, .aload_n 0, 1, 0, 0, 0), (6, .iload_n 1, 1, 0, 0, 0), (7, .invokevirtual 382, 3, 215, 2, 2), (10, .ifCond .eq 11, 3, 21, 0, 0), (13, .aload_n 0, 1, 0, 0, 0),
  (14, .iload_n 1, 1, 0, 0, 0), (15, .invokevirtual 344, 3, 210, 2, 2), (18, .goto 4, 3, 22, 0, 0), (21, .iconst (-1), 1, 0, 0, 0), (22, .ireturn, 1, 0, 0, 0)]
/-- SamePassersModel.isSaid(I)Z -/
def mm_c215 : List (Nat × mm_E) := [(0, .iload_n 1, 1, 0, 0, 0), (1, .ifCond .lt 15, 3, 16, 0, 0), (4, .iload_n 1, 1, 0, 0, 0), (5, .aload_n 0, 1, 0, 0, 0), (6, .invokevirtual 338, 3, 216, 1, 2), (9, .if_icmp .ge 7, 3, 16, 0, 0), (12, .iconst 1, 1, 0, 0, 0), (13, .goto 4, 3, 17, 0, 0),
  (16, .iconst 0, 1, 0, 0, 0), (17, .ireturn, 1, 0, 0, 0)]
/-- SamePassersModel.saidMany()I -/
def mm_c216 : List (Nat × mm_E) := [(0, .aload_n 0, 1, 0, 0, 0), (1, .getfield 105, 3, 12, 10, 2), (4, .iconst 5, 1, 0, 0, 0), (5, .iaload, 1, 0, 0, 0), (6, .ireturn, 1, 0, 0, 0)]
/-- SamePassersModel.start(II)Z -/
def mm_c217 : List (Nat × mm_E) := [(0, .aload_n 0, 1, 0, 0, 0), (1, .iconst 0, 1, 0, 0, 0), (2, .putfield 1, 3, 12, 0, 0), (5, .aload_n 0, 1, 0, 0, 0), (6, .iload_n 1, 1, 0, 0, 0), (7, .invokevirtual 376, 3, 200, 2, 2), (10, .ifCond .eq 17, 3, 27, 0, 0), (13, .iload_n 2, 1, 0, 0, 0),
  (14, .iconst 0, 1, 0, 0, 0), (15, .aload_n 0, 1, 0, 0, 0), (16, .invokevirtual 347, 3, 208, 1, 2), (19, .iconst 1, 1, 0, 0, 0), (20, .isub, 1, 0, 0, 0), (21, .invokestatic 241, 3, 188, 3, 0), (24, .ifCond .ne 5, 3, 29, 0, 0), (27, .iconst 0, 1, 0, 0, 0),
  (28, .ireturn, 1, 0, 0, 0), (29, .aload_n 0, 1, 0, 0, 0), (30, .invokevirtual 385, 3, 218, 1, 2), (33, .aload_n 0, 1, 0, 0, 0), (34, .getfield 135, 3, 12, 25, 2), (37, .iconst 1, 1, 0, 0, 0), (38, .iload_n 1, 1, 0, 0, 0), (39, .iadd, 1, 0, 0, 0),
  (40, .iload_n 2, 1, 0, 0, 0), (41, .iastore, 1, 0, 0, 0), (42, .iconst 1, 1, 0, 0, 0), (43, .ireturn, 1, 0, 0, 0)]
/-- SamePassersModel.keeps()V -/
def mm_c218 : List (Nat × mm_E) := [(0, .aload_n 0, 1, 0, 0, 0), (1, .getfield 328, 3, 12, 26, 0), (4, .bipush 16, 2, 0, 0, 0), (6, .if_icmp .ne 47, 3, 53, 0, 0), (9, .iconst 1, 1, 0, 0, 0), (10, .istore_n 1, 1, 0, 0, 0), (11, .iload_n 1, 1, 0, 0, 0), (12, .bipush 16, 2, 0, 0, 0),
  (14, .if_icmp .ge 29, 3, 43, 0, 0), (17, .aload_n 0, 1, 0, 0, 0), (18, .bipush 80, 2, 0, 0, 0), (20, .iconst 5, 1, 0, 0, 0), (21, .iload_n 1, 1, 0, 0, 0), (22, .iadd, 1, 0, 0, 0), (23, .imul, 1, 0, 0, 0), (24, .bipush 80, 2, 0, 0, 0),
  (26, .iconst 5, 1, 0, 0, 0), (27, .iload_n 1, 1, 0, 0, 0), (28, .iadd, 1, 0, 0, 0), (29, .iconst 1, 1, 0, 0, 0), (30, .isub, 1, 0, 0, 0), (31, .imul, 1, 0, 0, 0), (32, .bipush 25, 2, 0, 0, 0), (34, .invokevirtual 331, 3, 219, 4, 2),
  (37, .iinc 1 1, 3, 0, 0, 0), (40, .goto (-29), 3, 11, 0, 0), (43, .aload_n 0, 1, 0, 0, 0), (44, .dup, 1, 0, 0, 0), (45, .getfield 328, 3, 12, 26, 0), (48, .iconst 1, 1, 0, 0, 0), (49, .isub, 1, 0, 0, 0), (50, .putfield 328, 3, 12, 26, 0),
  (53, .aload_n 0, 1, 0, 0, 0), (54, .iconst 0, 1, 0, 0, 0), (55, .bipush 80, 2, 0, 0, 0), (57, .iconst 5, 1, 0, 0, 0), (58, .aload_n 0, 1, 0, 0, 0), (59, .getfield 328, 3, 12, 26, 0), (62, .iadd, 1, 0, 0, 0), (63, .imul, 1, 0, 0, 0),
  (64, .bipush 25, 2, 0, 0, 0), (66, .invokevirtual 331, 3, 219, 4, 2), (69, .aload_n 0, 1, 0, 0, 0), (70, .dup, 1, 0, 0, 0), (71, .getfield 328, 3, 12, 26, 0), (74, .iconst 1, 1, 0, 0, 0), (75, .iadd, 1, 0, 0, 0), (76, .putfield 328, 3, 12, 26, 0),
  (79, .return_, 1, 0, 0, 0)]
/-- SamePassersModel.copies(III)V -/
def mm_c219 : List (Nat × mm_E) := [(0, .iconst 0, 1, 0, 0, 0), (1, .istore 4, 2, 0, 0, 0), (3, .iload 4, 2, 0, 0, 0), (5, .iload_n 3, 1, 0, 0, 0), (6, .if_icmp .ge 27, 3, 33, 0, 0), (9, .aload_n 0, 1, 0, 0, 0), (10, .getfield 135, 3, 12, 25, 2), (13, .iload_n 2, 1, 0, 0, 0),
  (14, .iload 4, 2, 0, 0, 0), (16, .iadd, 1, 0, 0, 0), (17, .aload_n 0, 1, 0, 0, 0), (18, .getfield 135, 3, 12, 25, 2), (21, .iload_n 1, 1, 0, 0, 0), (22, .iload 4, 2, 0, 0, 0), (24, .iadd, 1, 0, 0, 0), (25, .iaload, 1, 0, 0, 0),
  (26, .iastore, 1, 0, 0, 0), (27, .iinc 4 1, 3, 0, 0, 0), (30, .goto (-27), 3, 3, 0, 0), (33, .return_, 1, 0, 0, 0)]
/-- SamePassersModel.turn(I)Z -/
def mm_c220 : List (Nat × mm_E) := [(0, .aload_n 0, 1, 0, 0, 0), (1, .iconst 0, 1, 0, 0, 0), (2, .putfield 1, 3, 12, 0, 0), (5, .aload_n 0, 1, 0, 0, 0), (6, .iload_n 1, 1, 0, 0, 0), (7, .invokevirtual 376, 3, 200, 2, 2), (10, .ifCond .ne 5, 3, 15, 0, 0), (13, .iconst 0, 1, 0, 0, 0),
  (14, .ireturn, 1, 0, 0, 0), (15, .aload_n 0, 1, 0, 0, 0), (16, .invokevirtual 385, 3, 218, 1, 2), (19, .aload_n 0, 1, 0, 0, 0), (20, .getfield 135, 3, 12, 25, 2), (23, .bipush 9, 2, 0, 0, 0), (25, .iload_n 1, 1, 0, 0, 0), (26, .iadd, 1, 0, 0, 0),
  (27, .iconst 1, 1, 0, 0, 0), (28, .aload_n 0, 1, 0, 0, 0), (29, .getfield 135, 3, 12, 25, 2), (32, .bipush 9, 2, 0, 0, 0), (34, .iload_n 1, 1, 0, 0, 0), (35, .iadd, 1, 0, 0, 0), (36, .iaload, 1, 0, 0, 0), (37, .isub, 1, 0, 0, 0),
  (38, .iastore, 1, 0, 0, 0), (39, .iconst 1, 1, 0, 0, 0), (40, .ireturn, 1, 0, 0, 0)]
/-- SamePassersModel.late(II)Z -/
def mm_c221 : List (Nat × mm_E) := [(0, .aload_n 0, 1, 0, 0, 0), (1, .iconst 0, 1, 0, 0, 0), (2, .putfield 1, 3, 12, 0, 0), (5, .aload_n 0, 1, 0, 0, 0), (6, .iload_n 1, 1, 0, 0, 0), (7, .invokevirtual 376, 3, 200, 2, 2), (10, .ifCond .eq 13, 3, 23, 0, 0), (13, .iload_n 2, 1, 0, 0, 0),
  (14, .iconst 0, 1, 0, 0, 0), (15, .bipush 99, 2, 0, 0, 0), (17, .invokestatic 241, 3, 188, 3, 0), (20, .ifCond .ne 5, 3, 25, 0, 0), (23, .iconst 0, 1, 0, 0, 0), (24, .ireturn, 1, 0, 0, 0), (25, .aload_n 0, 1, 0, 0, 0), (26, .invokevirtual 385, 3, 218, 1, 2),
  (29, .aload_n 0, 1, 0, 0, 0), (30, .getfield 135, 3, 12, 25, 2), (33, .bipush 17, 2, 0, 0, 0), (35, .iload_n 1, 1, 0, 0, 0), (36, .iadd, 1, 0, 0, 0), (37, .iload_n 2, 1, 0, 0, 0), (38, .iastore, 1, 0, 0, 0), (39, .iconst 1, 1, 0, 0, 0),
  (40, .ireturn, 1, 0, 0, 0)]
/-- SamePassersModel.take()I -/
def mm_c222 : List (Nat × mm_E) := [(0, .aload_n 0, 1, 0, 0, 0), (1, .iconst 0, 1, 0, 0, 0), (2, .putfield 1, 3, 12, 0, 0), (5, .aload_n 0, 1, 0, 0, 0), (6, .getfield 135, 3, 12, 25, 2), (9, .iconst 0, 1, 0, 0, 0), (10, .iaload, 1, 0, 0, 0), (11, .bipush 60, 2, 0, 0, 0),
  (13, .if_icmp .ne 5, 3, 18, 0, 0), (16, .iconst (-1), 1, 0, 0, 0), (17, .ireturn, 1, 0, 0, 0), (18, .aload_n 0, 1, 0, 0, 0), (19, .invokevirtual 385, 3, 218, 1, 2), (22, .aload_n 0, 1, 0, 0, 0), (23, .iconst 0, 1, 0, 0, 0), (24, .invokevirtual 388, 3, 223, 2, 2),
  (27, .aload_n 0, 1, 0, 0, 0), (28, .getfield 135, 3, 12, 25, 2), (31, .iconst 0, 1, 0, 0, 0), (32, .iaload, 1, 0, 0, 0), (33, .ireturn, 1, 0, 0, 0)]
/-- SamePassersModel.next(I)V -/
def mm_c223 : List (Nat × mm_E) := [(0, .aload_n 0, 1, 0, 0, 0), (1, .getfield 135, 3, 12, 25, 2), (4, .iload_n 1, 1, 0, 0, 0), (5, .iconst 0, 1, 0, 0, 0), (6, .iadd, 1, 0, 0, 0), (7, .dup2, 1, 0, 0, 0), (8, .iaload, 1, 0, 0, 0), (9, .iconst 1, 1, 0, 0, 0),
  (10, .iadd, 1, 0, 0, 0), (11, .iastore, 1, 0, 0, 0), (12, .iconst 0, 1, 0, 0, 0), (13, .istore_n 2, 1, 0, 0, 0), (14, .iload_n 2, 1, 0, 0, 0), (15, .bipush 8, 2, 0, 0, 0), (17, .if_icmp .ge 21, 3, 38, 0, 0), (20, .aload_n 0, 1, 0, 0, 0),
  (21, .getfield 135, 3, 12, 25, 2), (24, .iload_n 1, 1, 0, 0, 0), (25, .bipush 17, 2, 0, 0, 0), (27, .iadd, 1, 0, 0, 0), (28, .iload_n 2, 1, 0, 0, 0), (29, .iadd, 1, 0, 0, 0), (30, .iconst 0, 1, 0, 0, 0), (31, .iastore, 1, 0, 0, 0),
  (32, .iinc 2 1, 3, 0, 0, 0), (35, .goto (-21), 3, 14, 0, 0), (38, .return_, 1, 0, 0, 0)]
/-- SamePassersModel.undo()Z -/
def mm_c224 : List (Nat × mm_E) := [(0, .aload_n 0, 1, 0, 0, 0), (1, .iconst 0, 1, 0, 0, 0), (2, .putfield 1, 3, 12, 0, 0), (5, .aload_n 0, 1, 0, 0, 0), (6, .getfield 328, 3, 12, 26, 0), (9, .ifCond .ne 5, 3, 14, 0, 0), (12, .iconst 0, 1, 0, 0, 0), (13, .ireturn, 1, 0, 0, 0),
  (14, .aload_n 0, 1, 0, 0, 0), (15, .dup, 1, 0, 0, 0), (16, .getfield 328, 3, 12, 26, 0), (19, .iconst 1, 1, 0, 0, 0), (20, .isub, 1, 0, 0, 0), (21, .putfield 328, 3, 12, 26, 0), (24, .aload_n 0, 1, 0, 0, 0), (25, .bipush 80, 2, 0, 0, 0),
  (27, .iconst 5, 1, 0, 0, 0), (28, .aload_n 0, 1, 0, 0, 0), (29, .getfield 328, 3, 12, 26, 0), (32, .iadd, 1, 0, 0, 0), (33, .imul, 1, 0, 0, 0), (34, .iconst 0, 1, 0, 0, 0), (35, .bipush 25, 2, 0, 0, 0), (37, .invokevirtual 331, 3, 219, 4, 2),
  (40, .iconst 1, 1, 0, 0, 0), (41, .ireturn, 1, 0, 0, 0)]
/-- SamePassersModel.judged(I)I -/
def mm_c225 : List (Nat × mm_E) := [(0, .aload_n 0, 1, 0, 0, 0), (1, .iconst 0, 1, 0, 0, 0), (2, .putfield 1, 3, 12, 0, 0), (5, .iload_n 1, 1, 0, 0, 0), (6, .iconst 0, 1, 0, 0, 0), (7, .iconst 2, 1, 0, 0, 0), (8, .invokestatic 241, 3, 188, 3, 0), (11, .ifCond .ne 6, 3, 17, 0, 0),
  (14, .bipush (-2), 2, 0, 0, 0), (16, .ireturn, 1, 0, 0, 0), (17, .aload_n 0, 1, 0, 0, 0), (18, .sipush 1680, 3, 0, 0, 0), (21, .invokevirtual 325, 3, 161, 2, 2), (24, .iconst (-1), 1, 0, 0, 0), (25, .istore_n 2, 1, 0, 0, 0), (26, .iconst 0, 1, 0, 0, 0),
  (27, .istore_n 3, 1, 0, 0, 0), (28, .iconst 0, 1, 0, 0, 0), (29, .istore 4, 2, 0, 0, 0), (31, .iload 4, 2, 0, 0, 0), (33, .aload_n 0, 1, 0, 0, 0), (34, .getfield 126, 3, 12, 22, 2), (37, .iconst 0, 1, 0, 0, 0), (38, .iaload, 1, 0, 0, 0),
  (39, .if_icmp .ge 174, 3, 213, 0, 0), (42, .aload_n 0, 1, 0, 0, 0), (43, .getfield 126, 3, 12, 22, 2), (46, .iconst 1, 1, 0, 0, 0), (47, .iconst 3, 1, 0, 0, 0), (48, .iload 4, 2, 0, 0, 0), (50, .imul, 1, 0, 0, 0), (51, .iadd, 1, 0, 0, 0),
  (52, .iaload, 1, 0, 0, 0), (53, .istore 5, 2, 0, 0, 0), (55, .aload_n 0, 1, 0, 0, 0), (56, .getfield 126, 3, 12, 22, 2), (59, .iconst 2, 1, 0, 0, 0), (60, .iconst 3, 1, 0, 0, 0), (61, .iload 4, 2, 0, 0, 0), (63, .imul, 1, 0, 0, 0),
  (64, .iadd, 1, 0, 0, 0), (65, .iaload, 1, 0, 0, 0), (66, .istore 6, 2, 0, 0, 0), (68, .iload 5, 2, 0, 0, 0), (70, .ifCond .ne 28, 3, 98, 0, 0), (73, .aload_n 0, 1, 0, 0, 0), (74, .getfield 135, 3, 12, 25, 2), (77, .sipush 1681, 3, 0, 0, 0),
  (80, .iload 6, 2, 0, 0, 0), (82, .iadd, 1, 0, 0, 0), (83, .aload_n 0, 1, 0, 0, 0), (84, .getfield 126, 3, 12, 22, 2), (87, .iconst 3, 1, 0, 0, 0), (88, .iconst 3, 1, 0, 0, 0), (89, .iload 4, 2, 0, 0, 0), (91, .imul, 1, 0, 0, 0),
  (92, .iadd, 1, 0, 0, 0), (93, .iaload, 1, 0, 0, 0), (94, .iastore, 1, 0, 0, 0), (95, .goto 112, 3, 207, 0, 0), (98, .iload 5, 2, 0, 0, 0), (100, .iconst 1, 1, 0, 0, 0), (101, .if_icmp .ne 30, 3, 131, 0, 0), (104, .aload_n 0, 1, 0, 0, 0),
  (105, .getfield 135, 3, 12, 25, 2), (108, .sipush 1689, 3, 0, 0, 0), (111, .iload 6, 2, 0, 0, 0), (113, .iadd, 1, 0, 0, 0), (114, .iconst 1, 1, 0, 0, 0), (115, .aload_n 0, 1, 0, 0, 0), (116, .getfield 135, 3, 12, 25, 2), (119, .sipush 1689, 3, 0, 0, 0),
  (122, .iload 6, 2, 0, 0, 0), (124, .iadd, 1, 0, 0, 0), (125, .iaload, 1, 0, 0, 0), (126, .isub, 1, 0, 0, 0), (127, .iastore, 1, 0, 0, 0), (128, .goto 79, 3, 207, 0, 0), (131, .iload 5, 2, 0, 0, 0), (133, .iconst 2, 1, 0, 0, 0),
  (134, .if_icmp .ne 28, 3, 162, 0, 0), (137, .aload_n 0, 1, 0, 0, 0), (138, .getfield 135, 3, 12, 25, 2), (141, .sipush 1697, 3, 0, 0, 0), (144, .iload 6, 2, 0, 0, 0), (146, .iadd, 1, 0, 0, 0), (147, .aload_n 0, 1, 0, 0, 0), (148, .getfield 126, 3, 12, 22, 2),
  (151, .iconst 3, 1, 0, 0, 0), (152, .iconst 3, 1, 0, 0, 0), (153, .iload 4, 2, 0, 0, 0), (155, .imul, 1, 0, 0, 0), (156, .iadd, 1, 0, 0, 0), (157, .iaload, 1, 0, 0, 0), (158, .iastore, 1, 0, 0, 0), (159, .goto 48, 3, 207, 0, 0),
  (162, .aload_n 0, 1, 0, 0, 0), (163, .sipush 1680, 3, 0, 0, 0), (166, .invokevirtual 407, 3, 226, 2, 2), (169, .istore 7, 2, 0, 0, 0), (171, .iload_n 3, 1, 0, 0, 0), (172, .iload 7, 2, 0, 0, 0), (174, .ifCond .eq 7, 3, 181, 0, 0), (177, .iconst 1, 1, 0, 0, 0),
  (178, .goto 4, 3, 182, 0, 0), (181, .iconst 0, 1, 0, 0, 0), (182, .iadd, 1, 0, 0, 0), (183, .istore_n 3, 1, 0, 0, 0), (184, .iload 7, 2, 0, 0, 0), (186, .ifCond .ne 12, 3, 198, 0, 0), (189, .iload_n 2, 1, 0, 0, 0), (190, .ifCond .ge 8, 3, 198, 0, 0),
  (193, .iload 4, 2, 0, 0, 0), (195, .goto 4, 3, 199, 0, 0), (198, .iload_n 2, 1, 0, 0, 0), (199, .istore_n 2, 1, 0, 0, 0), (200, .aload_n 0, 1, 0, 0, 0), (201, .sipush 1680, 3, 0, 0, 0), (204, .invokevirtual 388, 3, 223, 2, 2), (207, .iinc 4 1, 3, 0, 0, 0),
  (210, .goto (-179), 3, 31, 0, 0), (213, .iload_n 1, 1, 0, 0, 0), (214, .ifCond .ne 7, 3, 221, 0, 0), (217, .iload_n 2, 1, 0, 0, 0), (218, .goto 20, 3, 238, 0, 0), (221, .iload_n 1, 1, 0, 0, 0), (222, .iconst 1, 1, 0, 0, 0), (223, .if_icmp .ne 7, 3, 230, 0, 0),
  (226, .iload_n 3, 1, 0, 0, 0), (227, .goto 11, 3, 238, 0, 0), (230, .aload_n 0, 1, 0, 0, 0), (231, .getfield 135, 3, 12, 25, 2), (234, .sipush 1680, 3, 0, 0, 0), (237, .iaload, 1, 0, 0, 0), (238, .ireturn, 1, 0, 0, 0)]
/-- SamePassersModel.isGood(I)Z -/
def mm_c226 : List (Nat × mm_E) := [(0, .aload_n 0, 1, 0, 0, 0), (1, .iload_n 1, 1, 0, 0, 0), (2, .invokevirtual 401, 3, 227, 2, 2), (5, .ifCond .ne 7, 3, 12, 0, 0), (8, .iconst 1, 1, 0, 0, 0), (9, .goto 4, 3, 13, 0, 0), (12, .iconst 0, 1, 0, 0, 0), (13, .istore_n 2, 1, 0, 0, 0),
  (14, .iconst 0, 1, 0, 0, 0), (15, .istore_n 3, 1, 0, 0, 0), (16, .iload_n 3, 1, 0, 0, 0), (17, .aload_n 0, 1, 0, 0, 0), (18, .invokevirtual 335, 3, 201, 1, 2), (21, .if_icmp .ge 45, 3, 66, 0, 0), (24, .iconst 0, 1, 0, 0, 0), (25, .istore 4, 2, 0, 0, 0),
  (27, .iload 4, 2, 0, 0, 0), (29, .iload_n 3, 1, 0, 0, 0), (30, .if_icmp .ge 30, 3, 60, 0, 0), (33, .iload_n 2, 1, 0, 0, 0), (34, .ifCond .eq 26, 3, 60, 0, 0), (37, .aload_n 0, 1, 0, 0, 0), (38, .iload_n 1, 1, 0, 0, 0), (39, .iload 4, 2, 0, 0, 0),
  (41, .iload_n 3, 1, 0, 0, 0), (42, .invokevirtual 404, 3, 232, 4, 2), (45, .ifCond .ge 7, 3, 52, 0, 0), (48, .iconst 1, 1, 0, 0, 0), (49, .goto 4, 3, 53, 0, 0), (52, .iconst 0, 1, 0, 0, 0), (53, .istore_n 2, 1, 0, 0, 0), (54, .iinc 4 1, 3, 0, 0, 0),
  (57, .goto (-30), 3, 27, 0, 0), (60, .iinc 3 1, 3, 0, 0, 0), (63, .goto (-47), 3, 16, 0, 0), (66, .iload_n 2, 1, 0, 0, 0), (67, .ireturn, 1, 0, 0, 0)]
/-- SamePassersModel.missedIn(I)I -/
def mm_c227 : List (Nat × mm_E) := [(0, .iconst 0, 1, 0, 0, 0), (1, .istore_n 2, 1, 0, 0, 0), (2, .iconst 0, 1, 0, 0, 0), (3, .istore_n 3, 1, 0, 0, 0), (4, .iload_n 3, 1, 0, 0, 0), (5, .aload_n 0, 1, 0, 0, 0), (6, .invokevirtual 394, 3, 228, 1, 2), (9, .if_icmp .ge 35, 3, 44, 0, 0),
  (12, .iload_n 2, 1, 0, 0, 0), (13, .aload_n 0, 1, 0, 0, 0), (14, .iload_n 1, 1, 0, 0, 0), (15, .aload_n 0, 1, 0, 0, 0), (16, .getfield 135, 3, 12, 25, 2), (19, .iload_n 1, 1, 0, 0, 0), (20, .iconst 0, 1, 0, 0, 0), (21, .iadd, 1, 0, 0, 0),
  (22, .iaload, 1, 0, 0, 0), (23, .iconst 1, 1, 0, 0, 0), (24, .iload_n 3, 1, 0, 0, 0), (25, .invokevirtual 397, 3, 229, 5, 2), (28, .ifCond .le 7, 3, 35, 0, 0), (31, .iconst 1, 1, 0, 0, 0), (32, .goto 4, 3, 36, 0, 0), (35, .iconst 0, 1, 0, 0, 0),
  (36, .iadd, 1, 0, 0, 0), (37, .istore_n 2, 1, 0, 0, 0), (38, .iinc 3 1, 3, 0, 0, 0), (41, .goto (-37), 3, 4, 0, 0), (44, .iload_n 2, 1, 0, 0, 0), (45, .ireturn, 1, 0, 0, 0)]
/-- SamePassersModel.musts()I -/
def mm_c228 : List (Nat × mm_E) := [(0, .aload_n 0, 1, 0, 0, 0), (1, .getfield 105, 3, 12, 10, 2), (4, .bipush 7, 2, 0, 0, 0), (6, .iaload, 1, 0, 0, 0), (7, .ireturn, 1, 0, 0, 0)]
/-- SamePassersModel.offIn(IIZI)I -/
def mm_c229 : List (Nat × mm_E) := [(0, .aload_n 0, 1, 0, 0, 0), (1, .iload_n 1, 1, 0, 0, 0), (2, .iload_n 2, 1, 0, 0, 0), (3, .iload_n 3, 1, 0, 0, 0), (4, .aload_n 0, 1, 0, 0, 0), (5, .iload 4, 2, 0, 0, 0), (7, .iconst 0, 1, 0, 0, 0), (8, .invokevirtual 391, 3, 230, 3, 2),
  (11, .aload_n 0, 1, 0, 0, 0), (12, .aload_n 0, 1, 0, 0, 0), (13, .iload 4, 2, 0, 0, 0), (15, .iconst 1, 1, 0, 0, 0), (16, .invokevirtual 391, 3, 230, 3, 2), (19, .invokevirtual 344, 3, 210, 2, 2), (22, .invokevirtual 360, 3, 231, 6, 2), (25, .istore 5, 2, 0, 0, 0),
  (27, .iload 5, 2, 0, 0, 0), (29, .aload_n 0, 1, 0, 0, 0), (30, .iload 4, 2, 0, 0, 0), (32, .iconst 2, 1, 0, 0, 0), (33, .invokevirtual 391, 3, 230, 3, 2), (36, .isub, 1, 0, 0, 0), (37, .istore 6, 2, 0, 0, 0), (39, .iload 5, 2, 0, 0, 0),
  (41, .ifCond .ge 8, 3, 49, 0, 0), (44, .bipush 100, 2, 0, 0, 0), (46, .goto 16, 3, 62, 0, 0), (49, .iload 6, 2, 0, 0, 0), (51, .ifCond .ge 9, 3, 60, 0, 0), (54, .iload 6, 2, 0, 0, 0), (56, .ineg, 1, 0, 0, 0), (57, .goto 5, 3, 62, 0, 0),
  (60, .iload 6, 2, 0, 0, 0), (62, .ireturn, 1, 0, 0, 0)]
/-- SamePassersModel.mustOf(II)I -/
def mm_c230 : List (Nat × mm_E) := [(0, .aload_n 0, 1, 0, 0, 0), (1, .getfield 105, 3, 12, 10, 2), (4, .bipush 73, 2, 0, 0, 0), (6, .iconst 3, 1, 0, 0, 0), (7, .iload_n 1, 1, 0, 0, 0), (8, .imul, 1, 0, 0, 0), (9, .iadd, 1, 0, 0, 0), (10, .iload_n 2, 1, 0, 0, 0),
  (11, .iadd, 1, 0, 0, 0), (12, .iaload, 1, 0, 0, 0), (13, .ireturn, 1, 0, 0, 0)]
/-- SamePassersModel.placeIn(IIZII)I -/
def mm_c231 : List (Nat × mm_E) := [(0, .aload_n 0, 1, 0, 0, 0), (1, .iload 4, 2, 0, 0, 0), (3, .iconst 5, 1, 0, 0, 0), (4, .invokevirtual 322, 3, 162, 3, 2), (7, .iload_n 3, 1, 0, 0, 0), (8, .ifCond .eq 18, 3, 26, 0, 0), (11, .aload_n 0, 1, 0, 0, 0), (12, .getfield 135, 3, 12, 25, 2),
  (15, .iload_n 1, 1, 0, 0, 0), (16, .bipush 17, 2, 0, 0, 0), (18, .iadd, 1, 0, 0, 0), (19, .iload 4, 2, 0, 0, 0), (21, .iadd, 1, 0, 0, 0), (22, .iaload, 1, 0, 0, 0), (23, .goto 4, 3, 27, 0, 0), (26, .iconst 0, 1, 0, 0, 0),
  (27, .iadd, 1, 0, 0, 0), (28, .istore 6, 2, 0, 0, 0), (30, .aload_n 0, 1, 0, 0, 0), (31, .iload 4, 2, 0, 0, 0), (33, .aload_n 0, 1, 0, 0, 0), (34, .getfield 135, 3, 12, 25, 2), (37, .iload_n 1, 1, 0, 0, 0), (38, .iconst 1, 1, 0, 0, 0),
  (39, .iadd, 1, 0, 0, 0), (40, .iload 4, 2, 0, 0, 0), (42, .iadd, 1, 0, 0, 0), (43, .iaload, 1, 0, 0, 0), (44, .aload_n 0, 1, 0, 0, 0), (45, .getfield 135, 3, 12, 25, 2), (48, .iload_n 1, 1, 0, 0, 0), (49, .bipush 9, 2, 0, 0, 0),
  (51, .iadd, 1, 0, 0, 0), (52, .iload 4, 2, 0, 0, 0), (54, .iadd, 1, 0, 0, 0), (55, .iaload, 1, 0, 0, 0), (56, .iload 6, 2, 0, 0, 0), (58, .aload_n 0, 1, 0, 0, 0), (59, .iload 4, 2, 0, 0, 0), (61, .iload_n 2, 1, 0, 0, 0),
  (62, .invokevirtual 353, 3, 202, 3, 2), (65, .iload 5, 2, 0, 0, 0), (67, .invokevirtual 356, 3, 207, 7, 2), (70, .ireturn, 1, 0, 0, 0)]
/-- SamePassersModel.bumpOf(III)I -/
def mm_c232 : List (Nat × mm_E) := [(0, .aload_n 0, 1, 0, 0, 0), (1, .iload_n 2, 1, 0, 0, 0), (2, .aload_n 0, 1, 0, 0, 0), (3, .getfield 135, 3, 12, 25, 2), (6, .iload_n 1, 1, 0, 0, 0), (7, .iconst 0, 1, 0, 0, 0), (8, .iadd, 1, 0, 0, 0), (9, .iaload, 1, 0, 0, 0),
  (10, .invokevirtual 353, 3, 202, 3, 2), (13, .istore 4, 2, 0, 0, 0), (15, .aload_n 0, 1, 0, 0, 0), (16, .iload_n 3, 1, 0, 0, 0), (17, .aload_n 0, 1, 0, 0, 0), (18, .getfield 135, 3, 12, 25, 2), (21, .iload_n 1, 1, 0, 0, 0), (22, .iconst 0, 1, 0, 0, 0),
  (23, .iadd, 1, 0, 0, 0), (24, .iaload, 1, 0, 0, 0), (25, .invokevirtual 353, 3, 202, 3, 2), (28, .istore 5, 2, 0, 0, 0), (30, .iconst 0, 1, 0, 0, 0), (31, .istore 6, 2, 0, 0, 0), (33, .iload 6, 2, 0, 0, 0), (35, .sipush 600, 3, 0, 0, 0),
  (38, .if_icmp .gt 111, 3, 149, 0, 0), (41, .aload_n 0, 1, 0, 0, 0), (42, .iload_n 2, 1, 0, 0, 0), (43, .iconst 1, 1, 0, 0, 0), (44, .invokevirtual 322, 3, 162, 3, 2), (47, .aload_n 0, 1, 0, 0, 0), (48, .iload_n 3, 1, 0, 0, 0), (49, .iconst 1, 1, 0, 0, 0),
  (50, .invokevirtual 322, 3, 162, 3, 2), (53, .if_icmp .ne 96, 3, 149, 0, 0), (56, .aload_n 0, 1, 0, 0, 0), (57, .iload_n 2, 1, 0, 0, 0), (58, .aload_n 0, 1, 0, 0, 0), (59, .getfield 135, 3, 12, 25, 2), (62, .iload_n 1, 1, 0, 0, 0), (63, .iconst 1, 1, 0, 0, 0),
  (64, .iadd, 1, 0, 0, 0), (65, .iload_n 2, 1, 0, 0, 0), (66, .iadd, 1, 0, 0, 0), (67, .iaload, 1, 0, 0, 0), (68, .aload_n 0, 1, 0, 0, 0), (69, .getfield 135, 3, 12, 25, 2), (72, .iload_n 1, 1, 0, 0, 0), (73, .bipush 9, 2, 0, 0, 0),
  (75, .iadd, 1, 0, 0, 0), (76, .iload_n 2, 1, 0, 0, 0), (77, .iadd, 1, 0, 0, 0), (78, .iaload, 1, 0, 0, 0), (79, .aload_n 0, 1, 0, 0, 0), (80, .iload_n 1, 1, 0, 0, 0), (81, .iload_n 2, 1, 0, 0, 0), (82, .invokevirtual 367, 3, 206, 3, 2),
  (85, .iload 4, 2, 0, 0, 0), (87, .iload 6, 2, 0, 0, 0), (89, .invokevirtual 356, 3, 207, 7, 2), (92, .istore 7, 2, 0, 0, 0), (94, .iload 7, 2, 0, 0, 0), (96, .ifCond .lt 47, 3, 143, 0, 0), (99, .iload 7, 2, 0, 0, 0), (101, .aload_n 0, 1, 0, 0, 0),
  (102, .iload_n 3, 1, 0, 0, 0), (103, .aload_n 0, 1, 0, 0, 0), (104, .getfield 135, 3, 12, 25, 2), (107, .iload_n 1, 1, 0, 0, 0), (108, .iconst 1, 1, 0, 0, 0), (109, .iadd, 1, 0, 0, 0), (110, .iload_n 3, 1, 0, 0, 0), (111, .iadd, 1, 0, 0, 0),
  (112, .iaload, 1, 0, 0, 0), (113, .aload_n 0, 1, 0, 0, 0), (114, .getfield 135, 3, 12, 25, 2), (117, .iload_n 1, 1, 0, 0, 0), (118, .bipush 9, 2, 0, 0, 0), (120, .iadd, 1, 0, 0, 0), (121, .iload_n 3, 1, 0, 0, 0), (122, .iadd, 1, 0, 0, 0),
  (123, .iaload, 1, 0, 0, 0), (124, .aload_n 0, 1, 0, 0, 0), (125, .iload_n 1, 1, 0, 0, 0), (126, .iload_n 3, 1, 0, 0, 0), (127, .invokevirtual 367, 3, 206, 3, 2), (130, .iload 5, 2, 0, 0, 0), (132, .iload 6, 2, 0, 0, 0), (134, .invokevirtual 356, 3, 207, 7, 2),
  (137, .if_icmp .ne 6, 3, 143, 0, 0), (140, .iload 6, 2, 0, 0, 0), (142, .ireturn, 1, 0, 0, 0), (143, .iinc 6 1, 3, 0, 0, 0), (146, .goto (-113), 3, 33, 0, 0), (149, .iconst (-1), 1, 0, 0, 0), (150, .ireturn, 1, 0, 0, 0)]
/-- SamePassersModel.where(II)I -/
def mm_c233 : List (Nat × mm_E) := [(0, .aload_n 0, 1, 0, 0, 0), (1, .iconst 0, 1, 0, 0, 0), (2, .putfield 1, 3, 12, 0, 0), (5, .aload_n 0, 1, 0, 0, 0), (6, .iload_n 1, 1, 0, 0, 0), (7, .invokevirtual 376, 3, 200, 2, 2), (10, .ifCond .eq 23, 3, 33, 0, 0), (13, .iload_n 2, 1, 0, 0, 0),
  (14, .iconst 0, 1, 0, 0, 0), (15, .sipush 600, 3, 0, 0, 0), (18, .invokestatic 241, 3, 188, 3, 0), (21, .ifCond .eq 12, 3, 33, 0, 0), (24, .aload_n 0, 1, 0, 0, 0), (25, .iload_n 1, 1, 0, 0, 0), (26, .iload_n 2, 1, 0, 0, 0), (27, .invokevirtual 410, 3, 234, 3, 2),
  (30, .goto 4, 3, 34, 0, 0), (33, .iconst (-1), 1, 0, 0, 0), (34, .ireturn, 1, 0, 0, 0)]
/-- SamePassersModel.placeNow(II)I -/
def mm_c234 : List (Nat × mm_E) := [(0, .aload_n 0, 1, 0, 0, 0), (1, .iconst 0, 1, 0, 0, 0), (2, .aload_n 0, 1, 0, 0, 0), (3, .getfield 135, 3, 12, 25, 2), (6, .iconst 0, 1, 0, 0, 0), (7, .iaload, 1, 0, 0, 0), (8, .iconst 1, 1, 0, 0, 0), (9, .iload_n 1, 1, 0, 0, 0),
  (10, .iload_n 2, 1, 0, 0, 0), (11, .invokevirtual 360, 3, 231, 6, 2), (14, .ireturn, 1, 0, 0, 0)]
/-- SamePassersModel.seen(II)I -/
def mm_c235 : List (Nat × mm_E) := [(0, .aload_n 0, 1, 0, 0, 0), (1, .iconst 0, 1, 0, 0, 0), (2, .putfield 1, 3, 12, 0, 0), (5, .aload_n 0, 1, 0, 0, 0), (6, .iload_n 1, 1, 0, 0, 0), (7, .invokevirtual 376, 3, 200, 2, 2), (10, .ifCond .eq 28, 3, 38, 0, 0), (13, .iload_n 2, 1, 0, 0, 0),
  (14, .iconst 0, 1, 0, 0, 0), (15, .sipush 600, 3, 0, 0, 0), (18, .invokestatic 241, 3, 188, 3, 0), (21, .ifCond .eq 17, 3, 38, 0, 0), (24, .aload_n 0, 1, 0, 0, 0), (25, .iload_n 1, 1, 0, 0, 0), (26, .aload_n 0, 1, 0, 0, 0), (27, .iload_n 1, 1, 0, 0, 0),
  (28, .iload_n 2, 1, 0, 0, 0), (29, .invokevirtual 410, 3, 234, 3, 2), (32, .invokevirtual 370, 3, 211, 3, 2), (35, .goto 4, 3, 39, 0, 0), (38, .iconst (-1), 1, 0, 0, 0), (39, .ireturn, 1, 0, 0, 0)]
/-- SamePassersModel.first(II)I -/
def mm_c236 : List (Nat × mm_E) := [(0, .aload_n 0, 1, 0, 0, 0), (1, .iconst 0, 1, 0, 0, 0), (2, .putfield 1, 3, 12, 0, 0), (5, .aload_n 0, 1, 0, 0, 0), (6, .iload_n 1, 1, 0, 0, 0), (7, .invokevirtual 376, 3, 200, 2, 2), (10, .ifCond .eq 26, 3, 36, 0, 0), (13, .aload_n 0, 1, 0, 0, 0),
  (14, .iload_n 2, 1, 0, 0, 0), (15, .invokevirtual 376, 3, 200, 2, 2), (18, .ifCond .eq 18, 3, 36, 0, 0), (21, .iload_n 1, 1, 0, 0, 0), (22, .iload_n 2, 1, 0, 0, 0), (23, .if_icmp .eq 13, 3, 36, 0, 0), (26, .aload_n 0, 1, 0, 0, 0), (27, .iconst 0, 1, 0, 0, 0),
  (28, .iload_n 1, 1, 0, 0, 0), (29, .iload_n 2, 1, 0, 0, 0), (30, .invokevirtual 404, 3, 232, 4, 2), (33, .goto 4, 3, 37, 0, 0), (36, .iconst (-1), 1, 0, 0, 0), (37, .ireturn, 1, 0, 0, 0)]
/-- SamePassersModel.good()Z -/
def mm_c237 : List (Nat × mm_E) := [(0, .aload_n 0, 1, 0, 0, 0), (1, .iconst 0, 1, 0, 0, 0), (2, .putfield 1, 3, 12, 0, 0), (5, .aload_n 0, 1, 0, 0, 0), (6, .iconst 0, 1, 0, 0, 0), (7, .invokevirtual 407, 3, 226, 2, 2), (10, .ireturn, 1, 0, 0, 0)]
/-- SamePassersModel.off(I)I -/
def mm_c238 : List (Nat × mm_E) := [(0, .aload_n 0, 1, 0, 0, 0), (1, .iconst 0, 1, 0, 0, 0), (2, .putfield 1, 3, 12, 0, 0), (5, .iload_n 1, 1, 0, 0, 0), (6, .iconst 0, 1, 0, 0, 0), (7, .aload_n 0, 1, 0, 0, 0), (8, .invokevirtual 394, 3, 228, 1, 2), (11, .iconst 1, 1, 0, 0, 0),
  (12, .isub, 1, 0, 0, 0), (13, .invokestatic 241, 3, 188, 3, 0), (16, .ifCond .eq 19, 3, 35, 0, 0), (19, .aload_n 0, 1, 0, 0, 0), (20, .iconst 0, 1, 0, 0, 0), (21, .aload_n 0, 1, 0, 0, 0), (22, .getfield 135, 3, 12, 25, 2), (25, .iconst 0, 1, 0, 0, 0),
  (26, .iaload, 1, 0, 0, 0), (27, .iconst 1, 1, 0, 0, 0), (28, .iload_n 1, 1, 0, 0, 0), (29, .invokevirtual 397, 3, 229, 5, 2), (32, .goto 4, 3, 36, 0, 0), (35, .iconst (-1), 1, 0, 0, 0), (36, .ireturn, 1, 0, 0, 0)]
/-- SamePassersModel.until(II)I -/
def mm_c239 : List (Nat × mm_E) := [(0, .aload_n 0, 1, 0, 0, 0), (1, .iconst 0, 1, 0, 0, 0), (2, .putfield 1, 3, 12, 0, 0), (5, .iload_n 1, 1, 0, 0, 0), (6, .iconst 0, 1, 0, 0, 0), (7, .aload_n 0, 1, 0, 0, 0), (8, .invokevirtual 394, 3, 228, 1, 2), (11, .iconst 1, 1, 0, 0, 0),
  (12, .isub, 1, 0, 0, 0), (13, .invokestatic 241, 3, 188, 3, 0), (16, .ifCond .eq 13, 3, 29, 0, 0), (19, .iload_n 2, 1, 0, 0, 0), (20, .iconst 1, 1, 0, 0, 0), (21, .bipush 100, 2, 0, 0, 0), (23, .invokestatic 241, 3, 188, 3, 0), (26, .ifCond .ne 5, 3, 31, 0, 0),
  (29, .iconst (-1), 1, 0, 0, 0), (30, .ireturn, 1, 0, 0, 0), (31, .iconst 0, 1, 0, 0, 0), (32, .istore_n 3, 1, 0, 0, 0), (33, .iload_n 3, 1, 0, 0, 0), (34, .bipush 60, 2, 0, 0, 0), (36, .if_icmp .gt 38, 3, 74, 0, 0), (39, .aload_n 0, 1, 0, 0, 0),
  (40, .iconst 0, 1, 0, 0, 0), (41, .aload_n 0, 1, 0, 0, 0), (42, .getfield 135, 3, 12, 25, 2), (45, .iconst 0, 1, 0, 0, 0), (46, .iaload, 1, 0, 0, 0), (47, .iload_n 3, 1, 0, 0, 0), (48, .iadd, 1, 0, 0, 0), (49, .iload_n 3, 1, 0, 0, 0),
  (50, .ifCond .ne 7, 3, 57, 0, 0), (53, .iconst 1, 1, 0, 0, 0), (54, .goto 4, 3, 58, 0, 0), (57, .iconst 0, 1, 0, 0, 0), (58, .iload_n 1, 1, 0, 0, 0), (59, .invokevirtual 397, 3, 229, 5, 2), (62, .iload_n 2, 1, 0, 0, 0), (63, .if_icmp .lt 5, 3, 68, 0, 0),
  (66, .iload_n 3, 1, 0, 0, 0), (67, .ireturn, 1, 0, 0, 0), (68, .iinc 3 1, 3, 0, 0, 0), (71, .goto (-38), 3, 33, 0, 0), (74, .iconst (-1), 1, 0, 0, 0), (75, .ireturn, 1, 0, 0, 0)]
/-- SamePassersModel.unknown()I -/
def mm_c240 : List (Nat × mm_E) := [(0, .aload_n 0, 1, 0, 0, 0), (1, .iconst 0, 1, 0, 0, 0), (2, .putfield 1, 3, 12, 0, 0), (5, .ldc2_w 413, 3, 1, 0, 1000000), (8, .lstore_n 1, 1, 0, 0, 0), (9, .lconst 1, 1, 0, 0, 0), (10, .lstore_n 3, 1, 0, 0, 0), (11, .iconst 0, 1, 0, 0, 0),
  (12, .istore 5, 2, 0, 0, 0), (14, .iload 5, 2, 0, 0, 0), (16, .aload_n 0, 1, 0, 0, 0), (17, .invokevirtual 335, 3, 201, 1, 2), (20, .if_icmp .ge 28, 3, 48, 0, 0), (23, .lload_n 1, 1, 0, 0, 0), (24, .bipush 10, 2, 0, 0, 0), (26, .aload_n 0, 1, 0, 0, 0),
  (27, .iload 5, 2, 0, 0, 0), (29, .invokevirtual 379, 3, 213, 2, 2), (32, .isub, 1, 0, 0, 0), (33, .i2l, 1, 0, 0, 0), (34, .lmul, 1, 0, 0, 0), (35, .lstore_n 1, 1, 0, 0, 0), (36, .lload_n 3, 1, 0, 0, 0), (37, .ldc2_w 192, 3, 1, 0, 10),
  (40, .lmul, 1, 0, 0, 0), (41, .lstore_n 3, 1, 0, 0, 0), (42, .iinc 5 1, 3, 0, 0, 0), (45, .goto (-31), 3, 14, 0, 0), (48, .lload_n 1, 1, 0, 0, 0), (49, .lload_n 3, 1, 0, 0, 0), (50, .ldiv, 1, 0, 0, 0), (51, .l2i, 1, 0, 0, 0),
  (52, .ireturn, 1, 0, 0, 0)]
/-- SamePassersModel.row(II)J -/
def mm_c241 : List (Nat × mm_E) := [(0, .aload_n 0, 1, 0, 0, 0), (1, .iconst 0, 1, 0, 0, 0), (2, .putfield 1, 3, 12, 0, 0), (5, .iload_n 1, 1, 0, 0, 0), (6, .iconst 0, 1, 0, 0, 0), (7, .aload_n 0, 1, 0, 0, 0), (8, .invokevirtual 415, 3, 242, 1, 2), (11, .iconst 1, 1, 0, 0, 0),
  (12, .isub, 1, 0, 0, 0), (13, .invokestatic 241, 3, 188, 3, 0), (16, .ifCond .eq 14, 3, 30, 0, 0), (19, .iload_n 2, 1, 0, 0, 0), (20, .iconst 0, 1, 0, 0, 0), (21, .sipush 600, 3, 0, 0, 0), (24, .invokestatic 241, 3, 188, 3, 0), (27, .ifCond .ne 7, 3, 34, 0, 0),
  (30, .ldc2_w 418, 3, 1, 0, (-1)), (33, .lreturn, 1, 0, 0, 0), (34, .lconst 0, 1, 0, 0, 0), (35, .lstore_n 3, 1, 0, 0, 0), (36, .iconst 0, 1, 0, 0, 0), (37, .istore 5, 2, 0, 0, 0), (39, .iload 5, 2, 0, 0, 0), (41, .aload_n 0, 1, 0, 0, 0),
  (42, .invokevirtual 335, 3, 201, 1, 2), (45, .if_icmp .ge 49, 3, 94, 0, 0), (48, .aload_n 0, 1, 0, 0, 0), (49, .iload 5, 2, 0, 0, 0), (51, .iconst 1, 1, 0, 0, 0), (52, .invokevirtual 322, 3, 162, 3, 2), (55, .iload_n 1, 1, 0, 0, 0), (56, .if_icmp .ne 13, 3, 69, 0, 0),
  (59, .aload_n 0, 1, 0, 0, 0), (60, .iload 5, 2, 0, 0, 0), (62, .iload_n 2, 1, 0, 0, 0), (63, .invokevirtual 410, 3, 234, 3, 2), (66, .goto 4, 3, 70, 0, 0), (69, .iconst (-1), 1, 0, 0, 0), (70, .istore 6, 2, 0, 0, 0), (72, .lload_n 3, 1, 0, 0, 0),
  (73, .iload 6, 2, 0, 0, 0), (75, .ifCond .lt 10, 3, 85, 0, 0), (78, .lconst 1, 1, 0, 0, 0), (79, .iload 6, 2, 0, 0, 0), (81, .lshl, 1, 0, 0, 0), (82, .goto 4, 3, 86, 0, 0), (85, .lconst 0, 1, 0, 0, 0), (86, .lor, 1, 0, 0, 0),
  (87, .lstore_n 3, 1, 0, 0, 0), (88, .iinc 5 1, 3, 0, 0, 0), (91, .goto (-52), 3, 39, 0, 0), (94, .lload_n 3, 1, 0, 0, 0), (95, .lreturn, 1, 0, 0, 0)]
/-- SamePassersModel.lanes()I -/
def mm_c242 : List (Nat × mm_E) := [(0, .aload_n 0, 1, 0, 0, 0), (1, .getfield 105, 3, 12, 10, 2), (4, .iconst 1, 1, 0, 0, 0), (5, .iaload, 1, 0, 0, 0), (6, .ireturn, 1, 0, 0, 0)]
/-- SamePassersModel.whose(III)I -/
def mm_c243 : List (Nat × mm_E) := [(0, .aload_n 0, 1, 0, 0, 0), (1, .iconst 0, 1, 0, 0, 0), (2, .putfield 1, 3, 12, 0, 0), (5, .iload_n 1, 1, 0, 0, 0), (6, .iconst 0, 1, 0, 0, 0), (7, .aload_n 0, 1, 0, 0, 0), (8, .invokevirtual 347, 3, 208, 1, 2), (11, .iconst 1, 1, 0, 0, 0),
  (12, .isub, 1, 0, 0, 0), (13, .invokestatic 241, 3, 188, 3, 0), (16, .ifCond .eq 28, 3, 44, 0, 0), (19, .iload_n 2, 1, 0, 0, 0), (20, .iconst 0, 1, 0, 0, 0), (21, .aload_n 0, 1, 0, 0, 0), (22, .invokevirtual 415, 3, 242, 1, 2), (25, .iconst 1, 1, 0, 0, 0),
  (26, .isub, 1, 0, 0, 0), (27, .invokestatic 241, 3, 188, 3, 0), (30, .ifCond .eq 14, 3, 44, 0, 0), (33, .iload_n 3, 1, 0, 0, 0), (34, .iconst 0, 1, 0, 0, 0), (35, .sipush 600, 3, 0, 0, 0), (38, .invokestatic 241, 3, 188, 3, 0), (41, .ifCond .ne 5, 3, 46, 0, 0),
  (44, .iconst (-1), 1, 0, 0, 0), (45, .ireturn, 1, 0, 0, 0), (46, .iconst 0, 1, 0, 0, 0), (47, .istore 4, 2, 0, 0, 0), (49, .iconst 0, 1, 0, 0, 0), (50, .istore 5, 2, 0, 0, 0), (52, .iload 5, 2, 0, 0, 0), (54, .aload_n 0, 1, 0, 0, 0),
  (55, .invokevirtual 335, 3, 201, 1, 2), (58, .if_icmp .ge 44, 3, 102, 0, 0), (61, .iload 4, 2, 0, 0, 0), (63, .aload_n 0, 1, 0, 0, 0), (64, .iload 5, 2, 0, 0, 0), (66, .iconst 1, 1, 0, 0, 0), (67, .invokevirtual 322, 3, 162, 3, 2), (70, .iload_n 2, 1, 0, 0, 0),
  (71, .if_icmp .ne 21, 3, 92, 0, 0), (74, .aload_n 0, 1, 0, 0, 0), (75, .iload 5, 2, 0, 0, 0), (77, .iload_n 3, 1, 0, 0, 0), (78, .invokevirtual 410, 3, 234, 3, 2), (81, .iload_n 1, 1, 0, 0, 0), (82, .if_icmp .ne 10, 3, 92, 0, 0), (85, .iconst 1, 1, 0, 0, 0),
  (86, .iload 5, 2, 0, 0, 0), (88, .ishl, 1, 0, 0, 0), (89, .goto 4, 3, 93, 0, 0), (92, .iconst 0, 1, 0, 0, 0), (93, .ior, 1, 0, 0, 0), (94, .istore 4, 2, 0, 0, 0), (96, .iinc 5 1, 3, 0, 0, 0), (99, .goto (-47), 3, 52, 0, 0),
  (102, .iload 4, 2, 0, 0, 0), (104, .ireturn, 1, 0, 0, 0)]
/-- SamePassersModel.lags(II)I -/
def mm_c244 : List (Nat × mm_E) := [(0, .aload_n 0, 1, 0, 0, 0), (1, .iconst 0, 1, 0, 0, 0), (2, .putfield 1, 3, 12, 0, 0), (5, .iload_n 1, 1, 0, 0, 0), (6, .iconst 1, 1, 0, 0, 0), (7, .iconst 1, 1, 0, 0, 0), (8, .aload_n 0, 1, 0, 0, 0), (9, .invokevirtual 335, 3, 201, 1, 2),
  (12, .ishl, 1, 0, 0, 0), (13, .iconst 1, 1, 0, 0, 0), (14, .isub, 1, 0, 0, 0), (15, .invokestatic 241, 3, 188, 3, 0), (18, .ifCond .eq 23, 3, 41, 0, 0), (21, .iload_n 1, 1, 0, 0, 0), (22, .invokestatic 444, 3, 245, 1, 0), (25, .iconst 4, 1, 0, 0, 0),
  (26, .if_icmp .gt 15, 3, 41, 0, 0), (29, .iload_n 2, 1, 0, 0, 0), (30, .iconst 0, 1, 0, 0, 0), (31, .iload_n 1, 1, 0, 0, 0), (32, .invokestatic 444, 3, 245, 1, 0), (35, .invokestatic 241, 3, 188, 3, 0), (38, .ifCond .ne 5, 3, 43, 0, 0), (41, .iconst (-1), 1, 0, 0, 0),
  (42, .ireturn, 1, 0, 0, 0), (43, .aload_n 0, 1, 0, 0, 0), (44, .iconst 0, 1, 0, 0, 0), (45, .putfield 423, 3, 12, 35, 0), (48, .iconst 0, 1, 0, 0, 0), (49, .istore_n 3, 1, 0, 0, 0), (50, .iload_n 3, 1, 0, 0, 0), (51, .aload_n 0, 1, 0, 0, 0),
  (52, .invokevirtual 335, 3, 201, 1, 2), (55, .if_icmp .ge 58, 3, 113, 0, 0), (58, .iload_n 1, 1, 0, 0, 0), (59, .iload_n 3, 1, 0, 0, 0), (60, .ishr, 1, 0, 0, 0), (61, .iconst 1, 1, 0, 0, 0), (62, .iand, 1, 0, 0, 0), (63, .iconst 1, 1, 0, 0, 0),
  (64, .if_icmp .ne 43, 3, 107, 0, 0), (67, .aload_n 0, 1, 0, 0, 0), (68, .getfield 142, 3, 12, 28, 2), (71, .aload_n 0, 1, 0, 0, 0), (72, .getfield 423, 3, 12, 35, 0), (75, .iload_n 3, 1, 0, 0, 0), (76, .iastore, 1, 0, 0, 0), (77, .aload_n 0, 1, 0, 0, 0),
  (78, .getfield 145, 3, 12, 29, 2), (81, .aload_n 0, 1, 0, 0, 0), (82, .getfield 423, 3, 12, 35, 0), (85, .aload_n 0, 1, 0, 0, 0), (86, .iload_n 3, 1, 0, 0, 0), (87, .aload_n 0, 1, 0, 0, 0), (88, .getfield 135, 3, 12, 25, 2), (91, .iconst 0, 1, 0, 0, 0),
  (92, .iaload, 1, 0, 0, 0), (93, .invokevirtual 353, 3, 202, 3, 2), (96, .iastore, 1, 0, 0, 0), (97, .aload_n 0, 1, 0, 0, 0), (98, .dup, 1, 0, 0, 0), (99, .getfield 423, 3, 12, 35, 0), (102, .iconst 1, 1, 0, 0, 0), (103, .iadd, 1, 0, 0, 0),
  (104, .putfield 423, 3, 12, 35, 0), (107, .iinc 3 1, 3, 0, 0, 0), (110, .goto (-60), 3, 50, 0, 0), (113, .aload_n 0, 1, 0, 0, 0), (114, .invokevirtual 447, 3, 246, 1, 2), (117, .aload_n 0, 1, 0, 0, 0), (118, .iconst (-1), 1, 0, 0, 0), (119, .putfield 438, 3, 12, 34, 0),
  (122, .aload_n 0, 1, 0, 0, 0), (123, .iconst 0, 1, 0, 0, 0), (124, .iconst 0, 1, 0, 0, 0), (125, .invokevirtual 441, 3, 251, 3, 2), (128, .aload_n 0, 1, 0, 0, 0), (129, .getfield 438, 3, 12, 34, 0), (132, .ifCond .ge 7, 3, 139, 0, 0), (135, .iconst (-1), 1, 0, 0, 0),
  (136, .goto 22, 3, 158, 0, 0), (139, .iload_n 2, 1, 0, 0, 0), (140, .ifCond .ne 10, 3, 150, 0, 0), (143, .aload_n 0, 1, 0, 0, 0), (144, .getfield 438, 3, 12, 34, 0), (147, .goto 11, 3, 158, 0, 0), (150, .aload_n 0, 1, 0, 0, 0), (151, .getfield 157, 3, 12, 33, 2),
  (154, .iload_n 2, 1, 0, 0, 0), (155, .iconst 1, 1, 0, 0, 0), (156, .isub, 1, 0, 0, 0), (157, .iaload, 1, 0, 0, 0), (158, .ireturn, 1, 0, 0, 0)]
/-- SamePassersModel.bits(I)I -/
def mm_c245 : List (Nat × mm_E) := [(0, .iconst 0, 1, 0, 0, 0), (1, .istore_n 1, 1, 0, 0, 0), (2, .iconst 0, 1, 0, 0, 0), (3, .istore_n 2, 1, 0, 0, 0), (4, .iload_n 2, 1, 0, 0, 0), (5, .bipush 30, 2, 0, 0, 0), (7, .if_icmp .ge 17, 3, 24, 0, 0), (10, .iload_n 1, 1, 0, 0, 0),
  (11, .iload_n 0, 1, 0, 0, 0), (12, .iload_n 2, 1, 0, 0, 0), (13, .ishr, 1, 0, 0, 0), (14, .iconst 1, 1, 0, 0, 0), (15, .iand, 1, 0, 0, 0), (16, .iadd, 1, 0, 0, 0), (17, .istore_n 1, 1, 0, 0, 0), (18, .iinc 2 1, 3, 0, 0, 0),
  (21, .goto (-17), 3, 4, 0, 0), (24, .iload_n 1, 1, 0, 0, 0), (25, .ireturn, 1, 0, 0, 0)]
/-- SamePassersModel.laysFits()V -/
def mm_c246 : List (Nat × mm_E) := [(0, .iconst 0, 1, 0, 0, 0), (1, .istore_n 1, 1, 0, 0, 0), (2, .iload_n 1, 1, 0, 0, 0), (3, .aload_n 0, 1, 0, 0, 0), (4, .getfield 423, 3, 12, 35, 0), (7, .if_icmp .ge 129, 3, 136, 0, 0), (10, .iconst 0, 1, 0, 0, 0), (11, .istore_n 2, 1, 0, 0, 0),
  (12, .iload_n 2, 1, 0, 0, 0), (13, .bipush 24, 2, 0, 0, 0), (15, .if_icmp .ge 115, 3, 130, 0, 0), (18, .aload_n 0, 1, 0, 0, 0), (19, .getfield 151, 3, 12, 31, 2), (22, .bipush 24, 2, 0, 0, 0), (24, .iload_n 1, 1, 0, 0, 0), (25, .imul, 1, 0, 0, 0),
  (26, .iload_n 2, 1, 0, 0, 0), (27, .iadd, 1, 0, 0, 0), (28, .aload_n 0, 1, 0, 0, 0), (29, .iload_n 1, 1, 0, 0, 0), (30, .iload_n 2, 1, 0, 0, 0), (31, .invokevirtual 426, 3, 247, 3, 2), (34, .bastore, 1, 0, 0, 0), (35, .iconst 0, 1, 0, 0, 0),
  (36, .istore_n 3, 1, 0, 0, 0), (37, .iload_n 3, 1, 0, 0, 0), (38, .iload_n 1, 1, 0, 0, 0), (39, .if_icmp .ge 85, 3, 124, 0, 0), (42, .iconst 0, 1, 0, 0, 0), (43, .istore 4, 2, 0, 0, 0), (45, .iload 4, 2, 0, 0, 0), (47, .bipush 24, 2, 0, 0, 0),
  (49, .if_icmp .ge 69, 3, 118, 0, 0), (52, .aload_n 0, 1, 0, 0, 0), (53, .getfield 148, 3, 12, 30, 2), (56, .aload_n 0, 1, 0, 0, 0), (57, .iload_n 1, 1, 0, 0, 0), (58, .iload_n 2, 1, 0, 0, 0), (59, .iload_n 3, 1, 0, 0, 0), (60, .iload 4, 2, 0, 0, 0),
  (62, .invokevirtual 430, 3, 249, 5, 2), (65, .aload_n 0, 1, 0, 0, 0), (66, .getfield 151, 3, 12, 31, 2), (69, .bipush 24, 2, 0, 0, 0), (71, .iload_n 1, 1, 0, 0, 0), (72, .imul, 1, 0, 0, 0), (73, .iload_n 2, 1, 0, 0, 0), (74, .iadd, 1, 0, 0, 0),
  (75, .baload, 1, 0, 0, 0), (76, .ifCond .eq 34, 3, 110, 0, 0), (79, .aload_n 0, 1, 0, 0, 0), (80, .getfield 151, 3, 12, 31, 2), (83, .bipush 24, 2, 0, 0, 0), (85, .iload_n 3, 1, 0, 0, 0), (86, .imul, 1, 0, 0, 0), (87, .iload 4, 2, 0, 0, 0),
  (89, .iadd, 1, 0, 0, 0), (90, .baload, 1, 0, 0, 0), (91, .ifCond .eq 19, 3, 110, 0, 0), (94, .aload_n 0, 1, 0, 0, 0), (95, .iload_n 1, 1, 0, 0, 0), (96, .iload_n 2, 1, 0, 0, 0), (97, .iload_n 3, 1, 0, 0, 0), (98, .iload 4, 2, 0, 0, 0),
  (100, .invokevirtual 434, 3, 250, 5, 2), (103, .ifCond .eq 7, 3, 110, 0, 0), (106, .iconst 1, 1, 0, 0, 0), (107, .goto 4, 3, 111, 0, 0), (110, .iconst 0, 1, 0, 0, 0), (111, .bastore, 1, 0, 0, 0), (112, .iinc 4 1, 3, 0, 0, 0), (115, .goto (-70), 3, 45, 0, 0),
  (118, .iinc 3 1, 3, 0, 0, 0), (121, .goto (-84), 3, 37, 0, 0), (124, .iinc 2 1, 3, 0, 0, 0), (127, .goto (-115), 3, 12, 0, 0), (130, .iinc 1 1, 3, 0, 0, 0), (133, .goto (-131), 3, 2, 0, 0), (136, .return_, 1, 0, 0, 0)]
/-- SamePassersModel.doHold(II)Z -/
def mm_c247 : List (Nat × mm_E) := [(0, .iconst 1, 1, 0, 0, 0), (1, .istore_n 3, 1, 0, 0, 0), (2, .iconst 0, 1, 0, 0, 0), (3, .istore 4, 2, 0, 0, 0), (5, .iload 4, 2, 0, 0, 0), (7, .aload_n 0, 1, 0, 0, 0), (8, .invokevirtual 394, 3, 228, 1, 2), (11, .if_icmp .ge 62, 3, 73, 0, 0),
  (14, .iload_n 3, 1, 0, 0, 0), (15, .ifCond .eq 50, 3, 65, 0, 0), (18, .aload_n 0, 1, 0, 0, 0), (19, .iload 4, 2, 0, 0, 0), (21, .iconst 0, 1, 0, 0, 0), (22, .invokevirtual 391, 3, 230, 3, 2), (25, .aload_n 0, 1, 0, 0, 0), (26, .getfield 142, 3, 12, 28, 2),
  (29, .iload_n 1, 1, 0, 0, 0), (30, .iaload, 1, 0, 0, 0), (31, .if_icmp .ne 30, 3, 61, 0, 0), (34, .aload_n 0, 1, 0, 0, 0), (35, .iload_n 1, 1, 0, 0, 0), (36, .iload_n 2, 1, 0, 0, 0), (37, .aload_n 0, 1, 0, 0, 0), (38, .aload_n 0, 1, 0, 0, 0),
  (39, .iload 4, 2, 0, 0, 0), (41, .iconst 1, 1, 0, 0, 0), (42, .invokevirtual 391, 3, 230, 3, 2), (45, .invokevirtual 344, 3, 210, 2, 2), (48, .invokevirtual 420, 3, 248, 4, 2), (51, .aload_n 0, 1, 0, 0, 0), (52, .iload 4, 2, 0, 0, 0), (54, .iconst 2, 1, 0, 0, 0),
  (55, .invokevirtual 391, 3, 230, 3, 2), (58, .if_icmp .ne 7, 3, 65, 0, 0), (61, .iconst 1, 1, 0, 0, 0), (62, .goto 4, 3, 66, 0, 0), (65, .iconst 0, 1, 0, 0, 0), (66, .istore_n 3, 1, 0, 0, 0), (67, .iinc 4 1, 3, 0, 0, 0), (70, .goto (-65), 3, 5, 0, 0),
  (73, .iload_n 3, 1, 0, 0, 0), (74, .ireturn, 1, 0, 0, 0)]
/-- SamePassersModel.laggedPlace(III)I -/
def mm_c248 : List (Nat × mm_E) := [(0, .aload_n 0, 1, 0, 0, 0), (1, .getfield 142, 3, 12, 28, 2), (4, .iload_n 1, 1, 0, 0, 0), (5, .iaload, 1, 0, 0, 0), (6, .istore 4, 2, 0, 0, 0), (8, .aload_n 0, 1, 0, 0, 0), (9, .iload 4, 2, 0, 0, 0), (11, .aload_n 0, 1, 0, 0, 0),
  (12, .getfield 135, 3, 12, 25, 2), (15, .iconst 1, 1, 0, 0, 0), (16, .iload 4, 2, 0, 0, 0), (18, .iadd, 1, 0, 0, 0), (19, .iaload, 1, 0, 0, 0), (20, .aload_n 0, 1, 0, 0, 0), (21, .getfield 135, 3, 12, 25, 2), (24, .bipush 9, 2, 0, 0, 0),
  (26, .iload 4, 2, 0, 0, 0), (28, .iadd, 1, 0, 0, 0), (29, .iaload, 1, 0, 0, 0), (30, .iload_n 2, 1, 0, 0, 0), (31, .aload_n 0, 1, 0, 0, 0), (32, .getfield 145, 3, 12, 29, 2), (35, .iload_n 1, 1, 0, 0, 0), (36, .iaload, 1, 0, 0, 0),
  (37, .iload_n 3, 1, 0, 0, 0), (38, .invokevirtual 356, 3, 207, 7, 2), (41, .ireturn, 1, 0, 0, 0)]
/-- SamePassersModel.fitAt(IIII)I -/
def mm_c249 : List (Nat × mm_E) := [(0, .bipush 24, 2, 0, 0, 0), (2, .bipush 24, 2, 0, 0, 0), (4, .iconst 4, 1, 0, 0, 0), (5, .iload_n 1, 1, 0, 0, 0), (6, .imul, 1, 0, 0, 0), (7, .iload_n 3, 1, 0, 0, 0), (8, .iadd, 1, 0, 0, 0), (9, .imul, 1, 0, 0, 0),
  (10, .iload_n 2, 1, 0, 0, 0), (11, .iadd, 1, 0, 0, 0), (12, .imul, 1, 0, 0, 0), (13, .iload 4, 2, 0, 0, 0), (15, .iadd, 1, 0, 0, 0), (16, .ireturn, 1, 0, 0, 0)]
/-- SamePassersModel.goTogether(IIII)Z -/
def mm_c250 : List (Nat × mm_E) := [(0, .iconst 1, 1, 0, 0, 0), (1, .istore 5, 2, 0, 0, 0), (3, .iconst 0, 1, 0, 0, 0), (4, .istore 6, 2, 0, 0, 0), (6, .iload 6, 2, 0, 0, 0), (8, .sipush 600, 3, 0, 0, 0), (11, .if_icmp .gt 75, 3, 86, 0, 0), (14, .iload 5, 2, 0, 0, 0),
  (16, .ifCond .eq 70, 3, 86, 0, 0), (19, .aload_n 0, 1, 0, 0, 0), (20, .aload_n 0, 1, 0, 0, 0), (21, .getfield 142, 3, 12, 28, 2), (24, .iload_n 1, 1, 0, 0, 0), (25, .iaload, 1, 0, 0, 0), (26, .iconst 1, 1, 0, 0, 0), (27, .invokevirtual 322, 3, 162, 3, 2),
  (30, .aload_n 0, 1, 0, 0, 0), (31, .aload_n 0, 1, 0, 0, 0), (32, .getfield 142, 3, 12, 28, 2), (35, .iload_n 3, 1, 0, 0, 0), (36, .iaload, 1, 0, 0, 0), (37, .iconst 1, 1, 0, 0, 0), (38, .invokevirtual 322, 3, 162, 3, 2), (41, .if_icmp .ne 45, 3, 86, 0, 0),
  (44, .aload_n 0, 1, 0, 0, 0), (45, .iload_n 1, 1, 0, 0, 0), (46, .iload_n 2, 1, 0, 0, 0), (47, .iload 6, 2, 0, 0, 0), (49, .invokevirtual 420, 3, 248, 4, 2), (52, .istore 7, 2, 0, 0, 0), (54, .iload 7, 2, 0, 0, 0), (56, .ifCond .lt 17, 3, 73, 0, 0),
  (59, .iload 7, 2, 0, 0, 0), (61, .aload_n 0, 1, 0, 0, 0), (62, .iload_n 3, 1, 0, 0, 0), (63, .iload 4, 2, 0, 0, 0), (65, .iload 6, 2, 0, 0, 0), (67, .invokevirtual 420, 3, 248, 4, 2), (70, .if_icmp .eq 7, 3, 77, 0, 0), (73, .iconst 1, 1, 0, 0, 0),
  (74, .goto 4, 3, 78, 0, 0), (77, .iconst 0, 1, 0, 0, 0), (78, .istore 5, 2, 0, 0, 0), (80, .iinc 6 1, 3, 0, 0, 0), (83, .goto (-77), 3, 6, 0, 0), (86, .iload 5, 2, 0, 0, 0), (88, .ireturn, 1, 0, 0, 0)]
/-- SamePassersModel.goesThrough(II)V -/
def mm_c251 : List (Nat × mm_E) := [(0, .aload_n 0, 1, 0, 0, 0), (1, .getfield 438, 3, 12, 34, 0), (4, .ifCond .lt 12, 3, 16, 0, 0), (7, .iload_n 2, 1, 0, 0, 0), (8, .aload_n 0, 1, 0, 0, 0), (9, .getfield 438, 3, 12, 34, 0), (12, .if_icmp .lt 4, 3, 16, 0, 0), (15, .return_, 1, 0, 0, 0),
  (16, .iload_n 1, 1, 0, 0, 0), (17, .aload_n 0, 1, 0, 0, 0), (18, .getfield 423, 3, 12, 35, 0), (21, .if_icmp .ne 34, 3, 55, 0, 0), (24, .aload_n 0, 1, 0, 0, 0), (25, .iload_n 2, 1, 0, 0, 0), (26, .putfield 438, 3, 12, 34, 0), (29, .iconst 0, 1, 0, 0, 0),
  (30, .istore_n 3, 1, 0, 0, 0), (31, .iload_n 3, 1, 0, 0, 0), (32, .iload_n 1, 1, 0, 0, 0), (33, .if_icmp .ge 21, 3, 54, 0, 0), (36, .aload_n 0, 1, 0, 0, 0), (37, .getfield 157, 3, 12, 33, 2), (40, .iload_n 3, 1, 0, 0, 0), (41, .aload_n 0, 1, 0, 0, 0),
  (42, .getfield 154, 3, 12, 32, 2), (45, .iload_n 3, 1, 0, 0, 0), (46, .iaload, 1, 0, 0, 0), (47, .iastore, 1, 0, 0, 0), (48, .iinc 3 1, 3, 0, 0, 0), (51, .goto (-20), 3, 31, 0, 0), (54, .return_, 1, 0, 0, 0), (55, .iconst 0, 1, 0, 0, 0),
  (56, .istore_n 3, 1, 0, 0, 0), (57, .iload_n 3, 1, 0, 0, 0), (58, .bipush 24, 2, 0, 0, 0), (60, .if_icmp .ge 94, 3, 154, 0, 0), (63, .aload_n 0, 1, 0, 0, 0), (64, .getfield 151, 3, 12, 31, 2), (67, .bipush 24, 2, 0, 0, 0), (69, .iload_n 1, 1, 0, 0, 0),
  (70, .imul, 1, 0, 0, 0), (71, .iload_n 3, 1, 0, 0, 0), (72, .iadd, 1, 0, 0, 0), (73, .baload, 1, 0, 0, 0), (74, .istore 4, 2, 0, 0, 0), (76, .iconst 0, 1, 0, 0, 0), (77, .istore 5, 2, 0, 0, 0), (79, .iload 5, 2, 0, 0, 0),
  (81, .iload_n 1, 1, 0, 0, 0), (82, .if_icmp .ge 44, 3, 126, 0, 0), (85, .iload 4, 2, 0, 0, 0), (87, .ifCond .eq 30, 3, 117, 0, 0), (90, .aload_n 0, 1, 0, 0, 0), (91, .getfield 148, 3, 12, 30, 2), (94, .aload_n 0, 1, 0, 0, 0), (95, .iload_n 1, 1, 0, 0, 0),
  (96, .iload_n 3, 1, 0, 0, 0), (97, .iload 5, 2, 0, 0, 0), (99, .aload_n 0, 1, 0, 0, 0), (100, .getfield 154, 3, 12, 32, 2), (103, .iload 5, 2, 0, 0, 0), (105, .iaload, 1, 0, 0, 0), (106, .invokevirtual 430, 3, 249, 5, 2), (109, .baload, 1, 0, 0, 0),
  (110, .ifCond .eq 7, 3, 117, 0, 0), (113, .iconst 1, 1, 0, 0, 0), (114, .goto 4, 3, 118, 0, 0), (117, .iconst 0, 1, 0, 0, 0), (118, .istore 4, 2, 0, 0, 0), (120, .iinc 5 1, 3, 0, 0, 0), (123, .goto (-44), 3, 79, 0, 0), (126, .iload 4, 2, 0, 0, 0),
  (128, .ifCond .eq 20, 3, 148, 0, 0), (131, .aload_n 0, 1, 0, 0, 0), (132, .getfield 154, 3, 12, 32, 2), (135, .iload_n 1, 1, 0, 0, 0), (136, .iload_n 3, 1, 0, 0, 0), (137, .iastore, 1, 0, 0, 0), (138, .aload_n 0, 1, 0, 0, 0), (139, .iload_n 1, 1, 0, 0, 0),
  (140, .iconst 1, 1, 0, 0, 0), (141, .iadd, 1, 0, 0, 0), (142, .iload_n 2, 1, 0, 0, 0), (143, .iload_n 3, 1, 0, 0, 0), (144, .iadd, 1, 0, 0, 0), (145, .invokevirtual 441, 3, 251, 3, 2), (148, .iinc 3 1, 3, 0, 0, 0), (151, .goto (-94), 3, 57, 0, 0),
  (154, .return_, 1, 0, 0, 0)]
/-- SamePassersModel.full(I)I -/
def mm_c252 : List (Nat × mm_E) := [(0, .aload_n 0, 1, 0, 0, 0), (1, .iconst 0, 1, 0, 0, 0), (2, .putfield 1, 3, 12, 0, 0), (5, .iconst (-1), 1, 0, 0, 0), (6, .istore_n 2, 1, 0, 0, 0), (7, .iconst 0, 1, 0, 0, 0), (8, .istore_n 3, 1, 0, 0, 0), (9, .iload_n 3, 1, 0, 0, 0),
  (10, .iconst 1, 1, 0, 0, 0), (11, .aload_n 0, 1, 0, 0, 0), (12, .invokevirtual 335, 3, 201, 1, 2), (15, .ishl, 1, 0, 0, 0), (16, .if_icmp .ge 150, 3, 166, 0, 0), (19, .iload_n 1, 1, 0, 0, 0), (20, .iconst 0, 1, 0, 0, 0), (21, .bipush 8, 2, 0, 0, 0),
  (23, .invokestatic 241, 3, 188, 3, 0), (26, .ifCond .eq 140, 3, 166, 0, 0), (29, .iload_n 2, 1, 0, 0, 0), (30, .ifCond .lt 14, 3, 44, 0, 0), (33, .iload_n 3, 1, 0, 0, 0), (34, .invokestatic 444, 3, 245, 1, 0), (37, .iload_n 2, 1, 0, 0, 0), (38, .invokestatic 444, 3, 245, 1, 0),
  (41, .if_icmp .ge 7, 3, 48, 0, 0), (44, .iconst 1, 1, 0, 0, 0), (45, .goto 4, 3, 49, 0, 0), (48, .iconst 0, 1, 0, 0, 0), (49, .istore 4, 2, 0, 0, 0), (51, .iconst 0, 1, 0, 0, 0), (52, .istore 5, 2, 0, 0, 0), (54, .iload 5, 2, 0, 0, 0),
  (56, .aload_n 0, 1, 0, 0, 0), (57, .invokevirtual 338, 3, 216, 1, 2), (60, .if_icmp .ge 89, 3, 149, 0, 0), (63, .iload 4, 2, 0, 0, 0), (65, .ifCond .eq 84, 3, 149, 0, 0), (68, .iconst 0, 1, 0, 0, 0), (69, .istore 6, 2, 0, 0, 0), (71, .iconst 0, 1, 0, 0, 0),
  (72, .istore 7, 2, 0, 0, 0), (74, .iload 7, 2, 0, 0, 0), (76, .aload_n 0, 1, 0, 0, 0), (77, .invokevirtual 335, 3, 201, 1, 2), (80, .if_icmp .ge 50, 3, 130, 0, 0), (83, .iload 6, 2, 0, 0, 0), (85, .iload_n 3, 1, 0, 0, 0), (86, .iload 7, 2, 0, 0, 0),
  (88, .ishr, 1, 0, 0, 0), (89, .iconst 1, 1, 0, 0, 0), (90, .iand, 1, 0, 0, 0), (91, .iconst 1, 1, 0, 0, 0), (92, .if_icmp .ne 28, 3, 120, 0, 0), (95, .aload_n 0, 1, 0, 0, 0), (96, .iload 7, 2, 0, 0, 0), (98, .aload_n 0, 1, 0, 0, 0),
  (99, .iload 7, 2, 0, 0, 0), (101, .aload_n 0, 1, 0, 0, 0), (102, .iload 5, 2, 0, 0, 0), (104, .invokevirtual 344, 3, 210, 2, 2), (107, .invokevirtual 410, 3, 234, 3, 2), (110, .invokevirtual 370, 3, 211, 3, 2), (113, .ifCond .le 7, 3, 120, 0, 0), (116, .iconst 1, 1, 0, 0, 0),
  (117, .goto 4, 3, 121, 0, 0), (120, .iconst 0, 1, 0, 0, 0), (121, .iadd, 1, 0, 0, 0), (122, .istore 6, 2, 0, 0, 0), (124, .iinc 7 1, 3, 0, 0, 0), (127, .goto (-53), 3, 74, 0, 0), (130, .iload 6, 2, 0, 0, 0), (132, .iload_n 1, 1, 0, 0, 0),
  (133, .if_icmp .lt 7, 3, 140, 0, 0), (136, .iconst 1, 1, 0, 0, 0), (137, .goto 4, 3, 141, 0, 0), (140, .iconst 0, 1, 0, 0, 0), (141, .istore 4, 2, 0, 0, 0), (143, .iinc 5 1, 3, 0, 0, 0), (146, .goto (-92), 3, 54, 0, 0), (149, .iload 4, 2, 0, 0, 0),
  (151, .ifCond .eq 7, 3, 158, 0, 0), (154, .iload_n 3, 1, 0, 0, 0), (155, .goto 4, 3, 159, 0, 0), (158, .iload_n 2, 1, 0, 0, 0), (159, .istore_n 2, 1, 0, 0, 0), (160, .iinc 3 1, 3, 0, 0, 0), (163, .goto (-154), 3, 9, 0, 0), (166, .iload_n 2, 1, 0, 0, 0),
  (167, .ireturn, 1, 0, 0, 0)]
/-- SamePassersModel.jump(IIIII)I -/
def mm_c253 : List (Nat × mm_E) := [(0, .aload_n 0, 1, 0, 0, 0), (1, .iconst 0, 1, 0, 0, 0), (2, .putfield 1, 3, 12, 0, 0), (5, .iload_n 1, 1, 0, 0, 0), (6, .iconst (-1), 1, 0, 0, 0), (7, .if_icmp .eq 11, 3, 18, 0, 0), (10, .aload_n 0, 1, 0, 0, 0), (11, .iload_n 1, 1, 0, 0, 0),
  (12, .invokevirtual 376, 3, 200, 2, 2), (15, .ifCond .eq 45, 3, 60, 0, 0), (18, .iload_n 2, 1, 0, 0, 0), (19, .iconst 0, 1, 0, 0, 0), (20, .bipush 60, 2, 0, 0, 0), (22, .invokestatic 241, 3, 188, 3, 0), (25, .ifCond .eq 35, 3, 60, 0, 0), (28, .iload 4, 2, 0, 0, 0),
  (30, .iconst 0, 1, 0, 0, 0), (31, .bipush 60, 2, 0, 0, 0), (33, .invokestatic 241, 3, 188, 3, 0), (36, .ifCond .eq 24, 3, 60, 0, 0), (39, .aload_n 0, 1, 0, 0, 0), (40, .iload_n 3, 1, 0, 0, 0), (41, .invokevirtual 382, 3, 215, 2, 2), (44, .ifCond .eq 16, 3, 60, 0, 0),
  (47, .aload_n 0, 1, 0, 0, 0), (48, .iload 5, 2, 0, 0, 0), (50, .invokevirtual 382, 3, 215, 2, 2), (53, .ifCond .eq 7, 3, 60, 0, 0), (56, .iconst 1, 1, 0, 0, 0), (57, .goto 4, 3, 61, 0, 0), (60, .iconst 0, 1, 0, 0, 0), (61, .istore 6, 2, 0, 0, 0),
  (63, .iload 6, 2, 0, 0, 0), (65, .ifCond .ne 8, 3, 73, 0, 0), (68, .bipush (-2), 2, 0, 0, 0), (70, .goto 31, 3, 101, 0, 0), (73, .iload_n 1, 1, 0, 0, 0), (74, .ifCond .ge 16, 3, 90, 0, 0), (77, .aload_n 0, 1, 0, 0, 0), (78, .iload_n 2, 1, 0, 0, 0),
  (79, .iload_n 3, 1, 0, 0, 0), (80, .iload 4, 2, 0, 0, 0), (82, .iload 5, 2, 0, 0, 0), (84, .invokevirtual 454, 3, 254, 5, 2), (87, .goto 14, 3, 101, 0, 0), (90, .aload_n 0, 1, 0, 0, 0), (91, .iload_n 1, 1, 0, 0, 0), (92, .iload_n 2, 1, 0, 0, 0),
  (93, .iload_n 3, 1, 0, 0, 0), (94, .iload 4, 2, 0, 0, 0), (96, .iload 5, 2, 0, 0, 0), (98, .invokevirtual 450, 3, 255, 6, 2), (101, .ireturn, 1, 0, 0, 0)]
/-- SamePassersModel.allJumps(IIII)I -/
def mm_c254 : List (Nat × mm_E) := [(0, .iconst 0, 1, 0, 0, 0), (1, .istore 5, 2, 0, 0, 0), (3, .iconst 0, 1, 0, 0, 0), (4, .istore 6, 2, 0, 0, 0), (6, .iload 6, 2, 0, 0, 0), (8, .aload_n 0, 1, 0, 0, 0), (9, .invokevirtual 335, 3, 201, 1, 2), (12, .if_icmp .ge 25, 3, 37, 0, 0),
  (15, .iload 5, 2, 0, 0, 0), (17, .aload_n 0, 1, 0, 0, 0), (18, .iload 6, 2, 0, 0, 0), (20, .iload_n 1, 1, 0, 0, 0), (21, .iload_n 2, 1, 0, 0, 0), (22, .iload_n 3, 1, 0, 0, 0), (23, .iload 4, 2, 0, 0, 0), (25, .invokevirtual 450, 3, 255, 6, 2),
  (28, .iadd, 1, 0, 0, 0), (29, .istore 5, 2, 0, 0, 0), (31, .iinc 6 1, 3, 0, 0, 0), (34, .goto (-28), 3, 6, 0, 0), (37, .iload 5, 2, 0, 0, 0), (39, .ireturn, 1, 0, 0, 0)]
/-- SamePassersModel.jumpOf(IIIII)I -/
def mm_c255 : List (Nat × mm_E) := [(0, .aload_n 0, 1, 0, 0, 0), (1, .iconst 0, 1, 0, 0, 0), (2, .iload_n 2, 1, 0, 0, 0), (3, .iconst 0, 1, 0, 0, 0), (4, .iload_n 1, 1, 0, 0, 0), (5, .aload_n 0, 1, 0, 0, 0), (6, .iload_n 3, 1, 0, 0, 0), (7, .invokevirtual 344, 3, 210, 2, 2),
  (10, .invokevirtual 360, 3, 231, 6, 2), (13, .istore 6, 2, 0, 0, 0), (15, .aload_n 0, 1, 0, 0, 0), (16, .iconst 0, 1, 0, 0, 0), (17, .iload 4, 2, 0, 0, 0), (19, .iconst 0, 1, 0, 0, 0), (20, .iload_n 1, 1, 0, 0, 0), (21, .aload_n 0, 1, 0, 0, 0),
  (22, .iload 5, 2, 0, 0, 0), (24, .invokevirtual 344, 3, 210, 2, 2), (27, .invokevirtual 360, 3, 231, 6, 2), (30, .istore 7, 2, 0, 0, 0), (32, .aload_n 0, 1, 0, 0, 0), (33, .iload_n 1, 1, 0, 0, 0), (34, .iload 6, 2, 0, 0, 0), (36, .invokevirtual 370, 3, 211, 3, 2),
  (39, .ifCond .le 7, 3, 46, 0, 0), (42, .iconst 1, 1, 0, 0, 0), (43, .goto 4, 3, 47, 0, 0), (46, .iconst 0, 1, 0, 0, 0), (47, .istore 8, 2, 0, 0, 0), (49, .aload_n 0, 1, 0, 0, 0), (50, .iload_n 1, 1, 0, 0, 0), (51, .iload 7, 2, 0, 0, 0),
  (53, .invokevirtual 370, 3, 211, 3, 2), (56, .ifCond .le 7, 3, 63, 0, 0), (59, .iconst 1, 1, 0, 0, 0), (60, .goto 4, 3, 64, 0, 0), (63, .iconst 0, 1, 0, 0, 0), (64, .istore 9, 2, 0, 0, 0), (66, .iload 6, 2, 0, 0, 0), (68, .iload 7, 2, 0, 0, 0),
  (70, .isub, 1, 0, 0, 0), (71, .istore 10, 2, 0, 0, 0), (73, .iload 8, 2, 0, 0, 0), (75, .ifCond .eq 24, 3, 99, 0, 0), (78, .iload 9, 2, 0, 0, 0), (80, .ifCond .eq 19, 3, 99, 0, 0), (83, .iload 10, 2, 0, 0, 0), (85, .ifCond .ge 9, 3, 94, 0, 0),
  (88, .iload 10, 2, 0, 0, 0), (90, .ineg, 1, 0, 0, 0), (91, .goto 37, 3, 128, 0, 0), (94, .iload 10, 2, 0, 0, 0), (96, .goto 32, 3, 128, 0, 0), (99, .iload 8, 2, 0, 0, 0), (101, .ifCond .ne 8, 3, 109, 0, 0), (104, .iload 9, 2, 0, 0, 0),
  (106, .ifCond .eq 21, 3, 127, 0, 0), (109, .aload_n 0, 1, 0, 0, 0), (110, .getfield 105, 3, 12, 10, 2), (113, .iconst 3, 1, 0, 0, 0), (114, .iaload, 1, 0, 0, 0), (115, .aload_n 0, 1, 0, 0, 0), (116, .getfield 105, 3, 12, 10, 2), (119, .iconst 2, 1, 0, 0, 0),
  (120, .iaload, 1, 0, 0, 0), (121, .isub, 1, 0, 0, 0), (122, .iconst 1, 1, 0, 0, 0), (123, .iadd, 1, 0, 0, 0), (124, .goto 4, 3, 128, 0, 0), (127, .iconst 0, 1, 0, 0, 0), (128, .ireturn, 1, 0, 0, 0)]
/-- SamePassersModel.best(II)I -/
def mm_c256 : List (Nat × mm_E) := [(0, .aload_n 0, 1, 0, 0, 0), (1, .iconst 0, 1, 0, 0, 0), (2, .putfield 1, 3, 12, 0, 0), (5, .aload_n 0, 1, 0, 0, 0), (6, .iload_n 1, 1, 0, 0, 0), (7, .invokevirtual 382, 3, 215, 2, 2), (10, .ifCond .eq 12, 3, 22, 0, 0), (13, .iload_n 2, 1, 0, 0, 0),
  (14, .iconst 0, 1, 0, 0, 0), (15, .iconst 2, 1, 0, 0, 0), (16, .invokestatic 241, 3, 188, 3, 0), (19, .ifCond .ne 5, 3, 24, 0, 0), (22, .iconst (-1), 1, 0, 0, 0), (23, .ireturn, 1, 0, 0, 0), (24, .iconst (-1), 1, 0, 0, 0), (25, .istore_n 3, 1, 0, 0, 0),
  (26, .iconst 0, 1, 0, 0, 0), (27, .istore 4, 2, 0, 0, 0), (29, .iconst 0, 1, 0, 0, 0), (30, .istore 5, 2, 0, 0, 0), (32, .iconst 0, 1, 0, 0, 0), (33, .istore 6, 2, 0, 0, 0), (35, .iload 6, 2, 0, 0, 0), (37, .bipush 12, 2, 0, 0, 0),
  (39, .if_icmp .ge 61, 3, 100, 0, 0), (42, .iload 6, 2, 0, 0, 0), (44, .iconst 1, 1, 0, 0, 0), (45, .iadd, 1, 0, 0, 0), (46, .istore 7, 2, 0, 0, 0), (48, .iload 7, 2, 0, 0, 0), (50, .bipush 12, 2, 0, 0, 0), (52, .if_icmp .ge 42, 3, 94, 0, 0),
  (55, .aload_n 0, 1, 0, 0, 0), (56, .iload 6, 2, 0, 0, 0), (58, .iload_n 1, 1, 0, 0, 0), (59, .iload 7, 2, 0, 0, 0), (61, .iload_n 1, 1, 0, 0, 0), (62, .invokevirtual 454, 3, 254, 5, 2), (65, .istore 8, 2, 0, 0, 0), (67, .iload_n 3, 1, 0, 0, 0),
  (68, .ifCond .lt 9, 3, 77, 0, 0), (71, .iload 8, 2, 0, 0, 0), (73, .iload_n 3, 1, 0, 0, 0), (74, .if_icmp .ge 14, 3, 88, 0, 0), (77, .iload 8, 2, 0, 0, 0), (79, .istore_n 3, 1, 0, 0, 0), (80, .iload 6, 2, 0, 0, 0), (82, .istore 4, 2, 0, 0, 0),
  (84, .iload 7, 2, 0, 0, 0), (86, .istore 5, 2, 0, 0, 0), (88, .iinc 7 1, 3, 0, 0, 0), (91, .goto (-43), 3, 48, 0, 0), (94, .iinc 6 1, 3, 0, 0, 0), (97, .goto (-62), 3, 35, 0, 0), (100, .iload_n 2, 1, 0, 0, 0), (101, .ifCond .ne 7, 3, 108, 0, 0),
  (104, .iload_n 3, 1, 0, 0, 0), (105, .goto 15, 3, 120, 0, 0), (108, .iload_n 2, 1, 0, 0, 0), (109, .iconst 1, 1, 0, 0, 0), (110, .if_icmp .ne 8, 3, 118, 0, 0), (113, .iload 4, 2, 0, 0, 0), (115, .goto 5, 3, 120, 0, 0), (118, .iload 5, 2, 0, 0, 0),
  (120, .ireturn, 1, 0, 0, 0)]
/-- SamePassersModel.wrong()I -/
def mm_c257 : List (Nat × mm_E) := [(0, .aload_n 0, 1, 0, 0, 0), (1, .iconst 0, 1, 0, 0, 0), (2, .putfield 1, 3, 12, 0, 0), (5, .iconst 0, 1, 0, 0, 0), (6, .istore_n 1, 1, 0, 0, 0), (7, .iconst 0, 1, 0, 0, 0), (8, .istore_n 2, 1, 0, 0, 0), (9, .iload_n 2, 1, 0, 0, 0),
  (10, .aload_n 0, 1, 0, 0, 0), (11, .invokevirtual 335, 3, 201, 1, 2), (14, .if_icmp .ge 73, 3, 87, 0, 0), (17, .iconst 0, 1, 0, 0, 0), (18, .istore_n 3, 1, 0, 0, 0), (19, .iconst 0, 1, 0, 0, 0), (20, .istore 4, 2, 0, 0, 0), (22, .iload 4, 2, 0, 0, 0),
  (24, .aload_n 0, 1, 0, 0, 0), (25, .invokevirtual 338, 3, 216, 1, 2), (28, .if_icmp .ge 39, 3, 67, 0, 0), (31, .iload_n 3, 1, 0, 0, 0), (32, .ifCond .ne 23, 3, 55, 0, 0), (35, .aload_n 0, 1, 0, 0, 0), (36, .iload_n 2, 1, 0, 0, 0), (37, .aload_n 0, 1, 0, 0, 0),
  (38, .iload_n 2, 1, 0, 0, 0), (39, .aload_n 0, 1, 0, 0, 0), (40, .iload 4, 2, 0, 0, 0), (42, .invokevirtual 344, 3, 210, 2, 2), (45, .invokevirtual 410, 3, 234, 3, 2), (48, .invokevirtual 370, 3, 211, 3, 2), (51, .iconst 2, 1, 0, 0, 0), (52, .if_icmp .ne 7, 3, 59, 0, 0),
  (55, .iconst 1, 1, 0, 0, 0), (56, .goto 4, 3, 60, 0, 0), (59, .iconst 0, 1, 0, 0, 0), (60, .istore_n 3, 1, 0, 0, 0), (61, .iinc 4 1, 3, 0, 0, 0), (64, .goto (-42), 3, 22, 0, 0), (67, .iload_n 1, 1, 0, 0, 0), (68, .iload_n 3, 1, 0, 0, 0),
  (69, .ifCond .eq 7, 3, 76, 0, 0), (72, .iconst 0, 1, 0, 0, 0), (73, .goto 6, 3, 79, 0, 0), (76, .iconst 1, 1, 0, 0, 0), (77, .iload_n 2, 1, 0, 0, 0), (78, .ishl, 1, 0, 0, 0), (79, .ior, 1, 0, 0, 0), (80, .istore_n 1, 1, 0, 0, 0),
  (81, .iinc 2 1, 3, 0, 0, 0), (84, .goto (-75), 3, 9, 0, 0), (87, .iload_n 1, 1, 0, 0, 0), (88, .ireturn, 1, 0, 0, 0)]
/-- SamePassersModel.change(II)I -/
def mm_c258 : List (Nat × mm_E) := [(0, .aload_n 0, 1, 0, 0, 0), (1, .iconst 0, 1, 0, 0, 0), (2, .putfield 1, 3, 12, 0, 0), (5, .aload_n 0, 1, 0, 0, 0), (6, .iload_n 1, 1, 0, 0, 0), (7, .invokevirtual 376, 3, 200, 2, 2), (10, .ifCond .eq 13, 3, 23, 0, 0), (13, .iload_n 2, 1, 0, 0, 0),
  (14, .iconst 0, 1, 0, 0, 0), (15, .bipush 40, 2, 0, 0, 0), (17, .invokestatic 241, 3, 188, 3, 0), (20, .ifCond .ne 5, 3, 25, 0, 0), (23, .iconst (-1), 1, 0, 0, 0), (24, .ireturn, 1, 0, 0, 0), (25, .iconst 0, 1, 0, 0, 0), (26, .istore_n 3, 1, 0, 0, 0),
  (27, .iconst 0, 1, 0, 0, 0), (28, .istore 4, 2, 0, 0, 0), (30, .iload 4, 2, 0, 0, 0), (32, .aload_n 0, 1, 0, 0, 0), (33, .invokevirtual 335, 3, 201, 1, 2), (36, .if_icmp .ge 37, 3, 73, 0, 0), (39, .iload_n 3, 1, 0, 0, 0), (40, .iload 4, 2, 0, 0, 0),
  (42, .iload_n 1, 1, 0, 0, 0), (43, .if_icmp .eq 21, 3, 64, 0, 0), (46, .aload_n 0, 1, 0, 0, 0), (47, .iload_n 1, 1, 0, 0, 0), (48, .iload 4, 2, 0, 0, 0), (50, .iload_n 2, 1, 0, 0, 0), (51, .invokevirtual 457, 3, 259, 4, 2), (54, .ifCond .eq 10, 3, 64, 0, 0),
  (57, .iconst 1, 1, 0, 0, 0), (58, .iload 4, 2, 0, 0, 0), (60, .ishl, 1, 0, 0, 0), (61, .goto 4, 3, 65, 0, 0), (64, .iconst 0, 1, 0, 0, 0), (65, .ior, 1, 0, 0, 0), (66, .istore_n 3, 1, 0, 0, 0), (67, .iinc 4 1, 3, 0, 0, 0),
  (70, .goto (-40), 3, 30, 0, 0), (73, .iload_n 3, 1, 0, 0, 0), (74, .ireturn, 1, 0, 0, 0)]
/-- SamePassersModel.isAlike(III)Z -/
def mm_c259 : List (Nat × mm_E) := [(0, .aload_n 0, 1, 0, 0, 0), (1, .iload_n 1, 1, 0, 0, 0), (2, .iconst 0, 1, 0, 0, 0), (3, .invokevirtual 322, 3, 162, 3, 2), (6, .aload_n 0, 1, 0, 0, 0), (7, .iload_n 2, 1, 0, 0, 0), (8, .iconst 0, 1, 0, 0, 0), (9, .invokevirtual 322, 3, 162, 3, 2),
  (12, .if_icmp .ne 7, 3, 19, 0, 0), (15, .iconst 1, 1, 0, 0, 0), (16, .goto 4, 3, 20, 0, 0), (19, .iconst 0, 1, 0, 0, 0), (20, .istore 4, 2, 0, 0, 0), (22, .iconst 0, 1, 0, 0, 0), (23, .istore 5, 2, 0, 0, 0), (25, .iload 5, 2, 0, 0, 0),
  (27, .aload_n 0, 1, 0, 0, 0), (28, .invokevirtual 338, 3, 216, 1, 2), (31, .if_icmp .ge 107, 3, 138, 0, 0), (34, .iload 4, 2, 0, 0, 0), (36, .ifCond .eq 102, 3, 138, 0, 0), (39, .aload_n 0, 1, 0, 0, 0), (40, .iload_n 1, 1, 0, 0, 0), (41, .aload_n 0, 1, 0, 0, 0),
  (42, .iload 5, 2, 0, 0, 0), (44, .invokevirtual 344, 3, 210, 2, 2), (47, .invokevirtual 410, 3, 234, 3, 2), (50, .istore 6, 2, 0, 0, 0), (52, .aload_n 0, 1, 0, 0, 0), (53, .iload_n 2, 1, 0, 0, 0), (54, .aload_n 0, 1, 0, 0, 0), (55, .iload 5, 2, 0, 0, 0),
  (57, .invokevirtual 344, 3, 210, 2, 2), (60, .invokevirtual 410, 3, 234, 3, 2), (63, .istore 7, 2, 0, 0, 0), (65, .aload_n 0, 1, 0, 0, 0), (66, .iload_n 1, 1, 0, 0, 0), (67, .iload 6, 2, 0, 0, 0), (69, .invokevirtual 370, 3, 211, 3, 2), (72, .ifCond .le 7, 3, 79, 0, 0),
  (75, .iconst 1, 1, 0, 0, 0), (76, .goto 4, 3, 80, 0, 0), (79, .iconst 0, 1, 0, 0, 0), (80, .istore 8, 2, 0, 0, 0), (82, .iload 8, 2, 0, 0, 0), (84, .aload_n 0, 1, 0, 0, 0), (85, .iload_n 2, 1, 0, 0, 0), (86, .iload 7, 2, 0, 0, 0),
  (88, .invokevirtual 370, 3, 211, 3, 2), (91, .ifCond .le 7, 3, 98, 0, 0), (94, .iconst 1, 1, 0, 0, 0), (95, .goto 4, 3, 99, 0, 0), (98, .iconst 0, 1, 0, 0, 0), (99, .if_icmp .ne 30, 3, 129, 0, 0), (102, .iload 8, 2, 0, 0, 0), (104, .ifCond .eq 21, 3, 125, 0, 0),
  (107, .iload 6, 2, 0, 0, 0), (109, .iload 7, 2, 0, 0, 0), (111, .isub, 1, 0, 0, 0), (112, .iload_n 3, 1, 0, 0, 0), (113, .if_icmp .gt 16, 3, 129, 0, 0), (116, .iload 7, 2, 0, 0, 0), (118, .iload 6, 2, 0, 0, 0), (120, .isub, 1, 0, 0, 0),
  (121, .iload_n 3, 1, 0, 0, 0), (122, .if_icmp .gt 7, 3, 129, 0, 0), (125, .iconst 1, 1, 0, 0, 0), (126, .goto 4, 3, 130, 0, 0), (129, .iconst 0, 1, 0, 0, 0), (130, .istore 4, 2, 0, 0, 0), (132, .iinc 5 1, 3, 0, 0, 0), (135, .goto (-110), 3, 25, 0, 0),
  (138, .iload 4, 2, 0, 0, 0), (140, .ireturn, 1, 0, 0, 0)]
/-- SamePassersModel.other(III)I -/
def mm_c260 : List (Nat × mm_E) := [(0, .aload_n 0, 1, 0, 0, 0), (1, .iconst 0, 1, 0, 0, 0), (2, .putfield 1, 3, 12, 0, 0), (5, .aload_n 0, 1, 0, 0, 0), (6, .iload_n 1, 1, 0, 0, 0), (7, .invokevirtual 376, 3, 200, 2, 2), (10, .ifCond .eq 20, 3, 30, 0, 0), (13, .aload_n 0, 1, 0, 0, 0),
  (14, .iload_n 2, 1, 0, 0, 0), (15, .invokevirtual 382, 3, 215, 2, 2), (18, .ifCond .eq 12, 3, 30, 0, 0), (21, .iload_n 3, 1, 0, 0, 0), (22, .iconst 0, 1, 0, 0, 0), (23, .iconst 1, 1, 0, 0, 0), (24, .invokestatic 241, 3, 188, 3, 0), (27, .ifCond .ne 6, 3, 33, 0, 0),
  (30, .bipush (-2), 2, 0, 0, 0), (32, .ireturn, 1, 0, 0, 0), (33, .aload_n 0, 1, 0, 0, 0), (34, .iload_n 1, 1, 0, 0, 0), (35, .aload_n 0, 1, 0, 0, 0), (36, .iload_n 2, 1, 0, 0, 0), (37, .invokevirtual 344, 3, 210, 2, 2), (40, .invokevirtual 410, 3, 234, 3, 2),
  (43, .istore 4, 2, 0, 0, 0), (45, .iload_n 3, 1, 0, 0, 0), (46, .iconst 1, 1, 0, 0, 0), (47, .if_icmp .ne 19, 3, 66, 0, 0), (50, .aload_n 0, 1, 0, 0, 0), (51, .invokevirtual 415, 3, 242, 1, 2), (54, .iconst 1, 1, 0, 0, 0), (55, .isub, 1, 0, 0, 0),
  (56, .aload_n 0, 1, 0, 0, 0), (57, .iload_n 1, 1, 0, 0, 0), (58, .iconst 1, 1, 0, 0, 0), (59, .invokevirtual 322, 3, 162, 3, 2), (62, .isub, 1, 0, 0, 0), (63, .goto 37, 3, 100, 0, 0), (66, .iload 4, 2, 0, 0, 0), (68, .ifCond .lt 12, 3, 80, 0, 0),
  (71, .aload_n 0, 1, 0, 0, 0), (72, .iload 4, 2, 0, 0, 0), (74, .invokevirtual 364, 3, 212, 2, 2), (77, .ifCond .ne 7, 3, 84, 0, 0), (80, .iconst (-1), 1, 0, 0, 0), (81, .goto 19, 3, 100, 0, 0), (84, .aload_n 0, 1, 0, 0, 0), (85, .getfield 105, 3, 12, 10, 2),
  (88, .iconst 2, 1, 0, 0, 0), (89, .iaload, 1, 0, 0, 0), (90, .aload_n 0, 1, 0, 0, 0), (91, .getfield 105, 3, 12, 10, 2), (94, .iconst 3, 1, 0, 0, 0), (95, .iaload, 1, 0, 0, 0), (96, .iadd, 1, 0, 0, 0), (97, .iload 4, 2, 0, 0, 0),
  (99, .isub, 1, 0, 0, 0), (100, .ireturn, 1, 0, 0, 0)]
/-- SamePassersModel.tell(II)Z -/
def mm_c261 : List (Nat × mm_E) := [(0, .aload_n 0, 1, 0, 0, 0), (1, .iconst 0, 1, 0, 0, 0), (2, .putfield 1, 3, 12, 0, 0), (5, .iload_n 1, 1, 0, 0, 0), (6, .iconst 0, 1, 0, 0, 0), (7, .bipush 60, 2, 0, 0, 0), (9, .invokestatic 241, 3, 188, 3, 0), (12, .ifCond .eq 26, 3, 38, 0, 0),
  (15, .iload_n 2, 1, 0, 0, 0), (16, .iconst 0, 1, 0, 0, 0), (17, .sipush 600, 3, 0, 0, 0), (20, .invokestatic 241, 3, 188, 3, 0), (23, .ifCond .eq 15, 3, 38, 0, 0), (26, .aload_n 0, 1, 0, 0, 0), (27, .getfield 135, 3, 12, 25, 2), (30, .bipush 25, 2, 0, 0, 0),
  (32, .iaload, 1, 0, 0, 0), (33, .bipush 10, 2, 0, 0, 0), (35, .if_icmp .ne 5, 3, 40, 0, 0), (38, .iconst 0, 1, 0, 0, 0), (39, .ireturn, 1, 0, 0, 0), (40, .aload_n 0, 1, 0, 0, 0), (41, .getfield 135, 3, 12, 25, 2), (44, .bipush 26, 2, 0, 0, 0),
  (46, .iconst 2, 1, 0, 0, 0), (47, .aload_n 0, 1, 0, 0, 0), (48, .getfield 135, 3, 12, 25, 2), (51, .bipush 25, 2, 0, 0, 0), (53, .iaload, 1, 0, 0, 0), (54, .imul, 1, 0, 0, 0), (55, .iadd, 1, 0, 0, 0), (56, .iload_n 1, 1, 0, 0, 0),
  (57, .iastore, 1, 0, 0, 0), (58, .aload_n 0, 1, 0, 0, 0), (59, .getfield 135, 3, 12, 25, 2), (62, .bipush 26, 2, 0, 0, 0), (64, .iconst 2, 1, 0, 0, 0), (65, .aload_n 0, 1, 0, 0, 0), (66, .getfield 135, 3, 12, 25, 2), (69, .bipush 25, 2, 0, 0, 0),
  (71, .iaload, 1, 0, 0, 0), (72, .imul, 1, 0, 0, 0), (73, .iadd, 1, 0, 0, 0), (74, .iconst 1, 1, 0, 0, 0), (75, .iadd, 1, 0, 0, 0), (76, .iload_n 2, 1, 0, 0, 0), (77, .iastore, 1, 0, 0, 0), (78, .aload_n 0, 1, 0, 0, 0),
  (79, .getfield 135, 3, 12, 25, 2), (82, .bipush 25, 2, 0, 0, 0), (84, .dup2, 1, 0, 0, 0), (85, .iaload, 1, 0, 0, 0), (86, .iconst 1, 1, 0, 0, 0), (87, .iadd, 1, 0, 0, 0), (88, .iastore, 1, 0, 0, 0), (89, .iconst 1, 1, 0, 0, 0),
  (90, .ireturn, 1, 0, 0, 0)]
/-- SamePassersModel.laws(I)I -/
def mm_c262 : List (Nat × mm_E) := [(0, .iconst 0, 1, 0, 0, 0), (1, .istore_n 2, 1, 0, 0, 0), (2, .iconst 0, 1, 0, 0, 0), (3, .istore_n 3, 1, 0, 0, 0), (4, .iconst 0, 1, 0, 0, 0), (5, .istore 4, 2, 0, 0, 0), (7, .iconst 1, 1, 0, 0, 0), (8, .istore 5, 2, 0, 0, 0),
  (10, .iconst 0, 1, 0, 0, 0), (11, .istore 6, 2, 0, 0, 0), (13, .iload 6, 2, 0, 0, 0), (15, .bipush 10, 2, 0, 0, 0), (17, .if_icmp .ge 94, 3, 111, 0, 0), (20, .iconst 0, 1, 0, 0, 0), (21, .istore 7, 2, 0, 0, 0), (23, .iload 7, 2, 0, 0, 0),
  (25, .sipush 600, 3, 0, 0, 0), (28, .if_icmp .gt 77, 3, 105, 0, 0), (31, .aload_n 0, 1, 0, 0, 0), (32, .iload 7, 2, 0, 0, 0), (34, .iload 6, 2, 0, 0, 0), (36, .invokevirtual 460, 3, 263, 3, 2), (39, .ifCond .eq 60, 3, 99, 0, 0), (42, .iload 7, 2, 0, 0, 0),
  (44, .iload 6, 2, 0, 0, 0), (46, .iload_n 1, 1, 0, 0, 0), (47, .imul, 1, 0, 0, 0), (48, .isub, 1, 0, 0, 0), (49, .istore 8, 2, 0, 0, 0), (51, .iload_n 2, 1, 0, 0, 0), (52, .ifCond .ne 15, 3, 67, 0, 0), (55, .sipush 1000, 3, 0, 0, 0),
  (58, .iload 6, 2, 0, 0, 0), (60, .imul, 1, 0, 0, 0), (61, .iload 7, 2, 0, 0, 0), (63, .iadd, 1, 0, 0, 0), (64, .goto 4, 3, 68, 0, 0), (67, .iload_n 3, 1, 0, 0, 0), (68, .istore_n 3, 1, 0, 0, 0), (69, .iload 5, 2, 0, 0, 0),
  (71, .ifCond .eq 18, 3, 89, 0, 0), (74, .iload_n 2, 1, 0, 0, 0), (75, .ifCond .eq 10, 3, 85, 0, 0), (78, .iload 8, 2, 0, 0, 0), (80, .iload 4, 2, 0, 0, 0), (82, .if_icmp .ne 7, 3, 89, 0, 0), (85, .iconst 1, 1, 0, 0, 0), (86, .goto 4, 3, 90, 0, 0),
  (89, .iconst 0, 1, 0, 0, 0), (90, .istore 5, 2, 0, 0, 0), (92, .iload 8, 2, 0, 0, 0), (94, .istore 4, 2, 0, 0, 0), (96, .iinc 2 1, 3, 0, 0, 0), (99, .iinc 7 1, 3, 0, 0, 0), (102, .goto (-79), 3, 23, 0, 0), (105, .iinc 6 1, 3, 0, 0, 0),
  (108, .goto (-95), 3, 13, 0, 0), (111, .aload_n 0, 1, 0, 0, 0), (112, .iload_n 1, 1, 0, 0, 0), (113, .iconst (-1), 1, 0, 0, 0), (114, .if_icmp .eq 28, 3, 142, 0, 0), (117, .iload_n 2, 1, 0, 0, 0), (118, .ifCond .le 28, 3, 146, 0, 0), (121, .iload_n 1, 1, 0, 0, 0),
  (122, .bipush (-2), 2, 0, 0, 0), (124, .if_icmp .eq 18, 3, 142, 0, 0), (127, .iload_n 1, 1, 0, 0, 0), (128, .iconst 0, 1, 0, 0, 0), (129, .bipush 60, 2, 0, 0, 0), (131, .invokestatic 241, 3, 188, 3, 0), (134, .ifCond .eq 12, 3, 146, 0, 0), (137, .iload 5, 2, 0, 0, 0),
  (139, .ifCond .eq 7, 3, 146, 0, 0), (142, .iconst 0, 1, 0, 0, 0), (143, .goto 4, 3, 147, 0, 0), (146, .iconst 1, 1, 0, 0, 0), (147, .putfield 1, 3, 12, 0, 0), (150, .aload_n 0, 1, 0, 0, 0), (151, .getfield 1, 3, 12, 0, 0), (154, .ifCond .le 7, 3, 161, 0, 0),
  (157, .iconst 0, 1, 0, 0, 0), (158, .goto 24, 3, 182, 0, 0), (161, .iload_n 1, 1, 0, 0, 0), (162, .iconst (-1), 1, 0, 0, 0), (163, .if_icmp .ne 7, 3, 170, 0, 0), (166, .iload_n 2, 1, 0, 0, 0), (167, .goto 15, 3, 182, 0, 0), (170, .iload_n 1, 1, 0, 0, 0),
  (171, .bipush (-2), 2, 0, 0, 0), (173, .if_icmp .ne 7, 3, 180, 0, 0), (176, .iload_n 3, 1, 0, 0, 0), (177, .goto 5, 3, 182, 0, 0), (180, .iload 4, 2, 0, 0, 0), (182, .ireturn, 1, 0, 0, 0)]
/-- SamePassersModel.isLaw(II)Z -/
def mm_c263 : List (Nat × mm_E) := [(0, .iconst 1, 1, 0, 0, 0), (1, .istore_n 3, 1, 0, 0, 0), (2, .iconst 0, 1, 0, 0, 0), (3, .istore 4, 2, 0, 0, 0), (5, .iload 4, 2, 0, 0, 0), (7, .aload_n 0, 1, 0, 0, 0), (8, .getfield 135, 3, 12, 25, 2), (11, .bipush 25, 2, 0, 0, 0),
  (13, .iaload, 1, 0, 0, 0), (14, .if_icmp .ge 52, 3, 66, 0, 0), (17, .iload_n 3, 1, 0, 0, 0), (18, .ifCond .eq 48, 3, 66, 0, 0), (21, .iload_n 1, 1, 0, 0, 0), (22, .iload_n 2, 1, 0, 0, 0), (23, .aload_n 0, 1, 0, 0, 0), (24, .getfield 135, 3, 12, 25, 2),
  (27, .bipush 26, 2, 0, 0, 0), (29, .iconst 2, 1, 0, 0, 0), (30, .iload 4, 2, 0, 0, 0), (32, .imul, 1, 0, 0, 0), (33, .iadd, 1, 0, 0, 0), (34, .iaload, 1, 0, 0, 0), (35, .imul, 1, 0, 0, 0), (36, .isub, 1, 0, 0, 0),
  (37, .aload_n 0, 1, 0, 0, 0), (38, .getfield 135, 3, 12, 25, 2), (41, .bipush 26, 2, 0, 0, 0), (43, .iconst 2, 1, 0, 0, 0), (44, .iload 4, 2, 0, 0, 0), (46, .imul, 1, 0, 0, 0), (47, .iadd, 1, 0, 0, 0), (48, .iconst 1, 1, 0, 0, 0),
  (49, .iadd, 1, 0, 0, 0), (50, .iaload, 1, 0, 0, 0), (51, .if_icmp .ne 7, 3, 58, 0, 0), (54, .iconst 1, 1, 0, 0, 0), (55, .goto 4, 3, 59, 0, 0), (58, .iconst 0, 1, 0, 0, 0), (59, .istore_n 3, 1, 0, 0, 0), (60, .iinc 4 1, 3, 0, 0, 0),
  (63, .goto (-58), 3, 5, 0, 0), (66, .iload_n 3, 1, 0, 0, 0), (67, .ireturn, 1, 0, 0, 0)]
/-- SamePassersModel.notes(I)I -/
def mm_c264 : List (Nat × mm_E) := [(0, .aload_n 0, 1, 0, 0, 0), (1, .iconst 0, 1, 0, 0, 0), (2, .putfield 1, 3, 12, 0, 0), (5, .iload_n 1, 1, 0, 0, 0), (6, .iconst 0, 1, 0, 0, 0), (7, .bipush 30, 2, 0, 0, 0), (9, .invokestatic 241, 3, 188, 3, 0), (12, .ifCond .eq 10, 3, 22, 0, 0),
  (15, .aload_n 0, 1, 0, 0, 0), (16, .invokevirtual 338, 3, 216, 1, 2), (19, .ifCond .ne 5, 3, 24, 0, 0), (22, .iconst (-1), 1, 0, 0, 0), (23, .ireturn, 1, 0, 0, 0), (24, .iconst 0, 1, 0, 0, 0), (25, .istore_n 2, 1, 0, 0, 0), (26, .iconst 0, 1, 0, 0, 0),
  (27, .istore_n 3, 1, 0, 0, 0), (28, .iconst 1, 1, 0, 0, 0), (29, .istore 4, 2, 0, 0, 0), (31, .iload 4, 2, 0, 0, 0), (33, .iconst 1, 1, 0, 0, 0), (34, .aload_n 0, 1, 0, 0, 0), (35, .invokevirtual 335, 3, 201, 1, 2), (38, .ishl, 1, 0, 0, 0),
  (39, .if_icmp .ge 146, 3, 185, 0, 0), (42, .iconst 0, 1, 0, 0, 0), (43, .istore 5, 2, 0, 0, 0), (45, .iconst 0, 1, 0, 0, 0), (46, .istore 6, 2, 0, 0, 0), (48, .iconst 0, 1, 0, 0, 0), (49, .istore 7, 2, 0, 0, 0), (51, .iload 7, 2, 0, 0, 0),
  (53, .aload_n 0, 1, 0, 0, 0), (54, .invokevirtual 335, 3, 201, 1, 2), (57, .if_icmp .ge 79, 3, 136, 0, 0), (60, .iload 4, 2, 0, 0, 0), (62, .iload 7, 2, 0, 0, 0), (64, .ishr, 1, 0, 0, 0), (65, .iconst 1, 1, 0, 0, 0), (66, .iand, 1, 0, 0, 0),
  (67, .iconst 1, 1, 0, 0, 0), (68, .if_icmp .ne 7, 3, 75, 0, 0), (71, .iconst 1, 1, 0, 0, 0), (72, .goto 4, 3, 76, 0, 0), (75, .iconst 0, 1, 0, 0, 0), (76, .istore 8, 2, 0, 0, 0), (78, .iload 5, 2, 0, 0, 0), (80, .iload 8, 2, 0, 0, 0),
  (82, .ifCond .eq 15, 3, 97, 0, 0), (85, .iconst 1, 1, 0, 0, 0), (86, .aload_n 0, 1, 0, 0, 0), (87, .iload 7, 2, 0, 0, 0), (89, .iconst 1, 1, 0, 0, 0), (90, .invokevirtual 322, 3, 162, 3, 2), (93, .iadd, 1, 0, 0, 0), (94, .goto 4, 3, 98, 0, 0),
  (97, .iconst 0, 1, 0, 0, 0), (98, .iadd, 1, 0, 0, 0), (99, .istore 5, 2, 0, 0, 0), (101, .iload 6, 2, 0, 0, 0), (103, .iload 8, 2, 0, 0, 0), (105, .ifCond .eq 21, 3, 126, 0, 0), (108, .aload_n 0, 1, 0, 0, 0), (109, .iload 7, 2, 0, 0, 0),
  (111, .iconst 0, 1, 0, 0, 0), (112, .iconst 0, 1, 0, 0, 0), (113, .aload_n 0, 1, 0, 0, 0), (114, .getfield 135, 3, 12, 25, 2), (117, .iconst 0, 1, 0, 0, 0), (118, .iaload, 1, 0, 0, 0), (119, .iconst 0, 1, 0, 0, 0), (120, .invokevirtual 450, 3, 255, 6, 2),
  (123, .goto 4, 3, 127, 0, 0), (126, .iconst 0, 1, 0, 0, 0), (127, .iadd, 1, 0, 0, 0), (128, .istore 6, 2, 0, 0, 0), (130, .iinc 7 1, 3, 0, 0, 0), (133, .goto (-82), 3, 51, 0, 0), (136, .iload 5, 2, 0, 0, 0), (138, .iload_n 1, 1, 0, 0, 0),
  (139, .if_icmp .gt 13, 3, 152, 0, 0), (142, .iload 6, 2, 0, 0, 0), (144, .iload_n 3, 1, 0, 0, 0), (145, .if_icmp .le 7, 3, 152, 0, 0), (148, .iconst 1, 1, 0, 0, 0), (149, .goto 4, 3, 153, 0, 0), (152, .iconst 0, 1, 0, 0, 0), (153, .istore 7, 2, 0, 0, 0),
  (155, .iload 7, 2, 0, 0, 0), (157, .ifCond .eq 8, 3, 165, 0, 0), (160, .iload 4, 2, 0, 0, 0), (162, .goto 4, 3, 166, 0, 0), (165, .iload_n 2, 1, 0, 0, 0), (166, .istore_n 2, 1, 0, 0, 0), (167, .iload 7, 2, 0, 0, 0), (169, .ifCond .eq 8, 3, 177, 0, 0),
  (172, .iload 6, 2, 0, 0, 0), (174, .goto 4, 3, 178, 0, 0), (177, .iload_n 3, 1, 0, 0, 0), (178, .istore_n 3, 1, 0, 0, 0), (179, .iinc 4 1, 3, 0, 0, 0), (182, .goto (-151), 3, 31, 0, 0), (185, .iload_n 2, 1, 0, 0, 0), (186, .ireturn, 1, 0, 0, 0)]
/-- SamePassersModel.sight(IIZ)Z -/
def mm_c265 : List (Nat × mm_E) := [(0, .aload_n 0, 1, 0, 0, 0), (1, .iconst 0, 1, 0, 0, 0), (2, .putfield 1, 3, 12, 0, 0), (5, .iload_n 1, 1, 0, 0, 0), (6, .iconst 0, 1, 0, 0, 0), (7, .sipush 600, 3, 0, 0, 0), (10, .invokestatic 241, 3, 188, 3, 0), (13, .ifCond .eq 29, 3, 42, 0, 0),
  (16, .iload_n 2, 1, 0, 0, 0), (17, .iconst 0, 1, 0, 0, 0), (18, .aload_n 0, 1, 0, 0, 0), (19, .invokevirtual 347, 3, 208, 1, 2), (22, .iconst 1, 1, 0, 0, 0), (23, .isub, 1, 0, 0, 0), (24, .invokestatic 241, 3, 188, 3, 0), (27, .ifCond .eq 15, 3, 42, 0, 0),
  (30, .aload_n 0, 1, 0, 0, 0), (31, .getfield 135, 3, 12, 25, 2), (34, .bipush 46, 2, 0, 0, 0), (36, .iaload, 1, 0, 0, 0), (37, .bipush 10, 2, 0, 0, 0), (39, .if_icmp .ne 5, 3, 44, 0, 0), (42, .iconst 0, 1, 0, 0, 0), (43, .ireturn, 1, 0, 0, 0),
  (44, .bipush 47, 2, 0, 0, 0), (46, .iconst 3, 1, 0, 0, 0), (47, .aload_n 0, 1, 0, 0, 0), (48, .getfield 135, 3, 12, 25, 2), (51, .bipush 46, 2, 0, 0, 0), (53, .iaload, 1, 0, 0, 0), (54, .imul, 1, 0, 0, 0), (55, .iadd, 1, 0, 0, 0),
  (56, .istore 4, 2, 0, 0, 0), (58, .aload_n 0, 1, 0, 0, 0), (59, .getfield 135, 3, 12, 25, 2), (62, .iload 4, 2, 0, 0, 0), (64, .iload_n 1, 1, 0, 0, 0), (65, .iastore, 1, 0, 0, 0), (66, .aload_n 0, 1, 0, 0, 0), (67, .getfield 135, 3, 12, 25, 2),
  (70, .iload 4, 2, 0, 0, 0), (72, .iconst 1, 1, 0, 0, 0), (73, .iadd, 1, 0, 0, 0), (74, .iload_n 2, 1, 0, 0, 0), (75, .iastore, 1, 0, 0, 0), (76, .aload_n 0, 1, 0, 0, 0), (77, .getfield 135, 3, 12, 25, 2), (80, .iload 4, 2, 0, 0, 0),
  (82, .iconst 2, 1, 0, 0, 0), (83, .iadd, 1, 0, 0, 0), (84, .iload_n 3, 1, 0, 0, 0), (85, .ifCond .eq 7, 3, 92, 0, 0), (88, .iconst 1, 1, 0, 0, 0), (89, .goto 4, 3, 93, 0, 0), (92, .iconst 0, 1, 0, 0, 0), (93, .iastore, 1, 0, 0, 0),
  (94, .aload_n 0, 1, 0, 0, 0), (95, .getfield 135, 3, 12, 25, 2), (98, .bipush 46, 2, 0, 0, 0), (100, .dup2, 1, 0, 0, 0), (101, .iaload, 1, 0, 0, 0), (102, .iconst 1, 1, 0, 0, 0), (103, .iadd, 1, 0, 0, 0), (104, .iastore, 1, 0, 0, 0),
  (105, .iconst 1, 1, 0, 0, 0), (106, .ireturn, 1, 0, 0, 0)]
/-- SamePassersModel.hired(I)I -/
def mm_c266 : List (Nat × mm_E) := [(0, .aload_n 0, 1, 0, 0, 0), (1, .iconst 0, 1, 0, 0, 0), (2, .putfield 1, 3, 12, 0, 0), (5, .iload_n 1, 1, 0, 0, 0), (6, .iconst (-1), 1, 0, 0, 0), (7, .aload_n 0, 1, 0, 0, 0), (8, .getfield 135, 3, 12, 25, 2), (11, .bipush 46, 2, 0, 0, 0),
  (13, .iaload, 1, 0, 0, 0), (14, .iconst 1, 1, 0, 0, 0), (15, .isub, 1, 0, 0, 0), (16, .invokestatic 241, 3, 188, 3, 0), (19, .ifCond .ne 6, 3, 25, 0, 0), (22, .bipush (-2), 2, 0, 0, 0), (24, .ireturn, 1, 0, 0, 0), (25, .iconst 0, 1, 0, 0, 0),
  (26, .istore_n 2, 1, 0, 0, 0), (27, .iload_n 2, 1, 0, 0, 0), (28, .bipush 10, 2, 0, 0, 0), (30, .if_icmp .ge 17, 3, 47, 0, 0), (33, .aload_n 0, 1, 0, 0, 0), (34, .getfield 166, 3, 12, 38, 2), (37, .iload_n 2, 1, 0, 0, 0), (38, .bipush (-2), 2, 0, 0, 0),
  (40, .iastore, 1, 0, 0, 0), (41, .iinc 2 1, 3, 0, 0, 0), (44, .goto (-17), 3, 27, 0, 0), (47, .aload_n 0, 1, 0, 0, 0), (48, .invokevirtual 475, 3, 267, 1, 2), (51, .istore_n 2, 1, 0, 0, 0), (52, .iload_n 1, 1, 0, 0, 0), (53, .ifCond .ge 13, 3, 66, 0, 0),
  (56, .aload_n 0, 1, 0, 0, 0), (57, .getfield 135, 3, 12, 25, 2), (60, .bipush 46, 2, 0, 0, 0), (62, .iaload, 1, 0, 0, 0), (63, .iload_n 2, 1, 0, 0, 0), (64, .isub, 1, 0, 0, 0), (65, .ireturn, 1, 0, 0, 0), (66, .aload_n 0, 1, 0, 0, 0),
  (67, .iload_n 2, 1, 0, 0, 0), (68, .invokevirtual 478, 3, 271, 2, 2), (71, .aload_n 0, 1, 0, 0, 0), (72, .getfield 166, 3, 12, 38, 2), (75, .iload_n 1, 1, 0, 0, 0), (76, .iaload, 1, 0, 0, 0), (77, .ireturn, 1, 0, 0, 0)]
/-- SamePassersModel.matched()I -/
def mm_c267 : List (Nat × mm_E) := [(0, .iconst 0, 1, 0, 0, 0), (1, .istore_n 1, 1, 0, 0, 0), (2, .iconst 0, 1, 0, 0, 0), (3, .istore_n 2, 1, 0, 0, 0), (4, .iload_n 2, 1, 0, 0, 0), (5, .bipush 10, 2, 0, 0, 0), (7, .if_icmp .ge 16, 3, 23, 0, 0), (10, .aload_n 0, 1, 0, 0, 0),
  (11, .getfield 160, 3, 12, 36, 2), (14, .iload_n 2, 1, 0, 0, 0), (15, .iconst (-1), 1, 0, 0, 0), (16, .iastore, 1, 0, 0, 0), (17, .iinc 2 1, 3, 0, 0, 0), (20, .goto (-16), 3, 4, 0, 0), (23, .iconst 0, 1, 0, 0, 0), (24, .istore_n 2, 1, 0, 0, 0),
  (25, .iload_n 2, 1, 0, 0, 0), (26, .aload_n 0, 1, 0, 0, 0), (27, .getfield 135, 3, 12, 25, 2), (30, .bipush 46, 2, 0, 0, 0), (32, .iaload, 1, 0, 0, 0), (33, .if_icmp .ge 46, 3, 79, 0, 0), (36, .iconst 0, 1, 0, 0, 0), (37, .istore_n 3, 1, 0, 0, 0),
  (38, .iload_n 3, 1, 0, 0, 0), (39, .bipush 10, 2, 0, 0, 0), (41, .if_icmp .ge 16, 3, 57, 0, 0), (44, .aload_n 0, 1, 0, 0, 0), (45, .getfield 163, 3, 12, 37, 2), (48, .iload_n 3, 1, 0, 0, 0), (49, .iconst 0, 1, 0, 0, 0), (50, .bastore, 1, 0, 0, 0),
  (51, .iinc 3 1, 3, 0, 0, 0), (54, .goto (-16), 3, 38, 0, 0), (57, .iload_n 1, 1, 0, 0, 0), (58, .aload_n 0, 1, 0, 0, 0), (59, .iload_n 2, 1, 0, 0, 0), (60, .invokevirtual 469, 3, 268, 2, 2), (63, .ifCond .eq 7, 3, 70, 0, 0), (66, .iconst 1, 1, 0, 0, 0),
  (67, .goto 4, 3, 71, 0, 0), (70, .iconst 0, 1, 0, 0, 0), (71, .iadd, 1, 0, 0, 0), (72, .istore_n 1, 1, 0, 0, 0), (73, .iinc 2 1, 3, 0, 0, 0), (76, .goto (-51), 3, 25, 0, 0), (79, .iload_n 1, 1, 0, 0, 0), (80, .ireturn, 1, 0, 0, 0)]
/-- SamePassersModel.finds(I)Z -/
def mm_c268 : List (Nat × mm_E) := [(0, .iconst 0, 1, 0, 0, 0), (1, .istore_n 2, 1, 0, 0, 0), (2, .iload_n 2, 1, 0, 0, 0), (3, .aload_n 0, 1, 0, 0, 0), (4, .getfield 135, 3, 12, 25, 2), (7, .bipush 46, 2, 0, 0, 0), (9, .iaload, 1, 0, 0, 0), (10, .if_icmp .ge 65, 3, 75, 0, 0),
  (13, .aload_n 0, 1, 0, 0, 0), (14, .getfield 163, 3, 12, 37, 2), (17, .iload_n 2, 1, 0, 0, 0), (18, .baload, 1, 0, 0, 0), (19, .ifCond .ne 50, 3, 69, 0, 0), (22, .aload_n 0, 1, 0, 0, 0), (23, .iload_n 1, 1, 0, 0, 0), (24, .iload_n 2, 1, 0, 0, 0),
  (25, .invokevirtual 466, 3, 269, 3, 2), (28, .ifCond .eq 41, 3, 69, 0, 0), (31, .aload_n 0, 1, 0, 0, 0), (32, .getfield 163, 3, 12, 37, 2), (35, .iload_n 2, 1, 0, 0, 0), (36, .iconst 1, 1, 0, 0, 0), (37, .bastore, 1, 0, 0, 0), (38, .aload_n 0, 1, 0, 0, 0),
  (39, .getfield 160, 3, 12, 36, 2), (42, .iload_n 2, 1, 0, 0, 0), (43, .iaload, 1, 0, 0, 0), (44, .ifCond .lt 16, 3, 60, 0, 0), (47, .aload_n 0, 1, 0, 0, 0), (48, .aload_n 0, 1, 0, 0, 0), (49, .getfield 160, 3, 12, 36, 2), (52, .iload_n 2, 1, 0, 0, 0),
  (53, .iaload, 1, 0, 0, 0), (54, .invokevirtual 469, 3, 268, 2, 2), (57, .ifCond .eq 12, 3, 69, 0, 0), (60, .aload_n 0, 1, 0, 0, 0), (61, .getfield 160, 3, 12, 36, 2), (64, .iload_n 2, 1, 0, 0, 0), (65, .iload_n 1, 1, 0, 0, 0), (66, .iastore, 1, 0, 0, 0),
  (67, .iconst 1, 1, 0, 0, 0), (68, .ireturn, 1, 0, 0, 0), (69, .iinc 2 1, 3, 0, 0, 0), (72, .goto (-70), 3, 2, 0, 0), (75, .iconst 0, 1, 0, 0, 0), (76, .ireturn, 1, 0, 0, 0)]
/-- SamePassersModel.mayBe(II)Z -/
def mm_c269 : List (Nat × mm_E) := [(0, .aload_n 0, 1, 0, 0, 0), (1, .getfield 166, 3, 12, 38, 2), (4, .iload_n 1, 1, 0, 0, 0), (5, .iaload, 1, 0, 0, 0), (6, .bipush (-2), 2, 0, 0, 0), (8, .if_icmp .ne 12, 3, 20, 0, 0), (11, .aload_n 0, 1, 0, 0, 0), (12, .iload_n 1, 1, 0, 0, 0),
  (13, .iload_n 2, 1, 0, 0, 0), (14, .invokevirtual 463, 3, 270, 3, 2), (17, .goto 18, 3, 35, 0, 0), (20, .aload_n 0, 1, 0, 0, 0), (21, .getfield 166, 3, 12, 38, 2), (24, .iload_n 1, 1, 0, 0, 0), (25, .iaload, 1, 0, 0, 0), (26, .iload_n 2, 1, 0, 0, 0),
  (27, .if_icmp .ne 7, 3, 34, 0, 0), (30, .iconst 1, 1, 0, 0, 0), (31, .goto 4, 3, 35, 0, 0), (34, .iconst 0, 1, 0, 0, 0), (35, .ireturn, 1, 0, 0, 0)]
/-- SamePassersModel.canFollow(II)Z -/
def mm_c270 : List (Nat × mm_E) := [(0, .bipush 47, 2, 0, 0, 0), (2, .iconst 3, 1, 0, 0, 0), (3, .iload_n 1, 1, 0, 0, 0), (4, .imul, 1, 0, 0, 0), (5, .iadd, 1, 0, 0, 0), (6, .istore_n 3, 1, 0, 0, 0), (7, .bipush 47, 2, 0, 0, 0), (9, .iconst 3, 1, 0, 0, 0),
  (10, .iload_n 2, 1, 0, 0, 0), (11, .imul, 1, 0, 0, 0), (12, .iadd, 1, 0, 0, 0), (13, .istore 4, 2, 0, 0, 0), (15, .aload_n 0, 1, 0, 0, 0), (16, .getfield 135, 3, 12, 25, 2), (19, .iload 4, 2, 0, 0, 0), (21, .iaload, 1, 0, 0, 0),
  (22, .aload_n 0, 1, 0, 0, 0), (23, .getfield 135, 3, 12, 25, 2), (26, .iload_n 3, 1, 0, 0, 0), (27, .iaload, 1, 0, 0, 0), (28, .isub, 1, 0, 0, 0), (29, .istore 5, 2, 0, 0, 0), (31, .aload_n 0, 1, 0, 0, 0), (32, .getfield 135, 3, 12, 25, 2),
  (35, .iload_n 3, 1, 0, 0, 0), (36, .iconst 2, 1, 0, 0, 0), (37, .iadd, 1, 0, 0, 0), (38, .iaload, 1, 0, 0, 0), (39, .iconst 1, 1, 0, 0, 0), (40, .if_icmp .ne 24, 3, 64, 0, 0), (43, .aload_n 0, 1, 0, 0, 0), (44, .getfield 135, 3, 12, 25, 2),
  (47, .iload 4, 2, 0, 0, 0), (49, .iconst 1, 1, 0, 0, 0), (50, .iadd, 1, 0, 0, 0), (51, .iaload, 1, 0, 0, 0), (52, .aload_n 0, 1, 0, 0, 0), (53, .getfield 135, 3, 12, 25, 2), (56, .iload_n 3, 1, 0, 0, 0), (57, .iconst 1, 1, 0, 0, 0),
  (58, .iadd, 1, 0, 0, 0), (59, .iaload, 1, 0, 0, 0), (60, .isub, 1, 0, 0, 0), (61, .goto 21, 3, 82, 0, 0), (64, .aload_n 0, 1, 0, 0, 0), (65, .getfield 135, 3, 12, 25, 2), (68, .iload_n 3, 1, 0, 0, 0), (69, .iconst 1, 1, 0, 0, 0),
  (70, .iadd, 1, 0, 0, 0), (71, .iaload, 1, 0, 0, 0), (72, .aload_n 0, 1, 0, 0, 0), (73, .getfield 135, 3, 12, 25, 2), (76, .iload 4, 2, 0, 0, 0), (78, .iconst 1, 1, 0, 0, 0), (79, .iadd, 1, 0, 0, 0), (80, .iaload, 1, 0, 0, 0),
  (81, .isub, 1, 0, 0, 0), (82, .istore 6, 2, 0, 0, 0), (84, .iload 6, 2, 0, 0, 0), (86, .iconst 1, 1, 0, 0, 0), (87, .if_icmp .lt 22, 3, 109, 0, 0), (90, .iload 5, 2, 0, 0, 0), (92, .iload 6, 2, 0, 0, 0), (94, .bipush 9, 2, 0, 0, 0),
  (96, .iload 6, 2, 0, 0, 0), (98, .imul, 1, 0, 0, 0), (99, .invokestatic 241, 3, 188, 3, 0), (102, .ifCond .eq 7, 3, 109, 0, 0), (105, .iconst 1, 1, 0, 0, 0), (106, .goto 4, 3, 110, 0, 0), (109, .iconst 0, 1, 0, 0, 0), (110, .istore 7, 2, 0, 0, 0),
  (112, .iload 6, 2, 0, 0, 0), (114, .aload_n 0, 1, 0, 0, 0), (115, .invokevirtual 347, 3, 208, 1, 2), (118, .iadd, 1, 0, 0, 0), (119, .istore 8, 2, 0, 0, 0), (121, .iload 5, 2, 0, 0, 0), (123, .aload_n 0, 1, 0, 0, 0), (124, .getfield 105, 3, 12, 10, 2),
  (127, .bipush 8, 2, 0, 0, 0), (129, .iaload, 1, 0, 0, 0), (130, .isub, 1, 0, 0, 0), (131, .iload 8, 2, 0, 0, 0), (133, .bipush 9, 2, 0, 0, 0), (135, .iload 8, 2, 0, 0, 0), (137, .imul, 1, 0, 0, 0), (138, .invokestatic 241, 3, 188, 3, 0),
  (141, .istore 9, 2, 0, 0, 0), (143, .iload 5, 2, 0, 0, 0), (145, .ifCond .le 37, 3, 182, 0, 0), (148, .aload_n 0, 1, 0, 0, 0), (149, .getfield 135, 3, 12, 25, 2), (152, .iload_n 3, 1, 0, 0, 0), (153, .iconst 2, 1, 0, 0, 0), (154, .iadd, 1, 0, 0, 0),
  (155, .iaload, 1, 0, 0, 0), (156, .aload_n 0, 1, 0, 0, 0), (157, .getfield 135, 3, 12, 25, 2), (160, .iload 4, 2, 0, 0, 0), (162, .iconst 2, 1, 0, 0, 0), (163, .iadd, 1, 0, 0, 0), (164, .iaload, 1, 0, 0, 0), (165, .if_icmp .ne 17, 3, 182, 0, 0),
  (168, .iload 7, 2, 0, 0, 0), (170, .ifCond .ne 8, 3, 178, 0, 0), (173, .iload 9, 2, 0, 0, 0), (175, .ifCond .eq 7, 3, 182, 0, 0), (178, .iconst 1, 1, 0, 0, 0), (179, .goto 4, 3, 183, 0, 0), (182, .iconst 0, 1, 0, 0, 0), (183, .ireturn, 1, 0, 0, 0)]
/-- SamePassersModel.laysNext(I)V -/
def mm_c271 : List (Nat × mm_E) := [(0, .iconst 0, 1, 0, 0, 0), (1, .istore_n 2, 1, 0, 0, 0), (2, .iload_n 2, 1, 0, 0, 0), (3, .aload_n 0, 1, 0, 0, 0), (4, .getfield 135, 3, 12, 25, 2), (7, .bipush 46, 2, 0, 0, 0), (9, .iaload, 1, 0, 0, 0), (10, .if_icmp .ge 98, 3, 108, 0, 0),
  (13, .iconst 0, 1, 0, 0, 0), (14, .istore_n 3, 1, 0, 0, 0), (15, .iconst 0, 1, 0, 0, 0), (16, .istore 4, 2, 0, 0, 0), (18, .iload 4, 2, 0, 0, 0), (20, .aload_n 0, 1, 0, 0, 0), (21, .getfield 135, 3, 12, 25, 2), (24, .bipush 46, 2, 0, 0, 0),
  (26, .iaload, 1, 0, 0, 0), (27, .if_icmp .ge 55, 3, 82, 0, 0), (30, .iload_n 3, 1, 0, 0, 0), (31, .ifCond .ne 51, 3, 82, 0, 0), (34, .aload_n 0, 1, 0, 0, 0), (35, .iload_n 2, 1, 0, 0, 0), (36, .iload 4, 2, 0, 0, 0), (38, .invokevirtual 463, 3, 270, 3, 2),
  (41, .ifCond .eq 35, 3, 76, 0, 0), (44, .aload_n 0, 1, 0, 0, 0), (45, .iload_n 2, 1, 0, 0, 0), (46, .iload 4, 2, 0, 0, 0), (48, .invokevirtual 472, 3, 272, 3, 2), (51, .ifCond .ne 25, 3, 76, 0, 0), (54, .aload_n 0, 1, 0, 0, 0), (55, .getfield 166, 3, 12, 38, 2),
  (58, .iload_n 2, 1, 0, 0, 0), (59, .iload 4, 2, 0, 0, 0), (61, .iastore, 1, 0, 0, 0), (62, .aload_n 0, 1, 0, 0, 0), (63, .invokevirtual 475, 3, 267, 1, 2), (66, .iload_n 1, 1, 0, 0, 0), (67, .if_icmp .ne 7, 3, 74, 0, 0), (70, .iconst 1, 1, 0, 0, 0),
  (71, .goto 4, 3, 75, 0, 0), (74, .iconst 0, 1, 0, 0, 0), (75, .istore_n 3, 1, 0, 0, 0), (76, .iinc 4 1, 3, 0, 0, 0), (79, .goto (-61), 3, 18, 0, 0), (82, .aload_n 0, 1, 0, 0, 0), (83, .getfield 166, 3, 12, 38, 2), (86, .iload_n 2, 1, 0, 0, 0),
  (87, .iload_n 3, 1, 0, 0, 0), (88, .ifCond .eq 12, 3, 100, 0, 0), (91, .aload_n 0, 1, 0, 0, 0), (92, .getfield 166, 3, 12, 38, 2), (95, .iload_n 2, 1, 0, 0, 0), (96, .iaload, 1, 0, 0, 0), (97, .goto 4, 3, 101, 0, 0), (100, .iconst (-1), 1, 0, 0, 0),
  (101, .iastore, 1, 0, 0, 0), (102, .iinc 2 1, 3, 0, 0, 0), (105, .goto (-103), 3, 2, 0, 0), (108, .return_, 1, 0, 0, 0)]
/-- SamePassersModel.isTaken(II)Z -/
def mm_c272 : List (Nat × mm_E) := [(0, .iconst 0, 1, 0, 0, 0), (1, .istore_n 3, 1, 0, 0, 0), (2, .iconst 0, 1, 0, 0, 0), (3, .istore 4, 2, 0, 0, 0), (5, .iload 4, 2, 0, 0, 0), (7, .iload_n 1, 1, 0, 0, 0), (8, .if_icmp .ge 30, 3, 38, 0, 0), (11, .iload_n 3, 1, 0, 0, 0),
  (12, .ifCond .ne 14, 3, 26, 0, 0), (15, .aload_n 0, 1, 0, 0, 0), (16, .getfield 166, 3, 12, 38, 2), (19, .iload 4, 2, 0, 0, 0), (21, .iaload, 1, 0, 0, 0), (22, .iload_n 2, 1, 0, 0, 0), (23, .if_icmp .ne 7, 3, 30, 0, 0), (26, .iconst 1, 1, 0, 0, 0),
  (27, .goto 4, 3, 31, 0, 0), (30, .iconst 0, 1, 0, 0, 0), (31, .istore_n 3, 1, 0, 0, 0), (32, .iinc 4 1, 3, 0, 0, 0), (35, .goto (-30), 3, 5, 0, 0), (38, .iload_n 3, 1, 0, 0, 0), (39, .ireturn, 1, 0, 0, 0)]
/-- SamePassersModel.days(III)I -/
def mm_c273 : List (Nat × mm_E) := [(0, .aload_n 0, 1, 0, 0, 0), (1, .iconst 0, 1, 0, 0, 0), (2, .putfield 1, 3, 12, 0, 0), (5, .iload_n 1, 1, 0, 0, 0), (6, .iconst 0, 1, 0, 0, 0), (7, .sipush 9999, 3, 0, 0, 0), (10, .invokestatic 241, 3, 188, 3, 0), (13, .ifCond .eq 22, 3, 35, 0, 0),
  (16, .iload_n 2, 1, 0, 0, 0), (17, .iconst 1, 1, 0, 0, 0), (18, .bipush 20, 2, 0, 0, 0), (20, .invokestatic 241, 3, 188, 3, 0), (23, .ifCond .eq 12, 3, 35, 0, 0), (26, .iload_n 3, 1, 0, 0, 0), (27, .iconst 0, 1, 0, 0, 0), (28, .iconst 2, 1, 0, 0, 0),
  (29, .invokestatic 241, 3, 188, 3, 0), (32, .ifCond .ne 5, 3, 37, 0, 0), (35, .iconst (-1), 1, 0, 0, 0), (36, .ireturn, 1, 0, 0, 0), (37, .aload_n 0, 1, 0, 0, 0), (38, .iconst 0, 1, 0, 0, 0), (39, .sipush 1760, 3, 0, 0, 0), (42, .bipush 25, 2, 0, 0, 0),
  (44, .invokevirtual 331, 3, 219, 4, 2), (47, .aload_n 0, 1, 0, 0, 0), (48, .iload_n 1, 1, 0, 0, 0), (49, .i2l, 1, 0, 0, 0), (50, .putfield 481, 3, 12, 39, 1), (53, .iconst 0, 1, 0, 0, 0), (54, .istore 4, 2, 0, 0, 0), (56, .iconst 0, 1, 0, 0, 0),
  (57, .istore 5, 2, 0, 0, 0), (59, .iconst 0, 1, 0, 0, 0), (60, .istore 6, 2, 0, 0, 0), (62, .iconst 0, 1, 0, 0, 0), (63, .istore 7, 2, 0, 0, 0), (65, .iconst 0, 1, 0, 0, 0), (66, .istore 8, 2, 0, 0, 0), (68, .iload 8, 2, 0, 0, 0),
  (70, .iload_n 2, 1, 0, 0, 0), (71, .if_icmp .ge 150, 3, 221, 0, 0), (74, .iconst 0, 1, 0, 0, 0), (75, .istore 9, 2, 0, 0, 0), (77, .iload 9, 2, 0, 0, 0), (79, .aload_n 0, 1, 0, 0, 0), (80, .invokevirtual 335, 3, 201, 1, 2), (83, .if_icmp .ge 42, 3, 125, 0, 0),
  (86, .aload_n 0, 1, 0, 0, 0), (87, .getfield 135, 3, 12, 25, 2), (90, .sipush 1777, 3, 0, 0, 0), (93, .iload 9, 2, 0, 0, 0), (95, .iadd, 1, 0, 0, 0), (96, .aload_n 0, 1, 0, 0, 0), (97, .bipush 10, 2, 0, 0, 0), (99, .invokevirtual 493, 3, 274, 2, 2),
  (102, .iconst 2, 1, 0, 0, 0), (103, .if_icmp .ge 14, 3, 117, 0, 0), (106, .aload_n 0, 1, 0, 0, 0), (107, .bipush 9, 2, 0, 0, 0), (109, .invokevirtual 493, 3, 274, 2, 2), (112, .iconst 1, 1, 0, 0, 0), (113, .iadd, 1, 0, 0, 0), (114, .goto 4, 3, 118, 0, 0),
  (117, .iconst 0, 1, 0, 0, 0), (118, .iastore, 1, 0, 0, 0), (119, .iinc 9 1, 3, 0, 0, 0), (122, .goto (-45), 3, 77, 0, 0), (125, .aload_n 0, 1, 0, 0, 0), (126, .sipush 1760, 3, 0, 0, 0), (129, .invokevirtual 401, 3, 227, 2, 2), (132, .istore 9, 2, 0, 0, 0),
  (134, .iload 4, 2, 0, 0, 0), (136, .aload_n 0, 1, 0, 0, 0), (137, .sipush 1760, 3, 0, 0, 0), (140, .invokevirtual 407, 3, 226, 2, 2), (143, .ifCond .eq 7, 3, 150, 0, 0), (146, .iconst 1, 1, 0, 0, 0), (147, .goto 4, 3, 151, 0, 0), (150, .iconst 0, 1, 0, 0, 0),
  (151, .iadd, 1, 0, 0, 0), (152, .istore 4, 2, 0, 0, 0), (154, .iload 5, 2, 0, 0, 0), (156, .iload 9, 2, 0, 0, 0), (158, .iadd, 1, 0, 0, 0), (159, .istore 5, 2, 0, 0, 0), (161, .iload 8, 2, 0, 0, 0), (163, .ifCond .eq 10, 3, 173, 0, 0),
  (166, .iload 9, 2, 0, 0, 0), (168, .iload 7, 2, 0, 0, 0), (170, .if_icmp .ge 8, 3, 178, 0, 0), (173, .iload 8, 2, 0, 0, 0), (175, .goto 5, 3, 180, 0, 0), (178, .iload 6, 2, 0, 0, 0), (180, .istore 6, 2, 0, 0, 0), (182, .iload 8, 2, 0, 0, 0),
  (184, .ifCond .eq 10, 3, 194, 0, 0), (187, .iload 9, 2, 0, 0, 0), (189, .iload 7, 2, 0, 0, 0), (191, .if_icmp .ge 8, 3, 199, 0, 0), (194, .iload 9, 2, 0, 0, 0), (196, .goto 5, 3, 201, 0, 0), (199, .iload 7, 2, 0, 0, 0), (201, .istore 7, 2, 0, 0, 0),
  (203, .aload_n 0, 1, 0, 0, 0), (204, .getfield 135, 3, 12, 25, 2), (207, .sipush 1760, 3, 0, 0, 0), (210, .dup2, 1, 0, 0, 0), (211, .iaload, 1, 0, 0, 0), (212, .iconst 1, 1, 0, 0, 0), (213, .iadd, 1, 0, 0, 0), (214, .iastore, 1, 0, 0, 0),
  (215, .iinc 8 1, 3, 0, 0, 0), (218, .goto (-150), 3, 68, 0, 0), (221, .iload_n 3, 1, 0, 0, 0), (222, .ifCond .ne 8, 3, 230, 0, 0), (225, .iload 4, 2, 0, 0, 0), (227, .goto 15, 3, 242, 0, 0), (230, .iload_n 3, 1, 0, 0, 0), (231, .iconst 1, 1, 0, 0, 0),
  (232, .if_icmp .ne 8, 3, 240, 0, 0), (235, .iload 5, 2, 0, 0, 0), (237, .goto 5, 3, 242, 0, 0), (240, .iload 6, 2, 0, 0, 0), (242, .ireturn, 1, 0, 0, 0)]
/-- SamePassersModel.draw(I)I -/
def mm_c274 : List (Nat × mm_E) := [(0, .aload_n 0, 1, 0, 0, 0), (1, .aload_n 0, 1, 0, 0, 0), (2, .getfield 481, 3, 12, 39, 1), (5, .ldc2_w 485, 3, 1, 0, 1103515245), (8, .lmul, 1, 0, 0, 0), (9, .ldc2_w 487, 3, 1, 0, 12345), (12, .ladd, 1, 0, 0, 0), (13, .ldc2_w 489, 3, 1, 0, 2147483648),
  (16, .lrem, 1, 0, 0, 0), (17, .putfield 481, 3, 12, 39, 1), (20, .aload_n 0, 1, 0, 0, 0), (21, .getfield 481, 3, 12, 39, 1), (24, .ldc2_w 491, 3, 1, 0, 65536), (27, .ldiv, 1, 0, 0, 0), (28, .iload_n 1, 1, 0, 0, 0), (29, .i2l, 1, 0, 0, 0),
  (30, .lrem, 1, 0, 0, 0), (31, .l2i, 1, 0, 0, 0), (32, .ireturn, 1, 0, 0, 0)]
/-- SamePassersModel.mark(IZ)Z -/
def mm_c275 : List (Nat × mm_E) := [(0, .aload_n 0, 1, 0, 0, 0), (1, .iconst 0, 1, 0, 0, 0), (2, .putfield 1, 3, 12, 0, 0), (5, .iload_n 1, 1, 0, 0, 0), (6, .iconst 0, 1, 0, 0, 0), (7, .iconst 3, 1, 0, 0, 0), (8, .invokestatic 241, 3, 188, 3, 0), (11, .ifCond .eq 16, 3, 27, 0, 0),
  (14, .iload_n 2, 1, 0, 0, 0), (15, .ifCond .eq 14, 3, 29, 0, 0), (18, .aload_n 0, 1, 0, 0, 0), (19, .getfield 138, 3, 12, 27, 2), (22, .iload_n 1, 1, 0, 0, 0), (23, .baload, 1, 0, 0, 0), (24, .ifCond .ne 5, 3, 29, 0, 0), (27, .iconst 0, 1, 0, 0, 0),
  (28, .ireturn, 1, 0, 0, 0), (29, .aload_n 0, 1, 0, 0, 0), (30, .getfield 138, 3, 12, 27, 2), (33, .iload_n 1, 1, 0, 0, 0), (34, .iconst 1, 1, 0, 0, 0), (35, .bastore, 1, 0, 0, 0), (36, .aload_n 0, 1, 0, 0, 0), (37, .iload_n 2, 1, 0, 0, 0),
  (38, .ifCond .eq 12, 3, 50, 0, 0), (41, .bipush 80, 2, 0, 0, 0), (43, .iconst 1, 1, 0, 0, 0), (44, .iload_n 1, 1, 0, 0, 0), (45, .iadd, 1, 0, 0, 0), (46, .imul, 1, 0, 0, 0), (47, .goto 4, 3, 51, 0, 0), (50, .iconst 0, 1, 0, 0, 0),
  (51, .iload_n 2, 1, 0, 0, 0), (52, .ifCond .eq 7, 3, 59, 0, 0), (55, .iconst 0, 1, 0, 0, 0), (56, .goto 9, 3, 65, 0, 0), (59, .bipush 80, 2, 0, 0, 0), (61, .iconst 1, 1, 0, 0, 0), (62, .iload_n 1, 1, 0, 0, 0), (63, .iadd, 1, 0, 0, 0),
  (64, .imul, 1, 0, 0, 0), (65, .bipush 80, 2, 0, 0, 0), (67, .invokevirtual 331, 3, 219, 4, 2), (70, .aload_n 0, 1, 0, 0, 0), (71, .iload_n 2, 1, 0, 0, 0), (72, .ifCond .eq 7, 3, 79, 0, 0), (75, .iconst 0, 1, 0, 0, 0), (76, .goto 7, 3, 83, 0, 0),
  (79, .aload_n 0, 1, 0, 0, 0), (80, .getfield 328, 3, 12, 26, 0), (83, .putfield 328, 3, 12, 26, 0), (86, .iconst 1, 1, 0, 0, 0), (87, .ireturn, 1, 0, 0, 0)]
/-- SamePassersModel.count(I)I -/
def mm_c276 : List (Nat × mm_E) := [(0, .aload_n 0, 1, 0, 0, 0), (1, .iconst 0, 1, 0, 0, 0), (2, .putfield 1, 3, 12, 0, 0), (5, .iload_n 1, 1, 0, 0, 0), (6, .tableswitch 133 0 11 #[62, 67, 72, 77, 82, 87, 94, 101, 109, 117, 122, 127], 62, 0, 0, 0), (68, .aload_n 0, 1, 0, 0, 0), (69, .invokevirtual 347, 3, 208, 1, 2), (72, .ireturn, 1, 0, 0, 0),
  (73, .aload_n 0, 1, 0, 0, 0), (74, .invokevirtual 415, 3, 242, 1, 2), (77, .ireturn, 1, 0, 0, 0), (78, .aload_n 0, 1, 0, 0, 0), (79, .invokevirtual 338, 3, 216, 1, 2), (82, .ireturn, 1, 0, 0, 0), (83, .aload_n 0, 1, 0, 0, 0), (84, .invokevirtual 335, 3, 201, 1, 2),
  (87, .ireturn, 1, 0, 0, 0), (88, .aload_n 0, 1, 0, 0, 0), (89, .invokevirtual 394, 3, 228, 1, 2), (92, .ireturn, 1, 0, 0, 0), (93, .aload_n 0, 1, 0, 0, 0), (94, .getfield 135, 3, 12, 25, 2), (97, .iconst 0, 1, 0, 0, 0), (98, .iaload, 1, 0, 0, 0),
  (99, .ireturn, 1, 0, 0, 0), (100, .aload_n 0, 1, 0, 0, 0), (101, .getfield 126, 3, 12, 22, 2), (104, .iconst 0, 1, 0, 0, 0), (105, .iaload, 1, 0, 0, 0), (106, .ireturn, 1, 0, 0, 0), (107, .aload_n 0, 1, 0, 0, 0), (108, .getfield 135, 3, 12, 25, 2),
  (111, .bipush 25, 2, 0, 0, 0), (113, .iaload, 1, 0, 0, 0), (114, .ireturn, 1, 0, 0, 0), (115, .aload_n 0, 1, 0, 0, 0), (116, .getfield 135, 3, 12, 25, 2), (119, .bipush 46, 2, 0, 0, 0), (121, .iaload, 1, 0, 0, 0), (122, .ireturn, 1, 0, 0, 0),
  (123, .aload_n 0, 1, 0, 0, 0), (124, .getfield 328, 3, 12, 26, 0), (127, .ireturn, 1, 0, 0, 0), (128, .aload_n 0, 1, 0, 0, 0), (129, .getfield 11, 3, 12, 2, 0), (132, .ireturn, 1, 0, 0, 0), (133, .aload_n 0, 1, 0, 0, 0), (134, .iconst 0, 1, 0, 0, 0),
  (135, .invokevirtual 401, 3, 227, 2, 2), (138, .ireturn, 1, 0, 0, 0), (139, .iconst (-1), 1, 0, 0, 0), (140, .ireturn, 1, 0, 0, 0)]
/-- SamePassersLaw.law([I)Z -/
def mm_c277 : List (Nat × mm_E) := [(0, .new 8, 3, 11, 0, 0), (3, .dup, 1, 0, 0, 0), (4, .invokespecial 15, 3, 99, 1, 3), (7, .astore_n 1, 1, 0, 0, 0), (8, .new 16, 3, 12, 0, 0), (11, .dup, 1, 0, 0, 0), (12, .invokespecial 18, 3, 158, 1, 3), (15, .astore_n 2, 1, 0, 0, 0),
  (16, .iconst 1, 1, 0, 0, 0), (17, .newarray .long, 2, 0, 0, 0), (19, .astore_n 3, 1, 0, 0, 0), (20, .iconst 0, 1, 0, 0, 0), (21, .istore 4, 2, 0, 0, 0), (23, .iload 4, 2, 0, 0, 0), (25, .aload_n 0, 1, 0, 0, 0), (26, .arraylength, 1, 0, 0, 0),
  (27, .bipush 7, 2, 0, 0, 0), (29, .isub, 1, 0, 0, 0), (30, .if_icmp .gt 1449, 3, 1479, 0, 0), (33, .aload_n 0, 1, 0, 0, 0), (34, .iload 4, 2, 0, 0, 0), (36, .iaload, 1, 0, 0, 0), (37, .bipush 63, 2, 0, 0, 0), (39, .iand, 1, 0, 0, 0),
  (40, .tableswitch 1433 0 34 #[156, 303, 316, 329, 366, 391, 428, 453, 490, 503, 516, 541, 578, 615, 652, 665, 690, 727, 740, 777, 802, 875, 912, 950, 963, 1000, 1049, 1086, 1142, 1167, 1216, 1281, 1306, 1355, 1408], 156, 0, 0, 0), (196, .aload_n 1, 1, 0, 0, 0), (197, .aload_n 0, 1, 0, 0, 0), (198, .iload 4, 2, 0, 0, 0), (200, .iconst 1, 1, 0, 0, 0), (201, .iadd, 1, 0, 0, 0), (202, .iaload, 1, 0, 0, 0), (203, .i2l, 1, 0, 0, 0),
  (204, .bipush 32, 2, 0, 0, 0), (206, .lshl, 1, 0, 0, 0), (207, .aload_n 0, 1, 0, 0, 0), (208, .iload 4, 2, 0, 0, 0), (210, .iconst 2, 1, 0, 0, 0), (211, .iadd, 1, 0, 0, 0), (212, .iaload, 1, 0, 0, 0), (213, .i2l, 1, 0, 0, 0),
  (214, .ldc2_w 19, 3, 1, 0, 4294967295), (217, .land, 1, 0, 0, 0), (218, .lor, 1, 0, 0, 0), (219, .aload_n 0, 1, 0, 0, 0), (220, .iload 4, 2, 0, 0, 0), (222, .iconst 3, 1, 0, 0, 0), (223, .iadd, 1, 0, 0, 0), (224, .iaload, 1, 0, 0, 0),
  (225, .i2l, 1, 0, 0, 0), (226, .bipush 32, 2, 0, 0, 0), (228, .lshl, 1, 0, 0, 0), (229, .aload_n 0, 1, 0, 0, 0), (230, .iload 4, 2, 0, 0, 0), (232, .iconst 4, 1, 0, 0, 0), (233, .iadd, 1, 0, 0, 0), (234, .iaload, 1, 0, 0, 0),
  (235, .i2l, 1, 0, 0, 0), (236, .ldc2_w 19, 3, 1, 0, 4294967295), (239, .land, 1, 0, 0, 0), (240, .lor, 1, 0, 0, 0), (241, .aload_n 0, 1, 0, 0, 0), (242, .iload 4, 2, 0, 0, 0), (244, .iconst 5, 1, 0, 0, 0), (245, .iadd, 1, 0, 0, 0),
  (246, .iaload, 1, 0, 0, 0), (247, .i2l, 1, 0, 0, 0), (248, .bipush 32, 2, 0, 0, 0), (250, .lshl, 1, 0, 0, 0), (251, .aload_n 0, 1, 0, 0, 0), (252, .iload 4, 2, 0, 0, 0), (254, .bipush 6, 2, 0, 0, 0), (256, .iadd, 1, 0, 0, 0),
  (257, .iaload, 1, 0, 0, 0), (258, .i2l, 1, 0, 0, 0), (259, .ldc2_w 19, 3, 1, 0, 4294967295), (262, .land, 1, 0, 0, 0), (263, .lor, 1, 0, 0, 0), (264, .invokevirtual 21, 3, 100, 4, 2), (267, .aload_n 2, 1, 0, 0, 0), (268, .aload_n 0, 1, 0, 0, 0),
  (269, .iload 4, 2, 0, 0, 0), (271, .iconst 1, 1, 0, 0, 0), (272, .iadd, 1, 0, 0, 0), (273, .iaload, 1, 0, 0, 0), (274, .i2l, 1, 0, 0, 0), (275, .bipush 32, 2, 0, 0, 0), (277, .lshl, 1, 0, 0, 0), (278, .aload_n 0, 1, 0, 0, 0),
  (279, .iload 4, 2, 0, 0, 0), (281, .iconst 2, 1, 0, 0, 0), (282, .iadd, 1, 0, 0, 0), (283, .iaload, 1, 0, 0, 0), (284, .i2l, 1, 0, 0, 0), (285, .ldc2_w 19, 3, 1, 0, 4294967295), (288, .land, 1, 0, 0, 0), (289, .lor, 1, 0, 0, 0),
  (290, .aload_n 0, 1, 0, 0, 0), (291, .iload 4, 2, 0, 0, 0), (293, .iconst 3, 1, 0, 0, 0), (294, .iadd, 1, 0, 0, 0), (295, .iaload, 1, 0, 0, 0), (296, .i2l, 1, 0, 0, 0), (297, .bipush 32, 2, 0, 0, 0), (299, .lshl, 1, 0, 0, 0),
  (300, .aload_n 0, 1, 0, 0, 0), (301, .iload 4, 2, 0, 0, 0), (303, .iconst 4, 1, 0, 0, 0), (304, .iadd, 1, 0, 0, 0), (305, .iaload, 1, 0, 0, 0), (306, .i2l, 1, 0, 0, 0), (307, .ldc2_w 19, 3, 1, 0, 4294967295), (310, .land, 1, 0, 0, 0),
  (311, .lor, 1, 0, 0, 0), (312, .aload_n 0, 1, 0, 0, 0), (313, .iload 4, 2, 0, 0, 0), (315, .iconst 5, 1, 0, 0, 0), (316, .iadd, 1, 0, 0, 0), (317, .iaload, 1, 0, 0, 0), (318, .i2l, 1, 0, 0, 0), (319, .bipush 32, 2, 0, 0, 0),
  (321, .lshl, 1, 0, 0, 0), (322, .aload_n 0, 1, 0, 0, 0), (323, .iload 4, 2, 0, 0, 0), (325, .bipush 6, 2, 0, 0, 0), (327, .iadd, 1, 0, 0, 0), (328, .iaload, 1, 0, 0, 0), (329, .i2l, 1, 0, 0, 0), (330, .ldc2_w 19, 3, 1, 0, 4294967295),
  (333, .land, 1, 0, 0, 0), (334, .lor, 1, 0, 0, 0), (335, .invokevirtual 25, 3, 156, 4, 2), (338, .if_icmp .eq 1135, 3, 1473, 0, 0), (341, .iconst 0, 1, 0, 0, 0), (342, .ireturn, 1, 0, 0, 0), (343, .aload_n 1, 1, 0, 0, 0), (344, .invokevirtual 26, 3, 101, 1, 2),
  (347, .aload_n 2, 1, 0, 0, 0), (348, .invokevirtual 30, 3, 163, 1, 2), (351, .if_icmp .eq 1122, 3, 1473, 0, 0), (354, .iconst 0, 1, 0, 0, 0), (355, .ireturn, 1, 0, 0, 0), (356, .aload_n 1, 1, 0, 0, 0), (357, .invokevirtual 31, 3, 105, 1, 2), (360, .aload_n 2, 1, 0, 0, 0),
  (361, .invokevirtual 34, 3, 198, 1, 2), (364, .if_icmp .eq 1109, 3, 1473, 0, 0), (367, .iconst 0, 1, 0, 0, 0), (368, .ireturn, 1, 0, 0, 0), (369, .aload_n 1, 1, 0, 0, 0), (370, .aload_n 0, 1, 0, 0, 0), (371, .iload 4, 2, 0, 0, 0), (373, .iconst 1, 1, 0, 0, 0),
  (374, .iadd, 1, 0, 0, 0), (375, .iaload, 1, 0, 0, 0), (376, .aload_n 0, 1, 0, 0, 0), (377, .iload 4, 2, 0, 0, 0), (379, .iconst 2, 1, 0, 0, 0), (380, .iadd, 1, 0, 0, 0), (381, .iaload, 1, 0, 0, 0), (382, .invokevirtual 35, 3, 106, 3, 2),
  (385, .aload_n 2, 1, 0, 0, 0), (386, .aload_n 0, 1, 0, 0, 0), (387, .iload 4, 2, 0, 0, 0), (389, .iconst 1, 1, 0, 0, 0), (390, .iadd, 1, 0, 0, 0), (391, .iaload, 1, 0, 0, 0), (392, .aload_n 0, 1, 0, 0, 0), (393, .iload 4, 2, 0, 0, 0),
  (395, .iconst 2, 1, 0, 0, 0), (396, .iadd, 1, 0, 0, 0), (397, .iaload, 1, 0, 0, 0), (398, .invokevirtual 39, 3, 199, 3, 2), (401, .if_icmp .eq 1072, 3, 1473, 0, 0), (404, .iconst 0, 1, 0, 0, 0), (405, .ireturn, 1, 0, 0, 0), (406, .aload_n 1, 1, 0, 0, 0),
  (407, .aload_n 0, 1, 0, 0, 0), (408, .iload 4, 2, 0, 0, 0), (410, .iconst 1, 1, 0, 0, 0), (411, .iadd, 1, 0, 0, 0), (412, .iaload, 1, 0, 0, 0), (413, .invokevirtual 40, 3, 108, 2, 2), (416, .aload_n 2, 1, 0, 0, 0), (417, .aload_n 0, 1, 0, 0, 0),
  (418, .iload 4, 2, 0, 0, 0), (420, .iconst 1, 1, 0, 0, 0), (421, .iadd, 1, 0, 0, 0), (422, .iaload, 1, 0, 0, 0), (423, .invokevirtual 43, 3, 214, 2, 2), (426, .if_icmp .eq 1047, 3, 1473, 0, 0), (429, .iconst 0, 1, 0, 0, 0), (430, .ireturn, 1, 0, 0, 0),
  (431, .aload_n 1, 1, 0, 0, 0), (432, .aload_n 0, 1, 0, 0, 0), (433, .iload 4, 2, 0, 0, 0), (435, .iconst 1, 1, 0, 0, 0), (436, .iadd, 1, 0, 0, 0), (437, .iaload, 1, 0, 0, 0), (438, .aload_n 0, 1, 0, 0, 0), (439, .iload 4, 2, 0, 0, 0),
  (441, .iconst 2, 1, 0, 0, 0), (442, .iadd, 1, 0, 0, 0), (443, .iaload, 1, 0, 0, 0), (444, .invokevirtual 44, 3, 110, 3, 2), (447, .aload_n 2, 1, 0, 0, 0), (448, .aload_n 0, 1, 0, 0, 0), (449, .iload 4, 2, 0, 0, 0), (451, .iconst 1, 1, 0, 0, 0),
  (452, .iadd, 1, 0, 0, 0), (453, .iaload, 1, 0, 0, 0), (454, .aload_n 0, 1, 0, 0, 0), (455, .iload 4, 2, 0, 0, 0), (457, .iconst 2, 1, 0, 0, 0), (458, .iadd, 1, 0, 0, 0), (459, .iaload, 1, 0, 0, 0), (460, .invokevirtual 48, 3, 217, 3, 2),
  (463, .if_icmp .eq 1010, 3, 1473, 0, 0), (466, .iconst 0, 1, 0, 0, 0), (467, .ireturn, 1, 0, 0, 0), (468, .aload_n 1, 1, 0, 0, 0), (469, .aload_n 0, 1, 0, 0, 0), (470, .iload 4, 2, 0, 0, 0), (472, .iconst 1, 1, 0, 0, 0), (473, .iadd, 1, 0, 0, 0),
  (474, .iaload, 1, 0, 0, 0), (475, .invokevirtual 49, 3, 113, 2, 2), (478, .aload_n 2, 1, 0, 0, 0), (479, .aload_n 0, 1, 0, 0, 0), (480, .iload 4, 2, 0, 0, 0), (482, .iconst 1, 1, 0, 0, 0), (483, .iadd, 1, 0, 0, 0), (484, .iaload, 1, 0, 0, 0),
  (485, .invokevirtual 53, 3, 220, 2, 2), (488, .if_icmp .eq 985, 3, 1473, 0, 0), (491, .iconst 0, 1, 0, 0, 0), (492, .ireturn, 1, 0, 0, 0), (493, .aload_n 1, 1, 0, 0, 0), (494, .aload_n 0, 1, 0, 0, 0), (495, .iload 4, 2, 0, 0, 0), (497, .iconst 1, 1, 0, 0, 0),
  (498, .iadd, 1, 0, 0, 0), (499, .iaload, 1, 0, 0, 0), (500, .aload_n 0, 1, 0, 0, 0), (501, .iload 4, 2, 0, 0, 0), (503, .iconst 2, 1, 0, 0, 0), (504, .iadd, 1, 0, 0, 0), (505, .iaload, 1, 0, 0, 0), (506, .invokevirtual 54, 3, 114, 3, 2),
  (509, .aload_n 2, 1, 0, 0, 0), (510, .aload_n 0, 1, 0, 0, 0), (511, .iload 4, 2, 0, 0, 0), (513, .iconst 1, 1, 0, 0, 0), (514, .iadd, 1, 0, 0, 0), (515, .iaload, 1, 0, 0, 0), (516, .aload_n 0, 1, 0, 0, 0), (517, .iload 4, 2, 0, 0, 0),
  (519, .iconst 2, 1, 0, 0, 0), (520, .iadd, 1, 0, 0, 0), (521, .iaload, 1, 0, 0, 0), (522, .invokevirtual 57, 3, 221, 3, 2), (525, .if_icmp .eq 948, 3, 1473, 0, 0), (528, .iconst 0, 1, 0, 0, 0), (529, .ireturn, 1, 0, 0, 0), (530, .aload_n 1, 1, 0, 0, 0),
  (531, .invokevirtual 58, 3, 115, 1, 2), (534, .aload_n 2, 1, 0, 0, 0), (535, .invokevirtual 61, 3, 222, 1, 2), (538, .if_icmp .eq 935, 3, 1473, 0, 0), (541, .iconst 0, 1, 0, 0, 0), (542, .ireturn, 1, 0, 0, 0), (543, .aload_n 1, 1, 0, 0, 0), (544, .invokevirtual 62, 3, 116, 1, 2),
  (547, .aload_n 2, 1, 0, 0, 0), (548, .invokevirtual 66, 3, 224, 1, 2), (551, .if_icmp .eq 922, 3, 1473, 0, 0), (554, .iconst 0, 1, 0, 0, 0), (555, .ireturn, 1, 0, 0, 0), (556, .aload_n 1, 1, 0, 0, 0), (557, .aload_n 0, 1, 0, 0, 0), (558, .iload 4, 2, 0, 0, 0),
  (560, .iconst 1, 1, 0, 0, 0), (561, .iadd, 1, 0, 0, 0), (562, .iaload, 1, 0, 0, 0), (563, .invokevirtual 67, 3, 117, 2, 2), (566, .aload_n 2, 1, 0, 0, 0), (567, .aload_n 0, 1, 0, 0, 0), (568, .iload 4, 2, 0, 0, 0), (570, .iconst 1, 1, 0, 0, 0),
  (571, .iadd, 1, 0, 0, 0), (572, .iaload, 1, 0, 0, 0), (573, .invokevirtual 70, 3, 225, 2, 2), (576, .if_icmp .eq 897, 3, 1473, 0, 0), (579, .iconst 0, 1, 0, 0, 0), (580, .ireturn, 1, 0, 0, 0), (581, .aload_n 1, 1, 0, 0, 0), (582, .aload_n 0, 1, 0, 0, 0),
  (583, .iload 4, 2, 0, 0, 0), (585, .iconst 1, 1, 0, 0, 0), (586, .iadd, 1, 0, 0, 0), (587, .iaload, 1, 0, 0, 0), (588, .aload_n 0, 1, 0, 0, 0), (589, .iload 4, 2, 0, 0, 0), (591, .iconst 2, 1, 0, 0, 0), (592, .iadd, 1, 0, 0, 0),
  (593, .iaload, 1, 0, 0, 0), (594, .invokevirtual 71, 3, 118, 3, 2), (597, .aload_n 2, 1, 0, 0, 0), (598, .aload_n 0, 1, 0, 0, 0), (599, .iload 4, 2, 0, 0, 0), (601, .iconst 1, 1, 0, 0, 0), (602, .iadd, 1, 0, 0, 0), (603, .iaload, 1, 0, 0, 0),
  (604, .aload_n 0, 1, 0, 0, 0), (605, .iload 4, 2, 0, 0, 0), (607, .iconst 2, 1, 0, 0, 0), (608, .iadd, 1, 0, 0, 0), (609, .iaload, 1, 0, 0, 0), (610, .invokevirtual 74, 3, 233, 3, 2), (613, .if_icmp .eq 860, 3, 1473, 0, 0), (616, .iconst 0, 1, 0, 0, 0),
  (617, .ireturn, 1, 0, 0, 0), (618, .aload_n 1, 1, 0, 0, 0), (619, .aload_n 0, 1, 0, 0, 0), (620, .iload 4, 2, 0, 0, 0), (622, .iconst 1, 1, 0, 0, 0), (623, .iadd, 1, 0, 0, 0), (624, .iaload, 1, 0, 0, 0), (625, .aload_n 0, 1, 0, 0, 0),
  (626, .iload 4, 2, 0, 0, 0), (628, .iconst 2, 1, 0, 0, 0), (629, .iadd, 1, 0, 0, 0), (630, .iaload, 1, 0, 0, 0), (631, .invokevirtual 75, 3, 120, 3, 2), (634, .aload_n 2, 1, 0, 0, 0), (635, .aload_n 0, 1, 0, 0, 0), (636, .iload 4, 2, 0, 0, 0),
  (638, .iconst 1, 1, 0, 0, 0), (639, .iadd, 1, 0, 0, 0), (640, .iaload, 1, 0, 0, 0), (641, .aload_n 0, 1, 0, 0, 0), (642, .iload 4, 2, 0, 0, 0), (644, .iconst 2, 1, 0, 0, 0), (645, .iadd, 1, 0, 0, 0), (646, .iaload, 1, 0, 0, 0),
  (647, .invokevirtual 78, 3, 235, 3, 2), (650, .if_icmp .eq 823, 3, 1473, 0, 0), (653, .iconst 0, 1, 0, 0, 0), (654, .ireturn, 1, 0, 0, 0), (655, .aload_n 1, 1, 0, 0, 0), (656, .aload_n 0, 1, 0, 0, 0), (657, .iload 4, 2, 0, 0, 0), (659, .iconst 1, 1, 0, 0, 0),
  (660, .iadd, 1, 0, 0, 0), (661, .iaload, 1, 0, 0, 0), (662, .aload_n 0, 1, 0, 0, 0), (663, .iload 4, 2, 0, 0, 0), (665, .iconst 2, 1, 0, 0, 0), (666, .iadd, 1, 0, 0, 0), (667, .iaload, 1, 0, 0, 0), (668, .invokevirtual 79, 3, 121, 3, 2),
  (671, .aload_n 2, 1, 0, 0, 0), (672, .aload_n 0, 1, 0, 0, 0), (673, .iload 4, 2, 0, 0, 0), (675, .iconst 1, 1, 0, 0, 0), (676, .iadd, 1, 0, 0, 0), (677, .iaload, 1, 0, 0, 0), (678, .aload_n 0, 1, 0, 0, 0), (679, .iload 4, 2, 0, 0, 0),
  (681, .iconst 2, 1, 0, 0, 0), (682, .iadd, 1, 0, 0, 0), (683, .iaload, 1, 0, 0, 0), (684, .invokevirtual 82, 3, 236, 3, 2), (687, .if_icmp .eq 786, 3, 1473, 0, 0), (690, .iconst 0, 1, 0, 0, 0), (691, .ireturn, 1, 0, 0, 0), (692, .aload_n 1, 1, 0, 0, 0),
  (693, .invokevirtual 83, 3, 122, 1, 2), (696, .aload_n 2, 1, 0, 0, 0), (697, .invokevirtual 86, 3, 237, 1, 2), (700, .if_icmp .eq 773, 3, 1473, 0, 0), (703, .iconst 0, 1, 0, 0, 0), (704, .ireturn, 1, 0, 0, 0), (705, .aload_n 1, 1, 0, 0, 0), (706, .aload_n 0, 1, 0, 0, 0),
  (707, .iload 4, 2, 0, 0, 0), (709, .iconst 1, 1, 0, 0, 0), (710, .iadd, 1, 0, 0, 0), (711, .iaload, 1, 0, 0, 0), (712, .invokevirtual 87, 3, 123, 2, 2), (715, .aload_n 2, 1, 0, 0, 0), (716, .aload_n 0, 1, 0, 0, 0), (717, .iload 4, 2, 0, 0, 0),
  (719, .iconst 1, 1, 0, 0, 0), (720, .iadd, 1, 0, 0, 0), (721, .iaload, 1, 0, 0, 0), (722, .invokevirtual 90, 3, 238, 2, 2), (725, .if_icmp .eq 748, 3, 1473, 0, 0), (728, .iconst 0, 1, 0, 0, 0), (729, .ireturn, 1, 0, 0, 0), (730, .aload_n 1, 1, 0, 0, 0),
  (731, .aload_n 0, 1, 0, 0, 0), (732, .iload 4, 2, 0, 0, 0), (734, .iconst 1, 1, 0, 0, 0), (735, .iadd, 1, 0, 0, 0), (736, .iaload, 1, 0, 0, 0), (737, .aload_n 0, 1, 0, 0, 0), (738, .iload 4, 2, 0, 0, 0), (740, .iconst 2, 1, 0, 0, 0),
  (741, .iadd, 1, 0, 0, 0), (742, .iaload, 1, 0, 0, 0), (743, .invokevirtual 91, 3, 125, 3, 2), (746, .aload_n 2, 1, 0, 0, 0), (747, .aload_n 0, 1, 0, 0, 0), (748, .iload 4, 2, 0, 0, 0), (750, .iconst 1, 1, 0, 0, 0), (751, .iadd, 1, 0, 0, 0),
  (752, .iaload, 1, 0, 0, 0), (753, .aload_n 0, 1, 0, 0, 0), (754, .iload 4, 2, 0, 0, 0), (756, .iconst 2, 1, 0, 0, 0), (757, .iadd, 1, 0, 0, 0), (758, .iaload, 1, 0, 0, 0), (759, .invokevirtual 94, 3, 239, 3, 2), (762, .if_icmp .eq 711, 3, 1473, 0, 0),
  (765, .iconst 0, 1, 0, 0, 0), (766, .ireturn, 1, 0, 0, 0), (767, .aload_n 1, 1, 0, 0, 0), (768, .invokevirtual 95, 3, 126, 1, 2), (771, .aload_n 2, 1, 0, 0, 0), (772, .invokevirtual 98, 3, 240, 1, 2), (775, .if_icmp .eq 698, 3, 1473, 0, 0), (778, .iconst 0, 1, 0, 0, 0),
  (779, .ireturn, 1, 0, 0, 0), (780, .aload_n 1, 1, 0, 0, 0), (781, .aload_n 0, 1, 0, 0, 0), (782, .iload 4, 2, 0, 0, 0), (784, .iconst 1, 1, 0, 0, 0), (785, .iadd, 1, 0, 0, 0), (786, .iaload, 1, 0, 0, 0), (787, .aload_n 0, 1, 0, 0, 0),
  (788, .iload 4, 2, 0, 0, 0), (790, .iconst 2, 1, 0, 0, 0), (791, .iadd, 1, 0, 0, 0), (792, .iaload, 1, 0, 0, 0), (793, .invokevirtual 99, 3, 127, 3, 2), (796, .aload_n 2, 1, 0, 0, 0), (797, .aload_n 0, 1, 0, 0, 0), (798, .iload 4, 2, 0, 0, 0),
  (800, .iconst 1, 1, 0, 0, 0), (801, .iadd, 1, 0, 0, 0), (802, .iaload, 1, 0, 0, 0), (803, .aload_n 0, 1, 0, 0, 0), (804, .iload 4, 2, 0, 0, 0), (806, .iconst 2, 1, 0, 0, 0), (807, .iadd, 1, 0, 0, 0), (808, .iaload, 1, 0, 0, 0),
  (809, .invokevirtual 102, 3, 244, 3, 2), (812, .if_icmp .eq 661, 3, 1473, 0, 0), (815, .iconst 0, 1, 0, 0, 0), (816, .ireturn, 1, 0, 0, 0), (817, .aload_n 1, 1, 0, 0, 0), (818, .aload_n 0, 1, 0, 0, 0), (819, .iload 4, 2, 0, 0, 0), (821, .iconst 1, 1, 0, 0, 0),
  (822, .iadd, 1, 0, 0, 0), (823, .iaload, 1, 0, 0, 0), (824, .invokevirtual 103, 3, 129, 2, 2), (827, .aload_n 2, 1, 0, 0, 0), (828, .aload_n 0, 1, 0, 0, 0), (829, .iload 4, 2, 0, 0, 0), (831, .iconst 1, 1, 0, 0, 0), (832, .iadd, 1, 0, 0, 0),
  (833, .iaload, 1, 0, 0, 0), (834, .invokevirtual 106, 3, 252, 2, 2), (837, .if_icmp .eq 636, 3, 1473, 0, 0), (840, .iconst 0, 1, 0, 0, 0), (841, .ireturn, 1, 0, 0, 0), (842, .aload_n 1, 1, 0, 0, 0), (843, .aload_n 0, 1, 0, 0, 0), (844, .iload 4, 2, 0, 0, 0),
  (846, .iconst 1, 1, 0, 0, 0), (847, .iadd, 1, 0, 0, 0), (848, .iaload, 1, 0, 0, 0), (849, .aload_n 0, 1, 0, 0, 0), (850, .iload 4, 2, 0, 0, 0), (852, .iconst 2, 1, 0, 0, 0), (853, .iadd, 1, 0, 0, 0), (854, .iaload, 1, 0, 0, 0),
  (855, .aload_n 0, 1, 0, 0, 0), (856, .iload 4, 2, 0, 0, 0), (858, .iconst 3, 1, 0, 0, 0), (859, .iadd, 1, 0, 0, 0), (860, .iaload, 1, 0, 0, 0), (861, .aload_n 0, 1, 0, 0, 0), (862, .iload 4, 2, 0, 0, 0), (864, .iconst 4, 1, 0, 0, 0),
  (865, .iadd, 1, 0, 0, 0), (866, .iaload, 1, 0, 0, 0), (867, .aload_n 0, 1, 0, 0, 0), (868, .iload 4, 2, 0, 0, 0), (870, .iconst 5, 1, 0, 0, 0), (871, .iadd, 1, 0, 0, 0), (872, .iaload, 1, 0, 0, 0), (873, .invokevirtual 107, 3, 132, 6, 2),
  (876, .aload_n 2, 1, 0, 0, 0), (877, .aload_n 0, 1, 0, 0, 0), (878, .iload 4, 2, 0, 0, 0), (880, .iconst 1, 1, 0, 0, 0), (881, .iadd, 1, 0, 0, 0), (882, .iaload, 1, 0, 0, 0), (883, .aload_n 0, 1, 0, 0, 0), (884, .iload 4, 2, 0, 0, 0),
  (886, .iconst 2, 1, 0, 0, 0), (887, .iadd, 1, 0, 0, 0), (888, .iaload, 1, 0, 0, 0), (889, .aload_n 0, 1, 0, 0, 0), (890, .iload 4, 2, 0, 0, 0), (892, .iconst 3, 1, 0, 0, 0), (893, .iadd, 1, 0, 0, 0), (894, .iaload, 1, 0, 0, 0),
  (895, .aload_n 0, 1, 0, 0, 0), (896, .iload 4, 2, 0, 0, 0), (898, .iconst 4, 1, 0, 0, 0), (899, .iadd, 1, 0, 0, 0), (900, .iaload, 1, 0, 0, 0), (901, .aload_n 0, 1, 0, 0, 0), (902, .iload 4, 2, 0, 0, 0), (904, .iconst 5, 1, 0, 0, 0),
  (905, .iadd, 1, 0, 0, 0), (906, .iaload, 1, 0, 0, 0), (907, .invokevirtual 111, 3, 253, 6, 2), (910, .if_icmp .eq 563, 3, 1473, 0, 0), (913, .iconst 0, 1, 0, 0, 0), (914, .ireturn, 1, 0, 0, 0), (915, .aload_n 1, 1, 0, 0, 0), (916, .aload_n 0, 1, 0, 0, 0),
  (917, .iload 4, 2, 0, 0, 0), (919, .iconst 1, 1, 0, 0, 0), (920, .iadd, 1, 0, 0, 0), (921, .iaload, 1, 0, 0, 0), (922, .aload_n 0, 1, 0, 0, 0), (923, .iload 4, 2, 0, 0, 0), (925, .iconst 2, 1, 0, 0, 0), (926, .iadd, 1, 0, 0, 0),
  (927, .iaload, 1, 0, 0, 0), (928, .invokevirtual 112, 3, 135, 3, 2), (931, .aload_n 2, 1, 0, 0, 0), (932, .aload_n 0, 1, 0, 0, 0), (933, .iload 4, 2, 0, 0, 0), (935, .iconst 1, 1, 0, 0, 0), (936, .iadd, 1, 0, 0, 0), (937, .iaload, 1, 0, 0, 0),
  (938, .aload_n 0, 1, 0, 0, 0), (939, .iload 4, 2, 0, 0, 0), (941, .iconst 2, 1, 0, 0, 0), (942, .iadd, 1, 0, 0, 0), (943, .iaload, 1, 0, 0, 0), (944, .invokevirtual 115, 3, 256, 3, 2), (947, .if_icmp .eq 526, 3, 1473, 0, 0), (950, .iconst 0, 1, 0, 0, 0),
  (951, .ireturn, 1, 0, 0, 0), (952, .aload_n 1, 1, 0, 0, 0), (953, .aload_n 0, 1, 0, 0, 0), (954, .iload 4, 2, 0, 0, 0), (956, .iconst 1, 1, 0, 0, 0), (957, .iadd, 1, 0, 0, 0), (958, .iaload, 1, 0, 0, 0), (959, .aload_n 0, 1, 0, 0, 0),
  (960, .iload 4, 2, 0, 0, 0), (962, .iconst 2, 1, 0, 0, 0), (963, .iadd, 1, 0, 0, 0), (964, .iaload, 1, 0, 0, 0), (965, .invokevirtual 116, 3, 136, 3, 2), (968, .aload_n 2, 1, 0, 0, 0), (969, .aload_n 0, 1, 0, 0, 0), (970, .iload 4, 2, 0, 0, 0),
  (972, .iconst 1, 1, 0, 0, 0), (973, .iadd, 1, 0, 0, 0), (974, .iaload, 1, 0, 0, 0), (975, .aload_n 0, 1, 0, 0, 0), (976, .iload 4, 2, 0, 0, 0), (978, .iconst 2, 1, 0, 0, 0), (979, .iadd, 1, 0, 0, 0), (980, .iaload, 1, 0, 0, 0),
  (981, .invokevirtual 120, 3, 241, 3, 2), (984, .lcmp, 1, 0, 0, 0), (985, .ifCond .eq 488, 3, 1473, 0, 0), (988, .iconst 0, 1, 0, 0, 0), (989, .ireturn, 1, 0, 0, 0), (990, .aload_n 1, 1, 0, 0, 0), (991, .invokevirtual 121, 3, 138, 1, 2), (994, .aload_n 2, 1, 0, 0, 0),
  (995, .invokevirtual 124, 3, 257, 1, 2), (998, .if_icmp .eq 475, 3, 1473, 0, 0), (1001, .iconst 0, 1, 0, 0, 0), (1002, .ireturn, 1, 0, 0, 0), (1003, .aload_n 1, 1, 0, 0, 0), (1004, .aload_n 0, 1, 0, 0, 0), (1005, .iload 4, 2, 0, 0, 0), (1007, .iconst 1, 1, 0, 0, 0),
  (1008, .iadd, 1, 0, 0, 0), (1009, .iaload, 1, 0, 0, 0), (1010, .aload_n 0, 1, 0, 0, 0), (1011, .iload 4, 2, 0, 0, 0), (1013, .iconst 2, 1, 0, 0, 0), (1014, .iadd, 1, 0, 0, 0), (1015, .iaload, 1, 0, 0, 0), (1016, .invokevirtual 125, 3, 139, 3, 2),
  (1019, .aload_n 2, 1, 0, 0, 0), (1020, .aload_n 0, 1, 0, 0, 0), (1021, .iload 4, 2, 0, 0, 0), (1023, .iconst 1, 1, 0, 0, 0), (1024, .iadd, 1, 0, 0, 0), (1025, .iaload, 1, 0, 0, 0), (1026, .aload_n 0, 1, 0, 0, 0), (1027, .iload 4, 2, 0, 0, 0),
  (1029, .iconst 2, 1, 0, 0, 0), (1030, .iadd, 1, 0, 0, 0), (1031, .iaload, 1, 0, 0, 0), (1032, .invokevirtual 128, 3, 258, 3, 2), (1035, .if_icmp .eq 438, 3, 1473, 0, 0), (1038, .iconst 0, 1, 0, 0, 0), (1039, .ireturn, 1, 0, 0, 0), (1040, .aload_n 1, 1, 0, 0, 0),
  (1041, .aload_n 0, 1, 0, 0, 0), (1042, .iload 4, 2, 0, 0, 0), (1044, .iconst 1, 1, 0, 0, 0), (1045, .iadd, 1, 0, 0, 0), (1046, .iaload, 1, 0, 0, 0), (1047, .aload_n 0, 1, 0, 0, 0), (1048, .iload 4, 2, 0, 0, 0), (1050, .iconst 2, 1, 0, 0, 0),
  (1051, .iadd, 1, 0, 0, 0), (1052, .iaload, 1, 0, 0, 0), (1053, .aload_n 0, 1, 0, 0, 0), (1054, .iload 4, 2, 0, 0, 0), (1056, .iconst 3, 1, 0, 0, 0), (1057, .iadd, 1, 0, 0, 0), (1058, .iaload, 1, 0, 0, 0), (1059, .invokevirtual 129, 3, 141, 4, 2),
  (1062, .aload_n 2, 1, 0, 0, 0), (1063, .aload_n 0, 1, 0, 0, 0), (1064, .iload 4, 2, 0, 0, 0), (1066, .iconst 1, 1, 0, 0, 0), (1067, .iadd, 1, 0, 0, 0), (1068, .iaload, 1, 0, 0, 0), (1069, .aload_n 0, 1, 0, 0, 0), (1070, .iload 4, 2, 0, 0, 0),
  (1072, .iconst 2, 1, 0, 0, 0), (1073, .iadd, 1, 0, 0, 0), (1074, .iaload, 1, 0, 0, 0), (1075, .aload_n 0, 1, 0, 0, 0), (1076, .iload 4, 2, 0, 0, 0), (1078, .iconst 3, 1, 0, 0, 0), (1079, .iadd, 1, 0, 0, 0), (1080, .iaload, 1, 0, 0, 0),
  (1081, .invokevirtual 133, 3, 260, 4, 2), (1084, .if_icmp .eq 389, 3, 1473, 0, 0), (1087, .iconst 0, 1, 0, 0, 0), (1088, .ireturn, 1, 0, 0, 0), (1089, .aload_n 1, 1, 0, 0, 0), (1090, .aload_n 0, 1, 0, 0, 0), (1091, .iload 4, 2, 0, 0, 0), (1093, .iconst 1, 1, 0, 0, 0),
  (1094, .iadd, 1, 0, 0, 0), (1095, .iaload, 1, 0, 0, 0), (1096, .aload_n 0, 1, 0, 0, 0), (1097, .iload 4, 2, 0, 0, 0), (1099, .iconst 2, 1, 0, 0, 0), (1100, .iadd, 1, 0, 0, 0), (1101, .iaload, 1, 0, 0, 0), (1102, .invokevirtual 134, 3, 142, 3, 2),
  (1105, .aload_n 2, 1, 0, 0, 0), (1106, .aload_n 0, 1, 0, 0, 0), (1107, .iload 4, 2, 0, 0, 0), (1109, .iconst 1, 1, 0, 0, 0), (1110, .iadd, 1, 0, 0, 0), (1111, .iaload, 1, 0, 0, 0), (1112, .aload_n 0, 1, 0, 0, 0), (1113, .iload 4, 2, 0, 0, 0),
  (1115, .iconst 2, 1, 0, 0, 0), (1116, .iadd, 1, 0, 0, 0), (1117, .iaload, 1, 0, 0, 0), (1118, .invokevirtual 137, 3, 261, 3, 2), (1121, .if_icmp .eq 352, 3, 1473, 0, 0), (1124, .iconst 0, 1, 0, 0, 0), (1125, .ireturn, 1, 0, 0, 0), (1126, .aload_n 1, 1, 0, 0, 0),
  (1127, .aload_n 0, 1, 0, 0, 0), (1128, .iload 4, 2, 0, 0, 0), (1130, .iconst 1, 1, 0, 0, 0), (1131, .iadd, 1, 0, 0, 0), (1132, .iaload, 1, 0, 0, 0), (1133, .aload_n 3, 1, 0, 0, 0), (1134, .invokestatic 138, 3, 278, 3, 20), (1137, .istore 5, 2, 0, 0, 0),
  (1139, .aload_n 2, 1, 0, 0, 0), (1140, .aload_n 0, 1, 0, 0, 0), (1141, .iload 4, 2, 0, 0, 0), (1143, .iconst 1, 1, 0, 0, 0), (1144, .iadd, 1, 0, 0, 0), (1145, .iaload, 1, 0, 0, 0), (1146, .invokevirtual 143, 3, 262, 2, 2), (1149, .istore 6, 2, 0, 0, 0),
  (1151, .aload_n 2, 1, 0, 0, 0), (1152, .invokevirtual 144, 3, 155, 1, 2), (1155, .iload 5, 2, 0, 0, 0), (1157, .if_icmp .eq 5, 3, 1162, 0, 0), (1160, .iconst 0, 1, 0, 0, 0), (1161, .ireturn, 1, 0, 0, 0), (1162, .iload 5, 2, 0, 0, 0), (1164, .ifCond .ne 15, 3, 1179, 0, 0),
  (1167, .aload_n 3, 1, 0, 0, 0), (1168, .iconst 0, 1, 0, 0, 0), (1169, .laload, 1, 0, 0, 0), (1170, .iload 6, 2, 0, 0, 0), (1172, .i2l, 1, 0, 0, 0), (1173, .lcmp, 1, 0, 0, 0), (1174, .ifCond .eq 5, 3, 1179, 0, 0), (1177, .iconst 0, 1, 0, 0, 0),
  (1178, .ireturn, 1, 0, 0, 0), (1179, .goto 294, 3, 1473, 0, 0), (1182, .aload_n 1, 1, 0, 0, 0), (1183, .aload_n 0, 1, 0, 0, 0), (1184, .iload 4, 2, 0, 0, 0), (1186, .iconst 1, 1, 0, 0, 0), (1187, .iadd, 1, 0, 0, 0), (1188, .iaload, 1, 0, 0, 0),
  (1189, .invokevirtual 147, 3, 143, 2, 2), (1192, .aload_n 2, 1, 0, 0, 0), (1193, .aload_n 0, 1, 0, 0, 0), (1194, .iload 4, 2, 0, 0, 0), (1196, .iconst 1, 1, 0, 0, 0), (1197, .iadd, 1, 0, 0, 0), (1198, .iaload, 1, 0, 0, 0), (1199, .invokevirtual 150, 3, 264, 2, 2),
  (1202, .if_icmp .eq 271, 3, 1473, 0, 0), (1205, .iconst 0, 1, 0, 0, 0), (1206, .ireturn, 1, 0, 0, 0), (1207, .aload_n 1, 1, 0, 0, 0), (1208, .aload_n 0, 1, 0, 0, 0), (1209, .iload 4, 2, 0, 0, 0), (1211, .iconst 1, 1, 0, 0, 0), (1212, .iadd, 1, 0, 0, 0),
  (1213, .iaload, 1, 0, 0, 0), (1214, .aload_n 0, 1, 0, 0, 0), (1215, .iload 4, 2, 0, 0, 0), (1217, .iconst 2, 1, 0, 0, 0), (1218, .iadd, 1, 0, 0, 0), (1219, .iaload, 1, 0, 0, 0), (1220, .aload_n 0, 1, 0, 0, 0), (1221, .iload 4, 2, 0, 0, 0),
  (1223, .iconst 3, 1, 0, 0, 0), (1224, .iadd, 1, 0, 0, 0), (1225, .iaload, 1, 0, 0, 0), (1226, .invokevirtual 151, 3, 146, 4, 2), (1229, .aload_n 2, 1, 0, 0, 0), (1230, .aload_n 0, 1, 0, 0, 0), (1231, .iload 4, 2, 0, 0, 0), (1233, .iconst 1, 1, 0, 0, 0),
  (1234, .iadd, 1, 0, 0, 0), (1235, .iaload, 1, 0, 0, 0), (1236, .aload_n 0, 1, 0, 0, 0), (1237, .iload 4, 2, 0, 0, 0), (1239, .iconst 2, 1, 0, 0, 0), (1240, .iadd, 1, 0, 0, 0), (1241, .iaload, 1, 0, 0, 0), (1242, .aload_n 0, 1, 0, 0, 0),
  (1243, .iload 4, 2, 0, 0, 0), (1245, .iconst 3, 1, 0, 0, 0), (1246, .iadd, 1, 0, 0, 0), (1247, .iaload, 1, 0, 0, 0), (1248, .invokevirtual 154, 3, 243, 4, 2), (1251, .if_icmp .eq 222, 3, 1473, 0, 0), (1254, .iconst 0, 1, 0, 0, 0), (1255, .ireturn, 1, 0, 0, 0),
  (1256, .aload_n 1, 1, 0, 0, 0), (1257, .aload_n 0, 1, 0, 0, 0), (1258, .iload 4, 2, 0, 0, 0), (1260, .iconst 1, 1, 0, 0, 0), (1261, .iadd, 1, 0, 0, 0), (1262, .iaload, 1, 0, 0, 0), (1263, .aload_n 0, 1, 0, 0, 0), (1264, .iload 4, 2, 0, 0, 0),
  (1266, .iconst 2, 1, 0, 0, 0), (1267, .iadd, 1, 0, 0, 0), (1268, .iaload, 1, 0, 0, 0), (1269, .aload_n 0, 1, 0, 0, 0), (1270, .iload 4, 2, 0, 0, 0), (1272, .iconst 3, 1, 0, 0, 0), (1273, .iadd, 1, 0, 0, 0), (1274, .iaload, 1, 0, 0, 0),
  (1275, .ifCond .eq 7, 3, 1282, 0, 0), (1278, .iconst 1, 1, 0, 0, 0), (1279, .goto 4, 3, 1283, 0, 0), (1282, .iconst 0, 1, 0, 0, 0), (1283, .invokevirtual 155, 3, 147, 4, 2), (1286, .aload_n 2, 1, 0, 0, 0), (1287, .aload_n 0, 1, 0, 0, 0), (1288, .iload 4, 2, 0, 0, 0),
  (1290, .iconst 1, 1, 0, 0, 0), (1291, .iadd, 1, 0, 0, 0), (1292, .iaload, 1, 0, 0, 0), (1293, .aload_n 0, 1, 0, 0, 0), (1294, .iload 4, 2, 0, 0, 0), (1296, .iconst 2, 1, 0, 0, 0), (1297, .iadd, 1, 0, 0, 0), (1298, .iaload, 1, 0, 0, 0),
  (1299, .aload_n 0, 1, 0, 0, 0), (1300, .iload 4, 2, 0, 0, 0), (1302, .iconst 3, 1, 0, 0, 0), (1303, .iadd, 1, 0, 0, 0), (1304, .iaload, 1, 0, 0, 0), (1305, .ifCond .eq 7, 3, 1312, 0, 0), (1308, .iconst 1, 1, 0, 0, 0), (1309, .goto 4, 3, 1313, 0, 0),
  (1312, .iconst 0, 1, 0, 0, 0), (1313, .invokevirtual 159, 3, 265, 4, 2), (1316, .if_icmp .eq 157, 3, 1473, 0, 0), (1319, .iconst 0, 1, 0, 0, 0), (1320, .ireturn, 1, 0, 0, 0), (1321, .aload_n 1, 1, 0, 0, 0), (1322, .aload_n 0, 1, 0, 0, 0), (1323, .iload 4, 2, 0, 0, 0),
  (1325, .iconst 1, 1, 0, 0, 0), (1326, .iadd, 1, 0, 0, 0), (1327, .iaload, 1, 0, 0, 0), (1328, .invokevirtual 160, 3, 148, 2, 2), (1331, .aload_n 2, 1, 0, 0, 0), (1332, .aload_n 0, 1, 0, 0, 0), (1333, .iload 4, 2, 0, 0, 0), (1335, .iconst 1, 1, 0, 0, 0),
  (1336, .iadd, 1, 0, 0, 0), (1337, .iaload, 1, 0, 0, 0), (1338, .invokevirtual 163, 3, 266, 2, 2), (1341, .if_icmp .eq 132, 3, 1473, 0, 0), (1344, .iconst 0, 1, 0, 0, 0), (1345, .ireturn, 1, 0, 0, 0), (1346, .aload_n 1, 1, 0, 0, 0), (1347, .aload_n 0, 1, 0, 0, 0),
  (1348, .iload 4, 2, 0, 0, 0), (1350, .iconst 1, 1, 0, 0, 0), (1351, .iadd, 1, 0, 0, 0), (1352, .iaload, 1, 0, 0, 0), (1353, .aload_n 0, 1, 0, 0, 0), (1354, .iload 4, 2, 0, 0, 0), (1356, .iconst 2, 1, 0, 0, 0), (1357, .iadd, 1, 0, 0, 0),
  (1358, .iaload, 1, 0, 0, 0), (1359, .aload_n 0, 1, 0, 0, 0), (1360, .iload 4, 2, 0, 0, 0), (1362, .iconst 3, 1, 0, 0, 0), (1363, .iadd, 1, 0, 0, 0), (1364, .iaload, 1, 0, 0, 0), (1365, .invokevirtual 164, 3, 149, 4, 2), (1368, .aload_n 2, 1, 0, 0, 0),
  (1369, .aload_n 0, 1, 0, 0, 0), (1370, .iload 4, 2, 0, 0, 0), (1372, .iconst 1, 1, 0, 0, 0), (1373, .iadd, 1, 0, 0, 0), (1374, .iaload, 1, 0, 0, 0), (1375, .aload_n 0, 1, 0, 0, 0), (1376, .iload 4, 2, 0, 0, 0), (1378, .iconst 2, 1, 0, 0, 0),
  (1379, .iadd, 1, 0, 0, 0), (1380, .iaload, 1, 0, 0, 0), (1381, .aload_n 0, 1, 0, 0, 0), (1382, .iload 4, 2, 0, 0, 0), (1384, .iconst 3, 1, 0, 0, 0), (1385, .iadd, 1, 0, 0, 0), (1386, .iaload, 1, 0, 0, 0), (1387, .invokevirtual 167, 3, 273, 4, 2),
  (1390, .if_icmp .eq 83, 3, 1473, 0, 0), (1393, .iconst 0, 1, 0, 0, 0), (1394, .ireturn, 1, 0, 0, 0), (1395, .aload_n 1, 1, 0, 0, 0), (1396, .aload_n 0, 1, 0, 0, 0), (1397, .iload 4, 2, 0, 0, 0), (1399, .iconst 1, 1, 0, 0, 0), (1400, .iadd, 1, 0, 0, 0),
  (1401, .iaload, 1, 0, 0, 0), (1402, .aload_n 0, 1, 0, 0, 0), (1403, .iload 4, 2, 0, 0, 0), (1405, .iconst 2, 1, 0, 0, 0), (1406, .iadd, 1, 0, 0, 0), (1407, .iaload, 1, 0, 0, 0), (1408, .ifCond .eq 7, 3, 1415, 0, 0), (1411, .iconst 1, 1, 0, 0, 0),
  (1412, .goto 4, 3, 1416, 0, 0), (1415, .iconst 0, 1, 0, 0, 0), (1416, .invokevirtual 168, 3, 152, 3, 2), (1419, .aload_n 2, 1, 0, 0, 0), (1420, .aload_n 0, 1, 0, 0, 0), (1421, .iload 4, 2, 0, 0, 0), (1423, .iconst 1, 1, 0, 0, 0), (1424, .iadd, 1, 0, 0, 0),
  (1425, .iaload, 1, 0, 0, 0), (1426, .aload_n 0, 1, 0, 0, 0), (1427, .iload 4, 2, 0, 0, 0), (1429, .iconst 2, 1, 0, 0, 0), (1430, .iadd, 1, 0, 0, 0), (1431, .iaload, 1, 0, 0, 0), (1432, .ifCond .eq 7, 3, 1439, 0, 0), (1435, .iconst 1, 1, 0, 0, 0),
  (1436, .goto 4, 3, 1440, 0, 0), (1439, .iconst 0, 1, 0, 0, 0), (1440, .invokevirtual 172, 3, 275, 3, 2), (1443, .if_icmp .eq 30, 3, 1473, 0, 0), (1446, .iconst 0, 1, 0, 0, 0), (1447, .ireturn, 1, 0, 0, 0), (1448, .aload_n 1, 1, 0, 0, 0), (1449, .aload_n 0, 1, 0, 0, 0),
  (1450, .iload 4, 2, 0, 0, 0), (1452, .iconst 1, 1, 0, 0, 0), (1453, .iadd, 1, 0, 0, 0), (1454, .iaload, 1, 0, 0, 0), (1455, .invokevirtual 173, 3, 153, 2, 2), (1458, .aload_n 2, 1, 0, 0, 0), (1459, .aload_n 0, 1, 0, 0, 0), (1460, .iload 4, 2, 0, 0, 0),
  (1462, .iconst 1, 1, 0, 0, 0), (1463, .iadd, 1, 0, 0, 0), (1464, .iaload, 1, 0, 0, 0), (1465, .invokevirtual 176, 3, 276, 2, 2), (1468, .if_icmp .eq 5, 3, 1473, 0, 0), (1471, .iconst 0, 1, 0, 0, 0), (1472, .ireturn, 1, 0, 0, 0), (1473, .iinc 4 7, 3, 0, 0, 0),
  (1476, .goto (-1453), 3, 23, 0, 0), (1479, .iconst 1, 1, 0, 0, 0), (1480, .ireturn, 1, 0, 0, 0)]
/-- SamePassersLaw.laws(LSamePassers;I[J)I -/
def mm_c278 : List (Nat × mm_E) := [(0, .aload_n 2, 1, 0, 0, 0), (1, .iconst 0, 1, 0, 0, 0), (2, .aload_n 0, 1, 0, 0, 0), (3, .iload_n 1, 1, 0, 0, 0), (4, .invokevirtual 7, 3, 154, 2, 2), (7, .i2l, 1, 0, 0, 0), (8, .lastore, 1, 0, 0, 0), (9, .goto 6, 3, 15, 0, 0),
  (12, .astore_n 3, 1, 0, 0, 0), (13, .iconst 1, 1, 0, 0, 0), (14, .ireturn, 1, 0, 0, 0), (15, .iconst 0, 1, 0, 0, 0), (16, .ireturn, 1, 0, 0, 0)]
/-- java/lang/Integer.bitCount(I)I -/
def mm_c279 : List (Nat × mm_E) := [(0, .iload_n 0, 1, 0, 0, 0), (1, .iload_n 0, 1, 0, 0, 0), (2, .iconst 1, 1, 0, 0, 0), (3, .iushr, 1, 0, 0, 0), (4, .ldc_w 265, 3, 0, 0, 1431655765), (7, .iand, 1, 0, 0, 0), (8, .isub, 1, 0, 0, 0), (9, .istore_n 0, 1, 0, 0, 0),
  (10, .iload_n 0, 1, 0, 0, 0), (11, .ldc_w 266, 3, 0, 0, 858993459), (14, .iand, 1, 0, 0, 0), (15, .iload_n 0, 1, 0, 0, 0), (16, .iconst 2, 1, 0, 0, 0), (17, .iushr, 1, 0, 0, 0), (18, .ldc_w 266, 3, 0, 0, 858993459), (21, .iand, 1, 0, 0, 0),
  (22, .iadd, 1, 0, 0, 0), (23, .istore_n 0, 1, 0, 0, 0), (24, .iload_n 0, 1, 0, 0, 0), (25, .iload_n 0, 1, 0, 0, 0), (26, .iconst 4, 1, 0, 0, 0), (27, .iushr, 1, 0, 0, 0), (28, .iadd, 1, 0, 0, 0), (29, .ldc_w 267, 3, 0, 0, 252645135),
  (32, .iand, 1, 0, 0, 0), (33, .istore_n 0, 1, 0, 0, 0), (34, .iload_n 0, 1, 0, 0, 0), (35, .iload_n 0, 1, 0, 0, 0), (36, .bipush 8, 2, 0, 0, 0), (38, .iushr, 1, 0, 0, 0), (39, .iadd, 1, 0, 0, 0), (40, .istore_n 0, 1, 0, 0, 0),
  (41, .iload_n 0, 1, 0, 0, 0), (42, .iload_n 0, 1, 0, 0, 0), (43, .bipush 16, 2, 0, 0, 0), (45, .iushr, 1, 0, 0, 0), (46, .iadd, 1, 0, 0, 0), (47, .istore_n 0, 1, 0, 0, 0), (48, .iload_n 0, 1, 0, 0, 0), (49, .bipush 63, 2, 0, 0, 0),
  (51, .iand, 1, 0, 0, 0), (52, .ireturn, 1, 0, 0, 0)]
/-- java/util/Arrays.fill([II)V -/
def mm_c280 : List (Nat × mm_E) := [(0, .iconst 0, 1, 0, 0, 0), (1, .istore_n 2, 1, 0, 0, 0), (2, .aload_n 0, 1, 0, 0, 0), (3, .arraylength, 1, 0, 0, 0), (4, .istore_n 3, 1, 0, 0, 0), (5, .iload_n 2, 1, 0, 0, 0), (6, .iload_n 3, 1, 0, 0, 0), (7, .if_icmp .ge 13, 3, 20, 0, 0),
  (10, .aload_n 0, 1, 0, 0, 0), (11, .iload_n 2, 1, 0, 0, 0), (12, .iload_n 1, 1, 0, 0, 0), (13, .iastore, 1, 0, 0, 0), (14, .iinc 2 1, 3, 0, 0, 0), (17, .goto (-12), 3, 5, 0, 0), (20, .return_, 1, 0, 0, 0)]
/-- java/util/Arrays.fill([JJ)V -/
def mm_c281 : List (Nat × mm_E) := [(0, .iconst 0, 1, 0, 0, 0), (1, .istore_n 3, 1, 0, 0, 0), (2, .aload_n 0, 1, 0, 0, 0), (3, .arraylength, 1, 0, 0, 0), (4, .istore 4, 2, 0, 0, 0), (6, .iload_n 3, 1, 0, 0, 0), (7, .iload 4, 2, 0, 0, 0), (9, .if_icmp .ge 13, 3, 22, 0, 0),
  (12, .aload_n 0, 1, 0, 0, 0), (13, .iload_n 3, 1, 0, 0, 0), (14, .lload_n 1, 1, 0, 0, 0), (15, .lastore, 1, 0, 0, 0), (16, .iinc 3 1, 3, 0, 0, 0), (19, .goto (-13), 3, 6, 0, 0), (22, .return_, 1, 0, 0, 0)]
/-- java/lang/String.length()I -/
def mm_c282 : List (Nat × mm_E) := [(0, .aload_n 0, 1, 0, 0, 0), (1, .getfield 9, 3, 30, 0, 0), (4, .arraylength, 1, 0, 0, 0), (5, .aload_n 0, 1, 0, 0, 0), (6, .invokevirtual 335, 3, 283, 1, 2), (9, .ishr, 1, 0, 0, 0), (10, .ireturn, 1, 0, 0, 0)]
/-- java/lang/String.coder()B -/
def mm_c283 : List (Nat × mm_E) := [(0, .getstatic 38, 3, 0, 0, 0), (3, .ifCond .eq 10, 3, 13, 0, 0), (6, .aload_n 0, 1, 0, 0, 0), (7, .getfield 15, 3, 30, 1, 0), (10, .goto 4, 3, 14, 0, 0), (13, .iconst 1, 1, 0, 0, 0), (14, .ireturn, 1, 0, 0, 0)]
/-- java/lang/String.charAt(I)C -/
def mm_c284 : List (Nat × mm_E) := [(0, .aload_n 0, 1, 0, 0, 0), (1, .invokevirtual 492, 3, 285, 1, 2), (4, .ifCond .eq 12, 3, 16, 0, 0), (7, .aload_n 0, 1, 0, 0, 0), (8, .getfield 9, 3, 30, 0, 0), (11, .iload_n 1, 1, 0, 0, 0), (12, .invokestatic 495, 3, 289, 2, 1), (15, .ireturn, 1, 0, 0, 0),
  (16, .aload_n 0, 1, 0, 0, 0), (17, .getfield 9, 3, 30, 0, 0), (20, .iload_n 1, 1, 0, 0, 0), (21, .invokestatic 498, 3, 999, 0, 98), (24, .ireturn, 1, 0, 0, 0)]
/-- java/lang/String.isLatin1()Z -/
def mm_c285 : List (Nat × mm_E) := [(0, .getstatic 38, 3, 0, 0, 0), (3, .ifCond .eq 14, 3, 17, 0, 0), (6, .aload_n 0, 1, 0, 0, 0), (7, .getfield 15, 3, 30, 1, 0), (10, .ifCond .ne 7, 3, 17, 0, 0), (13, .iconst 1, 1, 0, 0, 0), (14, .goto 4, 3, 18, 0, 0), (17, .iconst 0, 1, 0, 0, 0),
  (18, .ireturn, 1, 0, 0, 0)]
/-- java/lang/String.checkIndex(II)V -/
def mm_c286 : List (Nat × mm_E) := [(0, .iload_n 0, 1, 0, 0, 0), (1, .iload_n 1, 1, 0, 0, 0), (2, .getstatic 1053, 3, 1, 0, 0), (5, .invokestatic 1059, 3, 293, 3, 1), (8, .pop, 1, 0, 0, 0), (9, .return_, 1, 0, 0, 0)]
/-- java/lang/String.indexOf(I)I -/
def mm_c287 : List (Nat × mm_E) := [(0, .aload_n 0, 1, 0, 0, 0), (1, .iload_n 1, 1, 0, 0, 0), (2, .iconst 0, 1, 0, 0, 0), (3, .invokevirtual 633, 3, 288, 3, 2), (6, .ireturn, 1, 0, 0, 0)]
/-- java/lang/String.indexOf(II)I -/
def mm_c288 : List (Nat × mm_E) := [(0, .aload_n 0, 1, 0, 0, 0), (1, .invokevirtual 492, 3, 285, 1, 2), (4, .ifCond .eq 19, 3, 23, 0, 0), (7, .aload_n 0, 1, 0, 0, 0), (8, .getfield 9, 3, 30, 0, 0), (11, .iload_n 1, 1, 0, 0, 0), (12, .iload_n 2, 1, 0, 0, 0), (13, .aload_n 0, 1, 0, 0, 0),
  (14, .invokevirtual 505, 3, 282, 1, 2), (17, .invokestatic 637, 3, 290, 4, 1), (20, .goto 16, 3, 36, 0, 0), (23, .aload_n 0, 1, 0, 0, 0), (24, .getfield 9, 3, 30, 0, 0), (27, .iload_n 1, 1, 0, 0, 0), (28, .iload_n 2, 1, 0, 0, 0), (29, .aload_n 0, 1, 0, 0, 0),
  (30, .invokevirtual 505, 3, 282, 1, 2), (33, .invokestatic 640, 3, 999, 0, 98), (36, .ireturn, 1, 0, 0, 0)]
/-- java/lang/StringLatin1.charAt([BI)C -/
def mm_c289 : List (Nat × mm_E) := [(0, .iload_n 1, 1, 0, 0, 0), (1, .aload_n 0, 1, 0, 0, 0), (2, .arraylength, 1, 0, 0, 0), (3, .invokestatic 9, 3, 286, 2, 1), (6, .aload_n 0, 1, 0, 0, 0), (7, .iload_n 1, 1, 0, 0, 0), (8, .baload, 1, 0, 0, 0), (9, .sipush 255, 3, 0, 0, 0),
  (12, .iand, 1, 0, 0, 0), (13, .i2c, 1, 0, 0, 0), (14, .ireturn, 1, 0, 0, 0)]
/-- java/lang/StringLatin1.indexOf([BIII)I -/
def mm_c290 : List (Nat × mm_E) := [(0, .iload_n 1, 1, 0, 0, 0), (1, .invokestatic 88, 3, 291, 1, 0), (4, .ifCond .ne 5, 3, 9, 0, 0), (7, .iconst (-1), 1, 0, 0, 0), (8, .ireturn, 1, 0, 0, 0), (9, .iload_n 2, 1, 0, 0, 0), (10, .iconst 0, 1, 0, 0, 0), (11, .invokestatic 92, 3, 0, 0, 10),
  (14, .istore_n 2, 1, 0, 0, 0), (15, .iload_n 3, 1, 0, 0, 0), (16, .aload_n 0, 1, 0, 0, 0), (17, .arraylength, 1, 0, 0, 0), (18, .invokestatic 38, 3, 0, 0, 11), (21, .istore_n 3, 1, 0, 0, 0), (22, .iload_n 2, 1, 0, 0, 0), (23, .iload_n 3, 1, 0, 0, 0),
  (24, .if_icmp .lt 5, 3, 29, 0, 0), (27, .iconst (-1), 1, 0, 0, 0), (28, .ireturn, 1, 0, 0, 0), (29, .aload_n 0, 1, 0, 0, 0), (30, .iload_n 1, 1, 0, 0, 0), (31, .iload_n 2, 1, 0, 0, 0), (32, .iload_n 3, 1, 0, 0, 0), (33, .invokestatic 95, 3, 292, 4, 0),
  (36, .ireturn, 1, 0, 0, 0)]
/-- java/lang/StringLatin1.canEncode(I)Z -/
def mm_c291 : List (Nat × mm_E) := [(0, .iload_n 0, 1, 0, 0, 0), (1, .ifCond .lt 14, 3, 15, 0, 0), (4, .iload_n 0, 1, 0, 0, 0), (5, .sipush 255, 3, 0, 0, 0), (8, .if_icmp .gt 7, 3, 15, 0, 0), (11, .iconst 1, 1, 0, 0, 0), (12, .goto 4, 3, 16, 0, 0), (15, .iconst 0, 1, 0, 0, 0),
  (16, .ireturn, 1, 0, 0, 0)]
/-- java/lang/StringLatin1.indexOfChar([BIII)I -/
def mm_c292 : List (Nat × mm_E) := [(0, .iload_n 1, 1, 0, 0, 0), (1, .i2b, 1, 0, 0, 0), (2, .istore 4, 2, 0, 0, 0), (4, .iload_n 2, 1, 0, 0, 0), (5, .istore 5, 2, 0, 0, 0), (7, .iload 5, 2, 0, 0, 0), (9, .iload_n 3, 1, 0, 0, 0), (10, .if_icmp .ge 21, 3, 31, 0, 0),
  (13, .aload_n 0, 1, 0, 0, 0), (14, .iload 5, 2, 0, 0, 0), (16, .baload, 1, 0, 0, 0), (17, .iload 4, 2, 0, 0, 0), (19, .if_icmp .ne 6, 3, 25, 0, 0), (22, .iload 5, 2, 0, 0, 0), (24, .ireturn, 1, 0, 0, 0), (25, .iinc 5 1, 3, 0, 0, 0),
  (28, .goto (-21), 3, 7, 0, 0), (31, .iconst (-1), 1, 0, 0, 0), (32, .ireturn, 1, 0, 0, 0)]
/-- jdk/internal/util/Preconditions.checkIndex(IILjava/util/function/BiFunction;)I -/
def mm_c293 : List (Nat × mm_E) := [(0, .iload_n 0, 1, 0, 0, 0), (1, .ifCond .lt 8, 3, 9, 0, 0), (4, .iload_n 0, 1, 0, 0, 0), (5, .iload_n 1, 1, 0, 0, 0), (6, .if_icmp .lt 10, 3, 16, 0, 0), (9, .aload_n 2, 1, 0, 0, 0), (10, .iload_n 0, 1, 0, 0, 0), (11, .iload_n 1, 1, 0, 0, 0),
  (12, .invokestatic 95, 3, 999, 0, 99), (15, .athrow, 1, 0, 0, 0), (16, .iload_n 0, 1, 0, 0, 0), (17, .ireturn, 1, 0, 0, 0)]
def mm_prog : List (List (Nat × mm_E)) := [mm_c0, mm_c1, mm_c2, mm_c3, mm_c4, mm_c5, mm_c6, mm_c7, mm_c8, mm_c9, mm_c10, mm_c11, mm_c12, mm_c13, mm_c14, mm_c15, mm_c16, mm_c17, mm_c18, mm_c19, mm_c20, mm_c21, mm_c22, mm_c23, mm_c24, mm_c25, mm_c26, mm_c27, mm_c28, mm_c29, mm_c30, mm_c31, mm_c32, mm_c33, mm_c34, mm_c35, mm_c36, mm_c37, mm_c38, mm_c39, mm_c40, mm_c41, mm_c42, mm_c43, mm_c44, mm_c45, mm_c46, mm_c47, mm_c48, mm_c49, mm_c50, mm_c51, mm_c52, mm_c53, mm_c54, mm_c55, mm_c56, mm_c57, mm_c58, mm_c59, mm_c60, mm_c61, mm_c62, mm_c63, mm_c64, mm_c65, mm_c66, mm_c67, mm_c68, mm_c69, mm_c70, mm_c71, mm_c72, mm_c73, mm_c74, mm_c75, mm_c76, mm_c77, mm_c78, mm_c79, mm_c80, mm_c81, mm_c82, mm_c83, mm_c84, mm_c85, mm_c86, mm_c87, mm_c88, mm_c89, mm_c90, mm_c91, mm_c92, mm_c93, mm_c94, mm_c95, mm_c96, mm_c97, mm_c98, mm_c99, mm_c100, mm_c101, mm_c102, mm_c103, mm_c104, mm_c105, mm_c106, mm_c107, mm_c108, mm_c109, mm_c110, mm_c111, mm_c112, mm_c113, mm_c114, mm_c115, mm_c116, mm_c117, mm_c118, mm_c119, mm_c120, mm_c121, mm_c122, mm_c123, mm_c124, mm_c125, mm_c126, mm_c127, mm_c128, mm_c129, mm_c130, mm_c131, mm_c132, mm_c133, mm_c134, mm_c135, mm_c136, mm_c137, mm_c138, mm_c139, mm_c140, mm_c141, mm_c142, mm_c143, mm_c144, mm_c145, mm_c146, mm_c147, mm_c148, mm_c149, mm_c150, mm_c151, mm_c152, mm_c153, mm_c154, mm_c155, mm_c156, mm_c157, mm_c158, mm_c159, mm_c160, mm_c161, mm_c162, mm_c163, mm_c164, mm_c165, mm_c166, mm_c167, mm_c168, mm_c169, mm_c170, mm_c171, mm_c172, mm_c173, mm_c174, mm_c175, mm_c176, mm_c177, mm_c178, mm_c179, mm_c180, mm_c181, mm_c182, mm_c183, mm_c184, mm_c185, mm_c186, mm_c187, mm_c188, mm_c189, mm_c190, mm_c191, mm_c192, mm_c193, mm_c194, mm_c195, mm_c196, mm_c197, mm_c198, mm_c199, mm_c200, mm_c201, mm_c202, mm_c203, mm_c204, mm_c205, mm_c206, mm_c207, mm_c208, mm_c209, mm_c210, mm_c211, mm_c212, mm_c213, mm_c214, mm_c215, mm_c216, mm_c217, mm_c218, mm_c219, mm_c220, mm_c221, mm_c222, mm_c223, mm_c224, mm_c225, mm_c226, mm_c227, mm_c228, mm_c229, mm_c230, mm_c231, mm_c232, mm_c233, mm_c234, mm_c235, mm_c236, mm_c237, mm_c238, mm_c239, mm_c240, mm_c241, mm_c242, mm_c243, mm_c244, mm_c245, mm_c246, mm_c247, mm_c248, mm_c249, mm_c250, mm_c251, mm_c252, mm_c253, mm_c254, mm_c255, mm_c256, mm_c257, mm_c258, mm_c259, mm_c260, mm_c261, mm_c262, mm_c263, mm_c264, mm_c265, mm_c266, mm_c267, mm_c268, mm_c269, mm_c270, mm_c271, mm_c272, mm_c273, mm_c274, mm_c275, mm_c276, mm_c277, mm_c278, mm_c279, mm_c280, mm_c281, mm_c282, mm_c283, mm_c284, mm_c285, mm_c286, mm_c287, mm_c288, mm_c289, mm_c290, mm_c291, mm_c292, mm_c293]
/-- a method: its name, bytes, locals, answer, its class -/
def mm_mt : List (MethodName × ByteArray × Nat × Option FieldType × Nat) := [(⟨"SamePassers$Film", "<init>", "()V"⟩, prog_2_method_1_code, 1, none, 0),
  (⟨"SamePassers$Film", "shoot", "(ILSamePassers$Walks;LSamePassers$Street;I)V"⟩, prog_2_method_2_code, 6, none, 0),
  (⟨"SamePassers$Film", "allJumps", "(LSamePassers$Street;II)I"⟩, prog_2_method_4_code, 6, some .int, 0),
  (⟨"SamePassers$Film", "jumpOf", "(LSamePassers$Street;III)I"⟩, prog_2_method_3_code, 5, some .int, 0),
  (⟨"SamePassers$Film", "findNext", "(LSamePassers$Papers;LSamePassers$Street;)I"⟩, prog_2_method_5_code, 9, some .int, 0),
  (⟨"SamePassers$Film", "followersOf", "(ILSamePassers$Papers;LSamePassers$Street;)I"⟩, prog_2_method_6_code, 10, some .int, 0),
  (⟨"SamePassers$Film", "canWalk", "(II)Z"⟩, prog_2_method_7_code, 2, some .boolean, 0),
  (⟨"SamePassers$Film", "mostPairs", "(II)I"⟩, prog_2_method_8_code, 5, some .int, 0),
  (⟨"SamePassers$Film", "findPlace", "(II)Z"⟩, prog_2_method_9_code, 5, some .boolean, 0),
  (⟨"SamePassers$Hands", "<init>", "()V"⟩, prog_3_method_1_code, 1, none, 1),
  (⟨"SamePassers$Hands", "asTold", "(LSamePassers$Street;)V"⟩, prog_3_method_2_code, 3, none, 1),
  (⟨"SamePassers$Hands", "copyFrom", "(LSamePassers$Hands;)V"⟩, prog_3_method_4_code, 2, none, 1),
  (⟨"SamePassers$Hands", "goOn", "()V"⟩, prog_3_method_3_code, 1, none, 1),
  (⟨"SamePassers$LagSearch", "<init>", "(LSamePassers$Street;)V"⟩, prog_4_method_1_code, 2, none, 2),
  (⟨"SamePassers$LagSearch", "find", "(LSamePassers$Street;LSamePassers$Walks;I)Z"⟩, prog_4_method_2_code, 5, some .boolean, 2),
  (⟨"SamePassers$LagSearch", "fillRow", "(ILSamePassers$Walks;)V"⟩, prog_4_method_3_code, 6, none, 2),
  (⟨"SamePassers$LagSearch", "lagsForMusts", "(I)I"⟩, prog_4_method_5_code, 6, some .int, 2),
  (⟨"SamePassers$LagSearch", "cellWith", "(III)I"⟩, prog_4_method_4_code, 4, some .int, 2),
  (⟨"SamePassers$LagSearch", "fillTogether", "()V"⟩, prog_4_method_6_code, 3, none, 2),
  (⟨"SamePassers$LagSearch", "forbidBumps", "(II)V"⟩, prog_4_method_7_code, 7, none, 2),
  (⟨"SamePassers$LagSearch", "firstBump", "(IIII)I"⟩, prog_4_method_9_code, 7, some .int, 2),
  (⟨"SamePassers$LagSearch", "forbid", "(IIII)V"⟩, prog_4_method_8_code, 5, none, 2),
  (⟨"SamePassers$LagSearch", "search", "(II)V"⟩, prog_4_method_10_code, 5, none, 2),
  (⟨"SamePassers$Law", "<init>", "(Ljava/lang/String;Ljava/lang/String;)V"⟩, prog_5_method_1_code, 3, none, 3),
  (⟨"SamePassers$Law", "clear", "()V"⟩, prog_5_method_2_code, 1, none, 3),
  (⟨"SamePassers$Law", "add", "(I)V"⟩, prog_5_method_3_code, 2, none, 3),
  (⟨"SamePassers$Law", "valueFor", "(II)I"⟩, prog_5_method_4_code, 6, some .int, 3),
  (⟨"SamePassers$Law", "act", "(III)I"⟩, prog_5_method_5_code, 3, some .int, 3),
  (⟨"SamePassers$Papers", "<init>", "()V"⟩, prog_6_method_1_code, 1, none, 4),
  (⟨"SamePassers$Papers", "addTold", "(II)Z"⟩, prog_6_method_2_code, 3, some .boolean, 4),
  (⟨"SamePassers$Papers", "addSight", "(IIZ)Z"⟩, prog_6_method_3_code, 4, some .boolean, 4),
  (⟨"SamePassers$Papers", "copyFrom", "(LSamePassers$Papers;)V"⟩, prog_6_method_4_code, 2, none, 4),
  (⟨"SamePassers$Papers", "seekLaws", "(I)V"⟩, prog_6_method_5_code, 6, none, 4),
  (⟨"SamePassers$Papers", "holds", "(II)Z"⟩, prog_6_method_6_code, 4, some .boolean, 4),
  (⟨"SamePassers$Papers", "addLaw", "(III)V"⟩, prog_6_method_7_code, 5, none, 4),
  (⟨"SamePassers$Reader", "<init>", "(LSamePassers$Tape;LSamePassers$Street;LSamePassers$Script;)V"⟩, prog_7_method_1_code, 4, none, 5),
  (⟨"SamePassers$Reader", "readStreet", "(LSamePassers$Street;)I"⟩, prog_7_method_2_code, 4, some .int, 5),
  (⟨"SamePassers$Reader", "readGround", "()Z"⟩, prog_7_method_11_code, 1, some .boolean, 5),
  (⟨"SamePassers$Reader", "readNumberBehind", "(III)Z"⟩, prog_7_method_7_code, 4, some .boolean, 5),
  (⟨"SamePassers$Reader", "readToken", "(I)Z"⟩, prog_7_method_5_code, 2, some .boolean, 5),
  (⟨"SamePassers$Reader", "fail", "(I)Z"⟩, prog_7_method_4_code, 2, some .boolean, 5),
  (⟨"SamePassers$Reader", "readNumber", "(II)Z"⟩, prog_7_method_6_code, 3, some .boolean, 5),
  (⟨"SamePassers$Reader", "readSay", "()Z"⟩, prog_7_method_12_code, 1, some .boolean, 5),
  (⟨"SamePassers$Reader", "readNewName", "()Z"⟩, prog_7_method_8_code, 1, some .boolean, 5),
  (⟨"SamePassers$Reader", "readWalker", "()Z"⟩, prog_7_method_13_code, 3, some .boolean, 5),
  (⟨"SamePassers$Reader", "readKind", "(LSamePassers$Walker;)Z"⟩, prog_7_method_14_code, 2, some .boolean, 5),
  (⟨"SamePassers$Reader", "readPlace", "(LSamePassers$Walker;)Z"⟩, prog_7_method_15_code, 2, some .boolean, 5),
  (⟨"SamePassers$Reader", "readGait", "(LSamePassers$Walker;)Z"⟩, prog_7_method_16_code, 2, some .boolean, 5),
  (⟨"SamePassers$Reader", "readCue", "(LSamePassers$Walker;)Z"⟩, prog_7_method_17_code, 2, some .boolean, 5),
  (⟨"SamePassers$Reader", "seeWordName", "()Z"⟩, prog_7_method_10_code, 1, some .boolean, 5),
  (⟨"SamePassers$Reader", "readMust", "()Z"⟩, prog_7_method_18_code, 3, some .boolean, 5),
  (⟨"SamePassers$Reader", "readWalkerName", "()Z"⟩, prog_7_method_9_code, 1, some .boolean, 5),
  (⟨"SamePassers$Reader", "readRound", "()Z"⟩, prog_7_method_19_code, 1, some .boolean, 5),
  (⟨"SamePassers$Reader", "readLaw", "(LSamePassers$Law;)Z"⟩, prog_7_method_20_code, 2, some .boolean, 5),
  (⟨"SamePassers$Reader", "readLevel", "(LSamePassers$Law;II)Z"⟩, prog_7_method_21_code, 7, some .boolean, 5),
  (⟨"SamePassers$Reader", "readPart", "(LSamePassers$Law;I)Z"⟩, prog_7_method_22_code, 5, some .boolean, 5),
  (⟨"SamePassers$Reader", "partOf", "(LSamePassers$Law;)I"⟩, prog_7_method_23_code, 2, some .int, 5),
  (⟨"SamePassers$Reader", "levelOf", "(I)I"⟩, prog_7_method_24_code, 1, some .int, 5),
  (⟨"SamePassers$Reader", "actOf", "(I)I"⟩, prog_7_method_25_code, 1, some .int, 5),
  (⟨"SamePassers$Reader", "readTakes", "(LSamePassers$Street;LSamePassers$Script;)I"⟩, prog_7_method_3_code, 5, some .int, 5),
  (⟨"SamePassers$Reader", "readTakesLine", "()Z"⟩, prog_7_method_26_code, 2, some .boolean, 5),
  (⟨"SamePassers$Script", "<init>", "()V"⟩, prog_8_method_1_code, 1, none, 6),
  (⟨"SamePassers$Script", "add", "(III)V"⟩, prog_8_method_2_code, 4, none, 6),
  (⟨"SamePassers$Script", "play", "(ILSamePassers$Hands;)V"⟩, prog_8_method_3_code, 4, none, 6),
  (⟨"SamePassers$Street", "<init>", "()V"⟩, prog_9_method_1_code, 2, none, 7),
  (⟨"SamePassers$Street", "clear", "()V"⟩, prog_9_method_2_code, 1, none, 7),
  (⟨"SamePassers$Street", "findWord", "(J)I"⟩, prog_9_method_3_code, 4, some .int, 7),
  (⟨"SamePassers$Street", "findWalker", "(J)I"⟩, prog_9_method_4_code, 4, some .int, 7),
  (⟨"SamePassers$Street", "hasMust", "(II)Z"⟩, prog_9_method_5_code, 4, some .boolean, 7),
  (⟨"SamePassers$Street", "addMust", "(III)V"⟩, prog_9_method_6_code, 4, none, 7),
  (⟨"SamePassers$Street", "tempoOf", "(II)I"⟩, prog_9_method_7_code, 4, some .int, 7),
  (⟨"SamePassers$Street", "cueOf", "(I)I"⟩, prog_9_method_9_code, 4, some .int, 7),
  (⟨"SamePassers$Street", "inFrame", "(I)Z"⟩, prog_9_method_10_code, 2, some .boolean, 7),
  (⟨"SamePassers$Street", "knownBy", "(II)I"⟩, prog_9_method_8_code, 3, some .int, 7),
  (⟨"SamePassers$Street", "jumpBetween", "(II)I"⟩, prog_9_method_11_code, 3, some .int, 7),
  (⟨"SamePassers$Tape", "<init>", "()V"⟩, prog_10_method_1_code, 4, none, 8),
  (⟨"SamePassers$Tape", "asWord", "(Ljava/lang/String;)J"⟩, prog_10_method_2_code, 4, some .long, 8),
  (⟨"SamePassers$Tape", "add", "(J)V"⟩, prog_10_method_3_code, 6, none, 8),
  (⟨"SamePassers$Tape", "rewind", "()V"⟩, prog_10_method_4_code, 1, none, 8),
  (⟨"SamePassers$Tape", "step", "()V"⟩, prog_10_method_6_code, 2, none, 8),
  (⟨"SamePassers$Tape", "stepWord", "()V"⟩, prog_10_method_7_code, 2, none, 8),
  (⟨"SamePassers$Tape", "stepNumber", "()V"⟩, prog_10_method_8_code, 1, none, 8),
  (⟨"SamePassers$Tape", "empty", "()V"⟩, prog_10_method_5_code, 1, none, 8),
  (⟨"SamePassers$Walker", "<init>", "()V"⟩, prog_11_method_1_code, 1, none, 9),
  (⟨"SamePassers$Walks", "<init>", "(LSamePassers$Street;)V"⟩, prog_12_method_1_code, 2, none, 10),
  (⟨"SamePassers$Walks", "set", "(LSamePassers$Street;LSamePassers$Hands;IZ)V"⟩, prog_12_method_2_code, 6, none, 10),
  (⟨"SamePassers$Walks", "passesOf", "(I)I"⟩, prog_12_method_8_code, 6, some .int, 10),
  (⟨"SamePassers$Walks", "cellOf", "(II)I"⟩, prog_12_method_3_code, 3, some .int, 10),
  (⟨"SamePassers$Walks", "cellAfter", "(II)I"⟩, prog_12_method_4_code, 7, some .int, 10),
  (⟨"SamePassers$Walks", "along", "(IIII)I"⟩, prog_12_method_5_code, 9, some .int, 10),
  (⟨"SamePassers$Walks", "knownOf", "(I)I"⟩, prog_12_method_9_code, 2, some .int, 10),
  (⟨"SamePassers$Walks", "isGood", "()Z"⟩, prog_12_method_15_code, 1, some .boolean, 10),
  (⟨"SamePassers$Walks", "missedMusts", "()I"⟩, prog_12_method_14_code, 3, some .int, 10),
  (⟨"SamePassers$Walks", "offOf", "(I)I"⟩, prog_12_method_13_code, 3, some .int, 10),
  (⟨"SamePassers$Walks", "anyBump", "()Z"⟩, prog_12_method_11_code, 2, some .boolean, 10),
  (⟨"SamePassers$Walks", "bumpsAt", "(I)Z"⟩, prog_12_method_12_code, 7, some .boolean, 10),
  (⟨"SamePassers$Walks", "sharpness", "(II)I"⟩, prog_12_method_7_code, 3, some .int, 10),
  (⟨"SamePassers$Walks", "firstBump", "(II)I"⟩, prog_12_method_10_code, 5, some .int, 10),
  (⟨"SamePassers$Walks", "seenCell", "(II)I"⟩, prog_12_method_6_code, 4, some .int, 10),
  (⟨"SamePassers", "<init>", "()V"⟩, prog_1_method_1_code, 2, none, 11),
  (⟨"SamePassers", "feed", "(JJJ)I"⟩, prog_1_method_2_code, 7, some .int, 11),
  (⟨"SamePassers", "street", "()I"⟩, prog_1_method_3_code, 3, some .int, 11),
  (⟨"SamePassers", "beginStreet", "()V"⟩, prog_1_method_45_code, 1, none, 11),
  (⟨"SamePassers", "forgetPast", "()V"⟩, prog_1_method_47_code, 1, none, 11),
  (⟨"SamePassers", "setNow", "()V"⟩, prog_1_method_48_code, 1, none, 11),
  (⟨"SamePassers", "takes", "()I"⟩, prog_1_method_4_code, 3, some .int, 11),
  (⟨"SamePassers", "walker", "(II)I"⟩, prog_1_method_5_code, 4, some .int, 11),
  (⟨"SamePassers", "isWalker", "(I)Z"⟩, prog_1_method_37_code, 2, some .boolean, 11),
  (⟨"SamePassers", "tenth", "(I)I"⟩, prog_1_method_6_code, 2, some .int, 11),
  (⟨"SamePassers", "isWord", "(I)Z"⟩, prog_1_method_39_code, 2, some .boolean, 11),
  (⟨"SamePassers", "start", "(II)Z"⟩, prog_1_method_7_code, 3, some .boolean, 11),
  (⟨"SamePassers", "isCell", "(I)Z"⟩, prog_1_method_41_code, 2, some .boolean, 11),
  (⟨"SamePassers", "remember", "()V"⟩, prog_1_method_46_code, 1, none, 11),
  (⟨"SamePassers", "turn", "(I)Z"⟩, prog_1_method_8_code, 2, some .boolean, 11),
  (⟨"SamePassers", "late", "(II)Z"⟩, prog_1_method_9_code, 3, some .boolean, 11),
  (⟨"SamePassers", "take", "()I"⟩, prog_1_method_10_code, 1, some .int, 11),
  (⟨"SamePassers", "undo", "()Z"⟩, prog_1_method_11_code, 1, some .boolean, 11),
  (⟨"SamePassers", "judged", "(I)I"⟩, prog_1_method_12_code, 5, some .int, 11),
  (⟨"SamePassers", "where", "(II)I"⟩, prog_1_method_13_code, 3, some .int, 11),
  (⟨"SamePassers", "isTenth", "(I)Z"⟩, prog_1_method_43_code, 1, some .boolean, 11),
  (⟨"SamePassers", "seen", "(II)I"⟩, prog_1_method_14_code, 3, some .int, 11),
  (⟨"SamePassers", "first", "(II)I"⟩, prog_1_method_15_code, 3, some .int, 11),
  (⟨"SamePassers", "good", "()Z"⟩, prog_1_method_16_code, 1, some .boolean, 11),
  (⟨"SamePassers", "off", "(I)I"⟩, prog_1_method_17_code, 2, some .int, 11),
  (⟨"SamePassers", "isMust", "(I)Z"⟩, prog_1_method_40_code, 2, some .boolean, 11),
  (⟨"SamePassers", "until", "(II)I"⟩, prog_1_method_18_code, 4, some .int, 11),
  (⟨"SamePassers", "unknown", "()I"⟩, prog_1_method_19_code, 6, some .int, 11),
  (⟨"SamePassers", "lags", "(II)I"⟩, prog_1_method_20_code, 4, some .int, 11),
  (⟨"SamePassers", "areWalkers", "(I)Z"⟩, prog_1_method_38_code, 2, some .boolean, 11),
  (⟨"SamePassers", "full", "(I)I"⟩, prog_1_method_21_code, 9, some .int, 11),
  (⟨"SamePassers", "seenOnWords", "()J"⟩, prog_1_method_49_code, 5, some .long, 11),
  (⟨"SamePassers", "fills", "(IIJ)Z"⟩, prog_1_method_50_code, 7, some .boolean, 11),
  (⟨"SamePassers", "jump", "(IIIII)I"⟩, prog_1_method_22_code, 7, some .int, 11),
  (⟨"SamePassers", "isTake", "(I)Z"⟩, prog_1_method_44_code, 1, some .boolean, 11),
  (⟨"SamePassers", "shoot", "(III)V"⟩, prog_1_method_51_code, 4, none, 11),
  (⟨"SamePassers", "best", "(II)I"⟩, prog_1_method_23_code, 9, some .int, 11),
  (⟨"SamePassers", "row", "(II)J"⟩, prog_1_method_24_code, 7, some .long, 11),
  (⟨"SamePassers", "isLane", "(I)Z"⟩, prog_1_method_42_code, 2, some .boolean, 11),
  (⟨"SamePassers", "wrong", "()I"⟩, prog_1_method_25_code, 5, some .int, 11),
  (⟨"SamePassers", "change", "(II)I"⟩, prog_1_method_26_code, 5, some .int, 11),
  (⟨"SamePassers", "canStandFor", "(III)Z"⟩, prog_1_method_52_code, 8, some .boolean, 11),
  (⟨"SamePassers", "other", "(III)I"⟩, prog_1_method_27_code, 5, some .int, 11),
  (⟨"SamePassers", "tell", "(II)Z"⟩, prog_1_method_28_code, 3, some .boolean, 11),
  (⟨"SamePassers", "notes", "(I)I"⟩, prog_1_method_30_code, 7, some .int, 11),
  (⟨"SamePassers", "secondsOf", "(I)I"⟩, prog_1_method_53_code, 4, some .int, 11),
  (⟨"SamePassers", "worthOf", "(I)I"⟩, prog_1_method_54_code, 4, some .int, 11),
  (⟨"SamePassers", "whose", "(III)I"⟩, prog_1_method_31_code, 6, some .int, 11),
  (⟨"SamePassers", "sight", "(IIZ)Z"⟩, prog_1_method_32_code, 4, some .boolean, 11),
  (⟨"SamePassers", "hired", "(I)I"⟩, prog_1_method_33_code, 3, some .int, 11),
  (⟨"SamePassers", "days", "(III)I"⟩, prog_1_method_34_code, 13, some .int, 11),
  (⟨"SamePassers", "drawLates", "(J)J"⟩, prog_1_method_55_code, 7, some .long, 11),
  (⟨"SamePassers", "nextDraw", "(J)J"⟩, prog_1_method_56_code, 2, some .long, 11),
  (⟨"SamePassers", "mark", "(IZ)Z"⟩, prog_1_method_35_code, 3, some .boolean, 11),
  (⟨"SamePassers", "count", "(I)I"⟩, prog_1_method_36_code, 2, some .int, 11),
  (⟨"SamePassers", "laws", "(I)I"⟩, prog_1_method_29_code, 2, some .int, 11),
  (⟨"SamePassersModel", "thrown", "()I"⟩, prog_14_method_1_code, 1, some .int, 12),
  (⟨"SamePassersModel", "feed", "(JJJ)I"⟩, prog_14_method_2_code, 7, some .int, 12),
  (⟨"SamePassersModel", "lay", "(J)V"⟩, prog_14_method_3_code, 5, none, 12),
  (⟨"SamePassersModel", "<init>", "()V"⟩, prog_14_method_4_code, 1, none, 12),
  (⟨"SamePassersModel", "standsAsAlways", "(I)V"⟩, prog_14_method_18_code, 3, none, 12),
  (⟨"SamePassersModel", "begins", "()V"⟩, prog_14_method_46_code, 2, none, 12),
  (⟨"SamePassersModel", "starts", "(I)V"⟩, prog_14_method_45_code, 3, none, 12),
  (⟨"SamePassersModel", "walkerOf", "(II)I"⟩, prog_14_method_53_code, 3, some .int, 12),
  (⟨"SamePassersModel", "street", "()I"⟩, prog_14_method_27_code, 2, some .int, 12),
  (⟨"SamePassersModel", "cutAll", "()V"⟩, prog_14_method_9_code, 7, none, 12),
  (⟨"SamePassersModel", "isLetter", "(I)Z"⟩, prog_14_method_5_code, 1, some .boolean, 12),
  (⟨"SamePassersModel", "rank", "(I)I"⟩, prog_14_method_7_code, 1, some .int, 12),
  (⟨"SamePassersModel", "isDigit", "(I)Z"⟩, prog_14_method_6_code, 1, some .boolean, 12),
  (⟨"SamePassersModel", "isSignOf", "(I)Z"⟩, prog_14_method_8_code, 1, some .boolean, 12),
  (⟨"SamePassersModel", "takeWord", "(I)V"⟩, prog_14_method_16_code, 2, none, 12),
  (⟨"SamePassersModel", "hasWord", "(I)Z"⟩, prog_14_method_15_code, 3, some .boolean, 12),
  (⟨"SamePassersModel", "isWord", "(I)Z"⟩, prog_14_method_12_code, 2, some .boolean, 12),
  (⟨"SamePassersModel", "wrong", "(I)V"⟩, prog_14_method_10_code, 2, none, 12),
  (⟨"SamePassersModel", "takeNumber", "(II)I"⟩, prog_14_method_19_code, 3, some .int, 12),
  (⟨"SamePassersModel", "takeAfter", "(III)I"⟩, prog_14_method_20_code, 4, some .int, 12),
  (⟨"SamePassersModel", "takeSign", "(I)V"⟩, prog_14_method_13_code, 2, none, 12),
  (⟨"SamePassersModel", "isSign", "(I)Z"⟩, prog_14_method_11_code, 2, some .boolean, 12),
  (⟨"SamePassersModel", "readLine", "()V"⟩, prog_14_method_28_code, 1, none, 12),
  (⟨"SamePassersModel", "readSay", "()V"⟩, prog_14_method_31_code, 2, none, 12),
  (⟨"SamePassersModel", "readName", "(I)V"⟩, prog_14_method_29_code, 2, none, 12),
  (⟨"SamePassersModel", "isName", "()Z"⟩, prog_14_method_23_code, 1, some .boolean, 12),
  (⟨"SamePassersModel", "wordHere", "(II)I"⟩, prog_14_method_21_code, 5, some .int, 12),
  (⟨"SamePassersModel", "find", "(Z)I"⟩, prog_14_method_24_code, 3, some .int, 12),
  (⟨"SamePassersModel", "readWalker", "()V"⟩, prog_14_method_32_code, 3, none, 12),
  (⟨"SamePassersModel", "takeOne", "(II)I"⟩, prog_14_method_22_code, 4, some .int, 12),
  (⟨"SamePassersModel", "lastCell", "()I"⟩, prog_14_method_30_code, 1, some .int, 12),
  (⟨"SamePassersModel", "takeTold", "(ZII)I"⟩, prog_14_method_26_code, 5, some .int, 12),
  (⟨"SamePassersModel", "toldHere", "(ZII)I"⟩, prog_14_method_25_code, 5, some .int, 12),
  (⟨"SamePassersModel", "within", "(III)Z"⟩, prog_14_method_17_code, 3, some .boolean, 12),
  (⟨"SamePassersModel", "readMust", "()V"⟩, prog_14_method_33_code, 5, none, 12),
  (⟨"SamePassersModel", "readOnce", "()V"⟩, prog_14_method_34_code, 2, none, 12),
  (⟨"SamePassersModel", "all", "(I)V"⟩, prog_14_method_37_code, 3, none, 12),
  (⟨"SamePassersModel", "test", "(I)V"⟩, prog_14_method_38_code, 3, none, 12),
  (⟨"SamePassersModel", "sums", "(I)V"⟩, prog_14_method_39_code, 3, none, 12),
  (⟨"SamePassersModel", "products", "(I)V"⟩, prog_14_method_40_code, 2, none, 12),
  (⟨"SamePassersModel", "takePart", "(I)V"⟩, prog_14_method_41_code, 4, none, 12),
  (⟨"SamePassersModel", "emit", "(II)V"⟩, prog_14_method_36_code, 3, none, 12),
  (⟨"SamePassersModel", "hasSign", "(I)Z"⟩, prog_14_method_14_code, 3, some .boolean, 12),
  (⟨"SamePassersModel", "takes", "()I"⟩, prog_14_method_35_code, 3, some .int, 12),
  (⟨"SamePassersModel", "walker", "(II)I"⟩, prog_14_method_67_code, 3, some .int, 12),
  (⟨"SamePassersModel", "isWalker", "(I)Z"⟩, prog_14_method_56_code, 2, some .boolean, 12),
  (⟨"SamePassersModel", "walkers", "()I"⟩, prog_14_method_51_code, 1, some .int, 12),
  (⟨"SamePassersModel", "tempoOf", "(II)I"⟩, prog_14_method_58_code, 4, some .int, 12),
  (⟨"SamePassersModel", "worthAt", "(I)I"⟩, prog_14_method_42_code, 5, some .int, 12),
  (⟨"SamePassersModel", "both", "(III)I"⟩, prog_14_method_43_code, 3, some .int, 12),
  (⟨"SamePassersModel", "passesOf", "(I)I"⟩, prog_14_method_65_code, 7, some .int, 12),
  (⟨"SamePassersModel", "behindOf", "(II)I"⟩, prog_14_method_77_code, 3, some .int, 12),
  (⟨"SamePassersModel", "placeOf", "(IIIIII)I"⟩, prog_14_method_60_code, 13, some .int, 12),
  (⟨"SamePassersModel", "cells", "()I"⟩, prog_14_method_48_code, 1, some .int, 12),
  (⟨"SamePassersModel", "cueOf", "(I)I"⟩, prog_14_method_59_code, 3, some .int, 12),
  (⟨"SamePassersModel", "tenthOf", "(I)I"⟩, prog_14_method_55_code, 2, some .int, 12),
  (⟨"SamePassersModel", "sightOf", "(II)I"⟩, prog_14_method_64_code, 3, some .int, 12),
  (⟨"SamePassersModel", "isFramed", "(I)Z"⟩, prog_14_method_63_code, 2, some .boolean, 12),
  (⟨"SamePassersModel", "knownOf", "(I)I"⟩, prog_14_method_66_code, 4, some .int, 12),
  (⟨"SamePassersModel", "tenth", "(I)I"⟩, prog_14_method_68_code, 2, some .int, 12),
  (⟨"SamePassersModel", "isSaid", "(I)Z"⟩, prog_14_method_57_code, 2, some .boolean, 12),
  (⟨"SamePassersModel", "saidMany", "()I"⟩, prog_14_method_50_code, 1, some .int, 12),
  (⟨"SamePassersModel", "start", "(II)Z"⟩, prog_14_method_69_code, 3, some .boolean, 12),
  (⟨"SamePassersModel", "keeps", "()V"⟩, prog_14_method_47_code, 2, none, 12),
  (⟨"SamePassersModel", "copies", "(III)V"⟩, prog_14_method_44_code, 5, none, 12),
  (⟨"SamePassersModel", "turn", "(I)Z"⟩, prog_14_method_70_code, 2, some .boolean, 12),
  (⟨"SamePassersModel", "late", "(II)Z"⟩, prog_14_method_71_code, 3, some .boolean, 12),
  (⟨"SamePassersModel", "take", "()I"⟩, prog_14_method_73_code, 1, some .int, 12),
  (⟨"SamePassersModel", "next", "(I)V"⟩, prog_14_method_72_code, 3, none, 12),
  (⟨"SamePassersModel", "undo", "()Z"⟩, prog_14_method_74_code, 1, some .boolean, 12),
  (⟨"SamePassersModel", "judged", "(I)I"⟩, prog_14_method_80_code, 8, some .int, 12),
  (⟨"SamePassersModel", "isGood", "(I)Z"⟩, prog_14_method_79_code, 5, some .boolean, 12),
  (⟨"SamePassersModel", "missedIn", "(I)I"⟩, prog_14_method_76_code, 4, some .int, 12),
  (⟨"SamePassersModel", "musts", "()I"⟩, prog_14_method_52_code, 1, some .int, 12),
  (⟨"SamePassersModel", "offIn", "(IIZI)I"⟩, prog_14_method_75_code, 7, some .int, 12),
  (⟨"SamePassersModel", "mustOf", "(II)I"⟩, prog_14_method_54_code, 3, some .int, 12),
  (⟨"SamePassersModel", "placeIn", "(IIZII)I"⟩, prog_14_method_61_code, 7, some .int, 12),
  (⟨"SamePassersModel", "bumpOf", "(III)I"⟩, prog_14_method_78_code, 8, some .int, 12),
  (⟨"SamePassersModel", "where", "(II)I"⟩, prog_14_method_81_code, 3, some .int, 12),
  (⟨"SamePassersModel", "placeNow", "(II)I"⟩, prog_14_method_62_code, 3, some .int, 12),
  (⟨"SamePassersModel", "seen", "(II)I"⟩, prog_14_method_82_code, 3, some .int, 12),
  (⟨"SamePassersModel", "first", "(II)I"⟩, prog_14_method_83_code, 3, some .int, 12),
  (⟨"SamePassersModel", "good", "()Z"⟩, prog_14_method_84_code, 1, some .boolean, 12),
  (⟨"SamePassersModel", "off", "(I)I"⟩, prog_14_method_85_code, 2, some .int, 12),
  (⟨"SamePassersModel", "until", "(II)I"⟩, prog_14_method_86_code, 4, some .int, 12),
  (⟨"SamePassersModel", "unknown", "()I"⟩, prog_14_method_87_code, 6, some .int, 12),
  (⟨"SamePassersModel", "row", "(II)J"⟩, prog_14_method_88_code, 7, some .long, 12),
  (⟨"SamePassersModel", "lanes", "()I"⟩, prog_14_method_49_code, 1, some .int, 12),
  (⟨"SamePassersModel", "whose", "(III)I"⟩, prog_14_method_89_code, 6, some .int, 12),
  (⟨"SamePassersModel", "lags", "(II)I"⟩, prog_14_method_97_code, 4, some .int, 12),
  (⟨"SamePassersModel", "bits", "(I)I"⟩, prog_14_method_96_code, 3, some .int, 12),
  (⟨"SamePassersModel", "laysFits", "()V"⟩, prog_14_method_94_code, 5, none, 12),
  (⟨"SamePassersModel", "doHold", "(II)Z"⟩, prog_14_method_91_code, 5, some .boolean, 12),
  (⟨"SamePassersModel", "laggedPlace", "(III)I"⟩, prog_14_method_90_code, 5, some .int, 12),
  (⟨"SamePassersModel", "fitAt", "(IIII)I"⟩, prog_14_method_93_code, 5, some .int, 12),
  (⟨"SamePassersModel", "goTogether", "(IIII)Z"⟩, prog_14_method_92_code, 8, some .boolean, 12),
  (⟨"SamePassersModel", "goesThrough", "(II)V"⟩, prog_14_method_95_code, 6, none, 12),
  (⟨"SamePassersModel", "full", "(I)I"⟩, prog_14_method_98_code, 8, some .int, 12),
  (⟨"SamePassersModel", "jump", "(IIIII)I"⟩, prog_14_method_101_code, 7, some .int, 12),
  (⟨"SamePassersModel", "allJumps", "(IIII)I"⟩, prog_14_method_100_code, 7, some .int, 12),
  (⟨"SamePassersModel", "jumpOf", "(IIIII)I"⟩, prog_14_method_99_code, 11, some .int, 12),
  (⟨"SamePassersModel", "best", "(II)I"⟩, prog_14_method_102_code, 9, some .int, 12),
  (⟨"SamePassersModel", "wrong", "()I"⟩, prog_14_method_103_code, 5, some .int, 12),
  (⟨"SamePassersModel", "change", "(II)I"⟩, prog_14_method_105_code, 5, some .int, 12),
  (⟨"SamePassersModel", "isAlike", "(III)Z"⟩, prog_14_method_104_code, 9, some .boolean, 12),
  (⟨"SamePassersModel", "other", "(III)I"⟩, prog_14_method_106_code, 5, some .int, 12),
  (⟨"SamePassersModel", "tell", "(II)Z"⟩, prog_14_method_107_code, 3, some .boolean, 12),
  (⟨"SamePassersModel", "laws", "(I)I"⟩, prog_14_method_109_code, 9, some .int, 12),
  (⟨"SamePassersModel", "isLaw", "(II)Z"⟩, prog_14_method_108_code, 5, some .boolean, 12),
  (⟨"SamePassersModel", "notes", "(I)I"⟩, prog_14_method_110_code, 9, some .int, 12),
  (⟨"SamePassersModel", "sight", "(IIZ)Z"⟩, prog_14_method_111_code, 5, some .boolean, 12),
  (⟨"SamePassersModel", "hired", "(I)I"⟩, prog_14_method_118_code, 3, some .int, 12),
  (⟨"SamePassersModel", "matched", "()I"⟩, prog_14_method_115_code, 4, some .int, 12),
  (⟨"SamePassersModel", "finds", "(I)Z"⟩, prog_14_method_114_code, 3, some .boolean, 12),
  (⟨"SamePassersModel", "mayBe", "(II)Z"⟩, prog_14_method_113_code, 3, some .boolean, 12),
  (⟨"SamePassersModel", "canFollow", "(II)Z"⟩, prog_14_method_112_code, 10, some .boolean, 12),
  (⟨"SamePassersModel", "laysNext", "(I)V"⟩, prog_14_method_117_code, 5, none, 12),
  (⟨"SamePassersModel", "isTaken", "(II)Z"⟩, prog_14_method_116_code, 5, some .boolean, 12),
  (⟨"SamePassersModel", "days", "(III)I"⟩, prog_14_method_120_code, 10, some .int, 12),
  (⟨"SamePassersModel", "draw", "(I)I"⟩, prog_14_method_119_code, 2, some .int, 12),
  (⟨"SamePassersModel", "mark", "(IZ)Z"⟩, prog_14_method_121_code, 3, some .boolean, 12),
  (⟨"SamePassersModel", "count", "(I)I"⟩, prog_14_method_122_code, 2, some .int, 12),
  (⟨"SamePassersLaw", "law", "([I)Z"⟩, code, 7, some .boolean, 13),
  (⟨"SamePassersLaw", "laws", "(LSamePassers;I[J)I"⟩, method_3_code, 4, some .int, 13),
  (⟨"java/lang/Integer", "bitCount", "(I)I"⟩, prog_20_method_49_code, 1, some .int, 14),
  (⟨"java/util/Arrays", "fill", "([II)V"⟩, prog_30_method_103_code, 4, none, 15),
  (⟨"java/util/Arrays", "fill", "([JJ)V"⟩, prog_30_method_101_code, 5, none, 15),
  (⟨"java/lang/String", "length", "()I"⟩, prog_23_method_54_code, 1, some .int, 16),
  (⟨"java/lang/String", "coder", "()B"⟩, prog_23_method_152_code, 1, some .byte, 16),
  (⟨"java/lang/String", "charAt", "(I)C"⟩, prog_23_method_56_code, 2, some .char, 16),
  (⟨"java/lang/String", "isLatin1", "()Z"⟩, prog_23_method_154_code, 1, some .boolean, 16),
  (⟨"java/lang/String", "checkIndex", "(II)V"⟩, prog_23_method_155_code, 2, none, 16),
  (⟨"java/lang/String", "indexOf", "(I)I"⟩, prog_23_method_79_code, 2, some .int, 16),
  (⟨"java/lang/String", "indexOf", "(II)I"⟩, prog_23_method_80_code, 3, some .int, 16),
  (⟨"java/lang/StringLatin1", "charAt", "([BI)C"⟩, prog_24_method_2_code, 2, some .char, 17),
  (⟨"java/lang/StringLatin1", "indexOf", "([BIII)I"⟩, prog_24_method_22_code, 4, some .int, 17),
  (⟨"java/lang/StringLatin1", "canEncode", "(I)Z"⟩, prog_24_method_4_code, 1, some .boolean, 17),
  (⟨"java/lang/StringLatin1", "indexOfChar", "([BIII)I"⟩, prog_24_method_23_code, 6, some .int, 17),
  (⟨"jdk/internal/util/Preconditions", "checkIndex", "(IILjava/util/function/BiFunction;)I"⟩, prog_32_method_11_code, 3, some .int, 18)]
