abbrev tb_X5_thrushes_0 : List (Nat × Instr × Nat) := [(0, .iload_n 1, 1), (1, .iconst 1, 1), (2, .if_icmp .lt 9, 3), (5, .iload_n 1, 1), (6, .bipush 20, 2), (8, .if_icmp .le 10, 3), (11, .aload_n 0, 1), (12, .ldc 63, 2), (14, .invokevirtual 64, 3), (17, .ireturn, 1), (18, .aload_n 0, 1), (19, .getfield 12, 3), (22, .getfield 125, 3), (25, .iload_n 1, 1), (26, .iadd, 1), (27, .ldc 128, 2), (29, .if_icmp .le 10, 3), (32, .aload_n 0, 1), (33, .ldc 129, 2), (35, .invokevirtual 64, 3), (38, .ireturn, 1), (39, .aload_n 0, 1), (40, .getfield 29, 3), (43, .aload_n 0, 1), (44, .getfield 12, 3), (47, .invokevirtual 130, 3), (50, .iconst 0, 1), (51, .istore_n 2, 1), (52, .iconst 0, 1), (53, .istore_n 3, 1), (54, .iload_n 3, 1), (55, .iload_n 1, 1), (56, .if_icmp .ge 34, 3), (59, .iload_n 2, 1), (60, .aload_n 0, 1), (61, .getfield 12, 3), (64, .invokevirtual 215, 3), (67, .iadd, 1), (68, .istore_n 2, 1), (69, .aload_n 0, 1)]
theorem tk_X5_thrushes_0 : dcA cX5_thrushes tb_X5_thrushes_0 = true := by decide +kernel
theorem dX5_thrushes_0 : decode cX5_thrushes 0 = .ok (.iload_n 1, 1) := dcO tk_X5_thrushes_0 0 rfl
theorem dX5_thrushes_1 : decode cX5_thrushes 1 = .ok (.iconst 1, 1) := dcO tk_X5_thrushes_0 1 rfl
theorem dX5_thrushes_2 : decode cX5_thrushes 2 = .ok (.if_icmp .lt 9, 3) := dcO tk_X5_thrushes_0 2 rfl
theorem dX5_thrushes_5 : decode cX5_thrushes 5 = .ok (.iload_n 1, 1) := dcO tk_X5_thrushes_0 3 rfl
theorem dX5_thrushes_6 : decode cX5_thrushes 6 = .ok (.bipush 20, 2) := dcO tk_X5_thrushes_0 4 rfl
theorem dX5_thrushes_8 : decode cX5_thrushes 8 = .ok (.if_icmp .le 10, 3) := dcO tk_X5_thrushes_0 5 rfl
theorem dX5_thrushes_11 : decode cX5_thrushes 11 = .ok (.aload_n 0, 1) := dcO tk_X5_thrushes_0 6 rfl
theorem dX5_thrushes_12 : decode cX5_thrushes 12 = .ok (.ldc 63, 2) := dcO tk_X5_thrushes_0 7 rfl
theorem dX5_thrushes_14 : decode cX5_thrushes 14 = .ok (.invokevirtual 64, 3) := dcO tk_X5_thrushes_0 8 rfl
theorem dX5_thrushes_17 : decode cX5_thrushes 17 = .ok (.ireturn, 1) := dcO tk_X5_thrushes_0 9 rfl
theorem dX5_thrushes_18 : decode cX5_thrushes 18 = .ok (.aload_n 0, 1) := dcO tk_X5_thrushes_0 10 rfl
theorem dX5_thrushes_19 : decode cX5_thrushes 19 = .ok (.getfield 12, 3) := dcO tk_X5_thrushes_0 11 rfl
theorem dX5_thrushes_22 : decode cX5_thrushes 22 = .ok (.getfield 125, 3) := dcO tk_X5_thrushes_0 12 rfl
theorem dX5_thrushes_25 : decode cX5_thrushes 25 = .ok (.iload_n 1, 1) := dcO tk_X5_thrushes_0 13 rfl
theorem dX5_thrushes_26 : decode cX5_thrushes 26 = .ok (.iadd, 1) := dcO tk_X5_thrushes_0 14 rfl
theorem dX5_thrushes_27 : decode cX5_thrushes 27 = .ok (.ldc 128, 2) := dcO tk_X5_thrushes_0 15 rfl
theorem dX5_thrushes_29 : decode cX5_thrushes 29 = .ok (.if_icmp .le 10, 3) := dcO tk_X5_thrushes_0 16 rfl
theorem dX5_thrushes_32 : decode cX5_thrushes 32 = .ok (.aload_n 0, 1) := dcO tk_X5_thrushes_0 17 rfl
theorem dX5_thrushes_33 : decode cX5_thrushes 33 = .ok (.ldc 129, 2) := dcO tk_X5_thrushes_0 18 rfl
theorem dX5_thrushes_35 : decode cX5_thrushes 35 = .ok (.invokevirtual 64, 3) := dcO tk_X5_thrushes_0 19 rfl
theorem dX5_thrushes_38 : decode cX5_thrushes 38 = .ok (.ireturn, 1) := dcO tk_X5_thrushes_0 20 rfl
theorem dX5_thrushes_39 : decode cX5_thrushes 39 = .ok (.aload_n 0, 1) := dcO tk_X5_thrushes_0 21 rfl
theorem dX5_thrushes_40 : decode cX5_thrushes 40 = .ok (.getfield 29, 3) := dcO tk_X5_thrushes_0 22 rfl
theorem dX5_thrushes_43 : decode cX5_thrushes 43 = .ok (.aload_n 0, 1) := dcO tk_X5_thrushes_0 23 rfl
theorem dX5_thrushes_44 : decode cX5_thrushes 44 = .ok (.getfield 12, 3) := dcO tk_X5_thrushes_0 24 rfl
theorem dX5_thrushes_47 : decode cX5_thrushes 47 = .ok (.invokevirtual 130, 3) := dcO tk_X5_thrushes_0 25 rfl
theorem dX5_thrushes_50 : decode cX5_thrushes 50 = .ok (.iconst 0, 1) := dcO tk_X5_thrushes_0 26 rfl
theorem dX5_thrushes_51 : decode cX5_thrushes 51 = .ok (.istore_n 2, 1) := dcO tk_X5_thrushes_0 27 rfl
theorem dX5_thrushes_52 : decode cX5_thrushes 52 = .ok (.iconst 0, 1) := dcO tk_X5_thrushes_0 28 rfl
theorem dX5_thrushes_53 : decode cX5_thrushes 53 = .ok (.istore_n 3, 1) := dcO tk_X5_thrushes_0 29 rfl
theorem dX5_thrushes_54 : decode cX5_thrushes 54 = .ok (.iload_n 3, 1) := dcO tk_X5_thrushes_0 30 rfl
theorem dX5_thrushes_55 : decode cX5_thrushes 55 = .ok (.iload_n 1, 1) := dcO tk_X5_thrushes_0 31 rfl
theorem dX5_thrushes_56 : decode cX5_thrushes 56 = .ok (.if_icmp .ge 34, 3) := dcO tk_X5_thrushes_0 32 rfl
theorem dX5_thrushes_59 : decode cX5_thrushes 59 = .ok (.iload_n 2, 1) := dcO tk_X5_thrushes_0 33 rfl
theorem dX5_thrushes_60 : decode cX5_thrushes 60 = .ok (.aload_n 0, 1) := dcO tk_X5_thrushes_0 34 rfl
theorem dX5_thrushes_61 : decode cX5_thrushes 61 = .ok (.getfield 12, 3) := dcO tk_X5_thrushes_0 35 rfl
theorem dX5_thrushes_64 : decode cX5_thrushes 64 = .ok (.invokevirtual 215, 3) := dcO tk_X5_thrushes_0 36 rfl
theorem dX5_thrushes_67 : decode cX5_thrushes 67 = .ok (.iadd, 1) := dcO tk_X5_thrushes_0 37 rfl
theorem dX5_thrushes_68 : decode cX5_thrushes 68 = .ok (.istore_n 2, 1) := dcO tk_X5_thrushes_0 38 rfl
theorem dX5_thrushes_69 : decode cX5_thrushes 69 = .ok (.aload_n 0, 1) := dcO tk_X5_thrushes_0 39 rfl
abbrev tb_X5_thrushes_1 : List (Nat × Instr × Nat) := [(70, .getfield 12, 3), (73, .aload_n 0, 1), (74, .getfield 29, 3), (77, .sipush 255, 3), (80, .iconst 1, 1), (81, .invokevirtual 133, 3), (84, .iinc 3 1, 3), (87, .goto (-33), 3), (90, .iload_n 2, 1), (91, .ireturn, 1)]
theorem tk_X5_thrushes_1 : dcA cX5_thrushes tb_X5_thrushes_1 = true := by decide +kernel
theorem dX5_thrushes_70 : decode cX5_thrushes 70 = .ok (.getfield 12, 3) := dcO tk_X5_thrushes_1 0 rfl
theorem dX5_thrushes_73 : decode cX5_thrushes 73 = .ok (.aload_n 0, 1) := dcO tk_X5_thrushes_1 1 rfl
theorem dX5_thrushes_74 : decode cX5_thrushes 74 = .ok (.getfield 29, 3) := dcO tk_X5_thrushes_1 2 rfl
theorem dX5_thrushes_77 : decode cX5_thrushes 77 = .ok (.sipush 255, 3) := dcO tk_X5_thrushes_1 3 rfl
theorem dX5_thrushes_80 : decode cX5_thrushes 80 = .ok (.iconst 1, 1) := dcO tk_X5_thrushes_1 4 rfl
theorem dX5_thrushes_81 : decode cX5_thrushes 81 = .ok (.invokevirtual 133, 3) := dcO tk_X5_thrushes_1 5 rfl
theorem dX5_thrushes_84 : decode cX5_thrushes 84 = .ok (.iinc 3 1, 3) := dcO tk_X5_thrushes_1 6 rfl
theorem dX5_thrushes_87 : decode cX5_thrushes 87 = .ok (.goto (-33), 3) := dcO tk_X5_thrushes_1 7 rfl
theorem dX5_thrushes_90 : decode cX5_thrushes 90 = .ok (.iload_n 2, 1) := dcO tk_X5_thrushes_1 8 rfl
theorem dX5_thrushes_91 : decode cX5_thrushes 91 = .ok (.ireturn, 1) := dcO tk_X5_thrushes_1 9 rfl
abbrev tb_X5_alone_0 : List (Nat × Instr × Nat) := [(0, .iload_n 1, 1), (1, .bipush 14, 2), (3, .invokestatic 59, 3), (6, .ifCond .eq 11, 3), (9, .iload_n 2, 1), (10, .iconst 1, 1), (11, .invokestatic 59, 3), (14, .ifCond .ne 11, 3), (17, .aload_n 0, 1), (18, .ldc 63, 2), (20, .invokevirtual 64, 3), (23, .i2l, 1), (24, .lreturn, 1), (25, .bipush 20, 2), (27, .aload_n 0, 1), (28, .getfield 12, 3), (31, .getfield 122, 3), (34, .isub, 1), (35, .istore_n 3, 1), (36, .iload_n 3, 1), (37, .invokestatic 218, 3), (40, .istore 4, 2), (42, .iload_n 2, 1), (43, .ifCond .ne 7, 3), (46, .iload_n 3, 1), (47, .goto 5, 3), (50, .bipush 20, 2), (52, .iload 4, 2), (54, .idiv, 1), (55, .istore 5, 2), (57, .lconst 1, 1), (58, .lstore 6, 2), (60, .iconst 0, 1), (61, .istore 8, 2), (63, .iload 8, 2), (65, .iload_n 1, 1), (66, .if_icmp .ge 17, 3), (69, .lload 6, 2), (71, .iload 5, 2), (73, .i2l, 1)]
theorem tk_X5_alone_0 : dcA cX5_alone tb_X5_alone_0 = true := by decide +kernel
theorem dX5_alone_0 : decode cX5_alone 0 = .ok (.iload_n 1, 1) := dcO tk_X5_alone_0 0 rfl
theorem dX5_alone_1 : decode cX5_alone 1 = .ok (.bipush 14, 2) := dcO tk_X5_alone_0 1 rfl
theorem dX5_alone_3 : decode cX5_alone 3 = .ok (.invokestatic 59, 3) := dcO tk_X5_alone_0 2 rfl
theorem dX5_alone_6 : decode cX5_alone 6 = .ok (.ifCond .eq 11, 3) := dcO tk_X5_alone_0 3 rfl
theorem dX5_alone_9 : decode cX5_alone 9 = .ok (.iload_n 2, 1) := dcO tk_X5_alone_0 4 rfl
theorem dX5_alone_10 : decode cX5_alone 10 = .ok (.iconst 1, 1) := dcO tk_X5_alone_0 5 rfl
theorem dX5_alone_11 : decode cX5_alone 11 = .ok (.invokestatic 59, 3) := dcO tk_X5_alone_0 6 rfl
theorem dX5_alone_14 : decode cX5_alone 14 = .ok (.ifCond .ne 11, 3) := dcO tk_X5_alone_0 7 rfl
theorem dX5_alone_17 : decode cX5_alone 17 = .ok (.aload_n 0, 1) := dcO tk_X5_alone_0 8 rfl
theorem dX5_alone_18 : decode cX5_alone 18 = .ok (.ldc 63, 2) := dcO tk_X5_alone_0 9 rfl
theorem dX5_alone_20 : decode cX5_alone 20 = .ok (.invokevirtual 64, 3) := dcO tk_X5_alone_0 10 rfl
theorem dX5_alone_23 : decode cX5_alone 23 = .ok (.i2l, 1) := dcO tk_X5_alone_0 11 rfl
theorem dX5_alone_24 : decode cX5_alone 24 = .ok (.lreturn, 1) := dcO tk_X5_alone_0 12 rfl
theorem dX5_alone_25 : decode cX5_alone 25 = .ok (.bipush 20, 2) := dcO tk_X5_alone_0 13 rfl
theorem dX5_alone_27 : decode cX5_alone 27 = .ok (.aload_n 0, 1) := dcO tk_X5_alone_0 14 rfl
theorem dX5_alone_28 : decode cX5_alone 28 = .ok (.getfield 12, 3) := dcO tk_X5_alone_0 15 rfl
theorem dX5_alone_31 : decode cX5_alone 31 = .ok (.getfield 122, 3) := dcO tk_X5_alone_0 16 rfl
theorem dX5_alone_34 : decode cX5_alone 34 = .ok (.isub, 1) := dcO tk_X5_alone_0 17 rfl
theorem dX5_alone_35 : decode cX5_alone 35 = .ok (.istore_n 3, 1) := dcO tk_X5_alone_0 18 rfl
theorem dX5_alone_36 : decode cX5_alone 36 = .ok (.iload_n 3, 1) := dcO tk_X5_alone_0 19 rfl
theorem dX5_alone_37 : decode cX5_alone 37 = .ok (.invokestatic 218, 3) := dcO tk_X5_alone_0 20 rfl
theorem dX5_alone_40 : decode cX5_alone 40 = .ok (.istore 4, 2) := dcO tk_X5_alone_0 21 rfl
theorem dX5_alone_42 : decode cX5_alone 42 = .ok (.iload_n 2, 1) := dcO tk_X5_alone_0 22 rfl
theorem dX5_alone_43 : decode cX5_alone 43 = .ok (.ifCond .ne 7, 3) := dcO tk_X5_alone_0 23 rfl
theorem dX5_alone_46 : decode cX5_alone 46 = .ok (.iload_n 3, 1) := dcO tk_X5_alone_0 24 rfl
theorem dX5_alone_47 : decode cX5_alone 47 = .ok (.goto 5, 3) := dcO tk_X5_alone_0 25 rfl
theorem dX5_alone_50 : decode cX5_alone 50 = .ok (.bipush 20, 2) := dcO tk_X5_alone_0 26 rfl
theorem dX5_alone_52 : decode cX5_alone 52 = .ok (.iload 4, 2) := dcO tk_X5_alone_0 27 rfl
theorem dX5_alone_54 : decode cX5_alone 54 = .ok (.idiv, 1) := dcO tk_X5_alone_0 28 rfl
theorem dX5_alone_55 : decode cX5_alone 55 = .ok (.istore 5, 2) := dcO tk_X5_alone_0 29 rfl
theorem dX5_alone_57 : decode cX5_alone 57 = .ok (.lconst 1, 1) := dcO tk_X5_alone_0 30 rfl
theorem dX5_alone_58 : decode cX5_alone 58 = .ok (.lstore 6, 2) := dcO tk_X5_alone_0 31 rfl
theorem dX5_alone_60 : decode cX5_alone 60 = .ok (.iconst 0, 1) := dcO tk_X5_alone_0 32 rfl
theorem dX5_alone_61 : decode cX5_alone 61 = .ok (.istore 8, 2) := dcO tk_X5_alone_0 33 rfl
theorem dX5_alone_63 : decode cX5_alone 63 = .ok (.iload 8, 2) := dcO tk_X5_alone_0 34 rfl
theorem dX5_alone_65 : decode cX5_alone 65 = .ok (.iload_n 1, 1) := dcO tk_X5_alone_0 35 rfl
theorem dX5_alone_66 : decode cX5_alone 66 = .ok (.if_icmp .ge 17, 3) := dcO tk_X5_alone_0 36 rfl
theorem dX5_alone_69 : decode cX5_alone 69 = .ok (.lload 6, 2) := dcO tk_X5_alone_0 37 rfl
theorem dX5_alone_71 : decode cX5_alone 71 = .ok (.iload 5, 2) := dcO tk_X5_alone_0 38 rfl
theorem dX5_alone_73 : decode cX5_alone 73 = .ok (.i2l, 1) := dcO tk_X5_alone_0 39 rfl
abbrev tb_X5_alone_1 : List (Nat × Instr × Nat) := [(74, .lmul, 1), (75, .lstore 6, 2), (77, .iinc 8 1, 3), (80, .goto (-17), 3), (83, .lload 6, 2), (85, .lreturn, 1)]
theorem tk_X5_alone_1 : dcA cX5_alone tb_X5_alone_1 = true := by decide +kernel
theorem dX5_alone_74 : decode cX5_alone 74 = .ok (.lmul, 1) := dcO tk_X5_alone_1 0 rfl
theorem dX5_alone_75 : decode cX5_alone 75 = .ok (.lstore 6, 2) := dcO tk_X5_alone_1 1 rfl
theorem dX5_alone_77 : decode cX5_alone 77 = .ok (.iinc 8 1, 3) := dcO tk_X5_alone_1 2 rfl
theorem dX5_alone_80 : decode cX5_alone 80 = .ok (.goto (-17), 3) := dcO tk_X5_alone_1 3 rfl
theorem dX5_alone_83 : decode cX5_alone 83 = .ok (.lload 6, 2) := dcO tk_X5_alone_1 4 rfl
theorem dX5_alone_85 : decode cX5_alone 85 = .ok (.lreturn, 1) := dcO tk_X5_alone_1 5 rfl
abbrev tb_X5_seed_0 : List (Nat × Instr × Nat) := [(0, .aload_n 0, 1), (1, .getfield 12, 3), (4, .getfield 221, 3), (7, .istore_n 2, 1), (8, .aload_n 0, 1), (9, .getfield 12, 3), (12, .iload_n 1, 1), (13, .putfield 221, 3), (16, .iload_n 2, 1), (17, .ireturn, 1)]
theorem tk_X5_seed_0 : dcA cX5_seed tb_X5_seed_0 = true := by decide +kernel
theorem dX5_seed_0 : decode cX5_seed 0 = .ok (.aload_n 0, 1) := dcO tk_X5_seed_0 0 rfl
theorem dX5_seed_1 : decode cX5_seed 1 = .ok (.getfield 12, 3) := dcO tk_X5_seed_0 1 rfl
theorem dX5_seed_4 : decode cX5_seed 4 = .ok (.getfield 221, 3) := dcO tk_X5_seed_0 2 rfl
theorem dX5_seed_7 : decode cX5_seed 7 = .ok (.istore_n 2, 1) := dcO tk_X5_seed_0 3 rfl
theorem dX5_seed_8 : decode cX5_seed 8 = .ok (.aload_n 0, 1) := dcO tk_X5_seed_0 4 rfl
theorem dX5_seed_9 : decode cX5_seed 9 = .ok (.getfield 12, 3) := dcO tk_X5_seed_0 5 rfl
theorem dX5_seed_12 : decode cX5_seed 12 = .ok (.iload_n 1, 1) := dcO tk_X5_seed_0 6 rfl
theorem dX5_seed_13 : decode cX5_seed 13 = .ok (.putfield 221, 3) := dcO tk_X5_seed_0 7 rfl
theorem dX5_seed_16 : decode cX5_seed 16 = .ok (.iload_n 2, 1) := dcO tk_X5_seed_0 8 rfl
theorem dX5_seed_17 : decode cX5_seed 17 = .ok (.ireturn, 1) := dcO tk_X5_seed_0 9 rfl
abbrev tb_X5_feed_0 : List (Nat × Instr × Nat) := [(0, .iload_n 2, 1), (1, .iconst 1, 1), (2, .if_icmp .lt 8, 3), (5, .iload_n 2, 1), (6, .iconst 4, 1), (7, .if_icmp .le 10, 3), (10, .aload_n 0, 1), (11, .ldc 63, 2), (13, .invokevirtual 64, 3), (16, .ireturn, 1), (17, .aload_n 0, 1), (18, .getfield 36, 3), (21, .iload_n 1, 1), (22, .iload_n 2, 1), (23, .invokevirtual 224, 3), (26, .ifCond .eq 13, 3), (29, .aload_n 0, 1), (30, .getfield 36, 3), (33, .getfield 227, 3), (36, .goto 9, 3), (39, .aload_n 0, 1), (40, .ldc 92, 2), (42, .invokevirtual 64, 3), (45, .ireturn, 1)]
theorem tk_X5_feed_0 : dcA cX5_feed tb_X5_feed_0 = true := by decide +kernel
theorem dX5_feed_0 : decode cX5_feed 0 = .ok (.iload_n 2, 1) := dcO tk_X5_feed_0 0 rfl
theorem dX5_feed_1 : decode cX5_feed 1 = .ok (.iconst 1, 1) := dcO tk_X5_feed_0 1 rfl
theorem dX5_feed_2 : decode cX5_feed 2 = .ok (.if_icmp .lt 8, 3) := dcO tk_X5_feed_0 2 rfl
theorem dX5_feed_5 : decode cX5_feed 5 = .ok (.iload_n 2, 1) := dcO tk_X5_feed_0 3 rfl
theorem dX5_feed_6 : decode cX5_feed 6 = .ok (.iconst 4, 1) := dcO tk_X5_feed_0 4 rfl
theorem dX5_feed_7 : decode cX5_feed 7 = .ok (.if_icmp .le 10, 3) := dcO tk_X5_feed_0 5 rfl
theorem dX5_feed_10 : decode cX5_feed 10 = .ok (.aload_n 0, 1) := dcO tk_X5_feed_0 6 rfl
theorem dX5_feed_11 : decode cX5_feed 11 = .ok (.ldc 63, 2) := dcO tk_X5_feed_0 7 rfl
theorem dX5_feed_13 : decode cX5_feed 13 = .ok (.invokevirtual 64, 3) := dcO tk_X5_feed_0 8 rfl
theorem dX5_feed_16 : decode cX5_feed 16 = .ok (.ireturn, 1) := dcO tk_X5_feed_0 9 rfl
theorem dX5_feed_17 : decode cX5_feed 17 = .ok (.aload_n 0, 1) := dcO tk_X5_feed_0 10 rfl
theorem dX5_feed_18 : decode cX5_feed 18 = .ok (.getfield 36, 3) := dcO tk_X5_feed_0 11 rfl
theorem dX5_feed_21 : decode cX5_feed 21 = .ok (.iload_n 1, 1) := dcO tk_X5_feed_0 12 rfl
theorem dX5_feed_22 : decode cX5_feed 22 = .ok (.iload_n 2, 1) := dcO tk_X5_feed_0 13 rfl
theorem dX5_feed_23 : decode cX5_feed 23 = .ok (.invokevirtual 224, 3) := dcO tk_X5_feed_0 14 rfl
theorem dX5_feed_26 : decode cX5_feed 26 = .ok (.ifCond .eq 13, 3) := dcO tk_X5_feed_0 15 rfl
theorem dX5_feed_29 : decode cX5_feed 29 = .ok (.aload_n 0, 1) := dcO tk_X5_feed_0 16 rfl
theorem dX5_feed_30 : decode cX5_feed 30 = .ok (.getfield 36, 3) := dcO tk_X5_feed_0 17 rfl
theorem dX5_feed_33 : decode cX5_feed 33 = .ok (.getfield 227, 3) := dcO tk_X5_feed_0 18 rfl
theorem dX5_feed_36 : decode cX5_feed 36 = .ok (.goto 9, 3) := dcO tk_X5_feed_0 19 rfl
theorem dX5_feed_39 : decode cX5_feed 39 = .ok (.aload_n 0, 1) := dcO tk_X5_feed_0 20 rfl
theorem dX5_feed_40 : decode cX5_feed 40 = .ok (.ldc 92, 2) := dcO tk_X5_feed_0 21 rfl
theorem dX5_feed_42 : decode cX5_feed 42 = .ok (.invokevirtual 64, 3) := dcO tk_X5_feed_0 22 rfl
theorem dX5_feed_45 : decode cX5_feed 45 = .ok (.ireturn, 1) := dcO tk_X5_feed_0 23 rfl
abbrev tb_X5_wipe_0 : List (Nat × Instr × Nat) := [(0, .aload_n 0, 1), (1, .getfield 36, 3), (4, .getfield 227, 3), (7, .istore_n 1, 1), (8, .aload_n 0, 1), (9, .getfield 36, 3), (12, .iconst 0, 1), (13, .putfield 227, 3), (16, .iload_n 1, 1), (17, .ireturn, 1)]
theorem tk_X5_wipe_0 : dcA cX5_wipe tb_X5_wipe_0 = true := by decide +kernel
theorem dX5_wipe_0 : decode cX5_wipe 0 = .ok (.aload_n 0, 1) := dcO tk_X5_wipe_0 0 rfl
theorem dX5_wipe_1 : decode cX5_wipe 1 = .ok (.getfield 36, 3) := dcO tk_X5_wipe_0 1 rfl
theorem dX5_wipe_4 : decode cX5_wipe 4 = .ok (.getfield 227, 3) := dcO tk_X5_wipe_0 2 rfl
theorem dX5_wipe_7 : decode cX5_wipe 7 = .ok (.istore_n 1, 1) := dcO tk_X5_wipe_0 3 rfl
theorem dX5_wipe_8 : decode cX5_wipe 8 = .ok (.aload_n 0, 1) := dcO tk_X5_wipe_0 4 rfl
theorem dX5_wipe_9 : decode cX5_wipe 9 = .ok (.getfield 36, 3) := dcO tk_X5_wipe_0 5 rfl
theorem dX5_wipe_12 : decode cX5_wipe 12 = .ok (.iconst 0, 1) := dcO tk_X5_wipe_0 6 rfl
theorem dX5_wipe_13 : decode cX5_wipe 13 = .ok (.putfield 227, 3) := dcO tk_X5_wipe_0 7 rfl
theorem dX5_wipe_16 : decode cX5_wipe 16 = .ok (.iload_n 1, 1) := dcO tk_X5_wipe_0 8 rfl
theorem dX5_wipe_17 : decode cX5_wipe 17 = .ok (.ireturn, 1) := dcO tk_X5_wipe_0 9 rfl
abbrev tb_X5_text_0 : List (Nat × Instr × Nat) := [(0, .aload_n 0, 1), (1, .getfield 36, 3), (4, .aload_n 0, 1), (5, .getfield 22, 3), (8, .aload_n 0, 1), (9, .getfield 12, 3), (12, .invokevirtual 230, 3), (15, .invokevirtual 234, 3), (18, .istore_n 1, 1), (19, .iload_n 1, 1), (20, .ifCond .le 17, 3), (23, .aload_n 0, 1), (24, .getfield 12, 3), (27, .aload_n 0, 1), (28, .getfield 22, 3), (31, .getfield 238, 3), (34, .invokevirtual 241, 3), (37, .aload_n 0, 1), (38, .getfield 36, 3), (41, .iconst 0, 1), (42, .putfield 227, 3), (45, .iload_n 1, 1), (46, .ireturn, 1)]
theorem tk_X5_text_0 : dcA cX5_text tb_X5_text_0 = true := by decide +kernel
theorem dX5_text_0 : decode cX5_text 0 = .ok (.aload_n 0, 1) := dcO tk_X5_text_0 0 rfl
theorem dX5_text_1 : decode cX5_text 1 = .ok (.getfield 36, 3) := dcO tk_X5_text_0 1 rfl
theorem dX5_text_4 : decode cX5_text 4 = .ok (.aload_n 0, 1) := dcO tk_X5_text_0 2 rfl
theorem dX5_text_5 : decode cX5_text 5 = .ok (.getfield 22, 3) := dcO tk_X5_text_0 3 rfl
theorem dX5_text_8 : decode cX5_text 8 = .ok (.aload_n 0, 1) := dcO tk_X5_text_0 4 rfl
theorem dX5_text_9 : decode cX5_text 9 = .ok (.getfield 12, 3) := dcO tk_X5_text_0 5 rfl
theorem dX5_text_12 : decode cX5_text 12 = .ok (.invokevirtual 230, 3) := dcO tk_X5_text_0 6 rfl
theorem dX5_text_15 : decode cX5_text 15 = .ok (.invokevirtual 234, 3) := dcO tk_X5_text_0 7 rfl
theorem dX5_text_18 : decode cX5_text 18 = .ok (.istore_n 1, 1) := dcO tk_X5_text_0 8 rfl
theorem dX5_text_19 : decode cX5_text 19 = .ok (.iload_n 1, 1) := dcO tk_X5_text_0 9 rfl
theorem dX5_text_20 : decode cX5_text 20 = .ok (.ifCond .le 17, 3) := dcO tk_X5_text_0 10 rfl
theorem dX5_text_23 : decode cX5_text 23 = .ok (.aload_n 0, 1) := dcO tk_X5_text_0 11 rfl
theorem dX5_text_24 : decode cX5_text 24 = .ok (.getfield 12, 3) := dcO tk_X5_text_0 12 rfl
theorem dX5_text_27 : decode cX5_text 27 = .ok (.aload_n 0, 1) := dcO tk_X5_text_0 13 rfl
theorem dX5_text_28 : decode cX5_text 28 = .ok (.getfield 22, 3) := dcO tk_X5_text_0 14 rfl
theorem dX5_text_31 : decode cX5_text 31 = .ok (.getfield 238, 3) := dcO tk_X5_text_0 15 rfl
theorem dX5_text_34 : decode cX5_text 34 = .ok (.invokevirtual 241, 3) := dcO tk_X5_text_0 16 rfl
theorem dX5_text_37 : decode cX5_text 37 = .ok (.aload_n 0, 1) := dcO tk_X5_text_0 17 rfl
theorem dX5_text_38 : decode cX5_text 38 = .ok (.getfield 36, 3) := dcO tk_X5_text_0 18 rfl
theorem dX5_text_41 : decode cX5_text 41 = .ok (.iconst 0, 1) := dcO tk_X5_text_0 19 rfl
theorem dX5_text_42 : decode cX5_text 42 = .ok (.putfield 227, 3) := dcO tk_X5_text_0 20 rfl
theorem dX5_text_45 : decode cX5_text 45 = .ok (.iload_n 1, 1) := dcO tk_X5_text_0 21 rfl
theorem dX5_text_46 : decode cX5_text 46 = .ok (.ireturn, 1) := dcO tk_X5_text_0 22 rfl
abbrev tb_X5_hold_0 : List (Nat × Instr × Nat) := [(0, .iload_n 1, 1), (1, .bipush 9, 2), (3, .invokestatic 59, 3), (6, .ifCond .eq 16, 3), (9, .iload_n 2, 1), (10, .iconst (-1), 1), (11, .if_icmp .eq 18, 3), (14, .aload_n 0, 1), (15, .iload_n 2, 1), (16, .invokevirtual 93, 3), (19, .ifCond .ne 10, 3), (22, .aload_n 0, 1), (23, .ldc 63, 2), (25, .invokevirtual 64, 3), (28, .ireturn, 1), (29, .aload_n 0, 1), (30, .getfield 12, 3), (33, .getfield 244, 3), (36, .iload_n 1, 1), (37, .iload_n 2, 1), (38, .iastore, 1), (39, .iconst 1, 1), (40, .ireturn, 1)]
theorem tk_X5_hold_0 : dcA cX5_hold tb_X5_hold_0 = true := by decide +kernel
theorem dX5_hold_0 : decode cX5_hold 0 = .ok (.iload_n 1, 1) := dcO tk_X5_hold_0 0 rfl
theorem dX5_hold_1 : decode cX5_hold 1 = .ok (.bipush 9, 2) := dcO tk_X5_hold_0 1 rfl
theorem dX5_hold_3 : decode cX5_hold 3 = .ok (.invokestatic 59, 3) := dcO tk_X5_hold_0 2 rfl
theorem dX5_hold_6 : decode cX5_hold 6 = .ok (.ifCond .eq 16, 3) := dcO tk_X5_hold_0 3 rfl
theorem dX5_hold_9 : decode cX5_hold 9 = .ok (.iload_n 2, 1) := dcO tk_X5_hold_0 4 rfl
theorem dX5_hold_10 : decode cX5_hold 10 = .ok (.iconst (-1), 1) := dcO tk_X5_hold_0 5 rfl
theorem dX5_hold_11 : decode cX5_hold 11 = .ok (.if_icmp .eq 18, 3) := dcO tk_X5_hold_0 6 rfl
theorem dX5_hold_14 : decode cX5_hold 14 = .ok (.aload_n 0, 1) := dcO tk_X5_hold_0 7 rfl
theorem dX5_hold_15 : decode cX5_hold 15 = .ok (.iload_n 2, 1) := dcO tk_X5_hold_0 8 rfl
theorem dX5_hold_16 : decode cX5_hold 16 = .ok (.invokevirtual 93, 3) := dcO tk_X5_hold_0 9 rfl
theorem dX5_hold_19 : decode cX5_hold 19 = .ok (.ifCond .ne 10, 3) := dcO tk_X5_hold_0 10 rfl
theorem dX5_hold_22 : decode cX5_hold 22 = .ok (.aload_n 0, 1) := dcO tk_X5_hold_0 11 rfl
theorem dX5_hold_23 : decode cX5_hold 23 = .ok (.ldc 63, 2) := dcO tk_X5_hold_0 12 rfl
theorem dX5_hold_25 : decode cX5_hold 25 = .ok (.invokevirtual 64, 3) := dcO tk_X5_hold_0 13 rfl
theorem dX5_hold_28 : decode cX5_hold 28 = .ok (.ireturn, 1) := dcO tk_X5_hold_0 14 rfl
theorem dX5_hold_29 : decode cX5_hold 29 = .ok (.aload_n 0, 1) := dcO tk_X5_hold_0 15 rfl
theorem dX5_hold_30 : decode cX5_hold 30 = .ok (.getfield 12, 3) := dcO tk_X5_hold_0 16 rfl
theorem dX5_hold_33 : decode cX5_hold 33 = .ok (.getfield 244, 3) := dcO tk_X5_hold_0 17 rfl
theorem dX5_hold_36 : decode cX5_hold 36 = .ok (.iload_n 1, 1) := dcO tk_X5_hold_0 18 rfl
theorem dX5_hold_37 : decode cX5_hold 37 = .ok (.iload_n 2, 1) := dcO tk_X5_hold_0 19 rfl
theorem dX5_hold_38 : decode cX5_hold 38 = .ok (.iastore, 1) := dcO tk_X5_hold_0 20 rfl
theorem dX5_hold_39 : decode cX5_hold 39 = .ok (.iconst 1, 1) := dcO tk_X5_hold_0 21 rfl
theorem dX5_hold_40 : decode cX5_hold 40 = .ok (.ireturn, 1) := dcO tk_X5_hold_0 22 rfl
abbrev tb_X5_as_0 : List (Nat × Instr × Nat) := [(0, .iload_n 1, 1), (1, .bipush 9, 2), (3, .invokestatic 59, 3), (6, .ifCond .eq 12, 3), (9, .iload_n 2, 1), (10, .bipush 6, 2), (12, .invokestatic 59, 3), (15, .ifCond .ne 10, 3), (18, .aload_n 0, 1), (19, .ldc 63, 2), (21, .invokevirtual 64, 3), (24, .ireturn, 1), (25, .aload_n 0, 1), (26, .getfield 12, 3), (29, .getfield 244, 3), (32, .iload_n 1, 1), (33, .iaload, 1), (34, .istore_n 3, 1), (35, .aload_n 0, 1), (36, .iload_n 3, 1), (37, .invokevirtual 93, 3), (40, .ifCond .ne 10, 3), (43, .aload_n 0, 1), (44, .ldc 247, 2), (46, .invokevirtual 64, 3), (49, .ireturn, 1), (50, .aload_n 0, 1), (51, .getfield 12, 3), (54, .getfield 184, 3), (57, .iload_n 3, 1), (58, .iaload, 1), (59, .iload_n 2, 1), (60, .invokestatic 248, 3), (63, .ifCond .eq 7, 3), (66, .iload_n 3, 1), (67, .goto 9, 3), (70, .aload_n 0, 1), (71, .ldc 251, 2), (73, .invokevirtual 64, 3), (76, .ireturn, 1)]
theorem tk_X5_as_0 : dcA cX5_as tb_X5_as_0 = true := by decide +kernel
theorem dX5_as_0 : decode cX5_as 0 = .ok (.iload_n 1, 1) := dcO tk_X5_as_0 0 rfl
theorem dX5_as_1 : decode cX5_as 1 = .ok (.bipush 9, 2) := dcO tk_X5_as_0 1 rfl
theorem dX5_as_3 : decode cX5_as 3 = .ok (.invokestatic 59, 3) := dcO tk_X5_as_0 2 rfl
theorem dX5_as_6 : decode cX5_as 6 = .ok (.ifCond .eq 12, 3) := dcO tk_X5_as_0 3 rfl
theorem dX5_as_9 : decode cX5_as 9 = .ok (.iload_n 2, 1) := dcO tk_X5_as_0 4 rfl
theorem dX5_as_10 : decode cX5_as 10 = .ok (.bipush 6, 2) := dcO tk_X5_as_0 5 rfl
theorem dX5_as_12 : decode cX5_as 12 = .ok (.invokestatic 59, 3) := dcO tk_X5_as_0 6 rfl
theorem dX5_as_15 : decode cX5_as 15 = .ok (.ifCond .ne 10, 3) := dcO tk_X5_as_0 7 rfl
theorem dX5_as_18 : decode cX5_as 18 = .ok (.aload_n 0, 1) := dcO tk_X5_as_0 8 rfl
theorem dX5_as_19 : decode cX5_as 19 = .ok (.ldc 63, 2) := dcO tk_X5_as_0 9 rfl
theorem dX5_as_21 : decode cX5_as 21 = .ok (.invokevirtual 64, 3) := dcO tk_X5_as_0 10 rfl
theorem dX5_as_24 : decode cX5_as 24 = .ok (.ireturn, 1) := dcO tk_X5_as_0 11 rfl
theorem dX5_as_25 : decode cX5_as 25 = .ok (.aload_n 0, 1) := dcO tk_X5_as_0 12 rfl
theorem dX5_as_26 : decode cX5_as 26 = .ok (.getfield 12, 3) := dcO tk_X5_as_0 13 rfl
theorem dX5_as_29 : decode cX5_as 29 = .ok (.getfield 244, 3) := dcO tk_X5_as_0 14 rfl
theorem dX5_as_32 : decode cX5_as 32 = .ok (.iload_n 1, 1) := dcO tk_X5_as_0 15 rfl
theorem dX5_as_33 : decode cX5_as 33 = .ok (.iaload, 1) := dcO tk_X5_as_0 16 rfl
theorem dX5_as_34 : decode cX5_as 34 = .ok (.istore_n 3, 1) := dcO tk_X5_as_0 17 rfl
theorem dX5_as_35 : decode cX5_as 35 = .ok (.aload_n 0, 1) := dcO tk_X5_as_0 18 rfl
theorem dX5_as_36 : decode cX5_as 36 = .ok (.iload_n 3, 1) := dcO tk_X5_as_0 19 rfl
theorem dX5_as_37 : decode cX5_as 37 = .ok (.invokevirtual 93, 3) := dcO tk_X5_as_0 20 rfl
theorem dX5_as_40 : decode cX5_as 40 = .ok (.ifCond .ne 10, 3) := dcO tk_X5_as_0 21 rfl
theorem dX5_as_43 : decode cX5_as 43 = .ok (.aload_n 0, 1) := dcO tk_X5_as_0 22 rfl
theorem dX5_as_44 : decode cX5_as 44 = .ok (.ldc 247, 2) := dcO tk_X5_as_0 23 rfl
theorem dX5_as_46 : decode cX5_as 46 = .ok (.invokevirtual 64, 3) := dcO tk_X5_as_0 24 rfl
theorem dX5_as_49 : decode cX5_as 49 = .ok (.ireturn, 1) := dcO tk_X5_as_0 25 rfl
theorem dX5_as_50 : decode cX5_as 50 = .ok (.aload_n 0, 1) := dcO tk_X5_as_0 26 rfl
theorem dX5_as_51 : decode cX5_as 51 = .ok (.getfield 12, 3) := dcO tk_X5_as_0 27 rfl
theorem dX5_as_54 : decode cX5_as 54 = .ok (.getfield 184, 3) := dcO tk_X5_as_0 28 rfl
theorem dX5_as_57 : decode cX5_as 57 = .ok (.iload_n 3, 1) := dcO tk_X5_as_0 29 rfl
theorem dX5_as_58 : decode cX5_as 58 = .ok (.iaload, 1) := dcO tk_X5_as_0 30 rfl
theorem dX5_as_59 : decode cX5_as 59 = .ok (.iload_n 2, 1) := dcO tk_X5_as_0 31 rfl
theorem dX5_as_60 : decode cX5_as 60 = .ok (.invokestatic 248, 3) := dcO tk_X5_as_0 32 rfl
theorem dX5_as_63 : decode cX5_as 63 = .ok (.ifCond .eq 7, 3) := dcO tk_X5_as_0 33 rfl
theorem dX5_as_66 : decode cX5_as 66 = .ok (.iload_n 3, 1) := dcO tk_X5_as_0 34 rfl
theorem dX5_as_67 : decode cX5_as 67 = .ok (.goto 9, 3) := dcO tk_X5_as_0 35 rfl
theorem dX5_as_70 : decode cX5_as 70 = .ok (.aload_n 0, 1) := dcO tk_X5_as_0 36 rfl
theorem dX5_as_71 : decode cX5_as 71 = .ok (.ldc 251, 2) := dcO tk_X5_as_0 37 rfl
theorem dX5_as_73 : decode cX5_as 73 = .ok (.invokevirtual 64, 3) := dcO tk_X5_as_0 38 rfl
theorem dX5_as_76 : decode cX5_as 76 = .ok (.ireturn, 1) := dcO tk_X5_as_0 39 rfl
abbrev tb_X5_sheet_0 : List (Nat × Instr × Nat) := [(0, .iload_n 1, 1), (1, .invokestatic 252, 3), (4, .ifCond .eq 10, 3), (7, .iload_n 2, 1), (8, .invokestatic 255, 3), (11, .ifCond .ne 10, 3), (14, .aload_n 0, 1), (15, .ldc 63, 2), (17, .invokevirtual 64, 3), (20, .ireturn, 1), (21, .iload_n 3, 1), (22, .ifCond .ge 11, 3), (25, .aload_n 0, 1), (26, .ldc_w 258, 3), (29, .invokevirtual 64, 3), (32, .ireturn, 1), (33, .iload_n 3, 1), (34, .bipush 40, 2), (36, .if_icmp .le 10, 3), (39, .aload_n 0, 1), (40, .ldc 63, 2), (42, .invokevirtual 64, 3), (45, .ireturn, 1), (46, .aload_n 0, 1), (47, .getfield 43, 3), (50, .iload_n 1, 1), (51, .iload_n 2, 1), (52, .iload_n 3, 1), (53, .invokevirtual 259, 3), (56, .aload_n 0, 1), (57, .getfield 43, 3), (60, .getfield 263, 3), (63, .iload_n 1, 1), (64, .iaload, 1), (65, .ireturn, 1)]
theorem tk_X5_sheet_0 : dcA cX5_sheet tb_X5_sheet_0 = true := by decide +kernel
theorem dX5_sheet_0 : decode cX5_sheet 0 = .ok (.iload_n 1, 1) := dcO tk_X5_sheet_0 0 rfl
theorem dX5_sheet_1 : decode cX5_sheet 1 = .ok (.invokestatic 252, 3) := dcO tk_X5_sheet_0 1 rfl
theorem dX5_sheet_4 : decode cX5_sheet 4 = .ok (.ifCond .eq 10, 3) := dcO tk_X5_sheet_0 2 rfl
theorem dX5_sheet_7 : decode cX5_sheet 7 = .ok (.iload_n 2, 1) := dcO tk_X5_sheet_0 3 rfl
theorem dX5_sheet_8 : decode cX5_sheet 8 = .ok (.invokestatic 255, 3) := dcO tk_X5_sheet_0 4 rfl
theorem dX5_sheet_11 : decode cX5_sheet 11 = .ok (.ifCond .ne 10, 3) := dcO tk_X5_sheet_0 5 rfl
theorem dX5_sheet_14 : decode cX5_sheet 14 = .ok (.aload_n 0, 1) := dcO tk_X5_sheet_0 6 rfl
theorem dX5_sheet_15 : decode cX5_sheet 15 = .ok (.ldc 63, 2) := dcO tk_X5_sheet_0 7 rfl
theorem dX5_sheet_17 : decode cX5_sheet 17 = .ok (.invokevirtual 64, 3) := dcO tk_X5_sheet_0 8 rfl
theorem dX5_sheet_20 : decode cX5_sheet 20 = .ok (.ireturn, 1) := dcO tk_X5_sheet_0 9 rfl
theorem dX5_sheet_21 : decode cX5_sheet 21 = .ok (.iload_n 3, 1) := dcO tk_X5_sheet_0 10 rfl
theorem dX5_sheet_22 : decode cX5_sheet 22 = .ok (.ifCond .ge 11, 3) := dcO tk_X5_sheet_0 11 rfl
theorem dX5_sheet_25 : decode cX5_sheet 25 = .ok (.aload_n 0, 1) := dcO tk_X5_sheet_0 12 rfl
theorem dX5_sheet_26 : decode cX5_sheet 26 = .ok (.ldc_w 258, 3) := dcO tk_X5_sheet_0 13 rfl
theorem dX5_sheet_29 : decode cX5_sheet 29 = .ok (.invokevirtual 64, 3) := dcO tk_X5_sheet_0 14 rfl
theorem dX5_sheet_32 : decode cX5_sheet 32 = .ok (.ireturn, 1) := dcO tk_X5_sheet_0 15 rfl
theorem dX5_sheet_33 : decode cX5_sheet 33 = .ok (.iload_n 3, 1) := dcO tk_X5_sheet_0 16 rfl
theorem dX5_sheet_34 : decode cX5_sheet 34 = .ok (.bipush 40, 2) := dcO tk_X5_sheet_0 17 rfl
theorem dX5_sheet_36 : decode cX5_sheet 36 = .ok (.if_icmp .le 10, 3) := dcO tk_X5_sheet_0 18 rfl
theorem dX5_sheet_39 : decode cX5_sheet 39 = .ok (.aload_n 0, 1) := dcO tk_X5_sheet_0 19 rfl
theorem dX5_sheet_40 : decode cX5_sheet 40 = .ok (.ldc 63, 2) := dcO tk_X5_sheet_0 20 rfl
theorem dX5_sheet_42 : decode cX5_sheet 42 = .ok (.invokevirtual 64, 3) := dcO tk_X5_sheet_0 21 rfl
theorem dX5_sheet_45 : decode cX5_sheet 45 = .ok (.ireturn, 1) := dcO tk_X5_sheet_0 22 rfl
theorem dX5_sheet_46 : decode cX5_sheet 46 = .ok (.aload_n 0, 1) := dcO tk_X5_sheet_0 23 rfl
theorem dX5_sheet_47 : decode cX5_sheet 47 = .ok (.getfield 43, 3) := dcO tk_X5_sheet_0 24 rfl
theorem dX5_sheet_50 : decode cX5_sheet 50 = .ok (.iload_n 1, 1) := dcO tk_X5_sheet_0 25 rfl
theorem dX5_sheet_51 : decode cX5_sheet 51 = .ok (.iload_n 2, 1) := dcO tk_X5_sheet_0 26 rfl
theorem dX5_sheet_52 : decode cX5_sheet 52 = .ok (.iload_n 3, 1) := dcO tk_X5_sheet_0 27 rfl
theorem dX5_sheet_53 : decode cX5_sheet 53 = .ok (.invokevirtual 259, 3) := dcO tk_X5_sheet_0 28 rfl
theorem dX5_sheet_56 : decode cX5_sheet 56 = .ok (.aload_n 0, 1) := dcO tk_X5_sheet_0 29 rfl
theorem dX5_sheet_57 : decode cX5_sheet 57 = .ok (.getfield 43, 3) := dcO tk_X5_sheet_0 30 rfl
theorem dX5_sheet_60 : decode cX5_sheet 60 = .ok (.getfield 263, 3) := dcO tk_X5_sheet_0 31 rfl
theorem dX5_sheet_63 : decode cX5_sheet 63 = .ok (.iload_n 1, 1) := dcO tk_X5_sheet_0 32 rfl
theorem dX5_sheet_64 : decode cX5_sheet 64 = .ok (.iaload, 1) := dcO tk_X5_sheet_0 33 rfl
theorem dX5_sheet_65 : decode cX5_sheet 65 = .ok (.ireturn, 1) := dcO tk_X5_sheet_0 34 rfl
abbrev tb_X5_write_0 : List (Nat × Instr × Nat) := [(0, .aload_n 0, 1), (1, .iload_n 1, 1), (2, .invokevirtual 266, 3), (5, .istore 4, 2), (7, .iload 4, 2), (9, .ifCond .eq 10, 3), (12, .aload_n 0, 1), (13, .iload 4, 2), (15, .invokevirtual 64, 3), (18, .ireturn, 1), (19, .iload_n 2, 1), (20, .ifCond .lt 16, 3), (23, .iload_n 2, 1), (24, .aload_n 0, 1), (25, .getfield 43, 3), (28, .getfield 263, 3), (31, .iload_n 1, 1), (32, .iaload, 1), (33, .if_icmp .lt 10, 3), (36, .aload_n 0, 1), (37, .ldc 63, 2), (39, .invokevirtual 64, 3), (42, .ireturn, 1), (43, .aload_n 0, 1), (44, .getfield 43, 3), (47, .iload_n 1, 1), (48, .iload_n 2, 1), (49, .iload_n 3, 1), (50, .invokevirtual 269, 3), (53, .iconst 1, 1), (54, .ireturn, 1)]
theorem tk_X5_write_0 : dcA cX5_write tb_X5_write_0 = true := by decide +kernel
theorem dX5_write_0 : decode cX5_write 0 = .ok (.aload_n 0, 1) := dcO tk_X5_write_0 0 rfl
theorem dX5_write_1 : decode cX5_write 1 = .ok (.iload_n 1, 1) := dcO tk_X5_write_0 1 rfl
theorem dX5_write_2 : decode cX5_write 2 = .ok (.invokevirtual 266, 3) := dcO tk_X5_write_0 2 rfl
theorem dX5_write_5 : decode cX5_write 5 = .ok (.istore 4, 2) := dcO tk_X5_write_0 3 rfl
theorem dX5_write_7 : decode cX5_write 7 = .ok (.iload 4, 2) := dcO tk_X5_write_0 4 rfl
theorem dX5_write_9 : decode cX5_write 9 = .ok (.ifCond .eq 10, 3) := dcO tk_X5_write_0 5 rfl
theorem dX5_write_12 : decode cX5_write 12 = .ok (.aload_n 0, 1) := dcO tk_X5_write_0 6 rfl
theorem dX5_write_13 : decode cX5_write 13 = .ok (.iload 4, 2) := dcO tk_X5_write_0 7 rfl
theorem dX5_write_15 : decode cX5_write 15 = .ok (.invokevirtual 64, 3) := dcO tk_X5_write_0 8 rfl
theorem dX5_write_18 : decode cX5_write 18 = .ok (.ireturn, 1) := dcO tk_X5_write_0 9 rfl
theorem dX5_write_19 : decode cX5_write 19 = .ok (.iload_n 2, 1) := dcO tk_X5_write_0 10 rfl
theorem dX5_write_20 : decode cX5_write 20 = .ok (.ifCond .lt 16, 3) := dcO tk_X5_write_0 11 rfl
theorem dX5_write_23 : decode cX5_write 23 = .ok (.iload_n 2, 1) := dcO tk_X5_write_0 12 rfl
theorem dX5_write_24 : decode cX5_write 24 = .ok (.aload_n 0, 1) := dcO tk_X5_write_0 13 rfl
theorem dX5_write_25 : decode cX5_write 25 = .ok (.getfield 43, 3) := dcO tk_X5_write_0 14 rfl
theorem dX5_write_28 : decode cX5_write 28 = .ok (.getfield 263, 3) := dcO tk_X5_write_0 15 rfl
theorem dX5_write_31 : decode cX5_write 31 = .ok (.iload_n 1, 1) := dcO tk_X5_write_0 16 rfl
theorem dX5_write_32 : decode cX5_write 32 = .ok (.iaload, 1) := dcO tk_X5_write_0 17 rfl
theorem dX5_write_33 : decode cX5_write 33 = .ok (.if_icmp .lt 10, 3) := dcO tk_X5_write_0 18 rfl
theorem dX5_write_36 : decode cX5_write 36 = .ok (.aload_n 0, 1) := dcO tk_X5_write_0 19 rfl
theorem dX5_write_37 : decode cX5_write 37 = .ok (.ldc 63, 2) := dcO tk_X5_write_0 20 rfl
theorem dX5_write_39 : decode cX5_write 39 = .ok (.invokevirtual 64, 3) := dcO tk_X5_write_0 21 rfl
theorem dX5_write_42 : decode cX5_write 42 = .ok (.ireturn, 1) := dcO tk_X5_write_0 22 rfl
theorem dX5_write_43 : decode cX5_write 43 = .ok (.aload_n 0, 1) := dcO tk_X5_write_0 23 rfl
theorem dX5_write_44 : decode cX5_write 44 = .ok (.getfield 43, 3) := dcO tk_X5_write_0 24 rfl
theorem dX5_write_47 : decode cX5_write 47 = .ok (.iload_n 1, 1) := dcO tk_X5_write_0 25 rfl
theorem dX5_write_48 : decode cX5_write 48 = .ok (.iload_n 2, 1) := dcO tk_X5_write_0 26 rfl
theorem dX5_write_49 : decode cX5_write 49 = .ok (.iload_n 3, 1) := dcO tk_X5_write_0 27 rfl
theorem dX5_write_50 : decode cX5_write 50 = .ok (.invokevirtual 269, 3) := dcO tk_X5_write_0 28 rfl
theorem dX5_write_53 : decode cX5_write 53 = .ok (.iconst 1, 1) := dcO tk_X5_write_0 29 rfl
theorem dX5_write_54 : decode cX5_write 54 = .ok (.ireturn, 1) := dcO tk_X5_write_0 30 rfl
abbrev tb_X5_copy_0 : List (Nat × Instr × Nat) := [(0, .iload_n 1, 1), (1, .invokestatic 252, 3), (4, .ifCond .eq 10, 3), (7, .iload_n 3, 1), (8, .invokestatic 252, 3), (11, .ifCond .ne 10, 3), (14, .aload_n 0, 1), (15, .ldc 63, 2), (17, .invokevirtual 64, 3), (20, .ireturn, 1), (21, .aload_n 0, 1), (22, .getfield 43, 3), (25, .iload_n 1, 1), (26, .invokevirtual 272, 3), (29, .ifCond .ne 14, 3), (32, .aload_n 0, 1), (33, .getfield 43, 3), (36, .iload_n 3, 1), (37, .invokevirtual 272, 3), (40, .ifCond .eq 10, 3), (43, .aload_n 0, 1), (44, .ldc 247, 2), (46, .invokevirtual 64, 3), (49, .ireturn, 1), (50, .aload_n 0, 1), (51, .getfield 43, 3), (54, .getfield 275, 3), (57, .iload_n 1, 1), (58, .iaload, 1), (59, .aload_n 0, 1), (60, .getfield 43, 3), (63, .getfield 275, 3), (66, .iload_n 3, 1), (67, .iaload, 1), (68, .if_icmp .eq 10, 3), (71, .aload_n 0, 1), (72, .ldc 251, 2), (74, .invokevirtual 64, 3), (77, .ireturn, 1), (78, .aload_n 0, 1)]
theorem tk_X5_copy_0 : dcA cX5_copy tb_X5_copy_0 = true := by decide +kernel
theorem dX5_copy_0 : decode cX5_copy 0 = .ok (.iload_n 1, 1) := dcO tk_X5_copy_0 0 rfl
theorem dX5_copy_1 : decode cX5_copy 1 = .ok (.invokestatic 252, 3) := dcO tk_X5_copy_0 1 rfl
theorem dX5_copy_4 : decode cX5_copy 4 = .ok (.ifCond .eq 10, 3) := dcO tk_X5_copy_0 2 rfl
theorem dX5_copy_7 : decode cX5_copy 7 = .ok (.iload_n 3, 1) := dcO tk_X5_copy_0 3 rfl
theorem dX5_copy_8 : decode cX5_copy 8 = .ok (.invokestatic 252, 3) := dcO tk_X5_copy_0 4 rfl
theorem dX5_copy_11 : decode cX5_copy 11 = .ok (.ifCond .ne 10, 3) := dcO tk_X5_copy_0 5 rfl
theorem dX5_copy_14 : decode cX5_copy 14 = .ok (.aload_n 0, 1) := dcO tk_X5_copy_0 6 rfl
theorem dX5_copy_15 : decode cX5_copy 15 = .ok (.ldc 63, 2) := dcO tk_X5_copy_0 7 rfl
theorem dX5_copy_17 : decode cX5_copy 17 = .ok (.invokevirtual 64, 3) := dcO tk_X5_copy_0 8 rfl
theorem dX5_copy_20 : decode cX5_copy 20 = .ok (.ireturn, 1) := dcO tk_X5_copy_0 9 rfl
theorem dX5_copy_21 : decode cX5_copy 21 = .ok (.aload_n 0, 1) := dcO tk_X5_copy_0 10 rfl
theorem dX5_copy_22 : decode cX5_copy 22 = .ok (.getfield 43, 3) := dcO tk_X5_copy_0 11 rfl
theorem dX5_copy_25 : decode cX5_copy 25 = .ok (.iload_n 1, 1) := dcO tk_X5_copy_0 12 rfl
theorem dX5_copy_26 : decode cX5_copy 26 = .ok (.invokevirtual 272, 3) := dcO tk_X5_copy_0 13 rfl
theorem dX5_copy_29 : decode cX5_copy 29 = .ok (.ifCond .ne 14, 3) := dcO tk_X5_copy_0 14 rfl
theorem dX5_copy_32 : decode cX5_copy 32 = .ok (.aload_n 0, 1) := dcO tk_X5_copy_0 15 rfl
theorem dX5_copy_33 : decode cX5_copy 33 = .ok (.getfield 43, 3) := dcO tk_X5_copy_0 16 rfl
theorem dX5_copy_36 : decode cX5_copy 36 = .ok (.iload_n 3, 1) := dcO tk_X5_copy_0 17 rfl
theorem dX5_copy_37 : decode cX5_copy 37 = .ok (.invokevirtual 272, 3) := dcO tk_X5_copy_0 18 rfl
theorem dX5_copy_40 : decode cX5_copy 40 = .ok (.ifCond .eq 10, 3) := dcO tk_X5_copy_0 19 rfl
theorem dX5_copy_43 : decode cX5_copy 43 = .ok (.aload_n 0, 1) := dcO tk_X5_copy_0 20 rfl
theorem dX5_copy_44 : decode cX5_copy 44 = .ok (.ldc 247, 2) := dcO tk_X5_copy_0 21 rfl
theorem dX5_copy_46 : decode cX5_copy 46 = .ok (.invokevirtual 64, 3) := dcO tk_X5_copy_0 22 rfl
theorem dX5_copy_49 : decode cX5_copy 49 = .ok (.ireturn, 1) := dcO tk_X5_copy_0 23 rfl
theorem dX5_copy_50 : decode cX5_copy 50 = .ok (.aload_n 0, 1) := dcO tk_X5_copy_0 24 rfl
theorem dX5_copy_51 : decode cX5_copy 51 = .ok (.getfield 43, 3) := dcO tk_X5_copy_0 25 rfl
theorem dX5_copy_54 : decode cX5_copy 54 = .ok (.getfield 275, 3) := dcO tk_X5_copy_0 26 rfl
theorem dX5_copy_57 : decode cX5_copy 57 = .ok (.iload_n 1, 1) := dcO tk_X5_copy_0 27 rfl
theorem dX5_copy_58 : decode cX5_copy 58 = .ok (.iaload, 1) := dcO tk_X5_copy_0 28 rfl
theorem dX5_copy_59 : decode cX5_copy 59 = .ok (.aload_n 0, 1) := dcO tk_X5_copy_0 29 rfl
theorem dX5_copy_60 : decode cX5_copy 60 = .ok (.getfield 43, 3) := dcO tk_X5_copy_0 30 rfl
theorem dX5_copy_63 : decode cX5_copy 63 = .ok (.getfield 275, 3) := dcO tk_X5_copy_0 31 rfl
theorem dX5_copy_66 : decode cX5_copy 66 = .ok (.iload_n 3, 1) := dcO tk_X5_copy_0 32 rfl
theorem dX5_copy_67 : decode cX5_copy 67 = .ok (.iaload, 1) := dcO tk_X5_copy_0 33 rfl
theorem dX5_copy_68 : decode cX5_copy 68 = .ok (.if_icmp .eq 10, 3) := dcO tk_X5_copy_0 34 rfl
theorem dX5_copy_71 : decode cX5_copy 71 = .ok (.aload_n 0, 1) := dcO tk_X5_copy_0 35 rfl
theorem dX5_copy_72 : decode cX5_copy 72 = .ok (.ldc 251, 2) := dcO tk_X5_copy_0 36 rfl
theorem dX5_copy_74 : decode cX5_copy 74 = .ok (.invokevirtual 64, 3) := dcO tk_X5_copy_0 37 rfl
theorem dX5_copy_77 : decode cX5_copy 77 = .ok (.ireturn, 1) := dcO tk_X5_copy_0 38 rfl
theorem dX5_copy_78 : decode cX5_copy 78 = .ok (.aload_n 0, 1) := dcO tk_X5_copy_0 39 rfl
abbrev tb_X5_copy_1 : List (Nat × Instr × Nat) := [(79, .getfield 43, 3), (82, .iload_n 1, 1), (83, .iload_n 2, 1), (84, .iload 5, 2), (86, .invokevirtual 278, 3), (89, .ifCond .eq 18, 3), (92, .aload_n 0, 1), (93, .getfield 43, 3), (96, .iload_n 3, 1), (97, .iload 4, 2), (99, .iload 5, 2), (101, .invokevirtual 278, 3), (104, .ifCond .ne 10, 3), (107, .aload_n 0, 1), (108, .ldc 63, 2), (110, .invokevirtual 64, 3), (113, .ireturn, 1), (114, .aload_n 0, 1), (115, .getfield 43, 3), (118, .iload_n 1, 1), (119, .iload_n 2, 1), (120, .iload_n 3, 1), (121, .iload 4, 2), (123, .iload 5, 2), (125, .invokevirtual 282, 3), (128, .iload 5, 2), (130, .ireturn, 1)]
theorem tk_X5_copy_1 : dcA cX5_copy tb_X5_copy_1 = true := by decide +kernel
theorem dX5_copy_79 : decode cX5_copy 79 = .ok (.getfield 43, 3) := dcO tk_X5_copy_1 0 rfl
theorem dX5_copy_82 : decode cX5_copy 82 = .ok (.iload_n 1, 1) := dcO tk_X5_copy_1 1 rfl
theorem dX5_copy_83 : decode cX5_copy 83 = .ok (.iload_n 2, 1) := dcO tk_X5_copy_1 2 rfl
theorem dX5_copy_84 : decode cX5_copy 84 = .ok (.iload 5, 2) := dcO tk_X5_copy_1 3 rfl
theorem dX5_copy_86 : decode cX5_copy 86 = .ok (.invokevirtual 278, 3) := dcO tk_X5_copy_1 4 rfl
theorem dX5_copy_89 : decode cX5_copy 89 = .ok (.ifCond .eq 18, 3) := dcO tk_X5_copy_1 5 rfl
theorem dX5_copy_92 : decode cX5_copy 92 = .ok (.aload_n 0, 1) := dcO tk_X5_copy_1 6 rfl
theorem dX5_copy_93 : decode cX5_copy 93 = .ok (.getfield 43, 3) := dcO tk_X5_copy_1 7 rfl
theorem dX5_copy_96 : decode cX5_copy 96 = .ok (.iload_n 3, 1) := dcO tk_X5_copy_1 8 rfl
theorem dX5_copy_97 : decode cX5_copy 97 = .ok (.iload 4, 2) := dcO tk_X5_copy_1 9 rfl
theorem dX5_copy_99 : decode cX5_copy 99 = .ok (.iload 5, 2) := dcO tk_X5_copy_1 10 rfl
theorem dX5_copy_101 : decode cX5_copy 101 = .ok (.invokevirtual 278, 3) := dcO tk_X5_copy_1 11 rfl
theorem dX5_copy_104 : decode cX5_copy 104 = .ok (.ifCond .ne 10, 3) := dcO tk_X5_copy_1 12 rfl
theorem dX5_copy_107 : decode cX5_copy 107 = .ok (.aload_n 0, 1) := dcO tk_X5_copy_1 13 rfl
theorem dX5_copy_108 : decode cX5_copy 108 = .ok (.ldc 63, 2) := dcO tk_X5_copy_1 14 rfl
theorem dX5_copy_110 : decode cX5_copy 110 = .ok (.invokevirtual 64, 3) := dcO tk_X5_copy_1 15 rfl
theorem dX5_copy_113 : decode cX5_copy 113 = .ok (.ireturn, 1) := dcO tk_X5_copy_1 16 rfl
theorem dX5_copy_114 : decode cX5_copy 114 = .ok (.aload_n 0, 1) := dcO tk_X5_copy_1 17 rfl
theorem dX5_copy_115 : decode cX5_copy 115 = .ok (.getfield 43, 3) := dcO tk_X5_copy_1 18 rfl
theorem dX5_copy_118 : decode cX5_copy 118 = .ok (.iload_n 1, 1) := dcO tk_X5_copy_1 19 rfl
theorem dX5_copy_119 : decode cX5_copy 119 = .ok (.iload_n 2, 1) := dcO tk_X5_copy_1 20 rfl
theorem dX5_copy_120 : decode cX5_copy 120 = .ok (.iload_n 3, 1) := dcO tk_X5_copy_1 21 rfl
theorem dX5_copy_121 : decode cX5_copy 121 = .ok (.iload 4, 2) := dcO tk_X5_copy_1 22 rfl
theorem dX5_copy_123 : decode cX5_copy 123 = .ok (.iload 5, 2) := dcO tk_X5_copy_1 23 rfl
theorem dX5_copy_125 : decode cX5_copy 125 = .ok (.invokevirtual 282, 3) := dcO tk_X5_copy_1 24 rfl
theorem dX5_copy_128 : decode cX5_copy 128 = .ok (.iload 5, 2) := dcO tk_X5_copy_1 25 rfl
theorem dX5_copy_130 : decode cX5_copy 130 = .ok (.ireturn, 1) := dcO tk_X5_copy_1 26 rfl
abbrev tb_X5_load_0 : List (Nat × Instr × Nat) := [(0, .aload_n 0, 1), (1, .iload_n 1, 1), (2, .invokevirtual 266, 3), (5, .istore_n 2, 1), (6, .iload_n 2, 1), (7, .ifCond .eq 9, 3), (10, .aload_n 0, 1), (11, .iload_n 2, 1), (12, .invokevirtual 64, 3), (15, .ireturn, 1), (16, .iconst 0, 1), (17, .istore_n 3, 1), (18, .iload_n 3, 1), (19, .aload_n 0, 1), (20, .getfield 43, 3), (23, .getfield 263, 3), (26, .iload_n 1, 1), (27, .iaload, 1), (28, .if_icmp .ge 44, 3), (31, .aload_n 0, 1), (32, .getfield 43, 3), (35, .iload_n 1, 1), (36, .iload_n 3, 1), (37, .invokevirtual 286, 3), (40, .bipush 9, 2), (42, .invokestatic 59, 3), (45, .ifCond .eq 27, 3), (48, .aload_n 0, 1), (49, .getfield 12, 3), (52, .getfield 71, 3), (55, .iload_n 3, 1), (56, .aload_n 0, 1), (57, .getfield 43, 3), (60, .iload_n 1, 1), (61, .iload_n 3, 1), (62, .invokevirtual 286, 3), (65, .iastore, 1), (66, .iinc 3 1, 3), (69, .goto (-51), 3), (72, .iload_n 3, 1)]
theorem tk_X5_load_0 : dcA cX5_load tb_X5_load_0 = true := by decide +kernel
theorem dX5_load_0 : decode cX5_load 0 = .ok (.aload_n 0, 1) := dcO tk_X5_load_0 0 rfl
theorem dX5_load_1 : decode cX5_load 1 = .ok (.iload_n 1, 1) := dcO tk_X5_load_0 1 rfl
theorem dX5_load_2 : decode cX5_load 2 = .ok (.invokevirtual 266, 3) := dcO tk_X5_load_0 2 rfl
theorem dX5_load_5 : decode cX5_load 5 = .ok (.istore_n 2, 1) := dcO tk_X5_load_0 3 rfl
theorem dX5_load_6 : decode cX5_load 6 = .ok (.iload_n 2, 1) := dcO tk_X5_load_0 4 rfl
theorem dX5_load_7 : decode cX5_load 7 = .ok (.ifCond .eq 9, 3) := dcO tk_X5_load_0 5 rfl
theorem dX5_load_10 : decode cX5_load 10 = .ok (.aload_n 0, 1) := dcO tk_X5_load_0 6 rfl
theorem dX5_load_11 : decode cX5_load 11 = .ok (.iload_n 2, 1) := dcO tk_X5_load_0 7 rfl
theorem dX5_load_12 : decode cX5_load 12 = .ok (.invokevirtual 64, 3) := dcO tk_X5_load_0 8 rfl
theorem dX5_load_15 : decode cX5_load 15 = .ok (.ireturn, 1) := dcO tk_X5_load_0 9 rfl
theorem dX5_load_16 : decode cX5_load 16 = .ok (.iconst 0, 1) := dcO tk_X5_load_0 10 rfl
theorem dX5_load_17 : decode cX5_load 17 = .ok (.istore_n 3, 1) := dcO tk_X5_load_0 11 rfl
theorem dX5_load_18 : decode cX5_load 18 = .ok (.iload_n 3, 1) := dcO tk_X5_load_0 12 rfl
theorem dX5_load_19 : decode cX5_load 19 = .ok (.aload_n 0, 1) := dcO tk_X5_load_0 13 rfl
theorem dX5_load_20 : decode cX5_load 20 = .ok (.getfield 43, 3) := dcO tk_X5_load_0 14 rfl
theorem dX5_load_23 : decode cX5_load 23 = .ok (.getfield 263, 3) := dcO tk_X5_load_0 15 rfl
theorem dX5_load_26 : decode cX5_load 26 = .ok (.iload_n 1, 1) := dcO tk_X5_load_0 16 rfl
theorem dX5_load_27 : decode cX5_load 27 = .ok (.iaload, 1) := dcO tk_X5_load_0 17 rfl
theorem dX5_load_28 : decode cX5_load 28 = .ok (.if_icmp .ge 44, 3) := dcO tk_X5_load_0 18 rfl
theorem dX5_load_31 : decode cX5_load 31 = .ok (.aload_n 0, 1) := dcO tk_X5_load_0 19 rfl
theorem dX5_load_32 : decode cX5_load 32 = .ok (.getfield 43, 3) := dcO tk_X5_load_0 20 rfl
theorem dX5_load_35 : decode cX5_load 35 = .ok (.iload_n 1, 1) := dcO tk_X5_load_0 21 rfl
theorem dX5_load_36 : decode cX5_load 36 = .ok (.iload_n 3, 1) := dcO tk_X5_load_0 22 rfl
theorem dX5_load_37 : decode cX5_load 37 = .ok (.invokevirtual 286, 3) := dcO tk_X5_load_0 23 rfl
theorem dX5_load_40 : decode cX5_load 40 = .ok (.bipush 9, 2) := dcO tk_X5_load_0 24 rfl
theorem dX5_load_42 : decode cX5_load 42 = .ok (.invokestatic 59, 3) := dcO tk_X5_load_0 25 rfl
theorem dX5_load_45 : decode cX5_load 45 = .ok (.ifCond .eq 27, 3) := dcO tk_X5_load_0 26 rfl
theorem dX5_load_48 : decode cX5_load 48 = .ok (.aload_n 0, 1) := dcO tk_X5_load_0 27 rfl
theorem dX5_load_49 : decode cX5_load 49 = .ok (.getfield 12, 3) := dcO tk_X5_load_0 28 rfl
theorem dX5_load_52 : decode cX5_load 52 = .ok (.getfield 71, 3) := dcO tk_X5_load_0 29 rfl
theorem dX5_load_55 : decode cX5_load 55 = .ok (.iload_n 3, 1) := dcO tk_X5_load_0 30 rfl
theorem dX5_load_56 : decode cX5_load 56 = .ok (.aload_n 0, 1) := dcO tk_X5_load_0 31 rfl
theorem dX5_load_57 : decode cX5_load 57 = .ok (.getfield 43, 3) := dcO tk_X5_load_0 32 rfl
theorem dX5_load_60 : decode cX5_load 60 = .ok (.iload_n 1, 1) := dcO tk_X5_load_0 33 rfl
theorem dX5_load_61 : decode cX5_load 61 = .ok (.iload_n 3, 1) := dcO tk_X5_load_0 34 rfl
theorem dX5_load_62 : decode cX5_load 62 = .ok (.invokevirtual 286, 3) := dcO tk_X5_load_0 35 rfl
theorem dX5_load_65 : decode cX5_load 65 = .ok (.iastore, 1) := dcO tk_X5_load_0 36 rfl
theorem dX5_load_66 : decode cX5_load 66 = .ok (.iinc 3 1, 3) := dcO tk_X5_load_0 37 rfl
theorem dX5_load_69 : decode cX5_load 69 = .ok (.goto (-51), 3) := dcO tk_X5_load_0 38 rfl
theorem dX5_load_72 : decode cX5_load 72 = .ok (.iload_n 3, 1) := dcO tk_X5_load_0 39 rfl
abbrev tb_X5_load_1 : List (Nat × Instr × Nat) := [(73, .ireturn, 1)]
theorem tk_X5_load_1 : dcA cX5_load tb_X5_load_1 = true := by decide +kernel
theorem dX5_load_73 : decode cX5_load 73 = .ok (.ireturn, 1) := dcO tk_X5_load_1 0 rfl
abbrev tb_X5_judge_0 : List (Nat × Instr × Nat) := [(0, .aload_n 0, 1), (1, .iload_n 1, 1), (2, .invokevirtual 266, 3), (5, .istore_n 2, 1), (6, .iload_n 2, 1), (7, .ifCond .eq 9, 3), (10, .aload_n 0, 1), (11, .iload_n 2, 1), (12, .invokevirtual 64, 3), (15, .ireturn, 1), (16, .iconst 0, 1), (17, .istore_n 3, 1), (18, .iload_n 3, 1), (19, .aload_n 0, 1), (20, .getfield 43, 3), (23, .getfield 263, 3), (26, .iload_n 1, 1), (27, .iaload, 1), (28, .if_icmp .ge 34, 3), (31, .aload_n 0, 1), (32, .getfield 43, 3), (35, .iload_n 1, 1), (36, .iload_n 3, 1), (37, .invokevirtual 286, 3), (40, .aload_n 0, 1), (41, .getfield 12, 3), (44, .getfield 74, 3), (47, .iload_n 3, 1), (48, .iaload, 1), (49, .if_icmp .eq 7, 3), (52, .iconst 1, 1), (53, .iload_n 3, 1), (54, .iadd, 1), (55, .ireturn, 1), (56, .iinc 3 1, 3), (59, .goto (-41), 3), (62, .iconst 0, 1), (63, .ireturn, 1)]
theorem tk_X5_judge_0 : dcA cX5_judge tb_X5_judge_0 = true := by decide +kernel
theorem dX5_judge_0 : decode cX5_judge 0 = .ok (.aload_n 0, 1) := dcO tk_X5_judge_0 0 rfl
theorem dX5_judge_1 : decode cX5_judge 1 = .ok (.iload_n 1, 1) := dcO tk_X5_judge_0 1 rfl
theorem dX5_judge_2 : decode cX5_judge 2 = .ok (.invokevirtual 266, 3) := dcO tk_X5_judge_0 2 rfl
theorem dX5_judge_5 : decode cX5_judge 5 = .ok (.istore_n 2, 1) := dcO tk_X5_judge_0 3 rfl
theorem dX5_judge_6 : decode cX5_judge 6 = .ok (.iload_n 2, 1) := dcO tk_X5_judge_0 4 rfl
theorem dX5_judge_7 : decode cX5_judge 7 = .ok (.ifCond .eq 9, 3) := dcO tk_X5_judge_0 5 rfl
theorem dX5_judge_10 : decode cX5_judge 10 = .ok (.aload_n 0, 1) := dcO tk_X5_judge_0 6 rfl
theorem dX5_judge_11 : decode cX5_judge 11 = .ok (.iload_n 2, 1) := dcO tk_X5_judge_0 7 rfl
theorem dX5_judge_12 : decode cX5_judge 12 = .ok (.invokevirtual 64, 3) := dcO tk_X5_judge_0 8 rfl
theorem dX5_judge_15 : decode cX5_judge 15 = .ok (.ireturn, 1) := dcO tk_X5_judge_0 9 rfl
theorem dX5_judge_16 : decode cX5_judge 16 = .ok (.iconst 0, 1) := dcO tk_X5_judge_0 10 rfl
theorem dX5_judge_17 : decode cX5_judge 17 = .ok (.istore_n 3, 1) := dcO tk_X5_judge_0 11 rfl
theorem dX5_judge_18 : decode cX5_judge 18 = .ok (.iload_n 3, 1) := dcO tk_X5_judge_0 12 rfl
theorem dX5_judge_19 : decode cX5_judge 19 = .ok (.aload_n 0, 1) := dcO tk_X5_judge_0 13 rfl
theorem dX5_judge_20 : decode cX5_judge 20 = .ok (.getfield 43, 3) := dcO tk_X5_judge_0 14 rfl
theorem dX5_judge_23 : decode cX5_judge 23 = .ok (.getfield 263, 3) := dcO tk_X5_judge_0 15 rfl
theorem dX5_judge_26 : decode cX5_judge 26 = .ok (.iload_n 1, 1) := dcO tk_X5_judge_0 16 rfl
theorem dX5_judge_27 : decode cX5_judge 27 = .ok (.iaload, 1) := dcO tk_X5_judge_0 17 rfl
theorem dX5_judge_28 : decode cX5_judge 28 = .ok (.if_icmp .ge 34, 3) := dcO tk_X5_judge_0 18 rfl
theorem dX5_judge_31 : decode cX5_judge 31 = .ok (.aload_n 0, 1) := dcO tk_X5_judge_0 19 rfl
theorem dX5_judge_32 : decode cX5_judge 32 = .ok (.getfield 43, 3) := dcO tk_X5_judge_0 20 rfl
theorem dX5_judge_35 : decode cX5_judge 35 = .ok (.iload_n 1, 1) := dcO tk_X5_judge_0 21 rfl
theorem dX5_judge_36 : decode cX5_judge 36 = .ok (.iload_n 3, 1) := dcO tk_X5_judge_0 22 rfl
theorem dX5_judge_37 : decode cX5_judge 37 = .ok (.invokevirtual 286, 3) := dcO tk_X5_judge_0 23 rfl
theorem dX5_judge_40 : decode cX5_judge 40 = .ok (.aload_n 0, 1) := dcO tk_X5_judge_0 24 rfl
theorem dX5_judge_41 : decode cX5_judge 41 = .ok (.getfield 12, 3) := dcO tk_X5_judge_0 25 rfl
theorem dX5_judge_44 : decode cX5_judge 44 = .ok (.getfield 74, 3) := dcO tk_X5_judge_0 26 rfl
theorem dX5_judge_47 : decode cX5_judge 47 = .ok (.iload_n 3, 1) := dcO tk_X5_judge_0 27 rfl
theorem dX5_judge_48 : decode cX5_judge 48 = .ok (.iaload, 1) := dcO tk_X5_judge_0 28 rfl
theorem dX5_judge_49 : decode cX5_judge 49 = .ok (.if_icmp .eq 7, 3) := dcO tk_X5_judge_0 29 rfl
theorem dX5_judge_52 : decode cX5_judge 52 = .ok (.iconst 1, 1) := dcO tk_X5_judge_0 30 rfl
theorem dX5_judge_53 : decode cX5_judge 53 = .ok (.iload_n 3, 1) := dcO tk_X5_judge_0 31 rfl
theorem dX5_judge_54 : decode cX5_judge 54 = .ok (.iadd, 1) := dcO tk_X5_judge_0 32 rfl
theorem dX5_judge_55 : decode cX5_judge 55 = .ok (.ireturn, 1) := dcO tk_X5_judge_0 33 rfl
theorem dX5_judge_56 : decode cX5_judge 56 = .ok (.iinc 3 1, 3) := dcO tk_X5_judge_0 34 rfl
theorem dX5_judge_59 : decode cX5_judge 59 = .ok (.goto (-41), 3) := dcO tk_X5_judge_0 35 rfl
theorem dX5_judge_62 : decode cX5_judge 62 = .ok (.iconst 0, 1) := dcO tk_X5_judge_0 36 rfl
theorem dX5_judge_63 : decode cX5_judge 63 = .ok (.ireturn, 1) := dcO tk_X5_judge_0 37 rfl
abbrev tb_X5_image_0 : List (Nat × Instr × Nat) := [(0, .aload_n 0, 1), (1, .getfield 16, 3), (4, .aload_n 0, 1), (5, .getfield 12, 3), (8, .invokevirtual 241, 3), (11, .aload_n 0, 1), (12, .iconst 1, 1), (13, .putfield 51, 3), (16, .iconst 1, 1), (17, .ireturn, 1)]
theorem tk_X5_image_0 : dcA cX5_image tb_X5_image_0 = true := by decide +kernel
theorem dX5_image_0 : decode cX5_image 0 = .ok (.aload_n 0, 1) := dcO tk_X5_image_0 0 rfl
theorem dX5_image_1 : decode cX5_image 1 = .ok (.getfield 16, 3) := dcO tk_X5_image_0 1 rfl
theorem dX5_image_4 : decode cX5_image 4 = .ok (.aload_n 0, 1) := dcO tk_X5_image_0 2 rfl
theorem dX5_image_5 : decode cX5_image 5 = .ok (.getfield 12, 3) := dcO tk_X5_image_0 3 rfl
theorem dX5_image_8 : decode cX5_image 8 = .ok (.invokevirtual 241, 3) := dcO tk_X5_image_0 4 rfl
theorem dX5_image_11 : decode cX5_image 11 = .ok (.aload_n 0, 1) := dcO tk_X5_image_0 5 rfl
theorem dX5_image_12 : decode cX5_image 12 = .ok (.iconst 1, 1) := dcO tk_X5_image_0 6 rfl
theorem dX5_image_13 : decode cX5_image 13 = .ok (.putfield 51, 3) := dcO tk_X5_image_0 7 rfl
theorem dX5_image_16 : decode cX5_image 16 = .ok (.iconst 1, 1) := dcO tk_X5_image_0 8 rfl
theorem dX5_image_17 : decode cX5_image 17 = .ok (.ireturn, 1) := dcO tk_X5_image_0 9 rfl
abbrev tb_X5_undo_0 : List (Nat × Instr × Nat) := [(0, .aload_n 0, 1), (1, .getfield 51, 3), (4, .ifCond .ne 10, 3), (7, .aload_n 0, 1), (8, .ldc 172, 2), (10, .invokevirtual 64, 3), (13, .ireturn, 1), (14, .aload_n 0, 1), (15, .getfield 12, 3), (18, .aload_n 0, 1), (19, .getfield 16, 3), (22, .invokevirtual 241, 3), (25, .aload_n 0, 1), (26, .getfield 12, 3), (29, .getfield 125, 3), (32, .ireturn, 1)]
theorem tk_X5_undo_0 : dcA cX5_undo tb_X5_undo_0 = true := by decide +kernel
theorem dX5_undo_0 : decode cX5_undo 0 = .ok (.aload_n 0, 1) := dcO tk_X5_undo_0 0 rfl
theorem dX5_undo_1 : decode cX5_undo 1 = .ok (.getfield 51, 3) := dcO tk_X5_undo_0 1 rfl
theorem dX5_undo_4 : decode cX5_undo 4 = .ok (.ifCond .ne 10, 3) := dcO tk_X5_undo_0 2 rfl
theorem dX5_undo_7 : decode cX5_undo 7 = .ok (.aload_n 0, 1) := dcO tk_X5_undo_0 3 rfl
theorem dX5_undo_8 : decode cX5_undo 8 = .ok (.ldc 172, 2) := dcO tk_X5_undo_0 4 rfl
theorem dX5_undo_10 : decode cX5_undo 10 = .ok (.invokevirtual 64, 3) := dcO tk_X5_undo_0 5 rfl
theorem dX5_undo_13 : decode cX5_undo 13 = .ok (.ireturn, 1) := dcO tk_X5_undo_0 6 rfl
theorem dX5_undo_14 : decode cX5_undo 14 = .ok (.aload_n 0, 1) := dcO tk_X5_undo_0 7 rfl
theorem dX5_undo_15 : decode cX5_undo 15 = .ok (.getfield 12, 3) := dcO tk_X5_undo_0 8 rfl
theorem dX5_undo_18 : decode cX5_undo 18 = .ok (.aload_n 0, 1) := dcO tk_X5_undo_0 9 rfl
theorem dX5_undo_19 : decode cX5_undo 19 = .ok (.getfield 16, 3) := dcO tk_X5_undo_0 10 rfl
theorem dX5_undo_22 : decode cX5_undo 22 = .ok (.invokevirtual 241, 3) := dcO tk_X5_undo_0 11 rfl
theorem dX5_undo_25 : decode cX5_undo 25 = .ok (.aload_n 0, 1) := dcO tk_X5_undo_0 12 rfl
theorem dX5_undo_26 : decode cX5_undo 26 = .ok (.getfield 12, 3) := dcO tk_X5_undo_0 13 rfl
theorem dX5_undo_29 : decode cX5_undo 29 = .ok (.getfield 125, 3) := dcO tk_X5_undo_0 14 rfl
theorem dX5_undo_32 : decode cX5_undo 32 = .ok (.ireturn, 1) := dcO tk_X5_undo_0 15 rfl
abbrev tb_X5_tear_0 : List (Nat × Instr × Nat) := [(0, .aload_n 0, 1), (1, .getfield 51, 3), (4, .ifCond .eq 7, 3), (7, .iconst 1, 1), (8, .goto 4, 3), (11, .iconst 0, 1), (12, .istore_n 1, 1), (13, .aload_n 0, 1), (14, .iconst 0, 1), (15, .putfield 51, 3), (18, .iload_n 1, 1), (19, .ireturn, 1)]
theorem tk_X5_tear_0 : dcA cX5_tear tb_X5_tear_0 = true := by decide +kernel
theorem dX5_tear_0 : decode cX5_tear 0 = .ok (.aload_n 0, 1) := dcO tk_X5_tear_0 0 rfl
theorem dX5_tear_1 : decode cX5_tear 1 = .ok (.getfield 51, 3) := dcO tk_X5_tear_0 1 rfl
theorem dX5_tear_4 : decode cX5_tear 4 = .ok (.ifCond .eq 7, 3) := dcO tk_X5_tear_0 2 rfl
theorem dX5_tear_7 : decode cX5_tear 7 = .ok (.iconst 1, 1) := dcO tk_X5_tear_0 3 rfl
theorem dX5_tear_8 : decode cX5_tear 8 = .ok (.goto 4, 3) := dcO tk_X5_tear_0 4 rfl
theorem dX5_tear_11 : decode cX5_tear 11 = .ok (.iconst 0, 1) := dcO tk_X5_tear_0 5 rfl
theorem dX5_tear_12 : decode cX5_tear 12 = .ok (.istore_n 1, 1) := dcO tk_X5_tear_0 6 rfl
theorem dX5_tear_13 : decode cX5_tear 13 = .ok (.aload_n 0, 1) := dcO tk_X5_tear_0 7 rfl
theorem dX5_tear_14 : decode cX5_tear 14 = .ok (.iconst 0, 1) := dcO tk_X5_tear_0 8 rfl
theorem dX5_tear_15 : decode cX5_tear 15 = .ok (.putfield 51, 3) := dcO tk_X5_tear_0 9 rfl
theorem dX5_tear_18 : decode cX5_tear 18 = .ok (.iload_n 1, 1) := dcO tk_X5_tear_0 10 rfl
theorem dX5_tear_19 : decode cX5_tear 19 = .ok (.ireturn, 1) := dcO tk_X5_tear_0 11 rfl
abbrev tb_X5_count_0 : List (Nat × Instr × Nat) := [(0, .iload_n 1, 1), (1, .tableswitch 111 0 7 #[47, 55, 63, 71, 79, 87, 95, 103], 47), (48, .aload_n 0, 1), (49, .getfield 12, 3), (52, .getfield 125, 3), (55, .ireturn, 1), (56, .aload_n 0, 1), (57, .getfield 12, 3), (60, .getfield 289, 3), (63, .ireturn, 1), (64, .aload_n 0, 1), (65, .getfield 12, 3), (68, .invokevirtual 292, 3), (71, .ireturn, 1), (72, .aload_n 0, 1), (73, .getfield 12, 3), (76, .getfield 137, 3), (79, .ireturn, 1), (80, .aload_n 0, 1), (81, .getfield 12, 3), (84, .invokevirtual 140, 3), (87, .ireturn, 1), (88, .aload_n 0, 1), (89, .getfield 36, 3), (92, .getfield 227, 3), (95, .ireturn, 1), (96, .aload_n 0, 1), (97, .getfield 12, 3), (100, .getfield 221, 3), (103, .ireturn, 1), (104, .aload_n 0, 1), (105, .getfield 12, 3), (108, .invokevirtual 295, 3), (111, .ireturn, 1), (112, .aload_n 0, 1), (113, .ldc 63, 2), (115, .invokevirtual 64, 3), (118, .ireturn, 1)]
theorem tk_X5_count_0 : dcA cX5_count tb_X5_count_0 = true := by decide +kernel
theorem dX5_count_0 : decode cX5_count 0 = .ok (.iload_n 1, 1) := dcO tk_X5_count_0 0 rfl
theorem dX5_count_1 : decode cX5_count 1 = .ok (.tableswitch 111 0 7 #[47, 55, 63, 71, 79, 87, 95, 103], 47) := dcO tk_X5_count_0 1 rfl
theorem dX5_count_48 : decode cX5_count 48 = .ok (.aload_n 0, 1) := dcO tk_X5_count_0 2 rfl
theorem dX5_count_49 : decode cX5_count 49 = .ok (.getfield 12, 3) := dcO tk_X5_count_0 3 rfl
theorem dX5_count_52 : decode cX5_count 52 = .ok (.getfield 125, 3) := dcO tk_X5_count_0 4 rfl
theorem dX5_count_55 : decode cX5_count 55 = .ok (.ireturn, 1) := dcO tk_X5_count_0 5 rfl
theorem dX5_count_56 : decode cX5_count 56 = .ok (.aload_n 0, 1) := dcO tk_X5_count_0 6 rfl
theorem dX5_count_57 : decode cX5_count 57 = .ok (.getfield 12, 3) := dcO tk_X5_count_0 7 rfl
theorem dX5_count_60 : decode cX5_count 60 = .ok (.getfield 289, 3) := dcO tk_X5_count_0 8 rfl
theorem dX5_count_63 : decode cX5_count 63 = .ok (.ireturn, 1) := dcO tk_X5_count_0 9 rfl
theorem dX5_count_64 : decode cX5_count 64 = .ok (.aload_n 0, 1) := dcO tk_X5_count_0 10 rfl
theorem dX5_count_65 : decode cX5_count 65 = .ok (.getfield 12, 3) := dcO tk_X5_count_0 11 rfl
theorem dX5_count_68 : decode cX5_count 68 = .ok (.invokevirtual 292, 3) := dcO tk_X5_count_0 12 rfl
theorem dX5_count_71 : decode cX5_count 71 = .ok (.ireturn, 1) := dcO tk_X5_count_0 13 rfl
theorem dX5_count_72 : decode cX5_count 72 = .ok (.aload_n 0, 1) := dcO tk_X5_count_0 14 rfl
theorem dX5_count_73 : decode cX5_count 73 = .ok (.getfield 12, 3) := dcO tk_X5_count_0 15 rfl
theorem dX5_count_76 : decode cX5_count 76 = .ok (.getfield 137, 3) := dcO tk_X5_count_0 16 rfl
theorem dX5_count_79 : decode cX5_count 79 = .ok (.ireturn, 1) := dcO tk_X5_count_0 17 rfl
theorem dX5_count_80 : decode cX5_count 80 = .ok (.aload_n 0, 1) := dcO tk_X5_count_0 18 rfl
theorem dX5_count_81 : decode cX5_count 81 = .ok (.getfield 12, 3) := dcO tk_X5_count_0 19 rfl
theorem dX5_count_84 : decode cX5_count 84 = .ok (.invokevirtual 140, 3) := dcO tk_X5_count_0 20 rfl
theorem dX5_count_87 : decode cX5_count 87 = .ok (.ireturn, 1) := dcO tk_X5_count_0 21 rfl
theorem dX5_count_88 : decode cX5_count 88 = .ok (.aload_n 0, 1) := dcO tk_X5_count_0 22 rfl
theorem dX5_count_89 : decode cX5_count 89 = .ok (.getfield 36, 3) := dcO tk_X5_count_0 23 rfl
theorem dX5_count_92 : decode cX5_count 92 = .ok (.getfield 227, 3) := dcO tk_X5_count_0 24 rfl
theorem dX5_count_95 : decode cX5_count 95 = .ok (.ireturn, 1) := dcO tk_X5_count_0 25 rfl
theorem dX5_count_96 : decode cX5_count 96 = .ok (.aload_n 0, 1) := dcO tk_X5_count_0 26 rfl
theorem dX5_count_97 : decode cX5_count 97 = .ok (.getfield 12, 3) := dcO tk_X5_count_0 27 rfl
theorem dX5_count_100 : decode cX5_count 100 = .ok (.getfield 221, 3) := dcO tk_X5_count_0 28 rfl
theorem dX5_count_103 : decode cX5_count 103 = .ok (.ireturn, 1) := dcO tk_X5_count_0 29 rfl
theorem dX5_count_104 : decode cX5_count 104 = .ok (.aload_n 0, 1) := dcO tk_X5_count_0 30 rfl
theorem dX5_count_105 : decode cX5_count 105 = .ok (.getfield 12, 3) := dcO tk_X5_count_0 31 rfl
theorem dX5_count_108 : decode cX5_count 108 = .ok (.invokevirtual 295, 3) := dcO tk_X5_count_0 32 rfl
theorem dX5_count_111 : decode cX5_count 111 = .ok (.ireturn, 1) := dcO tk_X5_count_0 33 rfl
theorem dX5_count_112 : decode cX5_count 112 = .ok (.aload_n 0, 1) := dcO tk_X5_count_0 34 rfl
theorem dX5_count_113 : decode cX5_count 113 = .ok (.ldc 63, 2) := dcO tk_X5_count_0 35 rfl
theorem dX5_count_115 : decode cX5_count 115 = .ok (.invokevirtual 64, 3) := dcO tk_X5_count_0 36 rfl
theorem dX5_count_118 : decode cX5_count 118 = .ok (.ireturn, 1) := dcO tk_X5_count_0 37 rfl
abbrev tb_X5_status_0 : List (Nat × Instr × Nat) := [(0, .iload_n 1, 1), (1, .iconst (-1), 1), (2, .if_icmp .lt 9, 3), (5, .iload_n 1, 1), (6, .bipush 7, 2), (8, .if_icmp .lt 10, 3), (11, .aload_n 0, 1), (12, .ldc 63, 2), (14, .invokevirtual 64, 3), (17, .ireturn, 1), (18, .iload_n 1, 1), (19, .ifCond .lt 10, 3), (22, .aload_n 0, 1), (23, .getfield 47, 3), (26, .iload_n 1, 1), (27, .iaload, 1), (28, .ireturn, 1), (29, .iconst 0, 1), (30, .istore_n 2, 1), (31, .iconst 0, 1), (32, .istore_n 3, 1), (33, .iload_n 3, 1), (34, .bipush 7, 2), (36, .if_icmp .ge 18, 3), (39, .iload_n 2, 1), (40, .aload_n 0, 1), (41, .getfield 47, 3), (44, .iload_n 3, 1), (45, .iaload, 1), (46, .iadd, 1), (47, .istore_n 2, 1), (48, .iinc 3 1, 3), (51, .goto (-18), 3), (54, .iload_n 2, 1), (55, .ireturn, 1)]
theorem tk_X5_status_0 : dcA cX5_status tb_X5_status_0 = true := by decide +kernel
theorem dX5_status_0 : decode cX5_status 0 = .ok (.iload_n 1, 1) := dcO tk_X5_status_0 0 rfl
theorem dX5_status_1 : decode cX5_status 1 = .ok (.iconst (-1), 1) := dcO tk_X5_status_0 1 rfl
theorem dX5_status_2 : decode cX5_status 2 = .ok (.if_icmp .lt 9, 3) := dcO tk_X5_status_0 2 rfl
theorem dX5_status_5 : decode cX5_status 5 = .ok (.iload_n 1, 1) := dcO tk_X5_status_0 3 rfl
theorem dX5_status_6 : decode cX5_status 6 = .ok (.bipush 7, 2) := dcO tk_X5_status_0 4 rfl
theorem dX5_status_8 : decode cX5_status 8 = .ok (.if_icmp .lt 10, 3) := dcO tk_X5_status_0 5 rfl
theorem dX5_status_11 : decode cX5_status 11 = .ok (.aload_n 0, 1) := dcO tk_X5_status_0 6 rfl
theorem dX5_status_12 : decode cX5_status 12 = .ok (.ldc 63, 2) := dcO tk_X5_status_0 7 rfl
theorem dX5_status_14 : decode cX5_status 14 = .ok (.invokevirtual 64, 3) := dcO tk_X5_status_0 8 rfl
theorem dX5_status_17 : decode cX5_status 17 = .ok (.ireturn, 1) := dcO tk_X5_status_0 9 rfl
theorem dX5_status_18 : decode cX5_status 18 = .ok (.iload_n 1, 1) := dcO tk_X5_status_0 10 rfl
theorem dX5_status_19 : decode cX5_status 19 = .ok (.ifCond .lt 10, 3) := dcO tk_X5_status_0 11 rfl
theorem dX5_status_22 : decode cX5_status 22 = .ok (.aload_n 0, 1) := dcO tk_X5_status_0 12 rfl
theorem dX5_status_23 : decode cX5_status 23 = .ok (.getfield 47, 3) := dcO tk_X5_status_0 13 rfl
theorem dX5_status_26 : decode cX5_status 26 = .ok (.iload_n 1, 1) := dcO tk_X5_status_0 14 rfl
theorem dX5_status_27 : decode cX5_status 27 = .ok (.iaload, 1) := dcO tk_X5_status_0 15 rfl
theorem dX5_status_28 : decode cX5_status 28 = .ok (.ireturn, 1) := dcO tk_X5_status_0 16 rfl
theorem dX5_status_29 : decode cX5_status 29 = .ok (.iconst 0, 1) := dcO tk_X5_status_0 17 rfl
theorem dX5_status_30 : decode cX5_status 30 = .ok (.istore_n 2, 1) := dcO tk_X5_status_0 18 rfl
theorem dX5_status_31 : decode cX5_status 31 = .ok (.iconst 0, 1) := dcO tk_X5_status_0 19 rfl
theorem dX5_status_32 : decode cX5_status 32 = .ok (.istore_n 3, 1) := dcO tk_X5_status_0 20 rfl
theorem dX5_status_33 : decode cX5_status 33 = .ok (.iload_n 3, 1) := dcO tk_X5_status_0 21 rfl
theorem dX5_status_34 : decode cX5_status 34 = .ok (.bipush 7, 2) := dcO tk_X5_status_0 22 rfl
theorem dX5_status_36 : decode cX5_status 36 = .ok (.if_icmp .ge 18, 3) := dcO tk_X5_status_0 23 rfl
theorem dX5_status_39 : decode cX5_status 39 = .ok (.iload_n 2, 1) := dcO tk_X5_status_0 24 rfl
theorem dX5_status_40 : decode cX5_status 40 = .ok (.aload_n 0, 1) := dcO tk_X5_status_0 25 rfl
theorem dX5_status_41 : decode cX5_status 41 = .ok (.getfield 47, 3) := dcO tk_X5_status_0 26 rfl
theorem dX5_status_44 : decode cX5_status 44 = .ok (.iload_n 3, 1) := dcO tk_X5_status_0 27 rfl
theorem dX5_status_45 : decode cX5_status 45 = .ok (.iaload, 1) := dcO tk_X5_status_0 28 rfl
theorem dX5_status_46 : decode cX5_status 46 = .ok (.iadd, 1) := dcO tk_X5_status_0 29 rfl
theorem dX5_status_47 : decode cX5_status 47 = .ok (.istore_n 2, 1) := dcO tk_X5_status_0 30 rfl
theorem dX5_status_48 : decode cX5_status 48 = .ok (.iinc 3 1, 3) := dcO tk_X5_status_0 31 rfl
theorem dX5_status_51 : decode cX5_status 51 = .ok (.goto (-18), 3) := dcO tk_X5_status_0 32 rfl
theorem dX5_status_54 : decode cX5_status 54 = .ok (.iload_n 2, 1) := dcO tk_X5_status_0 33 rfl
theorem dX5_status_55 : decode cX5_status 55 = .ok (.ireturn, 1) := dcO tk_X5_status_0 34 rfl
abbrev tb_X5_tell_0 : List (Nat × Instr × Nat) := [(0, .ldc 63, 2), (2, .iload_n 1, 1), (3, .isub, 1), (4, .istore_n 2, 1), (5, .iload_n 2, 1), (6, .bipush 6, 2), (8, .invokestatic 59, 3), (11, .ifCond .eq 13, 3), (14, .aload_n 0, 1), (15, .getfield 47, 3), (18, .iload_n 2, 1), (19, .dup2, 1), (20, .iaload, 1), (21, .iconst 1, 1), (22, .iadd, 1), (23, .iastore, 1), (24, .iload_n 1, 1), (25, .ireturn, 1)]
theorem tk_X5_tell_0 : dcA cX5_tell tb_X5_tell_0 = true := by decide +kernel
theorem dX5_tell_0 : decode cX5_tell 0 = .ok (.ldc 63, 2) := dcO tk_X5_tell_0 0 rfl
theorem dX5_tell_2 : decode cX5_tell 2 = .ok (.iload_n 1, 1) := dcO tk_X5_tell_0 1 rfl
theorem dX5_tell_3 : decode cX5_tell 3 = .ok (.isub, 1) := dcO tk_X5_tell_0 2 rfl
theorem dX5_tell_4 : decode cX5_tell 4 = .ok (.istore_n 2, 1) := dcO tk_X5_tell_0 3 rfl
theorem dX5_tell_5 : decode cX5_tell 5 = .ok (.iload_n 2, 1) := dcO tk_X5_tell_0 4 rfl
theorem dX5_tell_6 : decode cX5_tell 6 = .ok (.bipush 6, 2) := dcO tk_X5_tell_0 5 rfl
theorem dX5_tell_8 : decode cX5_tell 8 = .ok (.invokestatic 59, 3) := dcO tk_X5_tell_0 6 rfl
theorem dX5_tell_11 : decode cX5_tell 11 = .ok (.ifCond .eq 13, 3) := dcO tk_X5_tell_0 7 rfl
theorem dX5_tell_14 : decode cX5_tell 14 = .ok (.aload_n 0, 1) := dcO tk_X5_tell_0 8 rfl
theorem dX5_tell_15 : decode cX5_tell 15 = .ok (.getfield 47, 3) := dcO tk_X5_tell_0 9 rfl
theorem dX5_tell_18 : decode cX5_tell 18 = .ok (.iload_n 2, 1) := dcO tk_X5_tell_0 10 rfl
theorem dX5_tell_19 : decode cX5_tell 19 = .ok (.dup2, 1) := dcO tk_X5_tell_0 11 rfl
theorem dX5_tell_20 : decode cX5_tell 20 = .ok (.iaload, 1) := dcO tk_X5_tell_0 12 rfl
theorem dX5_tell_21 : decode cX5_tell 21 = .ok (.iconst 1, 1) := dcO tk_X5_tell_0 13 rfl
theorem dX5_tell_22 : decode cX5_tell 22 = .ok (.iadd, 1) := dcO tk_X5_tell_0 14 rfl
theorem dX5_tell_23 : decode cX5_tell 23 = .ok (.iastore, 1) := dcO tk_X5_tell_0 15 rfl
theorem dX5_tell_24 : decode cX5_tell 24 = .ok (.iload_n 1, 1) := dcO tk_X5_tell_0 16 rfl
theorem dX5_tell_25 : decode cX5_tell 25 = .ok (.ireturn, 1) := dcO tk_X5_tell_0 17 rfl
abbrev tb_X5_sheetFlaw_0 : List (Nat × Instr × Nat) := [(0, .iload_n 1, 1), (1, .invokestatic 252, 3), (4, .ifCond .ne 6, 3), (7, .ldc 63, 2), (9, .ireturn, 1), (10, .aload_n 0, 1), (11, .getfield 43, 3), (14, .iload_n 1, 1), (15, .invokevirtual 272, 3), (18, .ifCond .eq 8, 3), (21, .ldc 247, 2), (23, .goto 4, 3), (26, .iconst 0, 1), (27, .ireturn, 1)]
theorem tk_X5_sheetFlaw_0 : dcA cX5_sheetFlaw tb_X5_sheetFlaw_0 = true := by decide +kernel
theorem dX5_sheetFlaw_0 : decode cX5_sheetFlaw 0 = .ok (.iload_n 1, 1) := dcO tk_X5_sheetFlaw_0 0 rfl
theorem dX5_sheetFlaw_1 : decode cX5_sheetFlaw 1 = .ok (.invokestatic 252, 3) := dcO tk_X5_sheetFlaw_0 1 rfl
theorem dX5_sheetFlaw_4 : decode cX5_sheetFlaw 4 = .ok (.ifCond .ne 6, 3) := dcO tk_X5_sheetFlaw_0 2 rfl
theorem dX5_sheetFlaw_7 : decode cX5_sheetFlaw 7 = .ok (.ldc 63, 2) := dcO tk_X5_sheetFlaw_0 3 rfl
theorem dX5_sheetFlaw_9 : decode cX5_sheetFlaw 9 = .ok (.ireturn, 1) := dcO tk_X5_sheetFlaw_0 4 rfl
theorem dX5_sheetFlaw_10 : decode cX5_sheetFlaw 10 = .ok (.aload_n 0, 1) := dcO tk_X5_sheetFlaw_0 5 rfl
theorem dX5_sheetFlaw_11 : decode cX5_sheetFlaw 11 = .ok (.getfield 43, 3) := dcO tk_X5_sheetFlaw_0 6 rfl
theorem dX5_sheetFlaw_14 : decode cX5_sheetFlaw 14 = .ok (.iload_n 1, 1) := dcO tk_X5_sheetFlaw_0 7 rfl
theorem dX5_sheetFlaw_15 : decode cX5_sheetFlaw 15 = .ok (.invokevirtual 272, 3) := dcO tk_X5_sheetFlaw_0 8 rfl
theorem dX5_sheetFlaw_18 : decode cX5_sheetFlaw 18 = .ok (.ifCond .eq 8, 3) := dcO tk_X5_sheetFlaw_0 9 rfl
theorem dX5_sheetFlaw_21 : decode cX5_sheetFlaw 21 = .ok (.ldc 247, 2) := dcO tk_X5_sheetFlaw_0 10 rfl
theorem dX5_sheetFlaw_23 : decode cX5_sheetFlaw 23 = .ok (.goto 4, 3) := dcO tk_X5_sheetFlaw_0 11 rfl
theorem dX5_sheetFlaw_26 : decode cX5_sheetFlaw 26 = .ok (.iconst 0, 1) := dcO tk_X5_sheetFlaw_0 12 rfl
theorem dX5_sheetFlaw_27 : decode cX5_sheetFlaw 27 = .ok (.ireturn, 1) := dcO tk_X5_sheetFlaw_0 13 rfl
abbrev tb_X5_trailFlaw_0 : List (Nat × Instr × Nat) := [(0, .aload_n 0, 1), (1, .iload_n 1, 1), (2, .invokevirtual 266, 3), (5, .istore_n 3, 1), (6, .iload_n 3, 1), (7, .ifCond .eq 5, 3), (10, .iload_n 3, 1), (11, .ireturn, 1), (12, .aload_n 0, 1), (13, .iload_n 2, 1), (14, .invokevirtual 93, 3), (17, .ifCond .eq 7, 3), (20, .iconst 0, 1), (21, .goto 5, 3), (24, .ldc 63, 2), (26, .ireturn, 1)]
theorem tk_X5_trailFlaw_0 : dcA cX5_trailFlaw tb_X5_trailFlaw_0 = true := by decide +kernel
theorem dX5_trailFlaw_0 : decode cX5_trailFlaw 0 = .ok (.aload_n 0, 1) := dcO tk_X5_trailFlaw_0 0 rfl
theorem dX5_trailFlaw_1 : decode cX5_trailFlaw 1 = .ok (.iload_n 1, 1) := dcO tk_X5_trailFlaw_0 1 rfl
theorem dX5_trailFlaw_2 : decode cX5_trailFlaw 2 = .ok (.invokevirtual 266, 3) := dcO tk_X5_trailFlaw_0 2 rfl
theorem dX5_trailFlaw_5 : decode cX5_trailFlaw 5 = .ok (.istore_n 3, 1) := dcO tk_X5_trailFlaw_0 3 rfl
theorem dX5_trailFlaw_6 : decode cX5_trailFlaw 6 = .ok (.iload_n 3, 1) := dcO tk_X5_trailFlaw_0 4 rfl
theorem dX5_trailFlaw_7 : decode cX5_trailFlaw 7 = .ok (.ifCond .eq 5, 3) := dcO tk_X5_trailFlaw_0 5 rfl
theorem dX5_trailFlaw_10 : decode cX5_trailFlaw 10 = .ok (.iload_n 3, 1) := dcO tk_X5_trailFlaw_0 6 rfl
theorem dX5_trailFlaw_11 : decode cX5_trailFlaw 11 = .ok (.ireturn, 1) := dcO tk_X5_trailFlaw_0 7 rfl
theorem dX5_trailFlaw_12 : decode cX5_trailFlaw 12 = .ok (.aload_n 0, 1) := dcO tk_X5_trailFlaw_0 8 rfl
theorem dX5_trailFlaw_13 : decode cX5_trailFlaw 13 = .ok (.iload_n 2, 1) := dcO tk_X5_trailFlaw_0 9 rfl
theorem dX5_trailFlaw_14 : decode cX5_trailFlaw 14 = .ok (.invokevirtual 93, 3) := dcO tk_X5_trailFlaw_0 10 rfl
theorem dX5_trailFlaw_17 : decode cX5_trailFlaw 17 = .ok (.ifCond .eq 7, 3) := dcO tk_X5_trailFlaw_0 11 rfl
theorem dX5_trailFlaw_20 : decode cX5_trailFlaw 20 = .ok (.iconst 0, 1) := dcO tk_X5_trailFlaw_0 12 rfl
theorem dX5_trailFlaw_21 : decode cX5_trailFlaw 21 = .ok (.goto 5, 3) := dcO tk_X5_trailFlaw_0 13 rfl
theorem dX5_trailFlaw_24 : decode cX5_trailFlaw 24 = .ok (.ldc 63, 2) := dcO tk_X5_trailFlaw_0 14 rfl
theorem dX5_trailFlaw_26 : decode cX5_trailFlaw 26 = .ok (.ireturn, 1) := dcO tk_X5_trailFlaw_0 15 rfl
abbrev tb_X5_isSnail_0 : List (Nat × Instr × Nat) := [(0, .iload_n 1, 1), (1, .ifCond .lt 18, 3), (4, .iload_n 1, 1), (5, .aload_n 0, 1), (6, .getfield 12, 3), (9, .getfield 289, 3), (12, .if_icmp .ge 7, 3), (15, .iconst 1, 1), (16, .goto 4, 3), (19, .iconst 0, 1), (20, .ireturn, 1)]
theorem tk_X5_isSnail_0 : dcA cX5_isSnail tb_X5_isSnail_0 = true := by decide +kernel
theorem dX5_isSnail_0 : decode cX5_isSnail 0 = .ok (.iload_n 1, 1) := dcO tk_X5_isSnail_0 0 rfl
theorem dX5_isSnail_1 : decode cX5_isSnail 1 = .ok (.ifCond .lt 18, 3) := dcO tk_X5_isSnail_0 1 rfl
theorem dX5_isSnail_4 : decode cX5_isSnail 4 = .ok (.iload_n 1, 1) := dcO tk_X5_isSnail_0 2 rfl
theorem dX5_isSnail_5 : decode cX5_isSnail 5 = .ok (.aload_n 0, 1) := dcO tk_X5_isSnail_0 3 rfl
theorem dX5_isSnail_6 : decode cX5_isSnail 6 = .ok (.getfield 12, 3) := dcO tk_X5_isSnail_0 4 rfl
theorem dX5_isSnail_9 : decode cX5_isSnail 9 = .ok (.getfield 289, 3) := dcO tk_X5_isSnail_0 5 rfl
theorem dX5_isSnail_12 : decode cX5_isSnail 12 = .ok (.if_icmp .ge 7, 3) := dcO tk_X5_isSnail_0 6 rfl
theorem dX5_isSnail_15 : decode cX5_isSnail 15 = .ok (.iconst 1, 1) := dcO tk_X5_isSnail_0 7 rfl
theorem dX5_isSnail_16 : decode cX5_isSnail 16 = .ok (.goto 4, 3) := dcO tk_X5_isSnail_0 8 rfl
theorem dX5_isSnail_19 : decode cX5_isSnail 19 = .ok (.iconst 0, 1) := dcO tk_X5_isSnail_0 9 rfl
theorem dX5_isSnail_20 : decode cX5_isSnail 20 = .ok (.ireturn, 1) := dcO tk_X5_isSnail_0 10 rfl
abbrev tb_X5_isWithin_0 : List (Nat × Instr × Nat) := [(0, .iload_n 0, 1), (1, .ifCond .lt 12, 3), (4, .iload_n 0, 1), (5, .iload_n 1, 1), (6, .if_icmp .gt 7, 3), (9, .iconst 1, 1), (10, .goto 4, 3), (13, .iconst 0, 1), (14, .ireturn, 1)]
theorem tk_X5_isWithin_0 : dcA cX5_isWithin tb_X5_isWithin_0 = true := by decide +kernel
theorem dX5_isWithin_0 : decode cX5_isWithin 0 = .ok (.iload_n 0, 1) := dcO tk_X5_isWithin_0 0 rfl
theorem dX5_isWithin_1 : decode cX5_isWithin 1 = .ok (.ifCond .lt 12, 3) := dcO tk_X5_isWithin_0 1 rfl
theorem dX5_isWithin_4 : decode cX5_isWithin 4 = .ok (.iload_n 0, 1) := dcO tk_X5_isWithin_0 2 rfl
theorem dX5_isWithin_5 : decode cX5_isWithin 5 = .ok (.iload_n 1, 1) := dcO tk_X5_isWithin_0 3 rfl
theorem dX5_isWithin_6 : decode cX5_isWithin 6 = .ok (.if_icmp .gt 7, 3) := dcO tk_X5_isWithin_0 4 rfl
theorem dX5_isWithin_9 : decode cX5_isWithin 9 = .ok (.iconst 1, 1) := dcO tk_X5_isWithin_0 5 rfl
theorem dX5_isWithin_10 : decode cX5_isWithin 10 = .ok (.goto 4, 3) := dcO tk_X5_isWithin_0 6 rfl
theorem dX5_isWithin_13 : decode cX5_isWithin 13 = .ok (.iconst 0, 1) := dcO tk_X5_isWithin_0 7 rfl
theorem dX5_isWithin_14 : decode cX5_isWithin 14 = .ok (.ireturn, 1) := dcO tk_X5_isWithin_0 8 rfl
abbrev tb_X5_isCell_0 : List (Nat × Instr × Nat) := [(0, .iload_n 0, 1), (1, .bipush 80, 2), (3, .invokestatic 59, 3), (6, .ireturn, 1)]
theorem tk_X5_isCell_0 : dcA cX5_isCell tb_X5_isCell_0 = true := by decide +kernel
theorem dX5_isCell_0 : decode cX5_isCell 0 = .ok (.iload_n 0, 1) := dcO tk_X5_isCell_0 0 rfl
theorem dX5_isCell_1 : decode cX5_isCell 1 = .ok (.bipush 80, 2) := dcO tk_X5_isCell_0 1 rfl
theorem dX5_isCell_3 : decode cX5_isCell 3 = .ok (.invokestatic 59, 3) := dcO tk_X5_isCell_0 2 rfl
theorem dX5_isCell_6 : decode cX5_isCell 6 = .ok (.ireturn, 1) := dcO tk_X5_isCell_0 3 rfl
abbrev tb_X5_isLaw_0 : List (Nat × Instr × Nat) := [(0, .iload_n 0, 1), (1, .bipush 7, 2), (3, .invokestatic 59, 3), (6, .ireturn, 1)]
theorem tk_X5_isLaw_0 : dcA cX5_isLaw tb_X5_isLaw_0 = true := by decide +kernel
theorem dX5_isLaw_0 : decode cX5_isLaw 0 = .ok (.iload_n 0, 1) := dcO tk_X5_isLaw_0 0 rfl
theorem dX5_isLaw_1 : decode cX5_isLaw 1 = .ok (.bipush 7, 2) := dcO tk_X5_isLaw_0 1 rfl
theorem dX5_isLaw_3 : decode cX5_isLaw 3 = .ok (.invokestatic 59, 3) := dcO tk_X5_isLaw_0 2 rfl
theorem dX5_isLaw_6 : decode cX5_isLaw 6 = .ok (.ireturn, 1) := dcO tk_X5_isLaw_0 3 rfl
abbrev tb_X5_isDeed_0 : List (Nat × Instr × Nat) := [(0, .iload_n 0, 1), (1, .bipush 7, 2), (3, .invokestatic 59, 3), (6, .ireturn, 1)]
theorem tk_X5_isDeed_0 : dcA cX5_isDeed tb_X5_isDeed_0 = true := by decide +kernel
theorem dX5_isDeed_0 : decode cX5_isDeed 0 = .ok (.iload_n 0, 1) := dcO tk_X5_isDeed_0 0 rfl
theorem dX5_isDeed_1 : decode cX5_isDeed 1 = .ok (.bipush 7, 2) := dcO tk_X5_isDeed_0 1 rfl
theorem dX5_isDeed_3 : decode cX5_isDeed 3 = .ok (.invokestatic 59, 3) := dcO tk_X5_isDeed_0 2 rfl
theorem dX5_isDeed_6 : decode cX5_isDeed 6 = .ok (.ireturn, 1) := dcO tk_X5_isDeed_0 3 rfl
abbrev tb_X5_isSheet_0 : List (Nat × Instr × Nat) := [(0, .iload_n 0, 1), (1, .iconst 3, 1), (2, .invokestatic 59, 3), (5, .ireturn, 1)]
theorem tk_X5_isSheet_0 : dcA cX5_isSheet tb_X5_isSheet_0 = true := by decide +kernel
theorem dX5_isSheet_0 : decode cX5_isSheet 0 = .ok (.iload_n 0, 1) := dcO tk_X5_isSheet_0 0 rfl
theorem dX5_isSheet_1 : decode cX5_isSheet 1 = .ok (.iconst 3, 1) := dcO tk_X5_isSheet_0 1 rfl
theorem dX5_isSheet_2 : decode cX5_isSheet 2 = .ok (.invokestatic 59, 3) := dcO tk_X5_isSheet_0 2 rfl
theorem dX5_isSheet_5 : decode cX5_isSheet 5 = .ok (.ireturn, 1) := dcO tk_X5_isSheet_0 3 rfl
abbrev tb_X5_isBits_0 : List (Nat × Instr × Nat) := [(0, .iload_n 0, 1), (1, .ifCond .eq 21, 3), (4, .iload_n 0, 1), (5, .bipush 8, 2), (7, .if_icmp .eq 15, 3), (10, .iload_n 0, 1), (11, .bipush 16, 2), (13, .if_icmp .eq 9, 3), (16, .iload_n 0, 1), (17, .bipush 32, 2), (19, .if_icmp .ne 7, 3), (22, .iconst 1, 1), (23, .goto 4, 3), (26, .iconst 0, 1), (27, .ireturn, 1)]
theorem tk_X5_isBits_0 : dcA cX5_isBits tb_X5_isBits_0 = true := by decide +kernel
theorem dX5_isBits_0 : decode cX5_isBits 0 = .ok (.iload_n 0, 1) := dcO tk_X5_isBits_0 0 rfl
theorem dX5_isBits_1 : decode cX5_isBits 1 = .ok (.ifCond .eq 21, 3) := dcO tk_X5_isBits_0 1 rfl
theorem dX5_isBits_4 : decode cX5_isBits 4 = .ok (.iload_n 0, 1) := dcO tk_X5_isBits_0 2 rfl
theorem dX5_isBits_5 : decode cX5_isBits 5 = .ok (.bipush 8, 2) := dcO tk_X5_isBits_0 3 rfl
theorem dX5_isBits_7 : decode cX5_isBits 7 = .ok (.if_icmp .eq 15, 3) := dcO tk_X5_isBits_0 4 rfl
theorem dX5_isBits_10 : decode cX5_isBits 10 = .ok (.iload_n 0, 1) := dcO tk_X5_isBits_0 5 rfl
theorem dX5_isBits_11 : decode cX5_isBits 11 = .ok (.bipush 16, 2) := dcO tk_X5_isBits_0 6 rfl
theorem dX5_isBits_13 : decode cX5_isBits 13 = .ok (.if_icmp .eq 9, 3) := dcO tk_X5_isBits_0 7 rfl
theorem dX5_isBits_16 : decode cX5_isBits 16 = .ok (.iload_n 0, 1) := dcO tk_X5_isBits_0 8 rfl
theorem dX5_isBits_17 : decode cX5_isBits 17 = .ok (.bipush 32, 2) := dcO tk_X5_isBits_0 9 rfl
theorem dX5_isBits_19 : decode cX5_isBits 19 = .ok (.if_icmp .ne 7, 3) := dcO tk_X5_isBits_0 10 rfl
theorem dX5_isBits_22 : decode cX5_isBits 22 = .ok (.iconst 1, 1) := dcO tk_X5_isBits_0 11 rfl
theorem dX5_isBits_23 : decode cX5_isBits 23 = .ok (.goto 4, 3) := dcO tk_X5_isBits_0 12 rfl
theorem dX5_isBits_26 : decode cX5_isBits 26 = .ok (.iconst 0, 1) := dcO tk_X5_isBits_0 13 rfl
theorem dX5_isBits_27 : decode cX5_isBits 27 = .ok (.ireturn, 1) := dcO tk_X5_isBits_0 14 rfl
abbrev tb_X5_isOfKind_0 : List (Nat × Instr × Nat) := [(0, .iload_n 0, 1), (1, .istore_n 2, 1), (2, .iconst 0, 1), (3, .istore_n 3, 1), (4, .iload_n 3, 1), (5, .bipush 7, 2), (7, .if_icmp .ge 31, 3), (10, .iload_n 2, 1), (11, .bipush 6, 2), (13, .invokestatic 59, 3), (16, .ifCond .eq 22, 3), (19, .iload_n 2, 1), (20, .iload_n 1, 1), (21, .if_icmp .ne 5, 3), (24, .iconst 1, 1), (25, .ireturn, 1), (26, .getstatic 298, 3), (29, .iload_n 2, 1), (30, .iaload, 1), (31, .istore_n 2, 1), (32, .iinc 3 1, 3), (35, .goto (-31), 3), (38, .iconst 0, 1), (39, .ireturn, 1)]
theorem tk_X5_isOfKind_0 : dcA cX5_isOfKind tb_X5_isOfKind_0 = true := by decide +kernel
theorem dX5_isOfKind_0 : decode cX5_isOfKind 0 = .ok (.iload_n 0, 1) := dcO tk_X5_isOfKind_0 0 rfl
theorem dX5_isOfKind_1 : decode cX5_isOfKind 1 = .ok (.istore_n 2, 1) := dcO tk_X5_isOfKind_0 1 rfl
theorem dX5_isOfKind_2 : decode cX5_isOfKind 2 = .ok (.iconst 0, 1) := dcO tk_X5_isOfKind_0 2 rfl
theorem dX5_isOfKind_3 : decode cX5_isOfKind 3 = .ok (.istore_n 3, 1) := dcO tk_X5_isOfKind_0 3 rfl
theorem dX5_isOfKind_4 : decode cX5_isOfKind 4 = .ok (.iload_n 3, 1) := dcO tk_X5_isOfKind_0 4 rfl
theorem dX5_isOfKind_5 : decode cX5_isOfKind 5 = .ok (.bipush 7, 2) := dcO tk_X5_isOfKind_0 5 rfl
theorem dX5_isOfKind_7 : decode cX5_isOfKind 7 = .ok (.if_icmp .ge 31, 3) := dcO tk_X5_isOfKind_0 6 rfl
theorem dX5_isOfKind_10 : decode cX5_isOfKind 10 = .ok (.iload_n 2, 1) := dcO tk_X5_isOfKind_0 7 rfl
theorem dX5_isOfKind_11 : decode cX5_isOfKind 11 = .ok (.bipush 6, 2) := dcO tk_X5_isOfKind_0 8 rfl
theorem dX5_isOfKind_13 : decode cX5_isOfKind 13 = .ok (.invokestatic 59, 3) := dcO tk_X5_isOfKind_0 9 rfl
theorem dX5_isOfKind_16 : decode cX5_isOfKind 16 = .ok (.ifCond .eq 22, 3) := dcO tk_X5_isOfKind_0 10 rfl
theorem dX5_isOfKind_19 : decode cX5_isOfKind 19 = .ok (.iload_n 2, 1) := dcO tk_X5_isOfKind_0 11 rfl
theorem dX5_isOfKind_20 : decode cX5_isOfKind 20 = .ok (.iload_n 1, 1) := dcO tk_X5_isOfKind_0 12 rfl
theorem dX5_isOfKind_21 : decode cX5_isOfKind 21 = .ok (.if_icmp .ne 5, 3) := dcO tk_X5_isOfKind_0 13 rfl
theorem dX5_isOfKind_24 : decode cX5_isOfKind 24 = .ok (.iconst 1, 1) := dcO tk_X5_isOfKind_0 14 rfl
theorem dX5_isOfKind_25 : decode cX5_isOfKind 25 = .ok (.ireturn, 1) := dcO tk_X5_isOfKind_0 15 rfl
theorem dX5_isOfKind_26 : decode cX5_isOfKind 26 = .ok (.getstatic 298, 3) := dcO tk_X5_isOfKind_0 16 rfl
theorem dX5_isOfKind_29 : decode cX5_isOfKind 29 = .ok (.iload_n 2, 1) := dcO tk_X5_isOfKind_0 17 rfl
theorem dX5_isOfKind_30 : decode cX5_isOfKind 30 = .ok (.iaload, 1) := dcO tk_X5_isOfKind_0 18 rfl
theorem dX5_isOfKind_31 : decode cX5_isOfKind 31 = .ok (.istore_n 2, 1) := dcO tk_X5_isOfKind_0 19 rfl
theorem dX5_isOfKind_32 : decode cX5_isOfKind 32 = .ok (.iinc 3 1, 3) := dcO tk_X5_isOfKind_0 20 rfl
theorem dX5_isOfKind_35 : decode cX5_isOfKind 35 = .ok (.goto (-31), 3) := dcO tk_X5_isOfKind_0 21 rfl
theorem dX5_isOfKind_38 : decode cX5_isOfKind 38 = .ok (.iconst 0, 1) := dcO tk_X5_isOfKind_0 22 rfl
theorem dX5_isOfKind_39 : decode cX5_isOfKind 39 = .ok (.ireturn, 1) := dcO tk_X5_isOfKind_0 23 rfl
abbrev tb_X5_commonDivisor_0 : List (Nat × Instr × Nat) := [(0, .iconst 1, 1), (1, .istore_n 1, 1), (2, .iconst 2, 1), (3, .istore_n 2, 1), (4, .iload_n 2, 1), (5, .bipush 20, 2), (7, .if_icmp .gt 24, 3), (10, .iload_n 0, 1), (11, .iload_n 2, 1), (12, .irem, 1), (13, .ifCond .ne 12, 3), (16, .bipush 20, 2), (18, .iload_n 2, 1), (19, .irem, 1), (20, .ifCond .ne 5, 3), (23, .iload_n 2, 1), (24, .istore_n 1, 1), (25, .iinc 2 1, 3), (28, .goto (-24), 3), (31, .iload_n 1, 1), (32, .ireturn, 1)]
theorem tk_X5_commonDivisor_0 : dcA cX5_commonDivisor tb_X5_commonDivisor_0 = true := by decide +kernel
theorem dX5_commonDivisor_0 : decode cX5_commonDivisor 0 = .ok (.iconst 1, 1) := dcO tk_X5_commonDivisor_0 0 rfl
theorem dX5_commonDivisor_1 : decode cX5_commonDivisor 1 = .ok (.istore_n 1, 1) := dcO tk_X5_commonDivisor_0 1 rfl
theorem dX5_commonDivisor_2 : decode cX5_commonDivisor 2 = .ok (.iconst 2, 1) := dcO tk_X5_commonDivisor_0 2 rfl
theorem dX5_commonDivisor_3 : decode cX5_commonDivisor 3 = .ok (.istore_n 2, 1) := dcO tk_X5_commonDivisor_0 3 rfl
theorem dX5_commonDivisor_4 : decode cX5_commonDivisor 4 = .ok (.iload_n 2, 1) := dcO tk_X5_commonDivisor_0 4 rfl
theorem dX5_commonDivisor_5 : decode cX5_commonDivisor 5 = .ok (.bipush 20, 2) := dcO tk_X5_commonDivisor_0 5 rfl
theorem dX5_commonDivisor_7 : decode cX5_commonDivisor 7 = .ok (.if_icmp .gt 24, 3) := dcO tk_X5_commonDivisor_0 6 rfl
theorem dX5_commonDivisor_10 : decode cX5_commonDivisor 10 = .ok (.iload_n 0, 1) := dcO tk_X5_commonDivisor_0 7 rfl
theorem dX5_commonDivisor_11 : decode cX5_commonDivisor 11 = .ok (.iload_n 2, 1) := dcO tk_X5_commonDivisor_0 8 rfl
theorem dX5_commonDivisor_12 : decode cX5_commonDivisor 12 = .ok (.irem, 1) := dcO tk_X5_commonDivisor_0 9 rfl
theorem dX5_commonDivisor_13 : decode cX5_commonDivisor 13 = .ok (.ifCond .ne 12, 3) := dcO tk_X5_commonDivisor_0 10 rfl
theorem dX5_commonDivisor_16 : decode cX5_commonDivisor 16 = .ok (.bipush 20, 2) := dcO tk_X5_commonDivisor_0 11 rfl
theorem dX5_commonDivisor_18 : decode cX5_commonDivisor 18 = .ok (.iload_n 2, 1) := dcO tk_X5_commonDivisor_0 12 rfl
theorem dX5_commonDivisor_19 : decode cX5_commonDivisor 19 = .ok (.irem, 1) := dcO tk_X5_commonDivisor_0 13 rfl
theorem dX5_commonDivisor_20 : decode cX5_commonDivisor 20 = .ok (.ifCond .ne 5, 3) := dcO tk_X5_commonDivisor_0 14 rfl
theorem dX5_commonDivisor_23 : decode cX5_commonDivisor 23 = .ok (.iload_n 2, 1) := dcO tk_X5_commonDivisor_0 15 rfl
theorem dX5_commonDivisor_24 : decode cX5_commonDivisor 24 = .ok (.istore_n 1, 1) := dcO tk_X5_commonDivisor_0 16 rfl
theorem dX5_commonDivisor_25 : decode cX5_commonDivisor 25 = .ok (.iinc 2 1, 3) := dcO tk_X5_commonDivisor_0 17 rfl
theorem dX5_commonDivisor_28 : decode cX5_commonDivisor 28 = .ok (.goto (-24), 3) := dcO tk_X5_commonDivisor_0 18 rfl
theorem dX5_commonDivisor_31 : decode cX5_commonDivisor 31 = .ok (.iload_n 1, 1) := dcO tk_X5_commonDivisor_0 19 rfl
theorem dX5_commonDivisor_32 : decode cX5_commonDivisor 32 = .ok (.ireturn, 1) := dcO tk_X5_commonDivisor_0 20 rfl
abbrev tb_X5_beside_0 : List (Nat × Instr × Nat) := [(0, .iload_n 1, 1), (1, .tableswitch 74 0 2 #[27, 42, 59], 27), (28, .iload_n 0, 1), (29, .bipush 9, 2), (31, .if_icmp .lt 10, 3), (34, .iload_n 0, 1), (35, .bipush 9, 2), (37, .isub, 1), (38, .goto 4, 3), (41, .iconst (-1), 1), (42, .ireturn, 1), (43, .iload_n 0, 1), (44, .bipush 9, 2), (46, .irem, 1), (47, .bipush 8, 2), (49, .if_icmp .ge 9, 3), (52, .iload_n 0, 1), (53, .iconst 1, 1), (54, .iadd, 1), (55, .goto 4, 3), (58, .iconst (-1), 1), (59, .ireturn, 1), (60, .iload_n 0, 1), (61, .bipush 72, 2), (63, .if_icmp .ge 10, 3), (66, .iload_n 0, 1), (67, .bipush 9, 2), (69, .iadd, 1), (70, .goto 4, 3), (73, .iconst (-1), 1), (74, .ireturn, 1), (75, .iload_n 0, 1), (76, .bipush 9, 2), (78, .irem, 1), (79, .ifCond .le 9, 3), (82, .iload_n 0, 1), (83, .iconst 1, 1), (84, .isub, 1), (85, .goto 4, 3), (88, .iconst (-1), 1)]
theorem tk_X5_beside_0 : dcA cX5_beside tb_X5_beside_0 = true := by decide +kernel
theorem dX5_beside_0 : decode cX5_beside 0 = .ok (.iload_n 1, 1) := dcO tk_X5_beside_0 0 rfl
theorem dX5_beside_1 : decode cX5_beside 1 = .ok (.tableswitch 74 0 2 #[27, 42, 59], 27) := dcO tk_X5_beside_0 1 rfl
theorem dX5_beside_28 : decode cX5_beside 28 = .ok (.iload_n 0, 1) := dcO tk_X5_beside_0 2 rfl
theorem dX5_beside_29 : decode cX5_beside 29 = .ok (.bipush 9, 2) := dcO tk_X5_beside_0 3 rfl
theorem dX5_beside_31 : decode cX5_beside 31 = .ok (.if_icmp .lt 10, 3) := dcO tk_X5_beside_0 4 rfl
theorem dX5_beside_34 : decode cX5_beside 34 = .ok (.iload_n 0, 1) := dcO tk_X5_beside_0 5 rfl
theorem dX5_beside_35 : decode cX5_beside 35 = .ok (.bipush 9, 2) := dcO tk_X5_beside_0 6 rfl
theorem dX5_beside_37 : decode cX5_beside 37 = .ok (.isub, 1) := dcO tk_X5_beside_0 7 rfl
theorem dX5_beside_38 : decode cX5_beside 38 = .ok (.goto 4, 3) := dcO tk_X5_beside_0 8 rfl
theorem dX5_beside_41 : decode cX5_beside 41 = .ok (.iconst (-1), 1) := dcO tk_X5_beside_0 9 rfl
theorem dX5_beside_42 : decode cX5_beside 42 = .ok (.ireturn, 1) := dcO tk_X5_beside_0 10 rfl
theorem dX5_beside_43 : decode cX5_beside 43 = .ok (.iload_n 0, 1) := dcO tk_X5_beside_0 11 rfl
theorem dX5_beside_44 : decode cX5_beside 44 = .ok (.bipush 9, 2) := dcO tk_X5_beside_0 12 rfl
theorem dX5_beside_46 : decode cX5_beside 46 = .ok (.irem, 1) := dcO tk_X5_beside_0 13 rfl
theorem dX5_beside_47 : decode cX5_beside 47 = .ok (.bipush 8, 2) := dcO tk_X5_beside_0 14 rfl
theorem dX5_beside_49 : decode cX5_beside 49 = .ok (.if_icmp .ge 9, 3) := dcO tk_X5_beside_0 15 rfl
theorem dX5_beside_52 : decode cX5_beside 52 = .ok (.iload_n 0, 1) := dcO tk_X5_beside_0 16 rfl
theorem dX5_beside_53 : decode cX5_beside 53 = .ok (.iconst 1, 1) := dcO tk_X5_beside_0 17 rfl
theorem dX5_beside_54 : decode cX5_beside 54 = .ok (.iadd, 1) := dcO tk_X5_beside_0 18 rfl
theorem dX5_beside_55 : decode cX5_beside 55 = .ok (.goto 4, 3) := dcO tk_X5_beside_0 19 rfl
theorem dX5_beside_58 : decode cX5_beside 58 = .ok (.iconst (-1), 1) := dcO tk_X5_beside_0 20 rfl
theorem dX5_beside_59 : decode cX5_beside 59 = .ok (.ireturn, 1) := dcO tk_X5_beside_0 21 rfl
theorem dX5_beside_60 : decode cX5_beside 60 = .ok (.iload_n 0, 1) := dcO tk_X5_beside_0 22 rfl
theorem dX5_beside_61 : decode cX5_beside 61 = .ok (.bipush 72, 2) := dcO tk_X5_beside_0 23 rfl
theorem dX5_beside_63 : decode cX5_beside 63 = .ok (.if_icmp .ge 10, 3) := dcO tk_X5_beside_0 24 rfl
theorem dX5_beside_66 : decode cX5_beside 66 = .ok (.iload_n 0, 1) := dcO tk_X5_beside_0 25 rfl
theorem dX5_beside_67 : decode cX5_beside 67 = .ok (.bipush 9, 2) := dcO tk_X5_beside_0 26 rfl
theorem dX5_beside_69 : decode cX5_beside 69 = .ok (.iadd, 1) := dcO tk_X5_beside_0 27 rfl
theorem dX5_beside_70 : decode cX5_beside 70 = .ok (.goto 4, 3) := dcO tk_X5_beside_0 28 rfl
theorem dX5_beside_73 : decode cX5_beside 73 = .ok (.iconst (-1), 1) := dcO tk_X5_beside_0 29 rfl
theorem dX5_beside_74 : decode cX5_beside 74 = .ok (.ireturn, 1) := dcO tk_X5_beside_0 30 rfl
theorem dX5_beside_75 : decode cX5_beside 75 = .ok (.iload_n 0, 1) := dcO tk_X5_beside_0 31 rfl
theorem dX5_beside_76 : decode cX5_beside 76 = .ok (.bipush 9, 2) := dcO tk_X5_beside_0 32 rfl
theorem dX5_beside_78 : decode cX5_beside 78 = .ok (.irem, 1) := dcO tk_X5_beside_0 33 rfl
theorem dX5_beside_79 : decode cX5_beside 79 = .ok (.ifCond .le 9, 3) := dcO tk_X5_beside_0 34 rfl
theorem dX5_beside_82 : decode cX5_beside 82 = .ok (.iload_n 0, 1) := dcO tk_X5_beside_0 35 rfl
theorem dX5_beside_83 : decode cX5_beside 83 = .ok (.iconst 1, 1) := dcO tk_X5_beside_0 36 rfl
theorem dX5_beside_84 : decode cX5_beside 84 = .ok (.isub, 1) := dcO tk_X5_beside_0 37 rfl
theorem dX5_beside_85 : decode cX5_beside 85 = .ok (.goto 4, 3) := dcO tk_X5_beside_0 38 rfl
theorem dX5_beside_88 : decode cX5_beside 88 = .ok (.iconst (-1), 1) := dcO tk_X5_beside_0 39 rfl
abbrev tb_X5_beside_1 : List (Nat × Instr × Nat) := [(89, .ireturn, 1)]
theorem tk_X5_beside_1 : dcA cX5_beside tb_X5_beside_1 = true := by decide +kernel
theorem dX5_beside_89 : decode cX5_beside 89 = .ok (.ireturn, 1) := dcO tk_X5_beside_1 0 rfl
abbrev tb_X6_init_0 : List (Nat × Instr × Nat) := [(0, .aload_n 0, 1), (1, .invokespecial 1, 3), (4, .aload_n 0, 1), (5, .sipush 307, 3), (8, .newarray .int, 2), (10, .putfield 9, 3), (13, .aload_n 0, 1), (14, .sipush 307, 3), (17, .newarray .int, 2), (19, .putfield 13, 3), (22, .aload_n 0, 1), (23, .sipush 307, 3), (26, .newarray .int, 2), (28, .putfield 16, 3), (31, .aload_n 0, 1), (32, .bipush 7, 2), (34, .newarray .int, 2), (36, .putfield 19, 3), (39, .aload_n 0, 1), (40, .sipush 729, 3), (43, .newarray .int, 2), (45, .putfield 22, 3), (48, .aload_n 0, 1), (49, .bipush 81, 2), (51, .newarray .int, 2), (53, .putfield 25, 3), (56, .aload_n 0, 1), (57, .bipush 81, 2), (59, .newarray .boolean, 2), (61, .putfield 28, 3), (64, .aload_n 0, 1), (65, .bipush 81, 2), (67, .newarray .int, 2), (69, .putfield 32, 3), (72, .aload_n 0, 1), (73, .bipush 120, 2), (75, .newarray .int, 2), (77, .putfield 35, 3), (80, .aload_n 0, 1), (81, .bipush 56, 2)]
theorem tk_X6_init_0 : dcA cX6_init tb_X6_init_0 = true := by decide +kernel
theorem dX6_init_0 : decode cX6_init 0 = .ok (.aload_n 0, 1) := dcO tk_X6_init_0 0 rfl
theorem dX6_init_1 : decode cX6_init 1 = .ok (.invokespecial 1, 3) := dcO tk_X6_init_0 1 rfl
theorem dX6_init_4 : decode cX6_init 4 = .ok (.aload_n 0, 1) := dcO tk_X6_init_0 2 rfl
theorem dX6_init_5 : decode cX6_init 5 = .ok (.sipush 307, 3) := dcO tk_X6_init_0 3 rfl
theorem dX6_init_8 : decode cX6_init 8 = .ok (.newarray .int, 2) := dcO tk_X6_init_0 4 rfl
theorem dX6_init_10 : decode cX6_init 10 = .ok (.putfield 9, 3) := dcO tk_X6_init_0 5 rfl
theorem dX6_init_13 : decode cX6_init 13 = .ok (.aload_n 0, 1) := dcO tk_X6_init_0 6 rfl
theorem dX6_init_14 : decode cX6_init 14 = .ok (.sipush 307, 3) := dcO tk_X6_init_0 7 rfl
theorem dX6_init_17 : decode cX6_init 17 = .ok (.newarray .int, 2) := dcO tk_X6_init_0 8 rfl
theorem dX6_init_19 : decode cX6_init 19 = .ok (.putfield 13, 3) := dcO tk_X6_init_0 9 rfl
theorem dX6_init_22 : decode cX6_init 22 = .ok (.aload_n 0, 1) := dcO tk_X6_init_0 10 rfl
theorem dX6_init_23 : decode cX6_init 23 = .ok (.sipush 307, 3) := dcO tk_X6_init_0 11 rfl
theorem dX6_init_26 : decode cX6_init 26 = .ok (.newarray .int, 2) := dcO tk_X6_init_0 12 rfl
theorem dX6_init_28 : decode cX6_init 28 = .ok (.putfield 16, 3) := dcO tk_X6_init_0 13 rfl
theorem dX6_init_31 : decode cX6_init 31 = .ok (.aload_n 0, 1) := dcO tk_X6_init_0 14 rfl
theorem dX6_init_32 : decode cX6_init 32 = .ok (.bipush 7, 2) := dcO tk_X6_init_0 15 rfl
theorem dX6_init_34 : decode cX6_init 34 = .ok (.newarray .int, 2) := dcO tk_X6_init_0 16 rfl
theorem dX6_init_36 : decode cX6_init 36 = .ok (.putfield 19, 3) := dcO tk_X6_init_0 17 rfl
theorem dX6_init_39 : decode cX6_init 39 = .ok (.aload_n 0, 1) := dcO tk_X6_init_0 18 rfl
theorem dX6_init_40 : decode cX6_init 40 = .ok (.sipush 729, 3) := dcO tk_X6_init_0 19 rfl
theorem dX6_init_43 : decode cX6_init 43 = .ok (.newarray .int, 2) := dcO tk_X6_init_0 20 rfl
theorem dX6_init_45 : decode cX6_init 45 = .ok (.putfield 22, 3) := dcO tk_X6_init_0 21 rfl
theorem dX6_init_48 : decode cX6_init 48 = .ok (.aload_n 0, 1) := dcO tk_X6_init_0 22 rfl
theorem dX6_init_49 : decode cX6_init 49 = .ok (.bipush 81, 2) := dcO tk_X6_init_0 23 rfl
theorem dX6_init_51 : decode cX6_init 51 = .ok (.newarray .int, 2) := dcO tk_X6_init_0 24 rfl
theorem dX6_init_53 : decode cX6_init 53 = .ok (.putfield 25, 3) := dcO tk_X6_init_0 25 rfl
theorem dX6_init_56 : decode cX6_init 56 = .ok (.aload_n 0, 1) := dcO tk_X6_init_0 26 rfl
theorem dX6_init_57 : decode cX6_init 57 = .ok (.bipush 81, 2) := dcO tk_X6_init_0 27 rfl
theorem dX6_init_59 : decode cX6_init 59 = .ok (.newarray .boolean, 2) := dcO tk_X6_init_0 28 rfl
theorem dX6_init_61 : decode cX6_init 61 = .ok (.putfield 28, 3) := dcO tk_X6_init_0 29 rfl
theorem dX6_init_64 : decode cX6_init 64 = .ok (.aload_n 0, 1) := dcO tk_X6_init_0 30 rfl
theorem dX6_init_65 : decode cX6_init 65 = .ok (.bipush 81, 2) := dcO tk_X6_init_0 31 rfl
theorem dX6_init_67 : decode cX6_init 67 = .ok (.newarray .int, 2) := dcO tk_X6_init_0 32 rfl
theorem dX6_init_69 : decode cX6_init 69 = .ok (.putfield 32, 3) := dcO tk_X6_init_0 33 rfl
theorem dX6_init_72 : decode cX6_init 72 = .ok (.aload_n 0, 1) := dcO tk_X6_init_0 34 rfl
theorem dX6_init_73 : decode cX6_init 73 = .ok (.bipush 120, 2) := dcO tk_X6_init_0 35 rfl
theorem dX6_init_75 : decode cX6_init 75 = .ok (.newarray .int, 2) := dcO tk_X6_init_0 36 rfl
theorem dX6_init_77 : decode cX6_init 77 = .ok (.putfield 35, 3) := dcO tk_X6_init_0 37 rfl
theorem dX6_init_80 : decode cX6_init 80 = .ok (.aload_n 0, 1) := dcO tk_X6_init_0 38 rfl
theorem dX6_init_81 : decode cX6_init 81 = .ok (.bipush 56, 2) := dcO tk_X6_init_0 39 rfl
abbrev tb_X6_init_1 : List (Nat × Instr × Nat) := [(83, .newarray .char, 2), (85, .dup, 1), (86, .iconst 0, 1), (87, .bipush 115, 2), (89, .castore, 1), (90, .dup, 1), (91, .iconst 1, 1), (92, .bipush 110, 2), (94, .castore, 1), (95, .dup, 1), (96, .iconst 2, 1), (97, .bipush 97, 2), (99, .castore, 1), (100, .dup, 1), (101, .iconst 3, 1), (102, .bipush 105, 2), (104, .castore, 1), (105, .dup, 1), (106, .iconst 4, 1), (107, .bipush 108, 2), (109, .castore, 1), (110, .dup, 1), (111, .iconst 5, 1), (112, .bipush 32, 2), (114, .castore, 1), (115, .dup, 1), (116, .bipush 6, 2), (118, .bipush 32, 2), (120, .castore, 1), (121, .dup, 1), (122, .bipush 7, 2), (124, .bipush 32, 2), (126, .castore, 1), (127, .dup, 1), (128, .bipush 8, 2), (130, .bipush 103, 2), (132, .castore, 1), (133, .dup, 1), (134, .bipush 9, 2), (136, .bipush 114, 2)]
theorem tk_X6_init_1 : dcA cX6_init tb_X6_init_1 = true := by decide +kernel
theorem dX6_init_83 : decode cX6_init 83 = .ok (.newarray .char, 2) := dcO tk_X6_init_1 0 rfl
theorem dX6_init_85 : decode cX6_init 85 = .ok (.dup, 1) := dcO tk_X6_init_1 1 rfl
theorem dX6_init_86 : decode cX6_init 86 = .ok (.iconst 0, 1) := dcO tk_X6_init_1 2 rfl
theorem dX6_init_87 : decode cX6_init 87 = .ok (.bipush 115, 2) := dcO tk_X6_init_1 3 rfl
theorem dX6_init_89 : decode cX6_init 89 = .ok (.castore, 1) := dcO tk_X6_init_1 4 rfl
theorem dX6_init_90 : decode cX6_init 90 = .ok (.dup, 1) := dcO tk_X6_init_1 5 rfl
theorem dX6_init_91 : decode cX6_init 91 = .ok (.iconst 1, 1) := dcO tk_X6_init_1 6 rfl
theorem dX6_init_92 : decode cX6_init 92 = .ok (.bipush 110, 2) := dcO tk_X6_init_1 7 rfl
theorem dX6_init_94 : decode cX6_init 94 = .ok (.castore, 1) := dcO tk_X6_init_1 8 rfl
theorem dX6_init_95 : decode cX6_init 95 = .ok (.dup, 1) := dcO tk_X6_init_1 9 rfl
theorem dX6_init_96 : decode cX6_init 96 = .ok (.iconst 2, 1) := dcO tk_X6_init_1 10 rfl
theorem dX6_init_97 : decode cX6_init 97 = .ok (.bipush 97, 2) := dcO tk_X6_init_1 11 rfl
theorem dX6_init_99 : decode cX6_init 99 = .ok (.castore, 1) := dcO tk_X6_init_1 12 rfl
theorem dX6_init_100 : decode cX6_init 100 = .ok (.dup, 1) := dcO tk_X6_init_1 13 rfl
theorem dX6_init_101 : decode cX6_init 101 = .ok (.iconst 3, 1) := dcO tk_X6_init_1 14 rfl
theorem dX6_init_102 : decode cX6_init 102 = .ok (.bipush 105, 2) := dcO tk_X6_init_1 15 rfl
theorem dX6_init_104 : decode cX6_init 104 = .ok (.castore, 1) := dcO tk_X6_init_1 16 rfl
theorem dX6_init_105 : decode cX6_init 105 = .ok (.dup, 1) := dcO tk_X6_init_1 17 rfl
theorem dX6_init_106 : decode cX6_init 106 = .ok (.iconst 4, 1) := dcO tk_X6_init_1 18 rfl
theorem dX6_init_107 : decode cX6_init 107 = .ok (.bipush 108, 2) := dcO tk_X6_init_1 19 rfl
theorem dX6_init_109 : decode cX6_init 109 = .ok (.castore, 1) := dcO tk_X6_init_1 20 rfl
theorem dX6_init_110 : decode cX6_init 110 = .ok (.dup, 1) := dcO tk_X6_init_1 21 rfl
theorem dX6_init_111 : decode cX6_init 111 = .ok (.iconst 5, 1) := dcO tk_X6_init_1 22 rfl
theorem dX6_init_112 : decode cX6_init 112 = .ok (.bipush 32, 2) := dcO tk_X6_init_1 23 rfl
theorem dX6_init_114 : decode cX6_init 114 = .ok (.castore, 1) := dcO tk_X6_init_1 24 rfl
theorem dX6_init_115 : decode cX6_init 115 = .ok (.dup, 1) := dcO tk_X6_init_1 25 rfl
theorem dX6_init_116 : decode cX6_init 116 = .ok (.bipush 6, 2) := dcO tk_X6_init_1 26 rfl
theorem dX6_init_118 : decode cX6_init 118 = .ok (.bipush 32, 2) := dcO tk_X6_init_1 27 rfl
theorem dX6_init_120 : decode cX6_init 120 = .ok (.castore, 1) := dcO tk_X6_init_1 28 rfl
theorem dX6_init_121 : decode cX6_init 121 = .ok (.dup, 1) := dcO tk_X6_init_1 29 rfl
theorem dX6_init_122 : decode cX6_init 122 = .ok (.bipush 7, 2) := dcO tk_X6_init_1 30 rfl
theorem dX6_init_124 : decode cX6_init 124 = .ok (.bipush 32, 2) := dcO tk_X6_init_1 31 rfl
theorem dX6_init_126 : decode cX6_init 126 = .ok (.castore, 1) := dcO tk_X6_init_1 32 rfl
theorem dX6_init_127 : decode cX6_init 127 = .ok (.dup, 1) := dcO tk_X6_init_1 33 rfl
theorem dX6_init_128 : decode cX6_init 128 = .ok (.bipush 8, 2) := dcO tk_X6_init_1 34 rfl
theorem dX6_init_130 : decode cX6_init 130 = .ok (.bipush 103, 2) := dcO tk_X6_init_1 35 rfl
theorem dX6_init_132 : decode cX6_init 132 = .ok (.castore, 1) := dcO tk_X6_init_1 36 rfl
theorem dX6_init_133 : decode cX6_init 133 = .ok (.dup, 1) := dcO tk_X6_init_1 37 rfl
theorem dX6_init_134 : decode cX6_init 134 = .ok (.bipush 9, 2) := dcO tk_X6_init_1 38 rfl
theorem dX6_init_136 : decode cX6_init 136 = .ok (.bipush 114, 2) := dcO tk_X6_init_1 39 rfl
abbrev tb_X6_init_2 : List (Nat × Instr × Nat) := [(138, .castore, 1), (139, .dup, 1), (140, .bipush 10, 2), (142, .bipush 101, 2), (144, .castore, 1), (145, .dup, 1), (146, .bipush 11, 2), (148, .bipush 101, 2), (150, .castore, 1), (151, .dup, 1), (152, .bipush 12, 2), (154, .bipush 100, 2), (156, .castore, 1), (157, .dup, 1), (158, .bipush 13, 2), (160, .bipush 121, 2), (162, .castore, 1), (163, .dup, 1), (164, .bipush 14, 2), (166, .bipush 32, 2), (168, .castore, 1), (169, .dup, 1), (170, .bipush 15, 2), (172, .bipush 32, 2), (174, .castore, 1), (175, .dup, 1), (176, .bipush 16, 2), (178, .bipush 115, 2), (180, .castore, 1), (181, .dup, 1), (182, .bipush 17, 2), (184, .bipush 108, 2), (186, .castore, 1), (187, .dup, 1), (188, .bipush 18, 2), (190, .bipush 111, 2), (192, .castore, 1), (193, .dup, 1), (194, .bipush 19, 2), (196, .bipush 119, 2)]
theorem tk_X6_init_2 : dcA cX6_init tb_X6_init_2 = true := by decide +kernel
theorem dX6_init_138 : decode cX6_init 138 = .ok (.castore, 1) := dcO tk_X6_init_2 0 rfl
theorem dX6_init_139 : decode cX6_init 139 = .ok (.dup, 1) := dcO tk_X6_init_2 1 rfl
theorem dX6_init_140 : decode cX6_init 140 = .ok (.bipush 10, 2) := dcO tk_X6_init_2 2 rfl
theorem dX6_init_142 : decode cX6_init 142 = .ok (.bipush 101, 2) := dcO tk_X6_init_2 3 rfl
theorem dX6_init_144 : decode cX6_init 144 = .ok (.castore, 1) := dcO tk_X6_init_2 4 rfl
theorem dX6_init_145 : decode cX6_init 145 = .ok (.dup, 1) := dcO tk_X6_init_2 5 rfl
theorem dX6_init_146 : decode cX6_init 146 = .ok (.bipush 11, 2) := dcO tk_X6_init_2 6 rfl
theorem dX6_init_148 : decode cX6_init 148 = .ok (.bipush 101, 2) := dcO tk_X6_init_2 7 rfl
theorem dX6_init_150 : decode cX6_init 150 = .ok (.castore, 1) := dcO tk_X6_init_2 8 rfl
theorem dX6_init_151 : decode cX6_init 151 = .ok (.dup, 1) := dcO tk_X6_init_2 9 rfl
theorem dX6_init_152 : decode cX6_init 152 = .ok (.bipush 12, 2) := dcO tk_X6_init_2 10 rfl
theorem dX6_init_154 : decode cX6_init 154 = .ok (.bipush 100, 2) := dcO tk_X6_init_2 11 rfl
theorem dX6_init_156 : decode cX6_init 156 = .ok (.castore, 1) := dcO tk_X6_init_2 12 rfl
theorem dX6_init_157 : decode cX6_init 157 = .ok (.dup, 1) := dcO tk_X6_init_2 13 rfl
theorem dX6_init_158 : decode cX6_init 158 = .ok (.bipush 13, 2) := dcO tk_X6_init_2 14 rfl
theorem dX6_init_160 : decode cX6_init 160 = .ok (.bipush 121, 2) := dcO tk_X6_init_2 15 rfl
theorem dX6_init_162 : decode cX6_init 162 = .ok (.castore, 1) := dcO tk_X6_init_2 16 rfl
theorem dX6_init_163 : decode cX6_init 163 = .ok (.dup, 1) := dcO tk_X6_init_2 17 rfl
theorem dX6_init_164 : decode cX6_init 164 = .ok (.bipush 14, 2) := dcO tk_X6_init_2 18 rfl
theorem dX6_init_166 : decode cX6_init 166 = .ok (.bipush 32, 2) := dcO tk_X6_init_2 19 rfl
theorem dX6_init_168 : decode cX6_init 168 = .ok (.castore, 1) := dcO tk_X6_init_2 20 rfl
theorem dX6_init_169 : decode cX6_init 169 = .ok (.dup, 1) := dcO tk_X6_init_2 21 rfl
theorem dX6_init_170 : decode cX6_init 170 = .ok (.bipush 15, 2) := dcO tk_X6_init_2 22 rfl
theorem dX6_init_172 : decode cX6_init 172 = .ok (.bipush 32, 2) := dcO tk_X6_init_2 23 rfl
theorem dX6_init_174 : decode cX6_init 174 = .ok (.castore, 1) := dcO tk_X6_init_2 24 rfl
theorem dX6_init_175 : decode cX6_init 175 = .ok (.dup, 1) := dcO tk_X6_init_2 25 rfl
theorem dX6_init_176 : decode cX6_init 176 = .ok (.bipush 16, 2) := dcO tk_X6_init_2 26 rfl
theorem dX6_init_178 : decode cX6_init 178 = .ok (.bipush 115, 2) := dcO tk_X6_init_2 27 rfl
theorem dX6_init_180 : decode cX6_init 180 = .ok (.castore, 1) := dcO tk_X6_init_2 28 rfl
theorem dX6_init_181 : decode cX6_init 181 = .ok (.dup, 1) := dcO tk_X6_init_2 29 rfl
theorem dX6_init_182 : decode cX6_init 182 = .ok (.bipush 17, 2) := dcO tk_X6_init_2 30 rfl
theorem dX6_init_184 : decode cX6_init 184 = .ok (.bipush 108, 2) := dcO tk_X6_init_2 31 rfl
theorem dX6_init_186 : decode cX6_init 186 = .ok (.castore, 1) := dcO tk_X6_init_2 32 rfl
theorem dX6_init_187 : decode cX6_init 187 = .ok (.dup, 1) := dcO tk_X6_init_2 33 rfl
theorem dX6_init_188 : decode cX6_init 188 = .ok (.bipush 18, 2) := dcO tk_X6_init_2 34 rfl
theorem dX6_init_190 : decode cX6_init 190 = .ok (.bipush 111, 2) := dcO tk_X6_init_2 35 rfl
theorem dX6_init_192 : decode cX6_init 192 = .ok (.castore, 1) := dcO tk_X6_init_2 36 rfl
theorem dX6_init_193 : decode cX6_init 193 = .ok (.dup, 1) := dcO tk_X6_init_2 37 rfl
theorem dX6_init_194 : decode cX6_init 194 = .ok (.bipush 19, 2) := dcO tk_X6_init_2 38 rfl
theorem dX6_init_196 : decode cX6_init 196 = .ok (.bipush 119, 2) := dcO tk_X6_init_2 39 rfl
abbrev tb_X6_init_3 : List (Nat × Instr × Nat) := [(198, .castore, 1), (199, .dup, 1), (200, .bipush 20, 2), (202, .bipush 32, 2), (204, .castore, 1), (205, .dup, 1), (206, .bipush 21, 2), (208, .bipush 32, 2), (210, .castore, 1), (211, .dup, 1), (212, .bipush 22, 2), (214, .bipush 32, 2), (216, .castore, 1), (217, .dup, 1), (218, .bipush 23, 2), (220, .bipush 32, 2), (222, .castore, 1), (223, .dup, 1), (224, .bipush 24, 2), (226, .bipush 115, 2), (228, .castore, 1), (229, .dup, 1), (230, .bipush 25, 2), (232, .bipush 108, 2), (234, .castore, 1), (235, .dup, 1), (236, .bipush 26, 2), (238, .bipush 101, 2), (240, .castore, 1), (241, .dup, 1), (242, .bipush 27, 2), (244, .bipush 101, 2), (246, .castore, 1), (247, .dup, 1), (248, .bipush 28, 2), (250, .bipush 112, 2), (252, .castore, 1), (253, .dup, 1), (254, .bipush 29, 2), (256, .bipush 121, 2)]
theorem tk_X6_init_3 : dcA cX6_init tb_X6_init_3 = true := by decide +kernel
theorem dX6_init_198 : decode cX6_init 198 = .ok (.castore, 1) := dcO tk_X6_init_3 0 rfl
theorem dX6_init_199 : decode cX6_init 199 = .ok (.dup, 1) := dcO tk_X6_init_3 1 rfl
theorem dX6_init_200 : decode cX6_init 200 = .ok (.bipush 20, 2) := dcO tk_X6_init_3 2 rfl
theorem dX6_init_202 : decode cX6_init 202 = .ok (.bipush 32, 2) := dcO tk_X6_init_3 3 rfl
theorem dX6_init_204 : decode cX6_init 204 = .ok (.castore, 1) := dcO tk_X6_init_3 4 rfl
theorem dX6_init_205 : decode cX6_init 205 = .ok (.dup, 1) := dcO tk_X6_init_3 5 rfl
theorem dX6_init_206 : decode cX6_init 206 = .ok (.bipush 21, 2) := dcO tk_X6_init_3 6 rfl
theorem dX6_init_208 : decode cX6_init 208 = .ok (.bipush 32, 2) := dcO tk_X6_init_3 7 rfl
theorem dX6_init_210 : decode cX6_init 210 = .ok (.castore, 1) := dcO tk_X6_init_3 8 rfl
theorem dX6_init_211 : decode cX6_init 211 = .ok (.dup, 1) := dcO tk_X6_init_3 9 rfl
theorem dX6_init_212 : decode cX6_init 212 = .ok (.bipush 22, 2) := dcO tk_X6_init_3 10 rfl
theorem dX6_init_214 : decode cX6_init 214 = .ok (.bipush 32, 2) := dcO tk_X6_init_3 11 rfl
theorem dX6_init_216 : decode cX6_init 216 = .ok (.castore, 1) := dcO tk_X6_init_3 12 rfl
theorem dX6_init_217 : decode cX6_init 217 = .ok (.dup, 1) := dcO tk_X6_init_3 13 rfl
theorem dX6_init_218 : decode cX6_init 218 = .ok (.bipush 23, 2) := dcO tk_X6_init_3 14 rfl
theorem dX6_init_220 : decode cX6_init 220 = .ok (.bipush 32, 2) := dcO tk_X6_init_3 15 rfl
theorem dX6_init_222 : decode cX6_init 222 = .ok (.castore, 1) := dcO tk_X6_init_3 16 rfl
theorem dX6_init_223 : decode cX6_init 223 = .ok (.dup, 1) := dcO tk_X6_init_3 17 rfl
theorem dX6_init_224 : decode cX6_init 224 = .ok (.bipush 24, 2) := dcO tk_X6_init_3 18 rfl
theorem dX6_init_226 : decode cX6_init 226 = .ok (.bipush 115, 2) := dcO tk_X6_init_3 19 rfl
theorem dX6_init_228 : decode cX6_init 228 = .ok (.castore, 1) := dcO tk_X6_init_3 20 rfl
theorem dX6_init_229 : decode cX6_init 229 = .ok (.dup, 1) := dcO tk_X6_init_3 21 rfl
theorem dX6_init_230 : decode cX6_init 230 = .ok (.bipush 25, 2) := dcO tk_X6_init_3 22 rfl
theorem dX6_init_232 : decode cX6_init 232 = .ok (.bipush 108, 2) := dcO tk_X6_init_3 23 rfl
theorem dX6_init_234 : decode cX6_init 234 = .ok (.castore, 1) := dcO tk_X6_init_3 24 rfl
theorem dX6_init_235 : decode cX6_init 235 = .ok (.dup, 1) := dcO tk_X6_init_3 25 rfl
theorem dX6_init_236 : decode cX6_init 236 = .ok (.bipush 26, 2) := dcO tk_X6_init_3 26 rfl
theorem dX6_init_238 : decode cX6_init 238 = .ok (.bipush 101, 2) := dcO tk_X6_init_3 27 rfl
theorem dX6_init_240 : decode cX6_init 240 = .ok (.castore, 1) := dcO tk_X6_init_3 28 rfl
theorem dX6_init_241 : decode cX6_init 241 = .ok (.dup, 1) := dcO tk_X6_init_3 29 rfl
theorem dX6_init_242 : decode cX6_init 242 = .ok (.bipush 27, 2) := dcO tk_X6_init_3 30 rfl
theorem dX6_init_244 : decode cX6_init 244 = .ok (.bipush 101, 2) := dcO tk_X6_init_3 31 rfl
theorem dX6_init_246 : decode cX6_init 246 = .ok (.castore, 1) := dcO tk_X6_init_3 32 rfl
theorem dX6_init_247 : decode cX6_init 247 = .ok (.dup, 1) := dcO tk_X6_init_3 33 rfl
theorem dX6_init_248 : decode cX6_init 248 = .ok (.bipush 28, 2) := dcO tk_X6_init_3 34 rfl
theorem dX6_init_250 : decode cX6_init 250 = .ok (.bipush 112, 2) := dcO tk_X6_init_3 35 rfl
theorem dX6_init_252 : decode cX6_init 252 = .ok (.castore, 1) := dcO tk_X6_init_3 36 rfl
theorem dX6_init_253 : decode cX6_init 253 = .ok (.dup, 1) := dcO tk_X6_init_3 37 rfl
theorem dX6_init_254 : decode cX6_init 254 = .ok (.bipush 29, 2) := dcO tk_X6_init_3 38 rfl
theorem dX6_init_256 : decode cX6_init 256 = .ok (.bipush 121, 2) := dcO tk_X6_init_3 39 rfl
abbrev tb_X6_init_4 : List (Nat × Instr × Nat) := [(258, .castore, 1), (259, .dup, 1), (260, .bipush 30, 2), (262, .bipush 32, 2), (264, .castore, 1), (265, .dup, 1), (266, .bipush 31, 2), (268, .bipush 32, 2), (270, .castore, 1), (271, .dup, 1), (272, .bipush 32, 2), (274, .bipush 101, 2), (276, .castore, 1), (277, .dup, 1), (278, .bipush 33, 2), (280, .bipush 108, 2), (282, .castore, 1), (283, .dup, 1), (284, .bipush 34, 2), (286, .bipush 100, 2), (288, .castore, 1), (289, .dup, 1), (290, .bipush 35, 2), (292, .bipush 101, 2), (294, .castore, 1), (295, .dup, 1), (296, .bipush 36, 2), (298, .bipush 114, 2), (300, .castore, 1), (301, .dup, 1), (302, .bipush 37, 2), (304, .bipush 32, 2), (306, .castore, 1), (307, .dup, 1), (308, .bipush 38, 2), (310, .bipush 32, 2), (312, .castore, 1), (313, .dup, 1), (314, .bipush 39, 2), (316, .bipush 32, 2)]
theorem tk_X6_init_4 : dcA cX6_init tb_X6_init_4 = true := by decide +kernel
theorem dX6_init_258 : decode cX6_init 258 = .ok (.castore, 1) := dcO tk_X6_init_4 0 rfl
theorem dX6_init_259 : decode cX6_init 259 = .ok (.dup, 1) := dcO tk_X6_init_4 1 rfl
theorem dX6_init_260 : decode cX6_init 260 = .ok (.bipush 30, 2) := dcO tk_X6_init_4 2 rfl
theorem dX6_init_262 : decode cX6_init 262 = .ok (.bipush 32, 2) := dcO tk_X6_init_4 3 rfl
theorem dX6_init_264 : decode cX6_init 264 = .ok (.castore, 1) := dcO tk_X6_init_4 4 rfl
theorem dX6_init_265 : decode cX6_init 265 = .ok (.dup, 1) := dcO tk_X6_init_4 5 rfl
theorem dX6_init_266 : decode cX6_init 266 = .ok (.bipush 31, 2) := dcO tk_X6_init_4 6 rfl
theorem dX6_init_268 : decode cX6_init 268 = .ok (.bipush 32, 2) := dcO tk_X6_init_4 7 rfl
theorem dX6_init_270 : decode cX6_init 270 = .ok (.castore, 1) := dcO tk_X6_init_4 8 rfl
theorem dX6_init_271 : decode cX6_init 271 = .ok (.dup, 1) := dcO tk_X6_init_4 9 rfl
theorem dX6_init_272 : decode cX6_init 272 = .ok (.bipush 32, 2) := dcO tk_X6_init_4 10 rfl
theorem dX6_init_274 : decode cX6_init 274 = .ok (.bipush 101, 2) := dcO tk_X6_init_4 11 rfl
theorem dX6_init_276 : decode cX6_init 276 = .ok (.castore, 1) := dcO tk_X6_init_4 12 rfl
theorem dX6_init_277 : decode cX6_init 277 = .ok (.dup, 1) := dcO tk_X6_init_4 13 rfl
theorem dX6_init_278 : decode cX6_init 278 = .ok (.bipush 33, 2) := dcO tk_X6_init_4 14 rfl
theorem dX6_init_280 : decode cX6_init 280 = .ok (.bipush 108, 2) := dcO tk_X6_init_4 15 rfl
theorem dX6_init_282 : decode cX6_init 282 = .ok (.castore, 1) := dcO tk_X6_init_4 16 rfl
theorem dX6_init_283 : decode cX6_init 283 = .ok (.dup, 1) := dcO tk_X6_init_4 17 rfl
theorem dX6_init_284 : decode cX6_init 284 = .ok (.bipush 34, 2) := dcO tk_X6_init_4 18 rfl
theorem dX6_init_286 : decode cX6_init 286 = .ok (.bipush 100, 2) := dcO tk_X6_init_4 19 rfl
theorem dX6_init_288 : decode cX6_init 288 = .ok (.castore, 1) := dcO tk_X6_init_4 20 rfl
theorem dX6_init_289 : decode cX6_init 289 = .ok (.dup, 1) := dcO tk_X6_init_4 21 rfl
theorem dX6_init_290 : decode cX6_init 290 = .ok (.bipush 35, 2) := dcO tk_X6_init_4 22 rfl
theorem dX6_init_292 : decode cX6_init 292 = .ok (.bipush 101, 2) := dcO tk_X6_init_4 23 rfl
theorem dX6_init_294 : decode cX6_init 294 = .ok (.castore, 1) := dcO tk_X6_init_4 24 rfl
theorem dX6_init_295 : decode cX6_init 295 = .ok (.dup, 1) := dcO tk_X6_init_4 25 rfl
theorem dX6_init_296 : decode cX6_init 296 = .ok (.bipush 36, 2) := dcO tk_X6_init_4 26 rfl
theorem dX6_init_298 : decode cX6_init 298 = .ok (.bipush 114, 2) := dcO tk_X6_init_4 27 rfl
theorem dX6_init_300 : decode cX6_init 300 = .ok (.castore, 1) := dcO tk_X6_init_4 28 rfl
theorem dX6_init_301 : decode cX6_init 301 = .ok (.dup, 1) := dcO tk_X6_init_4 29 rfl
theorem dX6_init_302 : decode cX6_init 302 = .ok (.bipush 37, 2) := dcO tk_X6_init_4 30 rfl
theorem dX6_init_304 : decode cX6_init 304 = .ok (.bipush 32, 2) := dcO tk_X6_init_4 31 rfl
theorem dX6_init_306 : decode cX6_init 306 = .ok (.castore, 1) := dcO tk_X6_init_4 32 rfl
theorem dX6_init_307 : decode cX6_init 307 = .ok (.dup, 1) := dcO tk_X6_init_4 33 rfl
theorem dX6_init_308 : decode cX6_init 308 = .ok (.bipush 38, 2) := dcO tk_X6_init_4 34 rfl
theorem dX6_init_310 : decode cX6_init 310 = .ok (.bipush 32, 2) := dcO tk_X6_init_4 35 rfl
theorem dX6_init_312 : decode cX6_init 312 = .ok (.castore, 1) := dcO tk_X6_init_4 36 rfl
theorem dX6_init_313 : decode cX6_init 313 = .ok (.dup, 1) := dcO tk_X6_init_4 37 rfl
theorem dX6_init_314 : decode cX6_init 314 = .ok (.bipush 39, 2) := dcO tk_X6_init_4 38 rfl
theorem dX6_init_316 : decode cX6_init 316 = .ok (.bipush 32, 2) := dcO tk_X6_init_4 39 rfl
abbrev tb_X6_init_5 : List (Nat × Instr × Nat) := [(318, .castore, 1), (319, .dup, 1), (320, .bipush 40, 2), (322, .bipush 98, 2), (324, .castore, 1), (325, .dup, 1), (326, .bipush 41, 2), (328, .bipush 111, 2), (330, .castore, 1), (331, .dup, 1), (332, .bipush 42, 2), (334, .bipush 114, 2), (336, .castore, 1), (337, .dup, 1), (338, .bipush 43, 2), (340, .bipush 110, 2), (342, .castore, 1), (343, .dup, 1), (344, .bipush 44, 2), (346, .bipush 101, 2), (348, .castore, 1), (349, .dup, 1), (350, .bipush 45, 2), (352, .bipush 32, 2), (354, .castore, 1), (355, .dup, 1), (356, .bipush 46, 2), (358, .bipush 32, 2), (360, .castore, 1), (361, .dup, 1), (362, .bipush 47, 2), (364, .bipush 32, 2), (366, .castore, 1), (367, .dup, 1), (368, .bipush 48, 2), (370, .bipush 103, 2), (372, .castore, 1), (373, .dup, 1), (374, .bipush 49, 2), (376, .bipush 108, 2)]
theorem tk_X6_init_5 : dcA cX6_init tb_X6_init_5 = true := by decide +kernel
theorem dX6_init_318 : decode cX6_init 318 = .ok (.castore, 1) := dcO tk_X6_init_5 0 rfl
theorem dX6_init_319 : decode cX6_init 319 = .ok (.dup, 1) := dcO tk_X6_init_5 1 rfl
theorem dX6_init_320 : decode cX6_init 320 = .ok (.bipush 40, 2) := dcO tk_X6_init_5 2 rfl
theorem dX6_init_322 : decode cX6_init 322 = .ok (.bipush 98, 2) := dcO tk_X6_init_5 3 rfl
theorem dX6_init_324 : decode cX6_init 324 = .ok (.castore, 1) := dcO tk_X6_init_5 4 rfl
theorem dX6_init_325 : decode cX6_init 325 = .ok (.dup, 1) := dcO tk_X6_init_5 5 rfl
theorem dX6_init_326 : decode cX6_init 326 = .ok (.bipush 41, 2) := dcO tk_X6_init_5 6 rfl
theorem dX6_init_328 : decode cX6_init 328 = .ok (.bipush 111, 2) := dcO tk_X6_init_5 7 rfl
theorem dX6_init_330 : decode cX6_init 330 = .ok (.castore, 1) := dcO tk_X6_init_5 8 rfl
theorem dX6_init_331 : decode cX6_init 331 = .ok (.dup, 1) := dcO tk_X6_init_5 9 rfl
theorem dX6_init_332 : decode cX6_init 332 = .ok (.bipush 42, 2) := dcO tk_X6_init_5 10 rfl
theorem dX6_init_334 : decode cX6_init 334 = .ok (.bipush 114, 2) := dcO tk_X6_init_5 11 rfl
theorem dX6_init_336 : decode cX6_init 336 = .ok (.castore, 1) := dcO tk_X6_init_5 12 rfl
theorem dX6_init_337 : decode cX6_init 337 = .ok (.dup, 1) := dcO tk_X6_init_5 13 rfl
theorem dX6_init_338 : decode cX6_init 338 = .ok (.bipush 43, 2) := dcO tk_X6_init_5 14 rfl
theorem dX6_init_340 : decode cX6_init 340 = .ok (.bipush 110, 2) := dcO tk_X6_init_5 15 rfl
theorem dX6_init_342 : decode cX6_init 342 = .ok (.castore, 1) := dcO tk_X6_init_5 16 rfl
theorem dX6_init_343 : decode cX6_init 343 = .ok (.dup, 1) := dcO tk_X6_init_5 17 rfl
theorem dX6_init_344 : decode cX6_init 344 = .ok (.bipush 44, 2) := dcO tk_X6_init_5 18 rfl
theorem dX6_init_346 : decode cX6_init 346 = .ok (.bipush 101, 2) := dcO tk_X6_init_5 19 rfl
theorem dX6_init_348 : decode cX6_init 348 = .ok (.castore, 1) := dcO tk_X6_init_5 20 rfl
theorem dX6_init_349 : decode cX6_init 349 = .ok (.dup, 1) := dcO tk_X6_init_5 21 rfl
theorem dX6_init_350 : decode cX6_init 350 = .ok (.bipush 45, 2) := dcO tk_X6_init_5 22 rfl
theorem dX6_init_352 : decode cX6_init 352 = .ok (.bipush 32, 2) := dcO tk_X6_init_5 23 rfl
theorem dX6_init_354 : decode cX6_init 354 = .ok (.castore, 1) := dcO tk_X6_init_5 24 rfl
theorem dX6_init_355 : decode cX6_init 355 = .ok (.dup, 1) := dcO tk_X6_init_5 25 rfl
theorem dX6_init_356 : decode cX6_init 356 = .ok (.bipush 46, 2) := dcO tk_X6_init_5 26 rfl
theorem dX6_init_358 : decode cX6_init 358 = .ok (.bipush 32, 2) := dcO tk_X6_init_5 27 rfl
theorem dX6_init_360 : decode cX6_init 360 = .ok (.castore, 1) := dcO tk_X6_init_5 28 rfl
theorem dX6_init_361 : decode cX6_init 361 = .ok (.dup, 1) := dcO tk_X6_init_5 29 rfl
theorem dX6_init_362 : decode cX6_init 362 = .ok (.bipush 47, 2) := dcO tk_X6_init_5 30 rfl
theorem dX6_init_364 : decode cX6_init 364 = .ok (.bipush 32, 2) := dcO tk_X6_init_5 31 rfl
theorem dX6_init_366 : decode cX6_init 366 = .ok (.castore, 1) := dcO tk_X6_init_5 32 rfl
theorem dX6_init_367 : decode cX6_init 367 = .ok (.dup, 1) := dcO tk_X6_init_5 33 rfl
theorem dX6_init_368 : decode cX6_init 368 = .ok (.bipush 48, 2) := dcO tk_X6_init_5 34 rfl
theorem dX6_init_370 : decode cX6_init 370 = .ok (.bipush 103, 2) := dcO tk_X6_init_5 35 rfl
theorem dX6_init_372 : decode cX6_init 372 = .ok (.castore, 1) := dcO tk_X6_init_5 36 rfl
theorem dX6_init_373 : decode cX6_init 373 = .ok (.dup, 1) := dcO tk_X6_init_5 37 rfl
theorem dX6_init_374 : decode cX6_init 374 = .ok (.bipush 49, 2) := dcO tk_X6_init_5 38 rfl
theorem dX6_init_376 : decode cX6_init 376 = .ok (.bipush 108, 2) := dcO tk_X6_init_5 39 rfl
abbrev tb_X6_init_6 : List (Nat × Instr × Nat) := [(378, .castore, 1), (379, .dup, 1), (380, .bipush 50, 2), (382, .bipush 117, 2), (384, .castore, 1), (385, .dup, 1), (386, .bipush 51, 2), (388, .bipush 116, 2), (390, .castore, 1), (391, .dup, 1), (392, .bipush 52, 2), (394, .bipush 116, 2), (396, .castore, 1), (397, .dup, 1), (398, .bipush 53, 2), (400, .bipush 111, 2), (402, .castore, 1), (403, .dup, 1), (404, .bipush 54, 2), (406, .bipush 110, 2), (408, .castore, 1), (409, .dup, 1), (410, .bipush 55, 2), (412, .bipush 32, 2), (414, .castore, 1), (415, .putfield 38, 3), (418, .aload_n 0, 1), (419, .bipush 32, 2), (421, .newarray .char, 2), (423, .dup, 1), (424, .iconst 0, 1), (425, .bipush 97, 2), (427, .castore, 1), (428, .dup, 1), (429, .iconst 1, 1), (430, .bipush 116, 2), (432, .castore, 1), (433, .dup, 1), (434, .iconst 2, 1), (435, .bipush 32, 2)]
theorem tk_X6_init_6 : dcA cX6_init tb_X6_init_6 = true := by decide +kernel
theorem dX6_init_378 : decode cX6_init 378 = .ok (.castore, 1) := dcO tk_X6_init_6 0 rfl
theorem dX6_init_379 : decode cX6_init 379 = .ok (.dup, 1) := dcO tk_X6_init_6 1 rfl
theorem dX6_init_380 : decode cX6_init 380 = .ok (.bipush 50, 2) := dcO tk_X6_init_6 2 rfl
theorem dX6_init_382 : decode cX6_init 382 = .ok (.bipush 117, 2) := dcO tk_X6_init_6 3 rfl
theorem dX6_init_384 : decode cX6_init 384 = .ok (.castore, 1) := dcO tk_X6_init_6 4 rfl
theorem dX6_init_385 : decode cX6_init 385 = .ok (.dup, 1) := dcO tk_X6_init_6 5 rfl
theorem dX6_init_386 : decode cX6_init 386 = .ok (.bipush 51, 2) := dcO tk_X6_init_6 6 rfl
theorem dX6_init_388 : decode cX6_init 388 = .ok (.bipush 116, 2) := dcO tk_X6_init_6 7 rfl
theorem dX6_init_390 : decode cX6_init 390 = .ok (.castore, 1) := dcO tk_X6_init_6 8 rfl
theorem dX6_init_391 : decode cX6_init 391 = .ok (.dup, 1) := dcO tk_X6_init_6 9 rfl
theorem dX6_init_392 : decode cX6_init 392 = .ok (.bipush 52, 2) := dcO tk_X6_init_6 10 rfl
theorem dX6_init_394 : decode cX6_init 394 = .ok (.bipush 116, 2) := dcO tk_X6_init_6 11 rfl
theorem dX6_init_396 : decode cX6_init 396 = .ok (.castore, 1) := dcO tk_X6_init_6 12 rfl
theorem dX6_init_397 : decode cX6_init 397 = .ok (.dup, 1) := dcO tk_X6_init_6 13 rfl
theorem dX6_init_398 : decode cX6_init 398 = .ok (.bipush 53, 2) := dcO tk_X6_init_6 14 rfl
theorem dX6_init_400 : decode cX6_init 400 = .ok (.bipush 111, 2) := dcO tk_X6_init_6 15 rfl
theorem dX6_init_402 : decode cX6_init 402 = .ok (.castore, 1) := dcO tk_X6_init_6 16 rfl
theorem dX6_init_403 : decode cX6_init 403 = .ok (.dup, 1) := dcO tk_X6_init_6 17 rfl
theorem dX6_init_404 : decode cX6_init 404 = .ok (.bipush 54, 2) := dcO tk_X6_init_6 18 rfl
theorem dX6_init_406 : decode cX6_init 406 = .ok (.bipush 110, 2) := dcO tk_X6_init_6 19 rfl
theorem dX6_init_408 : decode cX6_init 408 = .ok (.castore, 1) := dcO tk_X6_init_6 20 rfl
theorem dX6_init_409 : decode cX6_init 409 = .ok (.dup, 1) := dcO tk_X6_init_6 21 rfl
theorem dX6_init_410 : decode cX6_init 410 = .ok (.bipush 55, 2) := dcO tk_X6_init_6 22 rfl
theorem dX6_init_412 : decode cX6_init 412 = .ok (.bipush 32, 2) := dcO tk_X6_init_6 23 rfl
theorem dX6_init_414 : decode cX6_init 414 = .ok (.castore, 1) := dcO tk_X6_init_6 24 rfl
theorem dX6_init_415 : decode cX6_init 415 = .ok (.putfield 38, 3) := dcO tk_X6_init_6 25 rfl
theorem dX6_init_418 : decode cX6_init 418 = .ok (.aload_n 0, 1) := dcO tk_X6_init_6 26 rfl
theorem dX6_init_419 : decode cX6_init 419 = .ok (.bipush 32, 2) := dcO tk_X6_init_6 27 rfl
theorem dX6_init_421 : decode cX6_init 421 = .ok (.newarray .char, 2) := dcO tk_X6_init_6 28 rfl
theorem dX6_init_423 : decode cX6_init 423 = .ok (.dup, 1) := dcO tk_X6_init_6 29 rfl
theorem dX6_init_424 : decode cX6_init 424 = .ok (.iconst 0, 1) := dcO tk_X6_init_6 30 rfl
theorem dX6_init_425 : decode cX6_init 425 = .ok (.bipush 97, 2) := dcO tk_X6_init_6 31 rfl
theorem dX6_init_427 : decode cX6_init 427 = .ok (.castore, 1) := dcO tk_X6_init_6 32 rfl
theorem dX6_init_428 : decode cX6_init 428 = .ok (.dup, 1) := dcO tk_X6_init_6 33 rfl
theorem dX6_init_429 : decode cX6_init 429 = .ok (.iconst 1, 1) := dcO tk_X6_init_6 34 rfl
theorem dX6_init_430 : decode cX6_init 430 = .ok (.bipush 116, 2) := dcO tk_X6_init_6 35 rfl
theorem dX6_init_432 : decode cX6_init 432 = .ok (.castore, 1) := dcO tk_X6_init_6 36 rfl
theorem dX6_init_433 : decode cX6_init 433 = .ok (.dup, 1) := dcO tk_X6_init_6 37 rfl
theorem dX6_init_434 : decode cX6_init 434 = .ok (.iconst 2, 1) := dcO tk_X6_init_6 38 rfl
theorem dX6_init_435 : decode cX6_init 435 = .ok (.bipush 32, 2) := dcO tk_X6_init_6 39 rfl
abbrev tb_X6_init_7 : List (Nat × Instr × Nat) := [(437, .castore, 1), (438, .dup, 1), (439, .iconst 3, 1), (440, .bipush 32, 2), (442, .castore, 1), (443, .dup, 1), (444, .iconst 4, 1), (445, .bipush 32, 2), (447, .castore, 1), (448, .dup, 1), (449, .iconst 5, 1), (450, .bipush 32, 2), (452, .castore, 1), (453, .dup, 1), (454, .bipush 6, 2), (456, .bipush 32, 2), (458, .castore, 1), (459, .dup, 1), (460, .bipush 7, 2), (462, .bipush 32, 2), (464, .castore, 1), (465, .dup, 1), (466, .bipush 8, 2), (468, .bipush 108, 2), (470, .castore, 1), (471, .dup, 1), (472, .bipush 9, 2), (474, .bipush 97, 2), (476, .castore, 1), (477, .dup, 1), (478, .bipush 10, 2), (480, .bipush 119, 2), (482, .castore, 1), (483, .dup, 1), (484, .bipush 11, 2), (486, .bipush 32, 2), (488, .castore, 1), (489, .dup, 1), (490, .bipush 12, 2), (492, .bipush 32, 2)]
theorem tk_X6_init_7 : dcA cX6_init tb_X6_init_7 = true := by decide +kernel
theorem dX6_init_437 : decode cX6_init 437 = .ok (.castore, 1) := dcO tk_X6_init_7 0 rfl
theorem dX6_init_438 : decode cX6_init 438 = .ok (.dup, 1) := dcO tk_X6_init_7 1 rfl
theorem dX6_init_439 : decode cX6_init 439 = .ok (.iconst 3, 1) := dcO tk_X6_init_7 2 rfl
theorem dX6_init_440 : decode cX6_init 440 = .ok (.bipush 32, 2) := dcO tk_X6_init_7 3 rfl
theorem dX6_init_442 : decode cX6_init 442 = .ok (.castore, 1) := dcO tk_X6_init_7 4 rfl
theorem dX6_init_443 : decode cX6_init 443 = .ok (.dup, 1) := dcO tk_X6_init_7 5 rfl
theorem dX6_init_444 : decode cX6_init 444 = .ok (.iconst 4, 1) := dcO tk_X6_init_7 6 rfl
theorem dX6_init_445 : decode cX6_init 445 = .ok (.bipush 32, 2) := dcO tk_X6_init_7 7 rfl
theorem dX6_init_447 : decode cX6_init 447 = .ok (.castore, 1) := dcO tk_X6_init_7 8 rfl
theorem dX6_init_448 : decode cX6_init 448 = .ok (.dup, 1) := dcO tk_X6_init_7 9 rfl
theorem dX6_init_449 : decode cX6_init 449 = .ok (.iconst 5, 1) := dcO tk_X6_init_7 10 rfl
theorem dX6_init_450 : decode cX6_init 450 = .ok (.bipush 32, 2) := dcO tk_X6_init_7 11 rfl
theorem dX6_init_452 : decode cX6_init 452 = .ok (.castore, 1) := dcO tk_X6_init_7 12 rfl
theorem dX6_init_453 : decode cX6_init 453 = .ok (.dup, 1) := dcO tk_X6_init_7 13 rfl
theorem dX6_init_454 : decode cX6_init 454 = .ok (.bipush 6, 2) := dcO tk_X6_init_7 14 rfl
theorem dX6_init_456 : decode cX6_init 456 = .ok (.bipush 32, 2) := dcO tk_X6_init_7 15 rfl
theorem dX6_init_458 : decode cX6_init 458 = .ok (.castore, 1) := dcO tk_X6_init_7 16 rfl
theorem dX6_init_459 : decode cX6_init 459 = .ok (.dup, 1) := dcO tk_X6_init_7 17 rfl
theorem dX6_init_460 : decode cX6_init 460 = .ok (.bipush 7, 2) := dcO tk_X6_init_7 18 rfl
theorem dX6_init_462 : decode cX6_init 462 = .ok (.bipush 32, 2) := dcO tk_X6_init_7 19 rfl
theorem dX6_init_464 : decode cX6_init 464 = .ok (.castore, 1) := dcO tk_X6_init_7 20 rfl
theorem dX6_init_465 : decode cX6_init 465 = .ok (.dup, 1) := dcO tk_X6_init_7 21 rfl
theorem dX6_init_466 : decode cX6_init 466 = .ok (.bipush 8, 2) := dcO tk_X6_init_7 22 rfl
theorem dX6_init_468 : decode cX6_init 468 = .ok (.bipush 108, 2) := dcO tk_X6_init_7 23 rfl
theorem dX6_init_470 : decode cX6_init 470 = .ok (.castore, 1) := dcO tk_X6_init_7 24 rfl
theorem dX6_init_471 : decode cX6_init 471 = .ok (.dup, 1) := dcO tk_X6_init_7 25 rfl
theorem dX6_init_472 : decode cX6_init 472 = .ok (.bipush 9, 2) := dcO tk_X6_init_7 26 rfl
theorem dX6_init_474 : decode cX6_init 474 = .ok (.bipush 97, 2) := dcO tk_X6_init_7 27 rfl
theorem dX6_init_476 : decode cX6_init 476 = .ok (.castore, 1) := dcO tk_X6_init_7 28 rfl
theorem dX6_init_477 : decode cX6_init 477 = .ok (.dup, 1) := dcO tk_X6_init_7 29 rfl
theorem dX6_init_478 : decode cX6_init 478 = .ok (.bipush 10, 2) := dcO tk_X6_init_7 30 rfl
theorem dX6_init_480 : decode cX6_init 480 = .ok (.bipush 119, 2) := dcO tk_X6_init_7 31 rfl
theorem dX6_init_482 : decode cX6_init 482 = .ok (.castore, 1) := dcO tk_X6_init_7 32 rfl
theorem dX6_init_483 : decode cX6_init 483 = .ok (.dup, 1) := dcO tk_X6_init_7 33 rfl
theorem dX6_init_484 : decode cX6_init 484 = .ok (.bipush 11, 2) := dcO tk_X6_init_7 34 rfl
theorem dX6_init_486 : decode cX6_init 486 = .ok (.bipush 32, 2) := dcO tk_X6_init_7 35 rfl
theorem dX6_init_488 : decode cX6_init 488 = .ok (.castore, 1) := dcO tk_X6_init_7 36 rfl
theorem dX6_init_489 : decode cX6_init 489 = .ok (.dup, 1) := dcO tk_X6_init_7 37 rfl
theorem dX6_init_490 : decode cX6_init 490 = .ok (.bipush 12, 2) := dcO tk_X6_init_7 38 rfl
theorem dX6_init_492 : decode cX6_init 492 = .ok (.bipush 32, 2) := dcO tk_X6_init_7 39 rfl
abbrev tb_X6_init_8 : List (Nat × Instr × Nat) := [(494, .castore, 1), (495, .dup, 1), (496, .bipush 13, 2), (498, .bipush 32, 2), (500, .castore, 1), (501, .dup, 1), (502, .bipush 14, 2), (504, .bipush 32, 2), (506, .castore, 1), (507, .dup, 1), (508, .bipush 15, 2), (510, .bipush 32, 2), (512, .castore, 1), (513, .dup, 1), (514, .bipush 16, 2), (516, .bipush 103, 2), (518, .castore, 1), (519, .dup, 1), (520, .bipush 17, 2), (522, .bipush 97, 2), (524, .castore, 1), (525, .dup, 1), (526, .bipush 18, 2), (528, .bipush 116, 2), (530, .castore, 1), (531, .dup, 1), (532, .bipush 19, 2), (534, .bipush 101, 2), (536, .castore, 1), (537, .dup, 1), (538, .bipush 20, 2), (540, .bipush 32, 2), (542, .castore, 1), (543, .dup, 1), (544, .bipush 21, 2), (546, .bipush 32, 2), (548, .castore, 1), (549, .dup, 1), (550, .bipush 22, 2), (552, .bipush 32, 2)]
theorem tk_X6_init_8 : dcA cX6_init tb_X6_init_8 = true := by decide +kernel
theorem dX6_init_494 : decode cX6_init 494 = .ok (.castore, 1) := dcO tk_X6_init_8 0 rfl
theorem dX6_init_495 : decode cX6_init 495 = .ok (.dup, 1) := dcO tk_X6_init_8 1 rfl
theorem dX6_init_496 : decode cX6_init 496 = .ok (.bipush 13, 2) := dcO tk_X6_init_8 2 rfl
theorem dX6_init_498 : decode cX6_init 498 = .ok (.bipush 32, 2) := dcO tk_X6_init_8 3 rfl
theorem dX6_init_500 : decode cX6_init 500 = .ok (.castore, 1) := dcO tk_X6_init_8 4 rfl
theorem dX6_init_501 : decode cX6_init 501 = .ok (.dup, 1) := dcO tk_X6_init_8 5 rfl
theorem dX6_init_502 : decode cX6_init 502 = .ok (.bipush 14, 2) := dcO tk_X6_init_8 6 rfl
theorem dX6_init_504 : decode cX6_init 504 = .ok (.bipush 32, 2) := dcO tk_X6_init_8 7 rfl
theorem dX6_init_506 : decode cX6_init 506 = .ok (.castore, 1) := dcO tk_X6_init_8 8 rfl
theorem dX6_init_507 : decode cX6_init 507 = .ok (.dup, 1) := dcO tk_X6_init_8 9 rfl
theorem dX6_init_508 : decode cX6_init 508 = .ok (.bipush 15, 2) := dcO tk_X6_init_8 10 rfl
theorem dX6_init_510 : decode cX6_init 510 = .ok (.bipush 32, 2) := dcO tk_X6_init_8 11 rfl
theorem dX6_init_512 : decode cX6_init 512 = .ok (.castore, 1) := dcO tk_X6_init_8 12 rfl
theorem dX6_init_513 : decode cX6_init 513 = .ok (.dup, 1) := dcO tk_X6_init_8 13 rfl
theorem dX6_init_514 : decode cX6_init 514 = .ok (.bipush 16, 2) := dcO tk_X6_init_8 14 rfl
theorem dX6_init_516 : decode cX6_init 516 = .ok (.bipush 103, 2) := dcO tk_X6_init_8 15 rfl
theorem dX6_init_518 : decode cX6_init 518 = .ok (.castore, 1) := dcO tk_X6_init_8 16 rfl
theorem dX6_init_519 : decode cX6_init 519 = .ok (.dup, 1) := dcO tk_X6_init_8 17 rfl
theorem dX6_init_520 : decode cX6_init 520 = .ok (.bipush 17, 2) := dcO tk_X6_init_8 18 rfl
theorem dX6_init_522 : decode cX6_init 522 = .ok (.bipush 97, 2) := dcO tk_X6_init_8 19 rfl
theorem dX6_init_524 : decode cX6_init 524 = .ok (.castore, 1) := dcO tk_X6_init_8 20 rfl
theorem dX6_init_525 : decode cX6_init 525 = .ok (.dup, 1) := dcO tk_X6_init_8 21 rfl
theorem dX6_init_526 : decode cX6_init 526 = .ok (.bipush 18, 2) := dcO tk_X6_init_8 22 rfl
theorem dX6_init_528 : decode cX6_init 528 = .ok (.bipush 116, 2) := dcO tk_X6_init_8 23 rfl
theorem dX6_init_530 : decode cX6_init 530 = .ok (.castore, 1) := dcO tk_X6_init_8 24 rfl
theorem dX6_init_531 : decode cX6_init 531 = .ok (.dup, 1) := dcO tk_X6_init_8 25 rfl
theorem dX6_init_532 : decode cX6_init 532 = .ok (.bipush 19, 2) := dcO tk_X6_init_8 26 rfl
theorem dX6_init_534 : decode cX6_init 534 = .ok (.bipush 101, 2) := dcO tk_X6_init_8 27 rfl
theorem dX6_init_536 : decode cX6_init 536 = .ok (.castore, 1) := dcO tk_X6_init_8 28 rfl
theorem dX6_init_537 : decode cX6_init 537 = .ok (.dup, 1) := dcO tk_X6_init_8 29 rfl
theorem dX6_init_538 : decode cX6_init 538 = .ok (.bipush 20, 2) := dcO tk_X6_init_8 30 rfl
theorem dX6_init_540 : decode cX6_init 540 = .ok (.bipush 32, 2) := dcO tk_X6_init_8 31 rfl
theorem dX6_init_542 : decode cX6_init 542 = .ok (.castore, 1) := dcO tk_X6_init_8 32 rfl
theorem dX6_init_543 : decode cX6_init 543 = .ok (.dup, 1) := dcO tk_X6_init_8 33 rfl
theorem dX6_init_544 : decode cX6_init 544 = .ok (.bipush 21, 2) := dcO tk_X6_init_8 34 rfl
theorem dX6_init_546 : decode cX6_init 546 = .ok (.bipush 32, 2) := dcO tk_X6_init_8 35 rfl
theorem dX6_init_548 : decode cX6_init 548 = .ok (.castore, 1) := dcO tk_X6_init_8 36 rfl
theorem dX6_init_549 : decode cX6_init 549 = .ok (.dup, 1) := dcO tk_X6_init_8 37 rfl
theorem dX6_init_550 : decode cX6_init 550 = .ok (.bipush 22, 2) := dcO tk_X6_init_8 38 rfl
theorem dX6_init_552 : decode cX6_init 552 = .ok (.bipush 32, 2) := dcO tk_X6_init_8 39 rfl
abbrev tb_X6_init_9 : List (Nat × Instr × Nat) := [(554, .castore, 1), (555, .dup, 1), (556, .bipush 23, 2), (558, .bipush 32, 2), (560, .castore, 1), (561, .dup, 1), (562, .bipush 24, 2), (564, .bipush 112, 2), (566, .castore, 1), (567, .dup, 1), (568, .bipush 25, 2), (570, .bipush 114, 2), (572, .castore, 1), (573, .dup, 1), (574, .bipush 26, 2), (576, .bipush 105, 2), (578, .castore, 1), (579, .dup, 1), (580, .bipush 27, 2), (582, .bipush 99, 2), (584, .castore, 1), (585, .dup, 1), (586, .bipush 28, 2), (588, .bipush 101, 2), (590, .castore, 1), (591, .dup, 1), (592, .bipush 29, 2), (594, .bipush 32, 2), (596, .castore, 1), (597, .dup, 1), (598, .bipush 30, 2), (600, .bipush 32, 2), (602, .castore, 1), (603, .dup, 1), (604, .bipush 31, 2), (606, .bipush 32, 2), (608, .castore, 1), (609, .putfield 42, 3), (612, .aload_n 0, 1), (613, .bipush 40, 2)]
theorem tk_X6_init_9 : dcA cX6_init tb_X6_init_9 = true := by decide +kernel
theorem dX6_init_554 : decode cX6_init 554 = .ok (.castore, 1) := dcO tk_X6_init_9 0 rfl
theorem dX6_init_555 : decode cX6_init 555 = .ok (.dup, 1) := dcO tk_X6_init_9 1 rfl
theorem dX6_init_556 : decode cX6_init 556 = .ok (.bipush 23, 2) := dcO tk_X6_init_9 2 rfl
theorem dX6_init_558 : decode cX6_init 558 = .ok (.bipush 32, 2) := dcO tk_X6_init_9 3 rfl
theorem dX6_init_560 : decode cX6_init 560 = .ok (.castore, 1) := dcO tk_X6_init_9 4 rfl
theorem dX6_init_561 : decode cX6_init 561 = .ok (.dup, 1) := dcO tk_X6_init_9 5 rfl
theorem dX6_init_562 : decode cX6_init 562 = .ok (.bipush 24, 2) := dcO tk_X6_init_9 6 rfl
theorem dX6_init_564 : decode cX6_init 564 = .ok (.bipush 112, 2) := dcO tk_X6_init_9 7 rfl
theorem dX6_init_566 : decode cX6_init 566 = .ok (.castore, 1) := dcO tk_X6_init_9 8 rfl
theorem dX6_init_567 : decode cX6_init 567 = .ok (.dup, 1) := dcO tk_X6_init_9 9 rfl
theorem dX6_init_568 : decode cX6_init 568 = .ok (.bipush 25, 2) := dcO tk_X6_init_9 10 rfl
theorem dX6_init_570 : decode cX6_init 570 = .ok (.bipush 114, 2) := dcO tk_X6_init_9 11 rfl
theorem dX6_init_572 : decode cX6_init 572 = .ok (.castore, 1) := dcO tk_X6_init_9 12 rfl
theorem dX6_init_573 : decode cX6_init 573 = .ok (.dup, 1) := dcO tk_X6_init_9 13 rfl
theorem dX6_init_574 : decode cX6_init 574 = .ok (.bipush 26, 2) := dcO tk_X6_init_9 14 rfl
theorem dX6_init_576 : decode cX6_init 576 = .ok (.bipush 105, 2) := dcO tk_X6_init_9 15 rfl
theorem dX6_init_578 : decode cX6_init 578 = .ok (.castore, 1) := dcO tk_X6_init_9 16 rfl
theorem dX6_init_579 : decode cX6_init 579 = .ok (.dup, 1) := dcO tk_X6_init_9 17 rfl
theorem dX6_init_580 : decode cX6_init 580 = .ok (.bipush 27, 2) := dcO tk_X6_init_9 18 rfl
theorem dX6_init_582 : decode cX6_init 582 = .ok (.bipush 99, 2) := dcO tk_X6_init_9 19 rfl
theorem dX6_init_584 : decode cX6_init 584 = .ok (.castore, 1) := dcO tk_X6_init_9 20 rfl
theorem dX6_init_585 : decode cX6_init 585 = .ok (.dup, 1) := dcO tk_X6_init_9 21 rfl
theorem dX6_init_586 : decode cX6_init 586 = .ok (.bipush 28, 2) := dcO tk_X6_init_9 22 rfl
theorem dX6_init_588 : decode cX6_init 588 = .ok (.bipush 101, 2) := dcO tk_X6_init_9 23 rfl
theorem dX6_init_590 : decode cX6_init 590 = .ok (.castore, 1) := dcO tk_X6_init_9 24 rfl
theorem dX6_init_591 : decode cX6_init 591 = .ok (.dup, 1) := dcO tk_X6_init_9 25 rfl
theorem dX6_init_592 : decode cX6_init 592 = .ok (.bipush 29, 2) := dcO tk_X6_init_9 26 rfl
theorem dX6_init_594 : decode cX6_init 594 = .ok (.bipush 32, 2) := dcO tk_X6_init_9 27 rfl
theorem dX6_init_596 : decode cX6_init 596 = .ok (.castore, 1) := dcO tk_X6_init_9 28 rfl
theorem dX6_init_597 : decode cX6_init 597 = .ok (.dup, 1) := dcO tk_X6_init_9 29 rfl
theorem dX6_init_598 : decode cX6_init 598 = .ok (.bipush 30, 2) := dcO tk_X6_init_9 30 rfl
theorem dX6_init_600 : decode cX6_init 600 = .ok (.bipush 32, 2) := dcO tk_X6_init_9 31 rfl
theorem dX6_init_602 : decode cX6_init 602 = .ok (.castore, 1) := dcO tk_X6_init_9 32 rfl
theorem dX6_init_603 : decode cX6_init 603 = .ok (.dup, 1) := dcO tk_X6_init_9 33 rfl
theorem dX6_init_604 : decode cX6_init 604 = .ok (.bipush 31, 2) := dcO tk_X6_init_9 34 rfl
theorem dX6_init_606 : decode cX6_init 606 = .ok (.bipush 32, 2) := dcO tk_X6_init_9 35 rfl
theorem dX6_init_608 : decode cX6_init 608 = .ok (.castore, 1) := dcO tk_X6_init_9 36 rfl
theorem dX6_init_609 : decode cX6_init 609 = .ok (.putfield 42, 3) := dcO tk_X6_init_9 37 rfl
theorem dX6_init_612 : decode cX6_init 612 = .ok (.aload_n 0, 1) := dcO tk_X6_init_9 38 rfl
theorem dX6_init_613 : decode cX6_init 613 = .ok (.bipush 40, 2) := dcO tk_X6_init_9 39 rfl
abbrev tb_X6_init_10 : List (Nat × Instr × Nat) := [(615, .newarray .char, 2), (617, .dup, 1), (618, .iconst 0, 1), (619, .bipush 104, 2), (621, .castore, 1), (622, .dup, 1), (623, .iconst 1, 1), (624, .bipush 101, 2), (626, .castore, 1), (627, .dup, 1), (628, .iconst 2, 1), (629, .bipush 100, 2), (631, .castore, 1), (632, .dup, 1), (633, .iconst 3, 1), (634, .bipush 103, 2), (636, .castore, 1), (637, .dup, 1), (638, .iconst 4, 1), (639, .bipush 101, 2), (641, .castore, 1), (642, .dup, 1), (643, .iconst 5, 1), (644, .bipush 32, 2), (646, .castore, 1), (647, .dup, 1), (648, .bipush 6, 2), (650, .bipush 32, 2), (652, .castore, 1), (653, .dup, 1), (654, .bipush 7, 2), (656, .bipush 32, 2), (658, .castore, 1), (659, .dup, 1), (660, .bipush 8, 2), (662, .bipush 103, 2), (664, .castore, 1), (665, .dup, 1), (666, .bipush 9, 2), (668, .bipush 114, 2)]
theorem tk_X6_init_10 : dcA cX6_init tb_X6_init_10 = true := by decide +kernel
theorem dX6_init_615 : decode cX6_init 615 = .ok (.newarray .char, 2) := dcO tk_X6_init_10 0 rfl
theorem dX6_init_617 : decode cX6_init 617 = .ok (.dup, 1) := dcO tk_X6_init_10 1 rfl
theorem dX6_init_618 : decode cX6_init 618 = .ok (.iconst 0, 1) := dcO tk_X6_init_10 2 rfl
theorem dX6_init_619 : decode cX6_init 619 = .ok (.bipush 104, 2) := dcO tk_X6_init_10 3 rfl
theorem dX6_init_621 : decode cX6_init 621 = .ok (.castore, 1) := dcO tk_X6_init_10 4 rfl
theorem dX6_init_622 : decode cX6_init 622 = .ok (.dup, 1) := dcO tk_X6_init_10 5 rfl
theorem dX6_init_623 : decode cX6_init 623 = .ok (.iconst 1, 1) := dcO tk_X6_init_10 6 rfl
theorem dX6_init_624 : decode cX6_init 624 = .ok (.bipush 101, 2) := dcO tk_X6_init_10 7 rfl
theorem dX6_init_626 : decode cX6_init 626 = .ok (.castore, 1) := dcO tk_X6_init_10 8 rfl
theorem dX6_init_627 : decode cX6_init 627 = .ok (.dup, 1) := dcO tk_X6_init_10 9 rfl
theorem dX6_init_628 : decode cX6_init 628 = .ok (.iconst 2, 1) := dcO tk_X6_init_10 10 rfl
theorem dX6_init_629 : decode cX6_init 629 = .ok (.bipush 100, 2) := dcO tk_X6_init_10 11 rfl
theorem dX6_init_631 : decode cX6_init 631 = .ok (.castore, 1) := dcO tk_X6_init_10 12 rfl
theorem dX6_init_632 : decode cX6_init 632 = .ok (.dup, 1) := dcO tk_X6_init_10 13 rfl
theorem dX6_init_633 : decode cX6_init 633 = .ok (.iconst 3, 1) := dcO tk_X6_init_10 14 rfl
theorem dX6_init_634 : decode cX6_init 634 = .ok (.bipush 103, 2) := dcO tk_X6_init_10 15 rfl
theorem dX6_init_636 : decode cX6_init 636 = .ok (.castore, 1) := dcO tk_X6_init_10 16 rfl
theorem dX6_init_637 : decode cX6_init 637 = .ok (.dup, 1) := dcO tk_X6_init_10 17 rfl
theorem dX6_init_638 : decode cX6_init 638 = .ok (.iconst 4, 1) := dcO tk_X6_init_10 18 rfl
theorem dX6_init_639 : decode cX6_init 639 = .ok (.bipush 101, 2) := dcO tk_X6_init_10 19 rfl
theorem dX6_init_641 : decode cX6_init 641 = .ok (.castore, 1) := dcO tk_X6_init_10 20 rfl
theorem dX6_init_642 : decode cX6_init 642 = .ok (.dup, 1) := dcO tk_X6_init_10 21 rfl
theorem dX6_init_643 : decode cX6_init 643 = .ok (.iconst 5, 1) := dcO tk_X6_init_10 22 rfl
theorem dX6_init_644 : decode cX6_init 644 = .ok (.bipush 32, 2) := dcO tk_X6_init_10 23 rfl
theorem dX6_init_646 : decode cX6_init 646 = .ok (.castore, 1) := dcO tk_X6_init_10 24 rfl
theorem dX6_init_647 : decode cX6_init 647 = .ok (.dup, 1) := dcO tk_X6_init_10 25 rfl
theorem dX6_init_648 : decode cX6_init 648 = .ok (.bipush 6, 2) := dcO tk_X6_init_10 26 rfl
theorem dX6_init_650 : decode cX6_init 650 = .ok (.bipush 32, 2) := dcO tk_X6_init_10 27 rfl
theorem dX6_init_652 : decode cX6_init 652 = .ok (.castore, 1) := dcO tk_X6_init_10 28 rfl
theorem dX6_init_653 : decode cX6_init 653 = .ok (.dup, 1) := dcO tk_X6_init_10 29 rfl
theorem dX6_init_654 : decode cX6_init 654 = .ok (.bipush 7, 2) := dcO tk_X6_init_10 30 rfl
theorem dX6_init_656 : decode cX6_init 656 = .ok (.bipush 32, 2) := dcO tk_X6_init_10 31 rfl
theorem dX6_init_658 : decode cX6_init 658 = .ok (.castore, 1) := dcO tk_X6_init_10 32 rfl
theorem dX6_init_659 : decode cX6_init 659 = .ok (.dup, 1) := dcO tk_X6_init_10 33 rfl
theorem dX6_init_660 : decode cX6_init 660 = .ok (.bipush 8, 2) := dcO tk_X6_init_10 34 rfl
theorem dX6_init_662 : decode cX6_init 662 = .ok (.bipush 103, 2) := dcO tk_X6_init_10 35 rfl
theorem dX6_init_664 : decode cX6_init 664 = .ok (.castore, 1) := dcO tk_X6_init_10 36 rfl
theorem dX6_init_665 : decode cX6_init 665 = .ok (.dup, 1) := dcO tk_X6_init_10 37 rfl
theorem dX6_init_666 : decode cX6_init 666 = .ok (.bipush 9, 2) := dcO tk_X6_init_10 38 rfl
theorem dX6_init_668 : decode cX6_init 668 = .ok (.bipush 114, 2) := dcO tk_X6_init_10 39 rfl
abbrev tb_X6_init_11 : List (Nat × Instr × Nat) := [(670, .castore, 1), (671, .dup, 1), (672, .bipush 10, 2), (674, .bipush 101, 2), (676, .castore, 1), (677, .dup, 1), (678, .bipush 11, 2), (680, .bipush 101, 2), (682, .castore, 1), (683, .dup, 1), (684, .bipush 12, 2), (686, .bipush 110, 2), (688, .castore, 1), (689, .dup, 1), (690, .bipush 13, 2), (692, .bipush 115, 2), (694, .castore, 1), (695, .dup, 1), (696, .bipush 14, 2), (698, .bipush 32, 2), (700, .castore, 1), (701, .dup, 1), (702, .bipush 15, 2), (704, .bipush 32, 2), (706, .castore, 1), (707, .dup, 1), (708, .bipush 16, 2), (710, .bipush 98, 2), (712, .castore, 1), (713, .dup, 1), (714, .bipush 17, 2), (716, .bipush 97, 2), (718, .castore, 1), (719, .dup, 1), (720, .bipush 18, 2), (722, .bipush 110, 2), (724, .castore, 1), (725, .dup, 1), (726, .bipush 19, 2), (728, .bipush 115, 2)]
theorem tk_X6_init_11 : dcA cX6_init tb_X6_init_11 = true := by decide +kernel
theorem dX6_init_670 : decode cX6_init 670 = .ok (.castore, 1) := dcO tk_X6_init_11 0 rfl
theorem dX6_init_671 : decode cX6_init 671 = .ok (.dup, 1) := dcO tk_X6_init_11 1 rfl
theorem dX6_init_672 : decode cX6_init 672 = .ok (.bipush 10, 2) := dcO tk_X6_init_11 2 rfl
theorem dX6_init_674 : decode cX6_init 674 = .ok (.bipush 101, 2) := dcO tk_X6_init_11 3 rfl
theorem dX6_init_676 : decode cX6_init 676 = .ok (.castore, 1) := dcO tk_X6_init_11 4 rfl
theorem dX6_init_677 : decode cX6_init 677 = .ok (.dup, 1) := dcO tk_X6_init_11 5 rfl
theorem dX6_init_678 : decode cX6_init 678 = .ok (.bipush 11, 2) := dcO tk_X6_init_11 6 rfl
theorem dX6_init_680 : decode cX6_init 680 = .ok (.bipush 101, 2) := dcO tk_X6_init_11 7 rfl
theorem dX6_init_682 : decode cX6_init 682 = .ok (.castore, 1) := dcO tk_X6_init_11 8 rfl
theorem dX6_init_683 : decode cX6_init 683 = .ok (.dup, 1) := dcO tk_X6_init_11 9 rfl
theorem dX6_init_684 : decode cX6_init 684 = .ok (.bipush 12, 2) := dcO tk_X6_init_11 10 rfl
theorem dX6_init_686 : decode cX6_init 686 = .ok (.bipush 110, 2) := dcO tk_X6_init_11 11 rfl
theorem dX6_init_688 : decode cX6_init 688 = .ok (.castore, 1) := dcO tk_X6_init_11 12 rfl
theorem dX6_init_689 : decode cX6_init 689 = .ok (.dup, 1) := dcO tk_X6_init_11 13 rfl
theorem dX6_init_690 : decode cX6_init 690 = .ok (.bipush 13, 2) := dcO tk_X6_init_11 14 rfl
theorem dX6_init_692 : decode cX6_init 692 = .ok (.bipush 115, 2) := dcO tk_X6_init_11 15 rfl
theorem dX6_init_694 : decode cX6_init 694 = .ok (.castore, 1) := dcO tk_X6_init_11 16 rfl
theorem dX6_init_695 : decode cX6_init 695 = .ok (.dup, 1) := dcO tk_X6_init_11 17 rfl
theorem dX6_init_696 : decode cX6_init 696 = .ok (.bipush 14, 2) := dcO tk_X6_init_11 18 rfl
theorem dX6_init_698 : decode cX6_init 698 = .ok (.bipush 32, 2) := dcO tk_X6_init_11 19 rfl
theorem dX6_init_700 : decode cX6_init 700 = .ok (.castore, 1) := dcO tk_X6_init_11 20 rfl
theorem dX6_init_701 : decode cX6_init 701 = .ok (.dup, 1) := dcO tk_X6_init_11 21 rfl
theorem dX6_init_702 : decode cX6_init 702 = .ok (.bipush 15, 2) := dcO tk_X6_init_11 22 rfl
theorem dX6_init_704 : decode cX6_init 704 = .ok (.bipush 32, 2) := dcO tk_X6_init_11 23 rfl
theorem dX6_init_706 : decode cX6_init 706 = .ok (.castore, 1) := dcO tk_X6_init_11 24 rfl
theorem dX6_init_707 : decode cX6_init 707 = .ok (.dup, 1) := dcO tk_X6_init_11 25 rfl
theorem dX6_init_708 : decode cX6_init 708 = .ok (.bipush 16, 2) := dcO tk_X6_init_11 26 rfl
theorem dX6_init_710 : decode cX6_init 710 = .ok (.bipush 98, 2) := dcO tk_X6_init_11 27 rfl
theorem dX6_init_712 : decode cX6_init 712 = .ok (.castore, 1) := dcO tk_X6_init_11 28 rfl
theorem dX6_init_713 : decode cX6_init 713 = .ok (.dup, 1) := dcO tk_X6_init_11 29 rfl
theorem dX6_init_714 : decode cX6_init 714 = .ok (.bipush 17, 2) := dcO tk_X6_init_11 30 rfl
theorem dX6_init_716 : decode cX6_init 716 = .ok (.bipush 97, 2) := dcO tk_X6_init_11 31 rfl
theorem dX6_init_718 : decode cX6_init 718 = .ok (.castore, 1) := dcO tk_X6_init_11 32 rfl
theorem dX6_init_719 : decode cX6_init 719 = .ok (.dup, 1) := dcO tk_X6_init_11 33 rfl
theorem dX6_init_720 : decode cX6_init 720 = .ok (.bipush 18, 2) := dcO tk_X6_init_11 34 rfl
theorem dX6_init_722 : decode cX6_init 722 = .ok (.bipush 110, 2) := dcO tk_X6_init_11 35 rfl
theorem dX6_init_724 : decode cX6_init 724 = .ok (.castore, 1) := dcO tk_X6_init_11 36 rfl
theorem dX6_init_725 : decode cX6_init 725 = .ok (.dup, 1) := dcO tk_X6_init_11 37 rfl
theorem dX6_init_726 : decode cX6_init 726 = .ok (.bipush 19, 2) := dcO tk_X6_init_11 38 rfl
theorem dX6_init_728 : decode cX6_init 728 = .ok (.bipush 115, 2) := dcO tk_X6_init_11 39 rfl
abbrev tb_X6_init_12 : List (Nat × Instr × Nat) := [(730, .castore, 1), (731, .dup, 1), (732, .bipush 20, 2), (734, .bipush 32, 2), (736, .castore, 1), (737, .dup, 1), (738, .bipush 21, 2), (740, .bipush 32, 2), (742, .castore, 1), (743, .dup, 1), (744, .bipush 22, 2), (746, .bipush 32, 2), (748, .castore, 1), (749, .dup, 1), (750, .bipush 23, 2), (752, .bipush 32, 2), (754, .castore, 1), (755, .dup, 1), (756, .bipush 24, 2), (758, .bipush 119, 2), (760, .castore, 1), (761, .dup, 1), (762, .bipush 25, 2), (764, .bipush 101, 2), (766, .castore, 1), (767, .dup, 1), (768, .bipush 26, 2), (770, .bipush 116, 2), (772, .castore, 1), (773, .dup, 1), (774, .bipush 27, 2), (776, .bipush 32, 2), (778, .castore, 1), (779, .dup, 1), (780, .bipush 28, 2), (782, .bipush 32, 2), (784, .castore, 1), (785, .dup, 1), (786, .bipush 29, 2), (788, .bipush 32, 2)]
theorem tk_X6_init_12 : dcA cX6_init tb_X6_init_12 = true := by decide +kernel
theorem dX6_init_730 : decode cX6_init 730 = .ok (.castore, 1) := dcO tk_X6_init_12 0 rfl
theorem dX6_init_731 : decode cX6_init 731 = .ok (.dup, 1) := dcO tk_X6_init_12 1 rfl
theorem dX6_init_732 : decode cX6_init 732 = .ok (.bipush 20, 2) := dcO tk_X6_init_12 2 rfl
theorem dX6_init_734 : decode cX6_init 734 = .ok (.bipush 32, 2) := dcO tk_X6_init_12 3 rfl
theorem dX6_init_736 : decode cX6_init 736 = .ok (.castore, 1) := dcO tk_X6_init_12 4 rfl
theorem dX6_init_737 : decode cX6_init 737 = .ok (.dup, 1) := dcO tk_X6_init_12 5 rfl
theorem dX6_init_738 : decode cX6_init 738 = .ok (.bipush 21, 2) := dcO tk_X6_init_12 6 rfl
theorem dX6_init_740 : decode cX6_init 740 = .ok (.bipush 32, 2) := dcO tk_X6_init_12 7 rfl
theorem dX6_init_742 : decode cX6_init 742 = .ok (.castore, 1) := dcO tk_X6_init_12 8 rfl
theorem dX6_init_743 : decode cX6_init 743 = .ok (.dup, 1) := dcO tk_X6_init_12 9 rfl
theorem dX6_init_744 : decode cX6_init 744 = .ok (.bipush 22, 2) := dcO tk_X6_init_12 10 rfl
theorem dX6_init_746 : decode cX6_init 746 = .ok (.bipush 32, 2) := dcO tk_X6_init_12 11 rfl
theorem dX6_init_748 : decode cX6_init 748 = .ok (.castore, 1) := dcO tk_X6_init_12 12 rfl
theorem dX6_init_749 : decode cX6_init 749 = .ok (.dup, 1) := dcO tk_X6_init_12 13 rfl
theorem dX6_init_750 : decode cX6_init 750 = .ok (.bipush 23, 2) := dcO tk_X6_init_12 14 rfl
theorem dX6_init_752 : decode cX6_init 752 = .ok (.bipush 32, 2) := dcO tk_X6_init_12 15 rfl
theorem dX6_init_754 : decode cX6_init 754 = .ok (.castore, 1) := dcO tk_X6_init_12 16 rfl
theorem dX6_init_755 : decode cX6_init 755 = .ok (.dup, 1) := dcO tk_X6_init_12 17 rfl
theorem dX6_init_756 : decode cX6_init 756 = .ok (.bipush 24, 2) := dcO tk_X6_init_12 18 rfl
theorem dX6_init_758 : decode cX6_init 758 = .ok (.bipush 119, 2) := dcO tk_X6_init_12 19 rfl
theorem dX6_init_760 : decode cX6_init 760 = .ok (.castore, 1) := dcO tk_X6_init_12 20 rfl
theorem dX6_init_761 : decode cX6_init 761 = .ok (.dup, 1) := dcO tk_X6_init_12 21 rfl
theorem dX6_init_762 : decode cX6_init 762 = .ok (.bipush 25, 2) := dcO tk_X6_init_12 22 rfl
theorem dX6_init_764 : decode cX6_init 764 = .ok (.bipush 101, 2) := dcO tk_X6_init_12 23 rfl
theorem dX6_init_766 : decode cX6_init 766 = .ok (.castore, 1) := dcO tk_X6_init_12 24 rfl
theorem dX6_init_767 : decode cX6_init 767 = .ok (.dup, 1) := dcO tk_X6_init_12 25 rfl
theorem dX6_init_768 : decode cX6_init 768 = .ok (.bipush 26, 2) := dcO tk_X6_init_12 26 rfl
theorem dX6_init_770 : decode cX6_init 770 = .ok (.bipush 116, 2) := dcO tk_X6_init_12 27 rfl
theorem dX6_init_772 : decode cX6_init 772 = .ok (.castore, 1) := dcO tk_X6_init_12 28 rfl
theorem dX6_init_773 : decode cX6_init 773 = .ok (.dup, 1) := dcO tk_X6_init_12 29 rfl
theorem dX6_init_774 : decode cX6_init 774 = .ok (.bipush 27, 2) := dcO tk_X6_init_12 30 rfl
theorem dX6_init_776 : decode cX6_init 776 = .ok (.bipush 32, 2) := dcO tk_X6_init_12 31 rfl
theorem dX6_init_778 : decode cX6_init 778 = .ok (.castore, 1) := dcO tk_X6_init_12 32 rfl
theorem dX6_init_779 : decode cX6_init 779 = .ok (.dup, 1) := dcO tk_X6_init_12 33 rfl
theorem dX6_init_780 : decode cX6_init 780 = .ok (.bipush 28, 2) := dcO tk_X6_init_12 34 rfl
theorem dX6_init_782 : decode cX6_init 782 = .ok (.bipush 32, 2) := dcO tk_X6_init_12 35 rfl
theorem dX6_init_784 : decode cX6_init 784 = .ok (.castore, 1) := dcO tk_X6_init_12 36 rfl
theorem dX6_init_785 : decode cX6_init 785 = .ok (.dup, 1) := dcO tk_X6_init_12 37 rfl
theorem dX6_init_786 : decode cX6_init 786 = .ok (.bipush 29, 2) := dcO tk_X6_init_12 38 rfl
theorem dX6_init_788 : decode cX6_init 788 = .ok (.bipush 32, 2) := dcO tk_X6_init_12 39 rfl
abbrev tb_X6_init_13 : List (Nat × Instr × Nat) := [(790, .castore, 1), (791, .dup, 1), (792, .bipush 30, 2), (794, .bipush 32, 2), (796, .castore, 1), (797, .dup, 1), (798, .bipush 31, 2), (800, .bipush 32, 2), (802, .castore, 1), (803, .dup, 1), (804, .bipush 32, 2), (806, .bipush 116, 2), (808, .castore, 1), (809, .dup, 1), (810, .bipush 33, 2), (812, .bipush 104, 2), (814, .castore, 1), (815, .dup, 1), (816, .bipush 34, 2), (818, .bipush 114, 2), (820, .castore, 1), (821, .dup, 1), (822, .bipush 35, 2), (824, .bipush 117, 2), (826, .castore, 1), (827, .dup, 1), (828, .bipush 36, 2), (830, .bipush 115, 2), (832, .castore, 1), (833, .dup, 1), (834, .bipush 37, 2), (836, .bipush 104, 2), (838, .castore, 1), (839, .dup, 1), (840, .bipush 38, 2), (842, .bipush 32, 2), (844, .castore, 1), (845, .dup, 1), (846, .bipush 39, 2), (848, .bipush 32, 2)]
theorem tk_X6_init_13 : dcA cX6_init tb_X6_init_13 = true := by decide +kernel
theorem dX6_init_790 : decode cX6_init 790 = .ok (.castore, 1) := dcO tk_X6_init_13 0 rfl
theorem dX6_init_791 : decode cX6_init 791 = .ok (.dup, 1) := dcO tk_X6_init_13 1 rfl
theorem dX6_init_792 : decode cX6_init 792 = .ok (.bipush 30, 2) := dcO tk_X6_init_13 2 rfl
theorem dX6_init_794 : decode cX6_init 794 = .ok (.bipush 32, 2) := dcO tk_X6_init_13 3 rfl
theorem dX6_init_796 : decode cX6_init 796 = .ok (.castore, 1) := dcO tk_X6_init_13 4 rfl
theorem dX6_init_797 : decode cX6_init 797 = .ok (.dup, 1) := dcO tk_X6_init_13 5 rfl
theorem dX6_init_798 : decode cX6_init 798 = .ok (.bipush 31, 2) := dcO tk_X6_init_13 6 rfl
theorem dX6_init_800 : decode cX6_init 800 = .ok (.bipush 32, 2) := dcO tk_X6_init_13 7 rfl
theorem dX6_init_802 : decode cX6_init 802 = .ok (.castore, 1) := dcO tk_X6_init_13 8 rfl
theorem dX6_init_803 : decode cX6_init 803 = .ok (.dup, 1) := dcO tk_X6_init_13 9 rfl
theorem dX6_init_804 : decode cX6_init 804 = .ok (.bipush 32, 2) := dcO tk_X6_init_13 10 rfl
theorem dX6_init_806 : decode cX6_init 806 = .ok (.bipush 116, 2) := dcO tk_X6_init_13 11 rfl
theorem dX6_init_808 : decode cX6_init 808 = .ok (.castore, 1) := dcO tk_X6_init_13 12 rfl
theorem dX6_init_809 : decode cX6_init 809 = .ok (.dup, 1) := dcO tk_X6_init_13 13 rfl
theorem dX6_init_810 : decode cX6_init 810 = .ok (.bipush 33, 2) := dcO tk_X6_init_13 14 rfl
theorem dX6_init_812 : decode cX6_init 812 = .ok (.bipush 104, 2) := dcO tk_X6_init_13 15 rfl
theorem dX6_init_814 : decode cX6_init 814 = .ok (.castore, 1) := dcO tk_X6_init_13 16 rfl
theorem dX6_init_815 : decode cX6_init 815 = .ok (.dup, 1) := dcO tk_X6_init_13 17 rfl
theorem dX6_init_816 : decode cX6_init 816 = .ok (.bipush 34, 2) := dcO tk_X6_init_13 18 rfl
theorem dX6_init_818 : decode cX6_init 818 = .ok (.bipush 114, 2) := dcO tk_X6_init_13 19 rfl
theorem dX6_init_820 : decode cX6_init 820 = .ok (.castore, 1) := dcO tk_X6_init_13 20 rfl
theorem dX6_init_821 : decode cX6_init 821 = .ok (.dup, 1) := dcO tk_X6_init_13 21 rfl
theorem dX6_init_822 : decode cX6_init 822 = .ok (.bipush 35, 2) := dcO tk_X6_init_13 22 rfl
theorem dX6_init_824 : decode cX6_init 824 = .ok (.bipush 117, 2) := dcO tk_X6_init_13 23 rfl
theorem dX6_init_826 : decode cX6_init 826 = .ok (.castore, 1) := dcO tk_X6_init_13 24 rfl
theorem dX6_init_827 : decode cX6_init 827 = .ok (.dup, 1) := dcO tk_X6_init_13 25 rfl
theorem dX6_init_828 : decode cX6_init 828 = .ok (.bipush 36, 2) := dcO tk_X6_init_13 26 rfl
theorem dX6_init_830 : decode cX6_init 830 = .ok (.bipush 115, 2) := dcO tk_X6_init_13 27 rfl
theorem dX6_init_832 : decode cX6_init 832 = .ok (.castore, 1) := dcO tk_X6_init_13 28 rfl
theorem dX6_init_833 : decode cX6_init 833 = .ok (.dup, 1) := dcO tk_X6_init_13 29 rfl
theorem dX6_init_834 : decode cX6_init 834 = .ok (.bipush 37, 2) := dcO tk_X6_init_13 30 rfl
theorem dX6_init_836 : decode cX6_init 836 = .ok (.bipush 104, 2) := dcO tk_X6_init_13 31 rfl
theorem dX6_init_838 : decode cX6_init 838 = .ok (.castore, 1) := dcO tk_X6_init_13 32 rfl
theorem dX6_init_839 : decode cX6_init 839 = .ok (.dup, 1) := dcO tk_X6_init_13 33 rfl
theorem dX6_init_840 : decode cX6_init 840 = .ok (.bipush 38, 2) := dcO tk_X6_init_13 34 rfl
theorem dX6_init_842 : decode cX6_init 842 = .ok (.bipush 32, 2) := dcO tk_X6_init_13 35 rfl
theorem dX6_init_844 : decode cX6_init 844 = .ok (.castore, 1) := dcO tk_X6_init_13 36 rfl
theorem dX6_init_845 : decode cX6_init 845 = .ok (.dup, 1) := dcO tk_X6_init_13 37 rfl
theorem dX6_init_846 : decode cX6_init 846 = .ok (.bipush 39, 2) := dcO tk_X6_init_13 38 rfl
theorem dX6_init_848 : decode cX6_init 848 = .ok (.bipush 32, 2) := dcO tk_X6_init_13 39 rfl
abbrev tb_X6_init_14 : List (Nat × Instr × Nat) := [(850, .castore, 1), (851, .putfield 45, 3), (854, .aload_n 0, 1), (855, .iconst 4, 1), (856, .newarray .int, 2), (858, .putfield 48, 3), (861, .aload_n 0, 1), (862, .iconst 4, 1), (863, .newarray .int, 2), (865, .putfield 51, 3), (868, .aload_n 0, 1), (869, .sipush 160, 3), (872, .newarray .int, 2), (874, .putfield 54, 3), (877, .aload_n 0, 1), (878, .bipush 40, 2), (880, .newarray .int, 2), (882, .putfield 57, 3), (885, .aload_n 0, 1), (886, .getfield 9, 3), (889, .iconst 3, 1), (890, .iconst 1, 1), (891, .iastore, 1), (892, .aload_n 0, 1), (893, .getfield 9, 3), (896, .iconst 4, 1), (897, .iconst 5, 1), (898, .iastore, 1), (899, .aload_n 0, 1), (900, .getfield 9, 3), (903, .iconst 5, 1), (904, .iconst 1, 1), (905, .iastore, 1), (906, .iconst 0, 1), (907, .istore_n 1, 1), (908, .iload_n 1, 1), (909, .bipush 81, 2), (911, .if_icmp .ge 20, 3), (914, .aload_n 0, 1), (915, .getfield 9, 3)]
theorem tk_X6_init_14 : dcA cX6_init tb_X6_init_14 = true := by decide +kernel
theorem dX6_init_850 : decode cX6_init 850 = .ok (.castore, 1) := dcO tk_X6_init_14 0 rfl
theorem dX6_init_851 : decode cX6_init 851 = .ok (.putfield 45, 3) := dcO tk_X6_init_14 1 rfl
theorem dX6_init_854 : decode cX6_init 854 = .ok (.aload_n 0, 1) := dcO tk_X6_init_14 2 rfl
theorem dX6_init_855 : decode cX6_init 855 = .ok (.iconst 4, 1) := dcO tk_X6_init_14 3 rfl
theorem dX6_init_856 : decode cX6_init 856 = .ok (.newarray .int, 2) := dcO tk_X6_init_14 4 rfl
theorem dX6_init_858 : decode cX6_init 858 = .ok (.putfield 48, 3) := dcO tk_X6_init_14 5 rfl
theorem dX6_init_861 : decode cX6_init 861 = .ok (.aload_n 0, 1) := dcO tk_X6_init_14 6 rfl
theorem dX6_init_862 : decode cX6_init 862 = .ok (.iconst 4, 1) := dcO tk_X6_init_14 7 rfl
theorem dX6_init_863 : decode cX6_init 863 = .ok (.newarray .int, 2) := dcO tk_X6_init_14 8 rfl
theorem dX6_init_865 : decode cX6_init 865 = .ok (.putfield 51, 3) := dcO tk_X6_init_14 9 rfl
theorem dX6_init_868 : decode cX6_init 868 = .ok (.aload_n 0, 1) := dcO tk_X6_init_14 10 rfl
theorem dX6_init_869 : decode cX6_init 869 = .ok (.sipush 160, 3) := dcO tk_X6_init_14 11 rfl
theorem dX6_init_872 : decode cX6_init 872 = .ok (.newarray .int, 2) := dcO tk_X6_init_14 12 rfl
theorem dX6_init_874 : decode cX6_init 874 = .ok (.putfield 54, 3) := dcO tk_X6_init_14 13 rfl
theorem dX6_init_877 : decode cX6_init 877 = .ok (.aload_n 0, 1) := dcO tk_X6_init_14 14 rfl
theorem dX6_init_878 : decode cX6_init 878 = .ok (.bipush 40, 2) := dcO tk_X6_init_14 15 rfl
theorem dX6_init_880 : decode cX6_init 880 = .ok (.newarray .int, 2) := dcO tk_X6_init_14 16 rfl
theorem dX6_init_882 : decode cX6_init 882 = .ok (.putfield 57, 3) := dcO tk_X6_init_14 17 rfl
theorem dX6_init_885 : decode cX6_init 885 = .ok (.aload_n 0, 1) := dcO tk_X6_init_14 18 rfl
theorem dX6_init_886 : decode cX6_init 886 = .ok (.getfield 9, 3) := dcO tk_X6_init_14 19 rfl
theorem dX6_init_889 : decode cX6_init 889 = .ok (.iconst 3, 1) := dcO tk_X6_init_14 20 rfl
theorem dX6_init_890 : decode cX6_init 890 = .ok (.iconst 1, 1) := dcO tk_X6_init_14 21 rfl
theorem dX6_init_891 : decode cX6_init 891 = .ok (.iastore, 1) := dcO tk_X6_init_14 22 rfl
theorem dX6_init_892 : decode cX6_init 892 = .ok (.aload_n 0, 1) := dcO tk_X6_init_14 23 rfl
theorem dX6_init_893 : decode cX6_init 893 = .ok (.getfield 9, 3) := dcO tk_X6_init_14 24 rfl
theorem dX6_init_896 : decode cX6_init 896 = .ok (.iconst 4, 1) := dcO tk_X6_init_14 25 rfl
theorem dX6_init_897 : decode cX6_init 897 = .ok (.iconst 5, 1) := dcO tk_X6_init_14 26 rfl
theorem dX6_init_898 : decode cX6_init 898 = .ok (.iastore, 1) := dcO tk_X6_init_14 27 rfl
theorem dX6_init_899 : decode cX6_init 899 = .ok (.aload_n 0, 1) := dcO tk_X6_init_14 28 rfl
theorem dX6_init_900 : decode cX6_init 900 = .ok (.getfield 9, 3) := dcO tk_X6_init_14 29 rfl
theorem dX6_init_903 : decode cX6_init 903 = .ok (.iconst 5, 1) := dcO tk_X6_init_14 30 rfl
theorem dX6_init_904 : decode cX6_init 904 = .ok (.iconst 1, 1) := dcO tk_X6_init_14 31 rfl
theorem dX6_init_905 : decode cX6_init 905 = .ok (.iastore, 1) := dcO tk_X6_init_14 32 rfl
theorem dX6_init_906 : decode cX6_init 906 = .ok (.iconst 0, 1) := dcO tk_X6_init_14 33 rfl
theorem dX6_init_907 : decode cX6_init 907 = .ok (.istore_n 1, 1) := dcO tk_X6_init_14 34 rfl
theorem dX6_init_908 : decode cX6_init 908 = .ok (.iload_n 1, 1) := dcO tk_X6_init_14 35 rfl
theorem dX6_init_909 : decode cX6_init 909 = .ok (.bipush 81, 2) := dcO tk_X6_init_14 36 rfl
theorem dX6_init_911 : decode cX6_init 911 = .ok (.if_icmp .ge 20, 3) := dcO tk_X6_init_14 37 rfl
theorem dX6_init_914 : decode cX6_init 914 = .ok (.aload_n 0, 1) := dcO tk_X6_init_14 38 rfl
theorem dX6_init_915 : decode cX6_init 915 = .ok (.getfield 9, 3) := dcO tk_X6_init_14 39 rfl
abbrev tb_X6_init_15 : List (Nat × Instr × Nat) := [(918, .sipush 176, 3), (921, .iload_n 1, 1), (922, .iadd, 1), (923, .iconst (-1), 1), (924, .iastore, 1), (925, .iinc 1 1, 3), (928, .goto (-20), 3), (931, .iconst 0, 1), (932, .istore_n 1, 1), (933, .iload_n 1, 1), (934, .bipush 10, 2), (936, .if_icmp .ge 20, 3), (939, .aload_n 0, 1), (940, .getfield 9, 3), (943, .sipush 297, 3), (946, .iload_n 1, 1), (947, .iadd, 1), (948, .iconst (-1), 1), (949, .iastore, 1), (950, .iinc 1 1, 3), (953, .goto (-20), 3), (956, .return_, 1)]
theorem tk_X6_init_15 : dcA cX6_init tb_X6_init_15 = true := by decide +kernel
theorem dX6_init_918 : decode cX6_init 918 = .ok (.sipush 176, 3) := dcO tk_X6_init_15 0 rfl
theorem dX6_init_921 : decode cX6_init 921 = .ok (.iload_n 1, 1) := dcO tk_X6_init_15 1 rfl
theorem dX6_init_922 : decode cX6_init 922 = .ok (.iadd, 1) := dcO tk_X6_init_15 2 rfl
theorem dX6_init_923 : decode cX6_init 923 = .ok (.iconst (-1), 1) := dcO tk_X6_init_15 3 rfl
theorem dX6_init_924 : decode cX6_init 924 = .ok (.iastore, 1) := dcO tk_X6_init_15 4 rfl
theorem dX6_init_925 : decode cX6_init 925 = .ok (.iinc 1 1, 3) := dcO tk_X6_init_15 5 rfl
theorem dX6_init_928 : decode cX6_init 928 = .ok (.goto (-20), 3) := dcO tk_X6_init_15 6 rfl
theorem dX6_init_931 : decode cX6_init 931 = .ok (.iconst 0, 1) := dcO tk_X6_init_15 7 rfl
theorem dX6_init_932 : decode cX6_init 932 = .ok (.istore_n 1, 1) := dcO tk_X6_init_15 8 rfl
theorem dX6_init_933 : decode cX6_init 933 = .ok (.iload_n 1, 1) := dcO tk_X6_init_15 9 rfl
theorem dX6_init_934 : decode cX6_init 934 = .ok (.bipush 10, 2) := dcO tk_X6_init_15 10 rfl
theorem dX6_init_936 : decode cX6_init 936 = .ok (.if_icmp .ge 20, 3) := dcO tk_X6_init_15 11 rfl
theorem dX6_init_939 : decode cX6_init 939 = .ok (.aload_n 0, 1) := dcO tk_X6_init_15 12 rfl
theorem dX6_init_940 : decode cX6_init 940 = .ok (.getfield 9, 3) := dcO tk_X6_init_15 13 rfl
theorem dX6_init_943 : decode cX6_init 943 = .ok (.sipush 297, 3) := dcO tk_X6_init_15 14 rfl
theorem dX6_init_946 : decode cX6_init 946 = .ok (.iload_n 1, 1) := dcO tk_X6_init_15 15 rfl
theorem dX6_init_947 : decode cX6_init 947 = .ok (.iadd, 1) := dcO tk_X6_init_15 16 rfl
theorem dX6_init_948 : decode cX6_init 948 = .ok (.iconst (-1), 1) := dcO tk_X6_init_15 17 rfl
theorem dX6_init_949 : decode cX6_init 949 = .ok (.iastore, 1) := dcO tk_X6_init_15 18 rfl
theorem dX6_init_950 : decode cX6_init 950 = .ok (.iinc 1 1, 3) := dcO tk_X6_init_15 19 rfl
theorem dX6_init_953 : decode cX6_init 953 = .ok (.goto (-20), 3) := dcO tk_X6_init_15 20 rfl
theorem dX6_init_956 : decode cX6_init 956 = .ok (.return_, 1) := dcO tk_X6_init_15 21 rfl
abbrev tb_X6_no_0 : List (Nat × Instr × Nat) := [(0, .aload_n 0, 1), (1, .getfield 19, 3), (4, .iload_n 1, 1), (5, .dup2, 1), (6, .iaload, 1), (7, .iconst 1, 1), (8, .iadd, 1), (9, .iastore, 1), (10, .ldc 60, 2), (12, .iload_n 1, 1), (13, .isub, 1), (14, .ireturn, 1)]
theorem tk_X6_no_0 : dcA cX6_no tb_X6_no_0 = true := by decide +kernel
theorem dX6_no_0 : decode cX6_no 0 = .ok (.aload_n 0, 1) := dcO tk_X6_no_0 0 rfl
theorem dX6_no_1 : decode cX6_no 1 = .ok (.getfield 19, 3) := dcO tk_X6_no_0 1 rfl
theorem dX6_no_4 : decode cX6_no 4 = .ok (.iload_n 1, 1) := dcO tk_X6_no_0 2 rfl
theorem dX6_no_5 : decode cX6_no 5 = .ok (.dup2, 1) := dcO tk_X6_no_0 3 rfl
theorem dX6_no_6 : decode cX6_no 6 = .ok (.iaload, 1) := dcO tk_X6_no_0 4 rfl
theorem dX6_no_7 : decode cX6_no 7 = .ok (.iconst 1, 1) := dcO tk_X6_no_0 5 rfl
theorem dX6_no_8 : decode cX6_no 8 = .ok (.iadd, 1) := dcO tk_X6_no_0 6 rfl
theorem dX6_no_9 : decode cX6_no 9 = .ok (.iastore, 1) := dcO tk_X6_no_0 7 rfl
theorem dX6_no_10 : decode cX6_no 10 = .ok (.ldc 60, 2) := dcO tk_X6_no_0 8 rfl
theorem dX6_no_12 : decode cX6_no 12 = .ok (.iload_n 1, 1) := dcO tk_X6_no_0 9 rfl
theorem dX6_no_13 : decode cX6_no 13 = .ok (.isub, 1) := dcO tk_X6_no_0 10 rfl
theorem dX6_no_14 : decode cX6_no 14 = .ok (.ireturn, 1) := dcO tk_X6_no_0 11 rfl
abbrev tb_X6_in1_0 : List (Nat × Instr × Nat) := [(0, .iload_n 0, 1), (1, .iload_n 1, 1), (2, .if_icmp .lt 12, 3), (5, .iload_n 0, 1), (6, .iload_n 2, 1), (7, .if_icmp .gt 7, 3), (10, .iconst 1, 1), (11, .goto 4, 3), (14, .iconst 0, 1), (15, .ireturn, 1)]
theorem tk_X6_in1_0 : dcA cX6_in1 tb_X6_in1_0 = true := by decide +kernel
theorem dX6_in1_0 : decode cX6_in1 0 = .ok (.iload_n 0, 1) := dcO tk_X6_in1_0 0 rfl
theorem dX6_in1_1 : decode cX6_in1 1 = .ok (.iload_n 1, 1) := dcO tk_X6_in1_0 1 rfl
theorem dX6_in1_2 : decode cX6_in1 2 = .ok (.if_icmp .lt 12, 3) := dcO tk_X6_in1_0 2 rfl
theorem dX6_in1_5 : decode cX6_in1 5 = .ok (.iload_n 0, 1) := dcO tk_X6_in1_0 3 rfl
theorem dX6_in1_6 : decode cX6_in1 6 = .ok (.iload_n 2, 1) := dcO tk_X6_in1_0 4 rfl
theorem dX6_in1_7 : decode cX6_in1 7 = .ok (.if_icmp .gt 7, 3) := dcO tk_X6_in1_0 5 rfl
theorem dX6_in1_10 : decode cX6_in1 10 = .ok (.iconst 1, 1) := dcO tk_X6_in1_0 6 rfl
theorem dX6_in1_11 : decode cX6_in1 11 = .ok (.goto 4, 3) := dcO tk_X6_in1_0 7 rfl
theorem dX6_in1_14 : decode cX6_in1 14 = .ok (.iconst 0, 1) := dcO tk_X6_in1_0 8 rfl
theorem dX6_in1_15 : decode cX6_in1 15 = .ok (.ireturn, 1) := dcO tk_X6_in1_0 9 rfl
abbrev tb_X6_isIn_0 : List (Nat × Instr × Nat) := [(0, .iload_n 0, 1), (1, .iload_n 1, 1), (2, .ishr, 1), (3, .iconst 1, 1), (4, .iand, 1), (5, .iconst 1, 1), (6, .if_icmp .ne 7, 3), (9, .iconst 1, 1), (10, .goto 4, 3), (13, .iconst 0, 1), (14, .ireturn, 1)]
theorem tk_X6_isIn_0 : dcA cX6_isIn tb_X6_isIn_0 = true := by decide +kernel
theorem dX6_isIn_0 : decode cX6_isIn 0 = .ok (.iload_n 0, 1) := dcO tk_X6_isIn_0 0 rfl
theorem dX6_isIn_1 : decode cX6_isIn 1 = .ok (.iload_n 1, 1) := dcO tk_X6_isIn_0 1 rfl
theorem dX6_isIn_2 : decode cX6_isIn 2 = .ok (.ishr, 1) := dcO tk_X6_isIn_0 2 rfl
theorem dX6_isIn_3 : decode cX6_isIn 3 = .ok (.iconst 1, 1) := dcO tk_X6_isIn_0 3 rfl
theorem dX6_isIn_4 : decode cX6_isIn 4 = .ok (.iand, 1) := dcO tk_X6_isIn_0 4 rfl
theorem dX6_isIn_5 : decode cX6_isIn 5 = .ok (.iconst 1, 1) := dcO tk_X6_isIn_0 5 rfl
theorem dX6_isIn_6 : decode cX6_isIn 6 = .ok (.if_icmp .ne 7, 3) := dcO tk_X6_isIn_0 6 rfl
theorem dX6_isIn_9 : decode cX6_isIn 9 = .ok (.iconst 1, 1) := dcO tk_X6_isIn_0 7 rfl
theorem dX6_isIn_10 : decode cX6_isIn 10 = .ok (.goto 4, 3) := dcO tk_X6_isIn_0 8 rfl
theorem dX6_isIn_13 : decode cX6_isIn 13 = .ok (.iconst 0, 1) := dcO tk_X6_isIn_0 9 rfl
theorem dX6_isIn_14 : decode cX6_isIn 14 = .ok (.ireturn, 1) := dcO tk_X6_isIn_0 10 rfl
abbrev tb_X6_isCell_0 : List (Nat × Instr × Nat) := [(0, .iload_n 0, 1), (1, .iconst 0, 1), (2, .bipush 80, 2), (4, .invokestatic 61, 3), (7, .ireturn, 1)]
theorem tk_X6_isCell_0 : dcA cX6_isCell tb_X6_isCell_0 = true := by decide +kernel
theorem dX6_isCell_0 : decode cX6_isCell 0 = .ok (.iload_n 0, 1) := dcO tk_X6_isCell_0 0 rfl
theorem dX6_isCell_1 : decode cX6_isCell 1 = .ok (.iconst 0, 1) := dcO tk_X6_isCell_0 1 rfl
theorem dX6_isCell_2 : decode cX6_isCell 2 = .ok (.bipush 80, 2) := dcO tk_X6_isCell_0 2 rfl
theorem dX6_isCell_4 : decode cX6_isCell 4 = .ok (.invokestatic 61, 3) := dcO tk_X6_isCell_0 3 rfl
theorem dX6_isCell_7 : decode cX6_isCell 7 = .ok (.ireturn, 1) := dcO tk_X6_isCell_0 4 rfl
abbrev tb_X6_isLaw_0 : List (Nat × Instr × Nat) := [(0, .iload_n 0, 1), (1, .iconst 0, 1), (2, .bipush 7, 2), (4, .invokestatic 61, 3), (7, .ireturn, 1)]
theorem tk_X6_isLaw_0 : dcA cX6_isLaw tb_X6_isLaw_0 = true := by decide +kernel
theorem dX6_isLaw_0 : decode cX6_isLaw 0 = .ok (.iload_n 0, 1) := dcO tk_X6_isLaw_0 0 rfl
theorem dX6_isLaw_1 : decode cX6_isLaw 1 = .ok (.iconst 0, 1) := dcO tk_X6_isLaw_0 1 rfl
theorem dX6_isLaw_2 : decode cX6_isLaw 2 = .ok (.bipush 7, 2) := dcO tk_X6_isLaw_0 2 rfl
theorem dX6_isLaw_4 : decode cX6_isLaw 4 = .ok (.invokestatic 61, 3) := dcO tk_X6_isLaw_0 3 rfl
theorem dX6_isLaw_7 : decode cX6_isLaw 7 = .ok (.ireturn, 1) := dcO tk_X6_isLaw_0 4 rfl
abbrev tb_X6_isDeed_0 : List (Nat × Instr × Nat) := [(0, .iload_n 0, 1), (1, .iconst 0, 1), (2, .bipush 7, 2), (4, .invokestatic 61, 3), (7, .ireturn, 1)]
theorem tk_X6_isDeed_0 : dcA cX6_isDeed tb_X6_isDeed_0 = true := by decide +kernel
theorem dX6_isDeed_0 : decode cX6_isDeed 0 = .ok (.iload_n 0, 1) := dcO tk_X6_isDeed_0 0 rfl
theorem dX6_isDeed_1 : decode cX6_isDeed 1 = .ok (.iconst 0, 1) := dcO tk_X6_isDeed_0 1 rfl
theorem dX6_isDeed_2 : decode cX6_isDeed 2 = .ok (.bipush 7, 2) := dcO tk_X6_isDeed_0 2 rfl
theorem dX6_isDeed_4 : decode cX6_isDeed 4 = .ok (.invokestatic 61, 3) := dcO tk_X6_isDeed_0 3 rfl
theorem dX6_isDeed_7 : decode cX6_isDeed 7 = .ok (.ireturn, 1) := dcO tk_X6_isDeed_0 4 rfl
abbrev tb_X6_isSnail_0 : List (Nat × Instr × Nat) := [(0, .iload_n 1, 1), (1, .iconst 0, 1), (2, .aload_n 0, 1), (3, .getfield 9, 3), (6, .iconst 2, 1), (7, .iaload, 1), (8, .iconst 1, 1), (9, .isub, 1), (10, .invokestatic 61, 3), (13, .ireturn, 1)]
theorem tk_X6_isSnail_0 : dcA cX6_isSnail tb_X6_isSnail_0 = true := by decide +kernel
theorem dX6_isSnail_0 : decode cX6_isSnail 0 = .ok (.iload_n 1, 1) := dcO tk_X6_isSnail_0 0 rfl
theorem dX6_isSnail_1 : decode cX6_isSnail 1 = .ok (.iconst 0, 1) := dcO tk_X6_isSnail_0 1 rfl
theorem dX6_isSnail_2 : decode cX6_isSnail 2 = .ok (.aload_n 0, 1) := dcO tk_X6_isSnail_0 2 rfl
theorem dX6_isSnail_3 : decode cX6_isSnail 3 = .ok (.getfield 9, 3) := dcO tk_X6_isSnail_0 3 rfl
theorem dX6_isSnail_6 : decode cX6_isSnail 6 = .ok (.iconst 2, 1) := dcO tk_X6_isSnail_0 4 rfl
theorem dX6_isSnail_7 : decode cX6_isSnail 7 = .ok (.iaload, 1) := dcO tk_X6_isSnail_0 5 rfl
theorem dX6_isSnail_8 : decode cX6_isSnail 8 = .ok (.iconst 1, 1) := dcO tk_X6_isSnail_0 6 rfl
theorem dX6_isSnail_9 : decode cX6_isSnail 9 = .ok (.isub, 1) := dcO tk_X6_isSnail_0 7 rfl
theorem dX6_isSnail_10 : decode cX6_isSnail 10 = .ok (.invokestatic 61, 3) := dcO tk_X6_isSnail_0 8 rfl
theorem dX6_isSnail_13 : decode cX6_isSnail 13 = .ok (.ireturn, 1) := dcO tk_X6_isSnail_0 9 rfl
abbrev tb_X6_get_0 : List (Nat × Instr × Nat) := [(0, .aload_n 0, 1), (1, .getfield 9, 3), (4, .sipush 257, 3), (7, .iconst 5, 1), (8, .iload_n 1, 1), (9, .imul, 1), (10, .iadd, 1), (11, .iload_n 2, 1), (12, .iadd, 1), (13, .iaload, 1), (14, .ireturn, 1)]
theorem tk_X6_get_0 : dcA cX6_get tb_X6_get_0 = true := by decide +kernel
theorem dX6_get_0 : decode cX6_get 0 = .ok (.aload_n 0, 1) := dcO tk_X6_get_0 0 rfl
theorem dX6_get_1 : decode cX6_get 1 = .ok (.getfield 9, 3) := dcO tk_X6_get_0 1 rfl
theorem dX6_get_4 : decode cX6_get 4 = .ok (.sipush 257, 3) := dcO tk_X6_get_0 2 rfl
theorem dX6_get_7 : decode cX6_get 7 = .ok (.iconst 5, 1) := dcO tk_X6_get_0 3 rfl
theorem dX6_get_8 : decode cX6_get 8 = .ok (.iload_n 1, 1) := dcO tk_X6_get_0 4 rfl
theorem dX6_get_9 : decode cX6_get 9 = .ok (.imul, 1) := dcO tk_X6_get_0 5 rfl
theorem dX6_get_10 : decode cX6_get 10 = .ok (.iadd, 1) := dcO tk_X6_get_0 6 rfl
theorem dX6_get_11 : decode cX6_get 11 = .ok (.iload_n 2, 1) := dcO tk_X6_get_0 7 rfl
theorem dX6_get_12 : decode cX6_get 12 = .ok (.iadd, 1) := dcO tk_X6_get_0 8 rfl
theorem dX6_get_13 : decode cX6_get 13 = .ok (.iaload, 1) := dcO tk_X6_get_0 9 rfl
theorem dX6_get_14 : decode cX6_get 14 = .ok (.ireturn, 1) := dcO tk_X6_get_0 10 rfl
abbrev tb_X6_puts_0 : List (Nat × Instr × Nat) := [(0, .aload_n 0, 1), (1, .getfield 9, 3), (4, .sipush 257, 3), (7, .iconst 5, 1), (8, .iload_n 1, 1), (9, .imul, 1), (10, .iadd, 1), (11, .iload_n 2, 1), (12, .iadd, 1), (13, .iload_n 3, 1), (14, .iastore, 1), (15, .return_, 1)]
theorem tk_X6_puts_0 : dcA cX6_puts tb_X6_puts_0 = true := by decide +kernel
theorem dX6_puts_0 : decode cX6_puts 0 = .ok (.aload_n 0, 1) := dcO tk_X6_puts_0 0 rfl
theorem dX6_puts_1 : decode cX6_puts 1 = .ok (.getfield 9, 3) := dcO tk_X6_puts_0 1 rfl
theorem dX6_puts_4 : decode cX6_puts 4 = .ok (.sipush 257, 3) := dcO tk_X6_puts_0 2 rfl
theorem dX6_puts_7 : decode cX6_puts 7 = .ok (.iconst 5, 1) := dcO tk_X6_puts_0 3 rfl
theorem dX6_puts_8 : decode cX6_puts 8 = .ok (.iload_n 1, 1) := dcO tk_X6_puts_0 4 rfl
theorem dX6_puts_9 : decode cX6_puts 9 = .ok (.imul, 1) := dcO tk_X6_puts_0 5 rfl
theorem dX6_puts_10 : decode cX6_puts 10 = .ok (.iadd, 1) := dcO tk_X6_puts_0 6 rfl
theorem dX6_puts_11 : decode cX6_puts 11 = .ok (.iload_n 2, 1) := dcO tk_X6_puts_0 7 rfl
theorem dX6_puts_12 : decode cX6_puts 12 = .ok (.iadd, 1) := dcO tk_X6_puts_0 8 rfl
theorem dX6_puts_13 : decode cX6_puts 13 = .ok (.iload_n 3, 1) := dcO tk_X6_puts_0 9 rfl
theorem dX6_puts_14 : decode cX6_puts 14 = .ok (.iastore, 1) := dcO tk_X6_puts_0 10 rfl
theorem dX6_puts_15 : decode cX6_puts 15 = .ok (.return_, 1) := dcO tk_X6_puts_0 11 rfl
abbrev tb_X6_setsAside_0 : List (Nat × Instr × Nat) := [(0, .iconst 0, 1), (1, .istore_n 1, 1), (2, .iload_n 1, 1), (3, .sipush 307, 3), (6, .if_icmp .ge 21, 3), (9, .aload_n 0, 1), (10, .getfield 16, 3), (13, .iload_n 1, 1), (14, .aload_n 0, 1), (15, .getfield 9, 3), (18, .iload_n 1, 1), (19, .iaload, 1), (20, .iastore, 1), (21, .iinc 1 1, 3), (24, .goto (-22), 3), (27, .return_, 1)]
theorem tk_X6_setsAside_0 : dcA cX6_setsAside tb_X6_setsAside_0 = true := by decide +kernel
theorem dX6_setsAside_0 : decode cX6_setsAside 0 = .ok (.iconst 0, 1) := dcO tk_X6_setsAside_0 0 rfl
theorem dX6_setsAside_1 : decode cX6_setsAside 1 = .ok (.istore_n 1, 1) := dcO tk_X6_setsAside_0 1 rfl
theorem dX6_setsAside_2 : decode cX6_setsAside 2 = .ok (.iload_n 1, 1) := dcO tk_X6_setsAside_0 2 rfl
theorem dX6_setsAside_3 : decode cX6_setsAside 3 = .ok (.sipush 307, 3) := dcO tk_X6_setsAside_0 3 rfl
theorem dX6_setsAside_6 : decode cX6_setsAside 6 = .ok (.if_icmp .ge 21, 3) := dcO tk_X6_setsAside_0 4 rfl
theorem dX6_setsAside_9 : decode cX6_setsAside 9 = .ok (.aload_n 0, 1) := dcO tk_X6_setsAside_0 5 rfl
theorem dX6_setsAside_10 : decode cX6_setsAside 10 = .ok (.getfield 16, 3) := dcO tk_X6_setsAside_0 6 rfl
theorem dX6_setsAside_13 : decode cX6_setsAside 13 = .ok (.iload_n 1, 1) := dcO tk_X6_setsAside_0 7 rfl
theorem dX6_setsAside_14 : decode cX6_setsAside 14 = .ok (.aload_n 0, 1) := dcO tk_X6_setsAside_0 8 rfl
theorem dX6_setsAside_15 : decode cX6_setsAside 15 = .ok (.getfield 9, 3) := dcO tk_X6_setsAside_0 9 rfl
theorem dX6_setsAside_18 : decode cX6_setsAside 18 = .ok (.iload_n 1, 1) := dcO tk_X6_setsAside_0 10 rfl
theorem dX6_setsAside_19 : decode cX6_setsAside 19 = .ok (.iaload, 1) := dcO tk_X6_setsAside_0 11 rfl
theorem dX6_setsAside_20 : decode cX6_setsAside 20 = .ok (.iastore, 1) := dcO tk_X6_setsAside_0 12 rfl
theorem dX6_setsAside_21 : decode cX6_setsAside 21 = .ok (.iinc 1 1, 3) := dcO tk_X6_setsAside_0 13 rfl
theorem dX6_setsAside_24 : decode cX6_setsAside 24 = .ok (.goto (-22), 3) := dcO tk_X6_setsAside_0 14 rfl
theorem dX6_setsAside_27 : decode cX6_setsAside 27 = .ok (.return_, 1) := dcO tk_X6_setsAside_0 15 rfl
abbrev tb_X6_laysBack_0 : List (Nat × Instr × Nat) := [(0, .iconst 0, 1), (1, .istore_n 1, 1), (2, .iload_n 1, 1), (3, .sipush 307, 3), (6, .if_icmp .ge 21, 3), (9, .aload_n 0, 1), (10, .getfield 9, 3), (13, .iload_n 1, 1), (14, .aload_n 0, 1), (15, .getfield 16, 3), (18, .iload_n 1, 1), (19, .iaload, 1), (20, .iastore, 1), (21, .iinc 1 1, 3), (24, .goto (-22), 3), (27, .return_, 1)]
theorem tk_X6_laysBack_0 : dcA cX6_laysBack tb_X6_laysBack_0 = true := by decide +kernel
theorem dX6_laysBack_0 : decode cX6_laysBack 0 = .ok (.iconst 0, 1) := dcO tk_X6_laysBack_0 0 rfl
theorem dX6_laysBack_1 : decode cX6_laysBack 1 = .ok (.istore_n 1, 1) := dcO tk_X6_laysBack_0 1 rfl
theorem dX6_laysBack_2 : decode cX6_laysBack 2 = .ok (.iload_n 1, 1) := dcO tk_X6_laysBack_0 2 rfl
theorem dX6_laysBack_3 : decode cX6_laysBack 3 = .ok (.sipush 307, 3) := dcO tk_X6_laysBack_0 3 rfl
theorem dX6_laysBack_6 : decode cX6_laysBack 6 = .ok (.if_icmp .ge 21, 3) := dcO tk_X6_laysBack_0 4 rfl
theorem dX6_laysBack_9 : decode cX6_laysBack 9 = .ok (.aload_n 0, 1) := dcO tk_X6_laysBack_0 5 rfl
theorem dX6_laysBack_10 : decode cX6_laysBack 10 = .ok (.getfield 9, 3) := dcO tk_X6_laysBack_0 6 rfl
theorem dX6_laysBack_13 : decode cX6_laysBack 13 = .ok (.iload_n 1, 1) := dcO tk_X6_laysBack_0 7 rfl
theorem dX6_laysBack_14 : decode cX6_laysBack 14 = .ok (.aload_n 0, 1) := dcO tk_X6_laysBack_0 8 rfl
theorem dX6_laysBack_15 : decode cX6_laysBack 15 = .ok (.getfield 16, 3) := dcO tk_X6_laysBack_0 9 rfl
theorem dX6_laysBack_18 : decode cX6_laysBack 18 = .ok (.iload_n 1, 1) := dcO tk_X6_laysBack_0 10 rfl
theorem dX6_laysBack_19 : decode cX6_laysBack 19 = .ok (.iaload, 1) := dcO tk_X6_laysBack_0 11 rfl
theorem dX6_laysBack_20 : decode cX6_laysBack 20 = .ok (.iastore, 1) := dcO tk_X6_laysBack_0 12 rfl
theorem dX6_laysBack_21 : decode cX6_laysBack 21 = .ok (.iinc 1 1, 3) := dcO tk_X6_laysBack_0 13 rfl
theorem dX6_laysBack_24 : decode cX6_laysBack 24 = .ok (.goto (-22), 3) := dcO tk_X6_laysBack_0 14 rfl
theorem dX6_laysBack_27 : decode cX6_laysBack 27 = .ok (.return_, 1) := dcO tk_X6_laysBack_0 15 rfl
abbrev tb_X6_beside_0 : List (Nat × Instr × Nat) := [(0, .iload_n 1, 1), (1, .tableswitch 67 0 2 #[27, 32, 49], 27), (28, .iload_n 0, 1), (29, .bipush 9, 2), (31, .isub, 1), (32, .ireturn, 1), (33, .iload_n 0, 1), (34, .bipush 9, 2), (36, .irem, 1), (37, .bipush 8, 2), (39, .if_icmp .ne 7, 3), (42, .iconst (-1), 1), (43, .goto 6, 3), (46, .iload_n 0, 1), (47, .iconst 1, 1), (48, .iadd, 1), (49, .ireturn, 1), (50, .iload_n 0, 1), (51, .bipush 9, 2), (53, .iadd, 1), (54, .bipush 81, 2), (56, .if_icmp .ge 10, 3), (59, .iload_n 0, 1), (60, .bipush 9, 2), (62, .iadd, 1), (63, .goto 4, 3), (66, .iconst (-1), 1), (67, .ireturn, 1), (68, .iload_n 0, 1), (69, .bipush 9, 2), (71, .irem, 1), (72, .ifCond .ne 7, 3), (75, .iconst (-1), 1), (76, .goto 6, 3), (79, .iload_n 0, 1), (80, .iconst 1, 1), (81, .isub, 1), (82, .ireturn, 1)]
theorem tk_X6_beside_0 : dcA cX6_beside tb_X6_beside_0 = true := by decide +kernel
theorem dX6_beside_0 : decode cX6_beside 0 = .ok (.iload_n 1, 1) := dcO tk_X6_beside_0 0 rfl
theorem dX6_beside_1 : decode cX6_beside 1 = .ok (.tableswitch 67 0 2 #[27, 32, 49], 27) := dcO tk_X6_beside_0 1 rfl
theorem dX6_beside_28 : decode cX6_beside 28 = .ok (.iload_n 0, 1) := dcO tk_X6_beside_0 2 rfl
theorem dX6_beside_29 : decode cX6_beside 29 = .ok (.bipush 9, 2) := dcO tk_X6_beside_0 3 rfl
theorem dX6_beside_31 : decode cX6_beside 31 = .ok (.isub, 1) := dcO tk_X6_beside_0 4 rfl
theorem dX6_beside_32 : decode cX6_beside 32 = .ok (.ireturn, 1) := dcO tk_X6_beside_0 5 rfl
theorem dX6_beside_33 : decode cX6_beside 33 = .ok (.iload_n 0, 1) := dcO tk_X6_beside_0 6 rfl
theorem dX6_beside_34 : decode cX6_beside 34 = .ok (.bipush 9, 2) := dcO tk_X6_beside_0 7 rfl
theorem dX6_beside_36 : decode cX6_beside 36 = .ok (.irem, 1) := dcO tk_X6_beside_0 8 rfl
theorem dX6_beside_37 : decode cX6_beside 37 = .ok (.bipush 8, 2) := dcO tk_X6_beside_0 9 rfl
theorem dX6_beside_39 : decode cX6_beside 39 = .ok (.if_icmp .ne 7, 3) := dcO tk_X6_beside_0 10 rfl
theorem dX6_beside_42 : decode cX6_beside 42 = .ok (.iconst (-1), 1) := dcO tk_X6_beside_0 11 rfl
theorem dX6_beside_43 : decode cX6_beside 43 = .ok (.goto 6, 3) := dcO tk_X6_beside_0 12 rfl
theorem dX6_beside_46 : decode cX6_beside 46 = .ok (.iload_n 0, 1) := dcO tk_X6_beside_0 13 rfl
theorem dX6_beside_47 : decode cX6_beside 47 = .ok (.iconst 1, 1) := dcO tk_X6_beside_0 14 rfl
theorem dX6_beside_48 : decode cX6_beside 48 = .ok (.iadd, 1) := dcO tk_X6_beside_0 15 rfl
theorem dX6_beside_49 : decode cX6_beside 49 = .ok (.ireturn, 1) := dcO tk_X6_beside_0 16 rfl
theorem dX6_beside_50 : decode cX6_beside 50 = .ok (.iload_n 0, 1) := dcO tk_X6_beside_0 17 rfl
theorem dX6_beside_51 : decode cX6_beside 51 = .ok (.bipush 9, 2) := dcO tk_X6_beside_0 18 rfl
theorem dX6_beside_53 : decode cX6_beside 53 = .ok (.iadd, 1) := dcO tk_X6_beside_0 19 rfl
theorem dX6_beside_54 : decode cX6_beside 54 = .ok (.bipush 81, 2) := dcO tk_X6_beside_0 20 rfl
theorem dX6_beside_56 : decode cX6_beside 56 = .ok (.if_icmp .ge 10, 3) := dcO tk_X6_beside_0 21 rfl
theorem dX6_beside_59 : decode cX6_beside 59 = .ok (.iload_n 0, 1) := dcO tk_X6_beside_0 22 rfl
theorem dX6_beside_60 : decode cX6_beside 60 = .ok (.bipush 9, 2) := dcO tk_X6_beside_0 23 rfl
theorem dX6_beside_62 : decode cX6_beside 62 = .ok (.iadd, 1) := dcO tk_X6_beside_0 24 rfl
theorem dX6_beside_63 : decode cX6_beside 63 = .ok (.goto 4, 3) := dcO tk_X6_beside_0 25 rfl
theorem dX6_beside_66 : decode cX6_beside 66 = .ok (.iconst (-1), 1) := dcO tk_X6_beside_0 26 rfl
theorem dX6_beside_67 : decode cX6_beside 67 = .ok (.ireturn, 1) := dcO tk_X6_beside_0 27 rfl
theorem dX6_beside_68 : decode cX6_beside 68 = .ok (.iload_n 0, 1) := dcO tk_X6_beside_0 28 rfl
theorem dX6_beside_69 : decode cX6_beside 69 = .ok (.bipush 9, 2) := dcO tk_X6_beside_0 29 rfl
theorem dX6_beside_71 : decode cX6_beside 71 = .ok (.irem, 1) := dcO tk_X6_beside_0 30 rfl
theorem dX6_beside_72 : decode cX6_beside 72 = .ok (.ifCond .ne 7, 3) := dcO tk_X6_beside_0 31 rfl
theorem dX6_beside_75 : decode cX6_beside 75 = .ok (.iconst (-1), 1) := dcO tk_X6_beside_0 32 rfl
theorem dX6_beside_76 : decode cX6_beside 76 = .ok (.goto 6, 3) := dcO tk_X6_beside_0 33 rfl
theorem dX6_beside_79 : decode cX6_beside 79 = .ok (.iload_n 0, 1) := dcO tk_X6_beside_0 34 rfl
theorem dX6_beside_80 : decode cX6_beside 80 = .ok (.iconst 1, 1) := dcO tk_X6_beside_0 35 rfl
theorem dX6_beside_81 : decode cX6_beside 81 = .ok (.isub, 1) := dcO tk_X6_beside_0 36 rfl
theorem dX6_beside_82 : decode cX6_beside 82 = .ok (.ireturn, 1) := dcO tk_X6_beside_0 37 rfl
abbrev tb_X6_isHedge_0 : List (Nat × Instr × Nat) := [(0, .aload_n 0, 1), (1, .getfield 9, 3), (4, .bipush 14, 2), (6, .iload_n 1, 1), (7, .iadd, 1), (8, .iaload, 1), (9, .iconst 1, 1), (10, .if_icmp .ne 7, 3), (13, .iconst 1, 1), (14, .goto 4, 3), (17, .iconst 0, 1), (18, .ireturn, 1)]
theorem tk_X6_isHedge_0 : dcA cX6_isHedge tb_X6_isHedge_0 = true := by decide +kernel
theorem dX6_isHedge_0 : decode cX6_isHedge 0 = .ok (.aload_n 0, 1) := dcO tk_X6_isHedge_0 0 rfl
theorem dX6_isHedge_1 : decode cX6_isHedge 1 = .ok (.getfield 9, 3) := dcO tk_X6_isHedge_0 1 rfl
theorem dX6_isHedge_4 : decode cX6_isHedge 4 = .ok (.bipush 14, 2) := dcO tk_X6_isHedge_0 2 rfl
theorem dX6_isHedge_6 : decode cX6_isHedge 6 = .ok (.iload_n 1, 1) := dcO tk_X6_isHedge_0 3 rfl
theorem dX6_isHedge_7 : decode cX6_isHedge 7 = .ok (.iadd, 1) := dcO tk_X6_isHedge_0 4 rfl
theorem dX6_isHedge_8 : decode cX6_isHedge 8 = .ok (.iaload, 1) := dcO tk_X6_isHedge_0 5 rfl
theorem dX6_isHedge_9 : decode cX6_isHedge 9 = .ok (.iconst 1, 1) := dcO tk_X6_isHedge_0 6 rfl
theorem dX6_isHedge_10 : decode cX6_isHedge 10 = .ok (.if_icmp .ne 7, 3) := dcO tk_X6_isHedge_0 7 rfl
theorem dX6_isHedge_13 : decode cX6_isHedge 13 = .ok (.iconst 1, 1) := dcO tk_X6_isHedge_0 8 rfl
theorem dX6_isHedge_14 : decode cX6_isHedge 14 = .ok (.goto 4, 3) := dcO tk_X6_isHedge_0 9 rfl
theorem dX6_isHedge_17 : decode cX6_isHedge 17 = .ok (.iconst 0, 1) := dcO tk_X6_isHedge_0 10 rfl
theorem dX6_isHedge_18 : decode cX6_isHedge 18 = .ok (.ireturn, 1) := dcO tk_X6_isHedge_0 11 rfl
abbrev tb_X6_spreads_0 : List (Nat × Instr × Nat) := [(0, .iconst 0, 1), (1, .istore_n 3, 1), (2, .iload_n 3, 1), (3, .bipush 81, 2), (5, .if_icmp .ge 19, 3), (8, .aload_n 0, 1), (9, .getfield 22, 3), (12, .iload_n 2, 1), (13, .iload_n 3, 1), (14, .iadd, 1), (15, .bipush 99, 2), (17, .iastore, 1), (18, .iinc 3 1, 3), (21, .goto (-19), 3), (24, .iconst 0, 1), (25, .istore_n 3, 1), (26, .aload_n 0, 1), (27, .getfield 28, 3), (30, .iload_n 1, 1), (31, .baload, 1), (32, .ifCond .ne 21, 3), (35, .aload_n 0, 1), (36, .getfield 22, 3), (39, .iload_n 2, 1), (40, .iload_n 1, 1), (41, .iadd, 1), (42, .iconst 0, 1), (43, .iastore, 1), (44, .aload_n 0, 1), (45, .getfield 25, 3), (48, .iconst 0, 1), (49, .iload_n 1, 1), (50, .iastore, 1), (51, .iconst 1, 1), (52, .istore_n 3, 1), (53, .iconst 0, 1), (54, .istore 4, 2), (56, .iload 4, 2), (58, .iload_n 3, 1), (59, .if_icmp .ge 103, 3)]
theorem tk_X6_spreads_0 : dcA cX6_spreads tb_X6_spreads_0 = true := by decide +kernel
theorem dX6_spreads_0 : decode cX6_spreads 0 = .ok (.iconst 0, 1) := dcO tk_X6_spreads_0 0 rfl
theorem dX6_spreads_1 : decode cX6_spreads 1 = .ok (.istore_n 3, 1) := dcO tk_X6_spreads_0 1 rfl
theorem dX6_spreads_2 : decode cX6_spreads 2 = .ok (.iload_n 3, 1) := dcO tk_X6_spreads_0 2 rfl
theorem dX6_spreads_3 : decode cX6_spreads 3 = .ok (.bipush 81, 2) := dcO tk_X6_spreads_0 3 rfl
theorem dX6_spreads_5 : decode cX6_spreads 5 = .ok (.if_icmp .ge 19, 3) := dcO tk_X6_spreads_0 4 rfl
theorem dX6_spreads_8 : decode cX6_spreads 8 = .ok (.aload_n 0, 1) := dcO tk_X6_spreads_0 5 rfl
theorem dX6_spreads_9 : decode cX6_spreads 9 = .ok (.getfield 22, 3) := dcO tk_X6_spreads_0 6 rfl
theorem dX6_spreads_12 : decode cX6_spreads 12 = .ok (.iload_n 2, 1) := dcO tk_X6_spreads_0 7 rfl
theorem dX6_spreads_13 : decode cX6_spreads 13 = .ok (.iload_n 3, 1) := dcO tk_X6_spreads_0 8 rfl
theorem dX6_spreads_14 : decode cX6_spreads 14 = .ok (.iadd, 1) := dcO tk_X6_spreads_0 9 rfl
theorem dX6_spreads_15 : decode cX6_spreads 15 = .ok (.bipush 99, 2) := dcO tk_X6_spreads_0 10 rfl
theorem dX6_spreads_17 : decode cX6_spreads 17 = .ok (.iastore, 1) := dcO tk_X6_spreads_0 11 rfl
theorem dX6_spreads_18 : decode cX6_spreads 18 = .ok (.iinc 3 1, 3) := dcO tk_X6_spreads_0 12 rfl
theorem dX6_spreads_21 : decode cX6_spreads 21 = .ok (.goto (-19), 3) := dcO tk_X6_spreads_0 13 rfl
theorem dX6_spreads_24 : decode cX6_spreads 24 = .ok (.iconst 0, 1) := dcO tk_X6_spreads_0 14 rfl
theorem dX6_spreads_25 : decode cX6_spreads 25 = .ok (.istore_n 3, 1) := dcO tk_X6_spreads_0 15 rfl
theorem dX6_spreads_26 : decode cX6_spreads 26 = .ok (.aload_n 0, 1) := dcO tk_X6_spreads_0 16 rfl
theorem dX6_spreads_27 : decode cX6_spreads 27 = .ok (.getfield 28, 3) := dcO tk_X6_spreads_0 17 rfl
theorem dX6_spreads_30 : decode cX6_spreads 30 = .ok (.iload_n 1, 1) := dcO tk_X6_spreads_0 18 rfl
theorem dX6_spreads_31 : decode cX6_spreads 31 = .ok (.baload, 1) := dcO tk_X6_spreads_0 19 rfl
theorem dX6_spreads_32 : decode cX6_spreads 32 = .ok (.ifCond .ne 21, 3) := dcO tk_X6_spreads_0 20 rfl
theorem dX6_spreads_35 : decode cX6_spreads 35 = .ok (.aload_n 0, 1) := dcO tk_X6_spreads_0 21 rfl
theorem dX6_spreads_36 : decode cX6_spreads 36 = .ok (.getfield 22, 3) := dcO tk_X6_spreads_0 22 rfl
theorem dX6_spreads_39 : decode cX6_spreads 39 = .ok (.iload_n 2, 1) := dcO tk_X6_spreads_0 23 rfl
theorem dX6_spreads_40 : decode cX6_spreads 40 = .ok (.iload_n 1, 1) := dcO tk_X6_spreads_0 24 rfl
theorem dX6_spreads_41 : decode cX6_spreads 41 = .ok (.iadd, 1) := dcO tk_X6_spreads_0 25 rfl
theorem dX6_spreads_42 : decode cX6_spreads 42 = .ok (.iconst 0, 1) := dcO tk_X6_spreads_0 26 rfl
theorem dX6_spreads_43 : decode cX6_spreads 43 = .ok (.iastore, 1) := dcO tk_X6_spreads_0 27 rfl
theorem dX6_spreads_44 : decode cX6_spreads 44 = .ok (.aload_n 0, 1) := dcO tk_X6_spreads_0 28 rfl
theorem dX6_spreads_45 : decode cX6_spreads 45 = .ok (.getfield 25, 3) := dcO tk_X6_spreads_0 29 rfl
theorem dX6_spreads_48 : decode cX6_spreads 48 = .ok (.iconst 0, 1) := dcO tk_X6_spreads_0 30 rfl
theorem dX6_spreads_49 : decode cX6_spreads 49 = .ok (.iload_n 1, 1) := dcO tk_X6_spreads_0 31 rfl
theorem dX6_spreads_50 : decode cX6_spreads 50 = .ok (.iastore, 1) := dcO tk_X6_spreads_0 32 rfl
theorem dX6_spreads_51 : decode cX6_spreads 51 = .ok (.iconst 1, 1) := dcO tk_X6_spreads_0 33 rfl
theorem dX6_spreads_52 : decode cX6_spreads 52 = .ok (.istore_n 3, 1) := dcO tk_X6_spreads_0 34 rfl
theorem dX6_spreads_53 : decode cX6_spreads 53 = .ok (.iconst 0, 1) := dcO tk_X6_spreads_0 35 rfl
theorem dX6_spreads_54 : decode cX6_spreads 54 = .ok (.istore 4, 2) := dcO tk_X6_spreads_0 36 rfl
theorem dX6_spreads_56 : decode cX6_spreads 56 = .ok (.iload 4, 2) := dcO tk_X6_spreads_0 37 rfl
theorem dX6_spreads_58 : decode cX6_spreads 58 = .ok (.iload_n 3, 1) := dcO tk_X6_spreads_0 38 rfl
theorem dX6_spreads_59 : decode cX6_spreads 59 = .ok (.if_icmp .ge 103, 3) := dcO tk_X6_spreads_0 39 rfl
abbrev tb_X6_spreads_1 : List (Nat × Instr × Nat) := [(62, .iconst 0, 1), (63, .istore 5, 2), (65, .iload 5, 2), (67, .iconst 4, 1), (68, .if_icmp .ge 88, 3), (71, .aload_n 0, 1), (72, .getfield 25, 3), (75, .iload 4, 2), (77, .iaload, 1), (78, .iload 5, 2), (80, .invokestatic 65, 3), (83, .istore 6, 2), (85, .iload 6, 2), (87, .ifCond .lt 63, 3), (90, .aload_n 0, 1), (91, .getfield 28, 3), (94, .iload 6, 2), (96, .baload, 1), (97, .ifCond .ne 53, 3), (100, .aload_n 0, 1), (101, .getfield 22, 3), (104, .iload_n 2, 1), (105, .iload 6, 2), (107, .iadd, 1), (108, .iaload, 1), (109, .bipush 99, 2), (111, .if_icmp .ne 39, 3), (114, .aload_n 0, 1), (115, .getfield 22, 3), (118, .iload_n 2, 1), (119, .iload 6, 2), (121, .iadd, 1), (122, .aload_n 0, 1), (123, .getfield 22, 3), (126, .iload_n 2, 1), (127, .aload_n 0, 1), (128, .getfield 25, 3), (131, .iload 4, 2), (133, .iaload, 1), (134, .iadd, 1)]
theorem tk_X6_spreads_1 : dcA cX6_spreads tb_X6_spreads_1 = true := by decide +kernel
theorem dX6_spreads_62 : decode cX6_spreads 62 = .ok (.iconst 0, 1) := dcO tk_X6_spreads_1 0 rfl
theorem dX6_spreads_63 : decode cX6_spreads 63 = .ok (.istore 5, 2) := dcO tk_X6_spreads_1 1 rfl
theorem dX6_spreads_65 : decode cX6_spreads 65 = .ok (.iload 5, 2) := dcO tk_X6_spreads_1 2 rfl
theorem dX6_spreads_67 : decode cX6_spreads 67 = .ok (.iconst 4, 1) := dcO tk_X6_spreads_1 3 rfl
theorem dX6_spreads_68 : decode cX6_spreads 68 = .ok (.if_icmp .ge 88, 3) := dcO tk_X6_spreads_1 4 rfl
theorem dX6_spreads_71 : decode cX6_spreads 71 = .ok (.aload_n 0, 1) := dcO tk_X6_spreads_1 5 rfl
theorem dX6_spreads_72 : decode cX6_spreads 72 = .ok (.getfield 25, 3) := dcO tk_X6_spreads_1 6 rfl
theorem dX6_spreads_75 : decode cX6_spreads 75 = .ok (.iload 4, 2) := dcO tk_X6_spreads_1 7 rfl
theorem dX6_spreads_77 : decode cX6_spreads 77 = .ok (.iaload, 1) := dcO tk_X6_spreads_1 8 rfl
theorem dX6_spreads_78 : decode cX6_spreads 78 = .ok (.iload 5, 2) := dcO tk_X6_spreads_1 9 rfl
theorem dX6_spreads_80 : decode cX6_spreads 80 = .ok (.invokestatic 65, 3) := dcO tk_X6_spreads_1 10 rfl
theorem dX6_spreads_83 : decode cX6_spreads 83 = .ok (.istore 6, 2) := dcO tk_X6_spreads_1 11 rfl
theorem dX6_spreads_85 : decode cX6_spreads 85 = .ok (.iload 6, 2) := dcO tk_X6_spreads_1 12 rfl
theorem dX6_spreads_87 : decode cX6_spreads 87 = .ok (.ifCond .lt 63, 3) := dcO tk_X6_spreads_1 13 rfl
theorem dX6_spreads_90 : decode cX6_spreads 90 = .ok (.aload_n 0, 1) := dcO tk_X6_spreads_1 14 rfl
theorem dX6_spreads_91 : decode cX6_spreads 91 = .ok (.getfield 28, 3) := dcO tk_X6_spreads_1 15 rfl
theorem dX6_spreads_94 : decode cX6_spreads 94 = .ok (.iload 6, 2) := dcO tk_X6_spreads_1 16 rfl
theorem dX6_spreads_96 : decode cX6_spreads 96 = .ok (.baload, 1) := dcO tk_X6_spreads_1 17 rfl
theorem dX6_spreads_97 : decode cX6_spreads 97 = .ok (.ifCond .ne 53, 3) := dcO tk_X6_spreads_1 18 rfl
theorem dX6_spreads_100 : decode cX6_spreads 100 = .ok (.aload_n 0, 1) := dcO tk_X6_spreads_1 19 rfl
theorem dX6_spreads_101 : decode cX6_spreads 101 = .ok (.getfield 22, 3) := dcO tk_X6_spreads_1 20 rfl
theorem dX6_spreads_104 : decode cX6_spreads 104 = .ok (.iload_n 2, 1) := dcO tk_X6_spreads_1 21 rfl
theorem dX6_spreads_105 : decode cX6_spreads 105 = .ok (.iload 6, 2) := dcO tk_X6_spreads_1 22 rfl
theorem dX6_spreads_107 : decode cX6_spreads 107 = .ok (.iadd, 1) := dcO tk_X6_spreads_1 23 rfl
theorem dX6_spreads_108 : decode cX6_spreads 108 = .ok (.iaload, 1) := dcO tk_X6_spreads_1 24 rfl
theorem dX6_spreads_109 : decode cX6_spreads 109 = .ok (.bipush 99, 2) := dcO tk_X6_spreads_1 25 rfl
theorem dX6_spreads_111 : decode cX6_spreads 111 = .ok (.if_icmp .ne 39, 3) := dcO tk_X6_spreads_1 26 rfl
theorem dX6_spreads_114 : decode cX6_spreads 114 = .ok (.aload_n 0, 1) := dcO tk_X6_spreads_1 27 rfl
theorem dX6_spreads_115 : decode cX6_spreads 115 = .ok (.getfield 22, 3) := dcO tk_X6_spreads_1 28 rfl
theorem dX6_spreads_118 : decode cX6_spreads 118 = .ok (.iload_n 2, 1) := dcO tk_X6_spreads_1 29 rfl
theorem dX6_spreads_119 : decode cX6_spreads 119 = .ok (.iload 6, 2) := dcO tk_X6_spreads_1 30 rfl
theorem dX6_spreads_121 : decode cX6_spreads 121 = .ok (.iadd, 1) := dcO tk_X6_spreads_1 31 rfl
theorem dX6_spreads_122 : decode cX6_spreads 122 = .ok (.aload_n 0, 1) := dcO tk_X6_spreads_1 32 rfl
theorem dX6_spreads_123 : decode cX6_spreads 123 = .ok (.getfield 22, 3) := dcO tk_X6_spreads_1 33 rfl
theorem dX6_spreads_126 : decode cX6_spreads 126 = .ok (.iload_n 2, 1) := dcO tk_X6_spreads_1 34 rfl
theorem dX6_spreads_127 : decode cX6_spreads 127 = .ok (.aload_n 0, 1) := dcO tk_X6_spreads_1 35 rfl
theorem dX6_spreads_128 : decode cX6_spreads 128 = .ok (.getfield 25, 3) := dcO tk_X6_spreads_1 36 rfl
theorem dX6_spreads_131 : decode cX6_spreads 131 = .ok (.iload 4, 2) := dcO tk_X6_spreads_1 37 rfl
theorem dX6_spreads_133 : decode cX6_spreads 133 = .ok (.iaload, 1) := dcO tk_X6_spreads_1 38 rfl
theorem dX6_spreads_134 : decode cX6_spreads 134 = .ok (.iadd, 1) := dcO tk_X6_spreads_1 39 rfl
abbrev tb_X6_spreads_2 : List (Nat × Instr × Nat) := [(135, .iaload, 1), (136, .iconst 1, 1), (137, .iadd, 1), (138, .iastore, 1), (139, .aload_n 0, 1), (140, .getfield 25, 3), (143, .iload_n 3, 1), (144, .iload 6, 2), (146, .iastore, 1), (147, .iinc 3 1, 3), (150, .iinc 5 1, 3), (153, .goto (-88), 3), (156, .iinc 4 1, 3), (159, .goto (-103), 3), (162, .return_, 1)]
theorem tk_X6_spreads_2 : dcA cX6_spreads tb_X6_spreads_2 = true := by decide +kernel
theorem dX6_spreads_135 : decode cX6_spreads 135 = .ok (.iaload, 1) := dcO tk_X6_spreads_2 0 rfl
theorem dX6_spreads_136 : decode cX6_spreads 136 = .ok (.iconst 1, 1) := dcO tk_X6_spreads_2 1 rfl
theorem dX6_spreads_137 : decode cX6_spreads 137 = .ok (.iadd, 1) := dcO tk_X6_spreads_2 2 rfl
theorem dX6_spreads_138 : decode cX6_spreads 138 = .ok (.iastore, 1) := dcO tk_X6_spreads_2 3 rfl
theorem dX6_spreads_139 : decode cX6_spreads 139 = .ok (.aload_n 0, 1) := dcO tk_X6_spreads_2 4 rfl
theorem dX6_spreads_140 : decode cX6_spreads 140 = .ok (.getfield 25, 3) := dcO tk_X6_spreads_2 5 rfl
theorem dX6_spreads_143 : decode cX6_spreads 143 = .ok (.iload_n 3, 1) := dcO tk_X6_spreads_2 6 rfl
theorem dX6_spreads_144 : decode cX6_spreads 144 = .ok (.iload 6, 2) := dcO tk_X6_spreads_2 7 rfl
theorem dX6_spreads_146 : decode cX6_spreads 146 = .ok (.iastore, 1) := dcO tk_X6_spreads_2 8 rfl
theorem dX6_spreads_147 : decode cX6_spreads 147 = .ok (.iinc 3 1, 3) := dcO tk_X6_spreads_2 9 rfl
theorem dX6_spreads_150 : decode cX6_spreads 150 = .ok (.iinc 5 1, 3) := dcO tk_X6_spreads_2 10 rfl
theorem dX6_spreads_153 : decode cX6_spreads 153 = .ok (.goto (-88), 3) := dcO tk_X6_spreads_2 11 rfl
theorem dX6_spreads_156 : decode cX6_spreads 156 = .ok (.iinc 4 1, 3) := dcO tk_X6_spreads_2 12 rfl
theorem dX6_spreads_159 : decode cX6_spreads 159 = .ok (.goto (-103), 3) := dcO tk_X6_spreads_2 13 rfl
theorem dX6_spreads_162 : decode cX6_spreads 162 = .ok (.return_, 1) := dcO tk_X6_spreads_2 14 rfl
abbrev tb_X6_barsHedges_0 : List (Nat × Instr × Nat) := [(0, .iconst 0, 1), (1, .istore_n 1, 1), (2, .iload_n 1, 1), (3, .bipush 81, 2), (5, .if_icmp .ge 20, 3), (8, .aload_n 0, 1), (9, .getfield 28, 3), (12, .iload_n 1, 1), (13, .aload_n 0, 1), (14, .iload_n 1, 1), (15, .invokevirtual 69, 3), (18, .bastore, 1), (19, .iinc 1 1, 3), (22, .goto (-20), 3), (25, .return_, 1)]
theorem tk_X6_barsHedges_0 : dcA cX6_barsHedges tb_X6_barsHedges_0 = true := by decide +kernel
theorem dX6_barsHedges_0 : decode cX6_barsHedges 0 = .ok (.iconst 0, 1) := dcO tk_X6_barsHedges_0 0 rfl
theorem dX6_barsHedges_1 : decode cX6_barsHedges 1 = .ok (.istore_n 1, 1) := dcO tk_X6_barsHedges_0 1 rfl
theorem dX6_barsHedges_2 : decode cX6_barsHedges 2 = .ok (.iload_n 1, 1) := dcO tk_X6_barsHedges_0 2 rfl
theorem dX6_barsHedges_3 : decode cX6_barsHedges 3 = .ok (.bipush 81, 2) := dcO tk_X6_barsHedges_0 3 rfl
theorem dX6_barsHedges_5 : decode cX6_barsHedges 5 = .ok (.if_icmp .ge 20, 3) := dcO tk_X6_barsHedges_0 4 rfl
theorem dX6_barsHedges_8 : decode cX6_barsHedges 8 = .ok (.aload_n 0, 1) := dcO tk_X6_barsHedges_0 5 rfl
theorem dX6_barsHedges_9 : decode cX6_barsHedges 9 = .ok (.getfield 28, 3) := dcO tk_X6_barsHedges_0 6 rfl
theorem dX6_barsHedges_12 : decode cX6_barsHedges 12 = .ok (.iload_n 1, 1) := dcO tk_X6_barsHedges_0 7 rfl
theorem dX6_barsHedges_13 : decode cX6_barsHedges 13 = .ok (.aload_n 0, 1) := dcO tk_X6_barsHedges_0 8 rfl
theorem dX6_barsHedges_14 : decode cX6_barsHedges 14 = .ok (.iload_n 1, 1) := dcO tk_X6_barsHedges_0 9 rfl
theorem dX6_barsHedges_15 : decode cX6_barsHedges 15 = .ok (.invokevirtual 69, 3) := dcO tk_X6_barsHedges_0 10 rfl
theorem dX6_barsHedges_18 : decode cX6_barsHedges 18 = .ok (.bastore, 1) := dcO tk_X6_barsHedges_0 11 rfl
theorem dX6_barsHedges_19 : decode cX6_barsHedges 19 = .ok (.iinc 1 1, 3) := dcO tk_X6_barsHedges_0 12 rfl
theorem dX6_barsHedges_22 : decode cX6_barsHedges 22 = .ok (.goto (-20), 3) := dcO tk_X6_barsHedges_0 13 rfl
theorem dX6_barsHedges_25 : decode cX6_barsHedges 25 = .ok (.return_, 1) := dcO tk_X6_barsHedges_0 14 rfl
abbrev tb_X6_findsFars_0 : List (Nat × Instr × Nat) := [(0, .aload_n 0, 1), (1, .invokevirtual 73, 3), (4, .iconst 0, 1), (5, .istore_n 1, 1), (6, .iload_n 1, 1), (7, .aload_n 0, 1), (8, .getfield 9, 3), (11, .iconst 2, 1), (12, .iaload, 1), (13, .if_icmp .ge 23, 3), (16, .aload_n 0, 1), (17, .aload_n 0, 1), (18, .iload_n 1, 1), (19, .iconst 3, 1), (20, .invokevirtual 76, 3), (23, .bipush 81, 2), (25, .iload_n 1, 1), (26, .imul, 1), (27, .invokevirtual 79, 3), (30, .iinc 1 1, 3), (33, .goto (-27), 3), (36, .return_, 1)]
theorem tk_X6_findsFars_0 : dcA cX6_findsFars tb_X6_findsFars_0 = true := by decide +kernel
theorem dX6_findsFars_0 : decode cX6_findsFars 0 = .ok (.aload_n 0, 1) := dcO tk_X6_findsFars_0 0 rfl
theorem dX6_findsFars_1 : decode cX6_findsFars 1 = .ok (.invokevirtual 73, 3) := dcO tk_X6_findsFars_0 1 rfl
theorem dX6_findsFars_4 : decode cX6_findsFars 4 = .ok (.iconst 0, 1) := dcO tk_X6_findsFars_0 2 rfl
theorem dX6_findsFars_5 : decode cX6_findsFars 5 = .ok (.istore_n 1, 1) := dcO tk_X6_findsFars_0 3 rfl
theorem dX6_findsFars_6 : decode cX6_findsFars 6 = .ok (.iload_n 1, 1) := dcO tk_X6_findsFars_0 4 rfl
theorem dX6_findsFars_7 : decode cX6_findsFars 7 = .ok (.aload_n 0, 1) := dcO tk_X6_findsFars_0 5 rfl
theorem dX6_findsFars_8 : decode cX6_findsFars 8 = .ok (.getfield 9, 3) := dcO tk_X6_findsFars_0 6 rfl
theorem dX6_findsFars_11 : decode cX6_findsFars 11 = .ok (.iconst 2, 1) := dcO tk_X6_findsFars_0 7 rfl
theorem dX6_findsFars_12 : decode cX6_findsFars 12 = .ok (.iaload, 1) := dcO tk_X6_findsFars_0 8 rfl
theorem dX6_findsFars_13 : decode cX6_findsFars 13 = .ok (.if_icmp .ge 23, 3) := dcO tk_X6_findsFars_0 9 rfl
theorem dX6_findsFars_16 : decode cX6_findsFars 16 = .ok (.aload_n 0, 1) := dcO tk_X6_findsFars_0 10 rfl
theorem dX6_findsFars_17 : decode cX6_findsFars 17 = .ok (.aload_n 0, 1) := dcO tk_X6_findsFars_0 11 rfl
theorem dX6_findsFars_18 : decode cX6_findsFars 18 = .ok (.iload_n 1, 1) := dcO tk_X6_findsFars_0 12 rfl
theorem dX6_findsFars_19 : decode cX6_findsFars 19 = .ok (.iconst 3, 1) := dcO tk_X6_findsFars_0 13 rfl
theorem dX6_findsFars_20 : decode cX6_findsFars 20 = .ok (.invokevirtual 76, 3) := dcO tk_X6_findsFars_0 14 rfl
theorem dX6_findsFars_23 : decode cX6_findsFars 23 = .ok (.bipush 81, 2) := dcO tk_X6_findsFars_0 15 rfl
theorem dX6_findsFars_25 : decode cX6_findsFars 25 = .ok (.iload_n 1, 1) := dcO tk_X6_findsFars_0 16 rfl
theorem dX6_findsFars_26 : decode cX6_findsFars 26 = .ok (.imul, 1) := dcO tk_X6_findsFars_0 17 rfl
theorem dX6_findsFars_27 : decode cX6_findsFars 27 = .ok (.invokevirtual 79, 3) := dcO tk_X6_findsFars_0 18 rfl
theorem dX6_findsFars_30 : decode cX6_findsFars 30 = .ok (.iinc 1 1, 3) := dcO tk_X6_findsFars_0 19 rfl
theorem dX6_findsFars_33 : decode cX6_findsFars 33 = .ok (.goto (-27), 3) := dcO tk_X6_findsFars_0 20 rfl
theorem dX6_findsFars_36 : decode cX6_findsFars 36 = .ok (.return_, 1) := dcO tk_X6_findsFars_0 21 rfl
abbrev tb_X6_farBy_0 : List (Nat × Instr × Nat) := [(0, .aload_n 0, 1), (1, .getfield 22, 3), (4, .bipush 81, 2), (6, .iload_n 1, 1), (7, .imul, 1), (8, .iload_n 2, 1), (9, .iadd, 1), (10, .iaload, 1), (11, .ireturn, 1)]
theorem tk_X6_farBy_0 : dcA cX6_farBy tb_X6_farBy_0 = true := by decide +kernel
theorem dX6_farBy_0 : decode cX6_farBy 0 = .ok (.aload_n 0, 1) := dcO tk_X6_farBy_0 0 rfl
theorem dX6_farBy_1 : decode cX6_farBy 1 = .ok (.getfield 22, 3) := dcO tk_X6_farBy_0 1 rfl
theorem dX6_farBy_4 : decode cX6_farBy 4 = .ok (.bipush 81, 2) := dcO tk_X6_farBy_0 2 rfl
theorem dX6_farBy_6 : decode cX6_farBy 6 = .ok (.iload_n 1, 1) := dcO tk_X6_farBy_0 3 rfl
theorem dX6_farBy_7 : decode cX6_farBy 7 = .ok (.imul, 1) := dcO tk_X6_farBy_0 4 rfl
theorem dX6_farBy_8 : decode cX6_farBy 8 = .ok (.iload_n 2, 1) := dcO tk_X6_farBy_0 5 rfl
theorem dX6_farBy_9 : decode cX6_farBy 9 = .ok (.iadd, 1) := dcO tk_X6_farBy_0 6 rfl
theorem dX6_farBy_10 : decode cX6_farBy 10 = .ok (.iaload, 1) := dcO tk_X6_farBy_0 7 rfl
theorem dX6_farBy_11 : decode cX6_farBy 11 = .ok (.ireturn, 1) := dcO tk_X6_farBy_0 8 rfl
abbrev tb_X6_isGreedy_0 : List (Nat × Instr × Nat) := [(0, .aload_n 0, 1), (1, .iload_n 1, 1), (2, .iconst 0, 1), (3, .invokevirtual 76, 3), (6, .iconst 1, 1), (7, .if_icmp .eq 14, 3), (10, .aload_n 0, 1), (11, .iload_n 1, 1), (12, .iconst 0, 1), (13, .invokevirtual 76, 3), (16, .bipush 6, 2), (18, .if_icmp .ne 7, 3), (21, .iconst 1, 1), (22, .goto 4, 3), (25, .iconst 0, 1), (26, .ireturn, 1)]
theorem tk_X6_isGreedy_0 : dcA cX6_isGreedy tb_X6_isGreedy_0 = true := by decide +kernel
theorem dX6_isGreedy_0 : decode cX6_isGreedy 0 = .ok (.aload_n 0, 1) := dcO tk_X6_isGreedy_0 0 rfl
theorem dX6_isGreedy_1 : decode cX6_isGreedy 1 = .ok (.iload_n 1, 1) := dcO tk_X6_isGreedy_0 1 rfl
theorem dX6_isGreedy_2 : decode cX6_isGreedy 2 = .ok (.iconst 0, 1) := dcO tk_X6_isGreedy_0 2 rfl
theorem dX6_isGreedy_3 : decode cX6_isGreedy 3 = .ok (.invokevirtual 76, 3) := dcO tk_X6_isGreedy_0 3 rfl
theorem dX6_isGreedy_6 : decode cX6_isGreedy 6 = .ok (.iconst 1, 1) := dcO tk_X6_isGreedy_0 4 rfl
theorem dX6_isGreedy_7 : decode cX6_isGreedy 7 = .ok (.if_icmp .eq 14, 3) := dcO tk_X6_isGreedy_0 5 rfl
theorem dX6_isGreedy_10 : decode cX6_isGreedy 10 = .ok (.aload_n 0, 1) := dcO tk_X6_isGreedy_0 6 rfl
theorem dX6_isGreedy_11 : decode cX6_isGreedy 11 = .ok (.iload_n 1, 1) := dcO tk_X6_isGreedy_0 7 rfl
theorem dX6_isGreedy_12 : decode cX6_isGreedy 12 = .ok (.iconst 0, 1) := dcO tk_X6_isGreedy_0 8 rfl
theorem dX6_isGreedy_13 : decode cX6_isGreedy 13 = .ok (.invokevirtual 76, 3) := dcO tk_X6_isGreedy_0 9 rfl
theorem dX6_isGreedy_16 : decode cX6_isGreedy 16 = .ok (.bipush 6, 2) := dcO tk_X6_isGreedy_0 10 rfl
theorem dX6_isGreedy_18 : decode cX6_isGreedy 18 = .ok (.if_icmp .ne 7, 3) := dcO tk_X6_isGreedy_0 11 rfl
theorem dX6_isGreedy_21 : decode cX6_isGreedy 21 = .ok (.iconst 1, 1) := dcO tk_X6_isGreedy_0 12 rfl
theorem dX6_isGreedy_22 : decode cX6_isGreedy 22 = .ok (.goto 4, 3) := dcO tk_X6_isGreedy_0 13 rfl
theorem dX6_isGreedy_25 : decode cX6_isGreedy 25 = .ok (.iconst 0, 1) := dcO tk_X6_isGreedy_0 14 rfl
theorem dX6_isGreedy_26 : decode cX6_isGreedy 26 = .ok (.ireturn, 1) := dcO tk_X6_isGreedy_0 15 rfl
abbrev tb_X6_movesOf_0 : List (Nat × Instr × Nat) := [(0, .aload_n 0, 1), (1, .getfield 9, 3), (4, .iconst 4, 1), (5, .iaload, 1), (6, .iconst 5, 1), (7, .idiv, 1), (8, .iconst 1, 1), (9, .iadd, 1), (10, .istore_n 2, 1), (11, .aload_n 0, 1), (12, .getfield 9, 3), (15, .iconst 0, 1), (16, .iaload, 1), (17, .iconst 2, 1), (18, .irem, 1), (19, .ifCond .ne 9, 3), (22, .iload_n 2, 1), (23, .iconst 1, 1), (24, .isub, 1), (25, .goto 4, 3), (28, .iconst 0, 1), (29, .istore_n 3, 1), (30, .aload_n 0, 1), (31, .getfield 9, 3), (34, .bipush 95, 2), (36, .aload_n 0, 1), (37, .iload_n 1, 1), (38, .iconst 1, 1), (39, .invokevirtual 76, 3), (42, .iadd, 1), (43, .iaload, 1), (44, .ifCond .le 7, 3), (47, .iconst 1, 1), (48, .goto 4, 3), (51, .iconst 0, 1), (52, .istore 4, 2), (54, .aload_n 0, 1), (55, .iload_n 1, 1), (56, .iconst 0, 1), (57, .invokevirtual 76, 3)]
theorem tk_X6_movesOf_0 : dcA cX6_movesOf tb_X6_movesOf_0 = true := by decide +kernel
theorem dX6_movesOf_0 : decode cX6_movesOf 0 = .ok (.aload_n 0, 1) := dcO tk_X6_movesOf_0 0 rfl
theorem dX6_movesOf_1 : decode cX6_movesOf 1 = .ok (.getfield 9, 3) := dcO tk_X6_movesOf_0 1 rfl
theorem dX6_movesOf_4 : decode cX6_movesOf 4 = .ok (.iconst 4, 1) := dcO tk_X6_movesOf_0 2 rfl
theorem dX6_movesOf_5 : decode cX6_movesOf 5 = .ok (.iaload, 1) := dcO tk_X6_movesOf_0 3 rfl
theorem dX6_movesOf_6 : decode cX6_movesOf 6 = .ok (.iconst 5, 1) := dcO tk_X6_movesOf_0 4 rfl
theorem dX6_movesOf_7 : decode cX6_movesOf 7 = .ok (.idiv, 1) := dcO tk_X6_movesOf_0 5 rfl
theorem dX6_movesOf_8 : decode cX6_movesOf 8 = .ok (.iconst 1, 1) := dcO tk_X6_movesOf_0 6 rfl
theorem dX6_movesOf_9 : decode cX6_movesOf 9 = .ok (.iadd, 1) := dcO tk_X6_movesOf_0 7 rfl
theorem dX6_movesOf_10 : decode cX6_movesOf 10 = .ok (.istore_n 2, 1) := dcO tk_X6_movesOf_0 8 rfl
theorem dX6_movesOf_11 : decode cX6_movesOf 11 = .ok (.aload_n 0, 1) := dcO tk_X6_movesOf_0 9 rfl
theorem dX6_movesOf_12 : decode cX6_movesOf 12 = .ok (.getfield 9, 3) := dcO tk_X6_movesOf_0 10 rfl
theorem dX6_movesOf_15 : decode cX6_movesOf 15 = .ok (.iconst 0, 1) := dcO tk_X6_movesOf_0 11 rfl
theorem dX6_movesOf_16 : decode cX6_movesOf 16 = .ok (.iaload, 1) := dcO tk_X6_movesOf_0 12 rfl
theorem dX6_movesOf_17 : decode cX6_movesOf 17 = .ok (.iconst 2, 1) := dcO tk_X6_movesOf_0 13 rfl
theorem dX6_movesOf_18 : decode cX6_movesOf 18 = .ok (.irem, 1) := dcO tk_X6_movesOf_0 14 rfl
theorem dX6_movesOf_19 : decode cX6_movesOf 19 = .ok (.ifCond .ne 9, 3) := dcO tk_X6_movesOf_0 15 rfl
theorem dX6_movesOf_22 : decode cX6_movesOf 22 = .ok (.iload_n 2, 1) := dcO tk_X6_movesOf_0 16 rfl
theorem dX6_movesOf_23 : decode cX6_movesOf 23 = .ok (.iconst 1, 1) := dcO tk_X6_movesOf_0 17 rfl
theorem dX6_movesOf_24 : decode cX6_movesOf 24 = .ok (.isub, 1) := dcO tk_X6_movesOf_0 18 rfl
theorem dX6_movesOf_25 : decode cX6_movesOf 25 = .ok (.goto 4, 3) := dcO tk_X6_movesOf_0 19 rfl
theorem dX6_movesOf_28 : decode cX6_movesOf 28 = .ok (.iconst 0, 1) := dcO tk_X6_movesOf_0 20 rfl
theorem dX6_movesOf_29 : decode cX6_movesOf 29 = .ok (.istore_n 3, 1) := dcO tk_X6_movesOf_0 21 rfl
theorem dX6_movesOf_30 : decode cX6_movesOf 30 = .ok (.aload_n 0, 1) := dcO tk_X6_movesOf_0 22 rfl
theorem dX6_movesOf_31 : decode cX6_movesOf 31 = .ok (.getfield 9, 3) := dcO tk_X6_movesOf_0 23 rfl
theorem dX6_movesOf_34 : decode cX6_movesOf 34 = .ok (.bipush 95, 2) := dcO tk_X6_movesOf_0 24 rfl
theorem dX6_movesOf_36 : decode cX6_movesOf 36 = .ok (.aload_n 0, 1) := dcO tk_X6_movesOf_0 25 rfl
theorem dX6_movesOf_37 : decode cX6_movesOf 37 = .ok (.iload_n 1, 1) := dcO tk_X6_movesOf_0 26 rfl
theorem dX6_movesOf_38 : decode cX6_movesOf 38 = .ok (.iconst 1, 1) := dcO tk_X6_movesOf_0 27 rfl
theorem dX6_movesOf_39 : decode cX6_movesOf 39 = .ok (.invokevirtual 76, 3) := dcO tk_X6_movesOf_0 28 rfl
theorem dX6_movesOf_42 : decode cX6_movesOf 42 = .ok (.iadd, 1) := dcO tk_X6_movesOf_0 29 rfl
theorem dX6_movesOf_43 : decode cX6_movesOf 43 = .ok (.iaload, 1) := dcO tk_X6_movesOf_0 30 rfl
theorem dX6_movesOf_44 : decode cX6_movesOf 44 = .ok (.ifCond .le 7, 3) := dcO tk_X6_movesOf_0 31 rfl
theorem dX6_movesOf_47 : decode cX6_movesOf 47 = .ok (.iconst 1, 1) := dcO tk_X6_movesOf_0 32 rfl
theorem dX6_movesOf_48 : decode cX6_movesOf 48 = .ok (.goto 4, 3) := dcO tk_X6_movesOf_0 33 rfl
theorem dX6_movesOf_51 : decode cX6_movesOf 51 = .ok (.iconst 0, 1) := dcO tk_X6_movesOf_0 34 rfl
theorem dX6_movesOf_52 : decode cX6_movesOf 52 = .ok (.istore 4, 2) := dcO tk_X6_movesOf_0 35 rfl
theorem dX6_movesOf_54 : decode cX6_movesOf 54 = .ok (.aload_n 0, 1) := dcO tk_X6_movesOf_0 36 rfl
theorem dX6_movesOf_55 : decode cX6_movesOf 55 = .ok (.iload_n 1, 1) := dcO tk_X6_movesOf_0 37 rfl
theorem dX6_movesOf_56 : decode cX6_movesOf 56 = .ok (.iconst 0, 1) := dcO tk_X6_movesOf_0 38 rfl
theorem dX6_movesOf_57 : decode cX6_movesOf 57 = .ok (.invokevirtual 76, 3) := dcO tk_X6_movesOf_0 39 rfl
abbrev tb_X6_movesOf_1 : List (Nat × Instr × Nat) := [(60, .tableswitch 91 1 6 #[40, 51, 55, 57, 76, 78], 40), (100, .iload 4, 2), (102, .ifCond .eq 7, 3), (105, .iconst 0, 1), (106, .goto 4, 3), (109, .iload_n 2, 1), (110, .ireturn, 1), (111, .iload_n 2, 1), (112, .iconst 1, 1), (113, .isub, 1), (114, .ireturn, 1), (115, .iload_n 3, 1), (116, .ireturn, 1), (117, .iload_n 3, 1), (118, .aload_n 0, 1), (119, .getfield 9, 3), (122, .iconst 0, 1), (123, .iaload, 1), (124, .iconst 5, 1), (125, .irem, 1), (126, .ifCond .ne 7, 3), (129, .iconst 1, 1), (130, .goto 4, 3), (133, .iconst 0, 1), (134, .iadd, 1), (135, .ireturn, 1), (136, .iconst 3, 1), (137, .ireturn, 1), (138, .iload 4, 2), (140, .ifCond .eq 7, 3), (143, .iconst 0, 1), (144, .goto 6, 3), (147, .iconst 2, 1), (148, .iload_n 2, 1), (149, .imul, 1), (150, .ireturn, 1), (151, .iload_n 2, 1), (152, .ireturn, 1)]
theorem tk_X6_movesOf_1 : dcA cX6_movesOf tb_X6_movesOf_1 = true := by decide +kernel
theorem dX6_movesOf_60 : decode cX6_movesOf 60 = .ok (.tableswitch 91 1 6 #[40, 51, 55, 57, 76, 78], 40) := dcO tk_X6_movesOf_1 0 rfl
theorem dX6_movesOf_100 : decode cX6_movesOf 100 = .ok (.iload 4, 2) := dcO tk_X6_movesOf_1 1 rfl
theorem dX6_movesOf_102 : decode cX6_movesOf 102 = .ok (.ifCond .eq 7, 3) := dcO tk_X6_movesOf_1 2 rfl
theorem dX6_movesOf_105 : decode cX6_movesOf 105 = .ok (.iconst 0, 1) := dcO tk_X6_movesOf_1 3 rfl
theorem dX6_movesOf_106 : decode cX6_movesOf 106 = .ok (.goto 4, 3) := dcO tk_X6_movesOf_1 4 rfl
theorem dX6_movesOf_109 : decode cX6_movesOf 109 = .ok (.iload_n 2, 1) := dcO tk_X6_movesOf_1 5 rfl
theorem dX6_movesOf_110 : decode cX6_movesOf 110 = .ok (.ireturn, 1) := dcO tk_X6_movesOf_1 6 rfl
theorem dX6_movesOf_111 : decode cX6_movesOf 111 = .ok (.iload_n 2, 1) := dcO tk_X6_movesOf_1 7 rfl
theorem dX6_movesOf_112 : decode cX6_movesOf 112 = .ok (.iconst 1, 1) := dcO tk_X6_movesOf_1 8 rfl
theorem dX6_movesOf_113 : decode cX6_movesOf 113 = .ok (.isub, 1) := dcO tk_X6_movesOf_1 9 rfl
theorem dX6_movesOf_114 : decode cX6_movesOf 114 = .ok (.ireturn, 1) := dcO tk_X6_movesOf_1 10 rfl
theorem dX6_movesOf_115 : decode cX6_movesOf 115 = .ok (.iload_n 3, 1) := dcO tk_X6_movesOf_1 11 rfl
theorem dX6_movesOf_116 : decode cX6_movesOf 116 = .ok (.ireturn, 1) := dcO tk_X6_movesOf_1 12 rfl
theorem dX6_movesOf_117 : decode cX6_movesOf 117 = .ok (.iload_n 3, 1) := dcO tk_X6_movesOf_1 13 rfl
theorem dX6_movesOf_118 : decode cX6_movesOf 118 = .ok (.aload_n 0, 1) := dcO tk_X6_movesOf_1 14 rfl
theorem dX6_movesOf_119 : decode cX6_movesOf 119 = .ok (.getfield 9, 3) := dcO tk_X6_movesOf_1 15 rfl
theorem dX6_movesOf_122 : decode cX6_movesOf 122 = .ok (.iconst 0, 1) := dcO tk_X6_movesOf_1 16 rfl
theorem dX6_movesOf_123 : decode cX6_movesOf 123 = .ok (.iaload, 1) := dcO tk_X6_movesOf_1 17 rfl
theorem dX6_movesOf_124 : decode cX6_movesOf 124 = .ok (.iconst 5, 1) := dcO tk_X6_movesOf_1 18 rfl
theorem dX6_movesOf_125 : decode cX6_movesOf 125 = .ok (.irem, 1) := dcO tk_X6_movesOf_1 19 rfl
theorem dX6_movesOf_126 : decode cX6_movesOf 126 = .ok (.ifCond .ne 7, 3) := dcO tk_X6_movesOf_1 20 rfl
theorem dX6_movesOf_129 : decode cX6_movesOf 129 = .ok (.iconst 1, 1) := dcO tk_X6_movesOf_1 21 rfl
theorem dX6_movesOf_130 : decode cX6_movesOf 130 = .ok (.goto 4, 3) := dcO tk_X6_movesOf_1 22 rfl
theorem dX6_movesOf_133 : decode cX6_movesOf 133 = .ok (.iconst 0, 1) := dcO tk_X6_movesOf_1 23 rfl
theorem dX6_movesOf_134 : decode cX6_movesOf 134 = .ok (.iadd, 1) := dcO tk_X6_movesOf_1 24 rfl
theorem dX6_movesOf_135 : decode cX6_movesOf 135 = .ok (.ireturn, 1) := dcO tk_X6_movesOf_1 25 rfl
theorem dX6_movesOf_136 : decode cX6_movesOf 136 = .ok (.iconst 3, 1) := dcO tk_X6_movesOf_1 26 rfl
theorem dX6_movesOf_137 : decode cX6_movesOf 137 = .ok (.ireturn, 1) := dcO tk_X6_movesOf_1 27 rfl
theorem dX6_movesOf_138 : decode cX6_movesOf 138 = .ok (.iload 4, 2) := dcO tk_X6_movesOf_1 28 rfl
theorem dX6_movesOf_140 : decode cX6_movesOf 140 = .ok (.ifCond .eq 7, 3) := dcO tk_X6_movesOf_1 29 rfl
theorem dX6_movesOf_143 : decode cX6_movesOf 143 = .ok (.iconst 0, 1) := dcO tk_X6_movesOf_1 30 rfl
theorem dX6_movesOf_144 : decode cX6_movesOf 144 = .ok (.goto 6, 3) := dcO tk_X6_movesOf_1 31 rfl
theorem dX6_movesOf_147 : decode cX6_movesOf 147 = .ok (.iconst 2, 1) := dcO tk_X6_movesOf_1 32 rfl
theorem dX6_movesOf_148 : decode cX6_movesOf 148 = .ok (.iload_n 2, 1) := dcO tk_X6_movesOf_1 33 rfl
theorem dX6_movesOf_149 : decode cX6_movesOf 149 = .ok (.imul, 1) := dcO tk_X6_movesOf_1 34 rfl
theorem dX6_movesOf_150 : decode cX6_movesOf 150 = .ok (.ireturn, 1) := dcO tk_X6_movesOf_1 35 rfl
theorem dX6_movesOf_151 : decode cX6_movesOf 151 = .ok (.iload_n 2, 1) := dcO tk_X6_movesOf_1 36 rfl
theorem dX6_movesOf_152 : decode cX6_movesOf 152 = .ok (.ireturn, 1) := dcO tk_X6_movesOf_1 37 rfl
abbrev tb_X6_comesUnder_0 : List (Nat × Instr × Nat) := [(0, .aload_n 0, 1), (1, .getfield 9, 3), (4, .sipush 176, 3), (7, .iload_n 1, 1), (8, .iadd, 1), (9, .iaload, 1), (10, .ifCond .lt 52, 3), (13, .aload_n 0, 1), (14, .getfield 9, 3), (17, .sipush 176, 3), (20, .iload_n 1, 1), (21, .iadd, 1), (22, .iaload, 1), (23, .iload_n 2, 1), (24, .if_icmp .eq 38, 3), (27, .aload_n 0, 1), (28, .getfield 9, 3), (31, .iconst 1, 1), (32, .dup2, 1), (33, .iaload, 1), (34, .aload_n 0, 1), (35, .getfield 9, 3), (38, .iconst 1, 1), (39, .iaload, 1), (40, .ldc 83, 2), (42, .if_icmp .ge 7, 3), (45, .iconst 1, 1), (46, .goto 4, 3), (49, .iconst 0, 1), (50, .iadd, 1), (51, .iastore, 1), (52, .aload_n 0, 1), (53, .getfield 32, 3), (56, .iload_n 1, 1), (57, .dup2, 1), (58, .iaload, 1), (59, .iconst 1, 1), (60, .iadd, 1), (61, .iastore, 1), (62, .aload_n 0, 1)]
theorem tk_X6_comesUnder_0 : dcA cX6_comesUnder tb_X6_comesUnder_0 = true := by decide +kernel
theorem dX6_comesUnder_0 : decode cX6_comesUnder 0 = .ok (.aload_n 0, 1) := dcO tk_X6_comesUnder_0 0 rfl
theorem dX6_comesUnder_1 : decode cX6_comesUnder 1 = .ok (.getfield 9, 3) := dcO tk_X6_comesUnder_0 1 rfl
theorem dX6_comesUnder_4 : decode cX6_comesUnder 4 = .ok (.sipush 176, 3) := dcO tk_X6_comesUnder_0 2 rfl
theorem dX6_comesUnder_7 : decode cX6_comesUnder 7 = .ok (.iload_n 1, 1) := dcO tk_X6_comesUnder_0 3 rfl
theorem dX6_comesUnder_8 : decode cX6_comesUnder 8 = .ok (.iadd, 1) := dcO tk_X6_comesUnder_0 4 rfl
theorem dX6_comesUnder_9 : decode cX6_comesUnder 9 = .ok (.iaload, 1) := dcO tk_X6_comesUnder_0 5 rfl
theorem dX6_comesUnder_10 : decode cX6_comesUnder 10 = .ok (.ifCond .lt 52, 3) := dcO tk_X6_comesUnder_0 6 rfl
theorem dX6_comesUnder_13 : decode cX6_comesUnder 13 = .ok (.aload_n 0, 1) := dcO tk_X6_comesUnder_0 7 rfl
theorem dX6_comesUnder_14 : decode cX6_comesUnder 14 = .ok (.getfield 9, 3) := dcO tk_X6_comesUnder_0 8 rfl
theorem dX6_comesUnder_17 : decode cX6_comesUnder 17 = .ok (.sipush 176, 3) := dcO tk_X6_comesUnder_0 9 rfl
theorem dX6_comesUnder_20 : decode cX6_comesUnder 20 = .ok (.iload_n 1, 1) := dcO tk_X6_comesUnder_0 10 rfl
theorem dX6_comesUnder_21 : decode cX6_comesUnder 21 = .ok (.iadd, 1) := dcO tk_X6_comesUnder_0 11 rfl
theorem dX6_comesUnder_22 : decode cX6_comesUnder 22 = .ok (.iaload, 1) := dcO tk_X6_comesUnder_0 12 rfl
theorem dX6_comesUnder_23 : decode cX6_comesUnder 23 = .ok (.iload_n 2, 1) := dcO tk_X6_comesUnder_0 13 rfl
theorem dX6_comesUnder_24 : decode cX6_comesUnder 24 = .ok (.if_icmp .eq 38, 3) := dcO tk_X6_comesUnder_0 14 rfl
theorem dX6_comesUnder_27 : decode cX6_comesUnder 27 = .ok (.aload_n 0, 1) := dcO tk_X6_comesUnder_0 15 rfl
theorem dX6_comesUnder_28 : decode cX6_comesUnder 28 = .ok (.getfield 9, 3) := dcO tk_X6_comesUnder_0 16 rfl
theorem dX6_comesUnder_31 : decode cX6_comesUnder 31 = .ok (.iconst 1, 1) := dcO tk_X6_comesUnder_0 17 rfl
theorem dX6_comesUnder_32 : decode cX6_comesUnder 32 = .ok (.dup2, 1) := dcO tk_X6_comesUnder_0 18 rfl
theorem dX6_comesUnder_33 : decode cX6_comesUnder 33 = .ok (.iaload, 1) := dcO tk_X6_comesUnder_0 19 rfl
theorem dX6_comesUnder_34 : decode cX6_comesUnder 34 = .ok (.aload_n 0, 1) := dcO tk_X6_comesUnder_0 20 rfl
theorem dX6_comesUnder_35 : decode cX6_comesUnder 35 = .ok (.getfield 9, 3) := dcO tk_X6_comesUnder_0 21 rfl
theorem dX6_comesUnder_38 : decode cX6_comesUnder 38 = .ok (.iconst 1, 1) := dcO tk_X6_comesUnder_0 22 rfl
theorem dX6_comesUnder_39 : decode cX6_comesUnder 39 = .ok (.iaload, 1) := dcO tk_X6_comesUnder_0 23 rfl
theorem dX6_comesUnder_40 : decode cX6_comesUnder 40 = .ok (.ldc 83, 2) := dcO tk_X6_comesUnder_0 24 rfl
theorem dX6_comesUnder_42 : decode cX6_comesUnder 42 = .ok (.if_icmp .ge 7, 3) := dcO tk_X6_comesUnder_0 25 rfl
theorem dX6_comesUnder_45 : decode cX6_comesUnder 45 = .ok (.iconst 1, 1) := dcO tk_X6_comesUnder_0 26 rfl
theorem dX6_comesUnder_46 : decode cX6_comesUnder 46 = .ok (.goto 4, 3) := dcO tk_X6_comesUnder_0 27 rfl
theorem dX6_comesUnder_49 : decode cX6_comesUnder 49 = .ok (.iconst 0, 1) := dcO tk_X6_comesUnder_0 28 rfl
theorem dX6_comesUnder_50 : decode cX6_comesUnder 50 = .ok (.iadd, 1) := dcO tk_X6_comesUnder_0 29 rfl
theorem dX6_comesUnder_51 : decode cX6_comesUnder 51 = .ok (.iastore, 1) := dcO tk_X6_comesUnder_0 30 rfl
theorem dX6_comesUnder_52 : decode cX6_comesUnder 52 = .ok (.aload_n 0, 1) := dcO tk_X6_comesUnder_0 31 rfl
theorem dX6_comesUnder_53 : decode cX6_comesUnder 53 = .ok (.getfield 32, 3) := dcO tk_X6_comesUnder_0 32 rfl
theorem dX6_comesUnder_56 : decode cX6_comesUnder 56 = .ok (.iload_n 1, 1) := dcO tk_X6_comesUnder_0 33 rfl
theorem dX6_comesUnder_57 : decode cX6_comesUnder 57 = .ok (.dup2, 1) := dcO tk_X6_comesUnder_0 34 rfl
theorem dX6_comesUnder_58 : decode cX6_comesUnder 58 = .ok (.iaload, 1) := dcO tk_X6_comesUnder_0 35 rfl
theorem dX6_comesUnder_59 : decode cX6_comesUnder 59 = .ok (.iconst 1, 1) := dcO tk_X6_comesUnder_0 36 rfl
theorem dX6_comesUnder_60 : decode cX6_comesUnder 60 = .ok (.iadd, 1) := dcO tk_X6_comesUnder_0 37 rfl
theorem dX6_comesUnder_61 : decode cX6_comesUnder 61 = .ok (.iastore, 1) := dcO tk_X6_comesUnder_0 38 rfl
theorem dX6_comesUnder_62 : decode cX6_comesUnder 62 = .ok (.aload_n 0, 1) := dcO tk_X6_comesUnder_0 39 rfl
abbrev tb_X6_comesUnder_1 : List (Nat × Instr × Nat) := [(63, .getfield 9, 3), (66, .sipush 176, 3), (69, .iload_n 1, 1), (70, .iadd, 1), (71, .iload_n 2, 1), (72, .iastore, 1), (73, .return_, 1)]
theorem tk_X6_comesUnder_1 : dcA cX6_comesUnder tb_X6_comesUnder_1 = true := by decide +kernel
theorem dX6_comesUnder_63 : decode cX6_comesUnder 63 = .ok (.getfield 9, 3) := dcO tk_X6_comesUnder_1 0 rfl
theorem dX6_comesUnder_66 : decode cX6_comesUnder 66 = .ok (.sipush 176, 3) := dcO tk_X6_comesUnder_1 1 rfl
theorem dX6_comesUnder_69 : decode cX6_comesUnder 69 = .ok (.iload_n 1, 1) := dcO tk_X6_comesUnder_1 2 rfl
theorem dX6_comesUnder_70 : decode cX6_comesUnder 70 = .ok (.iadd, 1) := dcO tk_X6_comesUnder_1 3 rfl
theorem dX6_comesUnder_71 : decode cX6_comesUnder 71 = .ok (.iload_n 2, 1) := dcO tk_X6_comesUnder_1 4 rfl
theorem dX6_comesUnder_72 : decode cX6_comesUnder 72 = .ok (.iastore, 1) := dcO tk_X6_comesUnder_1 5 rfl
theorem dX6_comesUnder_73 : decode cX6_comesUnder 73 = .ok (.return_, 1) := dcO tk_X6_comesUnder_1 6 rfl
abbrev tb_X6_nextOf_0 : List (Nat × Instr × Nat) := [(0, .aload_n 0, 1), (1, .iload_n 1, 1), (2, .iconst 1, 1), (3, .invokevirtual 76, 3), (6, .istore_n 2, 1), (7, .iload_n 2, 1), (8, .istore_n 3, 1), (9, .iconst 3, 1), (10, .istore 4, 2), (12, .iload 4, 2), (14, .ifCond .lt 53, 3), (17, .aload_n 0, 1), (18, .iload_n 2, 1), (19, .invokevirtual 69, 3), (22, .ifCond .ne 45, 3), (25, .iload_n 2, 1), (26, .iload 4, 2), (28, .invokestatic 65, 3), (31, .istore 5, 2), (33, .iload 5, 2), (35, .ifCond .lt 24, 3), (38, .aload_n 0, 1), (39, .iload_n 1, 1), (40, .iload 5, 2), (42, .invokevirtual 84, 3), (45, .aload_n 0, 1), (46, .iload_n 1, 1), (47, .iload_n 2, 1), (48, .invokevirtual 84, 3), (51, .if_icmp .ge 8, 3), (54, .iload 5, 2), (56, .goto 4, 3), (59, .iload_n 3, 1), (60, .istore_n 3, 1), (61, .iinc 4 (-1), 3), (64, .goto (-52), 3), (67, .iload_n 3, 1), (68, .ireturn, 1)]
theorem tk_X6_nextOf_0 : dcA cX6_nextOf tb_X6_nextOf_0 = true := by decide +kernel
theorem dX6_nextOf_0 : decode cX6_nextOf 0 = .ok (.aload_n 0, 1) := dcO tk_X6_nextOf_0 0 rfl
theorem dX6_nextOf_1 : decode cX6_nextOf 1 = .ok (.iload_n 1, 1) := dcO tk_X6_nextOf_0 1 rfl
theorem dX6_nextOf_2 : decode cX6_nextOf 2 = .ok (.iconst 1, 1) := dcO tk_X6_nextOf_0 2 rfl
theorem dX6_nextOf_3 : decode cX6_nextOf 3 = .ok (.invokevirtual 76, 3) := dcO tk_X6_nextOf_0 3 rfl
theorem dX6_nextOf_6 : decode cX6_nextOf 6 = .ok (.istore_n 2, 1) := dcO tk_X6_nextOf_0 4 rfl
theorem dX6_nextOf_7 : decode cX6_nextOf 7 = .ok (.iload_n 2, 1) := dcO tk_X6_nextOf_0 5 rfl
theorem dX6_nextOf_8 : decode cX6_nextOf 8 = .ok (.istore_n 3, 1) := dcO tk_X6_nextOf_0 6 rfl
theorem dX6_nextOf_9 : decode cX6_nextOf 9 = .ok (.iconst 3, 1) := dcO tk_X6_nextOf_0 7 rfl
theorem dX6_nextOf_10 : decode cX6_nextOf 10 = .ok (.istore 4, 2) := dcO tk_X6_nextOf_0 8 rfl
theorem dX6_nextOf_12 : decode cX6_nextOf 12 = .ok (.iload 4, 2) := dcO tk_X6_nextOf_0 9 rfl
theorem dX6_nextOf_14 : decode cX6_nextOf 14 = .ok (.ifCond .lt 53, 3) := dcO tk_X6_nextOf_0 10 rfl
theorem dX6_nextOf_17 : decode cX6_nextOf 17 = .ok (.aload_n 0, 1) := dcO tk_X6_nextOf_0 11 rfl
theorem dX6_nextOf_18 : decode cX6_nextOf 18 = .ok (.iload_n 2, 1) := dcO tk_X6_nextOf_0 12 rfl
theorem dX6_nextOf_19 : decode cX6_nextOf 19 = .ok (.invokevirtual 69, 3) := dcO tk_X6_nextOf_0 13 rfl
theorem dX6_nextOf_22 : decode cX6_nextOf 22 = .ok (.ifCond .ne 45, 3) := dcO tk_X6_nextOf_0 14 rfl
theorem dX6_nextOf_25 : decode cX6_nextOf 25 = .ok (.iload_n 2, 1) := dcO tk_X6_nextOf_0 15 rfl
theorem dX6_nextOf_26 : decode cX6_nextOf 26 = .ok (.iload 4, 2) := dcO tk_X6_nextOf_0 16 rfl
theorem dX6_nextOf_28 : decode cX6_nextOf 28 = .ok (.invokestatic 65, 3) := dcO tk_X6_nextOf_0 17 rfl
theorem dX6_nextOf_31 : decode cX6_nextOf 31 = .ok (.istore 5, 2) := dcO tk_X6_nextOf_0 18 rfl
theorem dX6_nextOf_33 : decode cX6_nextOf 33 = .ok (.iload 5, 2) := dcO tk_X6_nextOf_0 19 rfl
theorem dX6_nextOf_35 : decode cX6_nextOf 35 = .ok (.ifCond .lt 24, 3) := dcO tk_X6_nextOf_0 20 rfl
theorem dX6_nextOf_38 : decode cX6_nextOf 38 = .ok (.aload_n 0, 1) := dcO tk_X6_nextOf_0 21 rfl
theorem dX6_nextOf_39 : decode cX6_nextOf 39 = .ok (.iload_n 1, 1) := dcO tk_X6_nextOf_0 22 rfl
theorem dX6_nextOf_40 : decode cX6_nextOf 40 = .ok (.iload 5, 2) := dcO tk_X6_nextOf_0 23 rfl
theorem dX6_nextOf_42 : decode cX6_nextOf 42 = .ok (.invokevirtual 84, 3) := dcO tk_X6_nextOf_0 24 rfl
theorem dX6_nextOf_45 : decode cX6_nextOf 45 = .ok (.aload_n 0, 1) := dcO tk_X6_nextOf_0 25 rfl
theorem dX6_nextOf_46 : decode cX6_nextOf 46 = .ok (.iload_n 1, 1) := dcO tk_X6_nextOf_0 26 rfl
theorem dX6_nextOf_47 : decode cX6_nextOf 47 = .ok (.iload_n 2, 1) := dcO tk_X6_nextOf_0 27 rfl
theorem dX6_nextOf_48 : decode cX6_nextOf 48 = .ok (.invokevirtual 84, 3) := dcO tk_X6_nextOf_0 28 rfl
theorem dX6_nextOf_51 : decode cX6_nextOf 51 = .ok (.if_icmp .ge 8, 3) := dcO tk_X6_nextOf_0 29 rfl
theorem dX6_nextOf_54 : decode cX6_nextOf 54 = .ok (.iload 5, 2) := dcO tk_X6_nextOf_0 30 rfl
theorem dX6_nextOf_56 : decode cX6_nextOf 56 = .ok (.goto 4, 3) := dcO tk_X6_nextOf_0 31 rfl
theorem dX6_nextOf_59 : decode cX6_nextOf 59 = .ok (.iload_n 3, 1) := dcO tk_X6_nextOf_0 32 rfl
theorem dX6_nextOf_60 : decode cX6_nextOf 60 = .ok (.istore_n 3, 1) := dcO tk_X6_nextOf_0 33 rfl
theorem dX6_nextOf_61 : decode cX6_nextOf 61 = .ok (.iinc 4 (-1), 3) := dcO tk_X6_nextOf_0 34 rfl
theorem dX6_nextOf_64 : decode cX6_nextOf 64 = .ok (.goto (-52), 3) := dcO tk_X6_nextOf_0 35 rfl
theorem dX6_nextOf_67 : decode cX6_nextOf 67 = .ok (.iload_n 3, 1) := dcO tk_X6_nextOf_0 36 rfl
theorem dX6_nextOf_68 : decode cX6_nextOf 68 = .ok (.ireturn, 1) := dcO tk_X6_nextOf_0 37 rfl
abbrev tb_X6_crawls_0 : List (Nat × Instr × Nat) := [(0, .aload_n 0, 1), (1, .aload_n 0, 1), (2, .iload_n 1, 1), (3, .iconst 1, 1), (4, .invokevirtual 76, 3), (7, .aload_n 0, 1), (8, .iload_n 1, 1), (9, .iconst 2, 1), (10, .invokevirtual 76, 3), (13, .invokevirtual 87, 3), (16, .aload_n 0, 1), (17, .iload_n 1, 1), (18, .invokevirtual 90, 3), (21, .istore_n 2, 1), (22, .iconst 0, 1), (23, .istore_n 3, 1), (24, .iload_n 3, 1), (25, .iload_n 2, 1), (26, .if_icmp .ge 47, 3), (29, .aload_n 0, 1), (30, .iload_n 1, 1), (31, .invokevirtual 94, 3), (34, .istore 4, 2), (36, .iload 4, 2), (38, .aload_n 0, 1), (39, .iload_n 1, 1), (40, .iconst 1, 1), (41, .invokevirtual 76, 3), (44, .if_icmp .eq 23, 3), (47, .aload_n 0, 1), (48, .iload_n 1, 1), (49, .iconst 1, 1), (50, .iload 4, 2), (52, .invokevirtual 97, 3), (55, .aload_n 0, 1), (56, .iload 4, 2), (58, .aload_n 0, 1), (59, .iload_n 1, 1), (60, .iconst 2, 1), (61, .invokevirtual 76, 3)]
theorem tk_X6_crawls_0 : dcA cX6_crawls tb_X6_crawls_0 = true := by decide +kernel
theorem dX6_crawls_0 : decode cX6_crawls 0 = .ok (.aload_n 0, 1) := dcO tk_X6_crawls_0 0 rfl
theorem dX6_crawls_1 : decode cX6_crawls 1 = .ok (.aload_n 0, 1) := dcO tk_X6_crawls_0 1 rfl
theorem dX6_crawls_2 : decode cX6_crawls 2 = .ok (.iload_n 1, 1) := dcO tk_X6_crawls_0 2 rfl
theorem dX6_crawls_3 : decode cX6_crawls 3 = .ok (.iconst 1, 1) := dcO tk_X6_crawls_0 3 rfl
theorem dX6_crawls_4 : decode cX6_crawls 4 = .ok (.invokevirtual 76, 3) := dcO tk_X6_crawls_0 4 rfl
theorem dX6_crawls_7 : decode cX6_crawls 7 = .ok (.aload_n 0, 1) := dcO tk_X6_crawls_0 5 rfl
theorem dX6_crawls_8 : decode cX6_crawls 8 = .ok (.iload_n 1, 1) := dcO tk_X6_crawls_0 6 rfl
theorem dX6_crawls_9 : decode cX6_crawls 9 = .ok (.iconst 2, 1) := dcO tk_X6_crawls_0 7 rfl
theorem dX6_crawls_10 : decode cX6_crawls 10 = .ok (.invokevirtual 76, 3) := dcO tk_X6_crawls_0 8 rfl
theorem dX6_crawls_13 : decode cX6_crawls 13 = .ok (.invokevirtual 87, 3) := dcO tk_X6_crawls_0 9 rfl
theorem dX6_crawls_16 : decode cX6_crawls 16 = .ok (.aload_n 0, 1) := dcO tk_X6_crawls_0 10 rfl
theorem dX6_crawls_17 : decode cX6_crawls 17 = .ok (.iload_n 1, 1) := dcO tk_X6_crawls_0 11 rfl
theorem dX6_crawls_18 : decode cX6_crawls 18 = .ok (.invokevirtual 90, 3) := dcO tk_X6_crawls_0 12 rfl
theorem dX6_crawls_21 : decode cX6_crawls 21 = .ok (.istore_n 2, 1) := dcO tk_X6_crawls_0 13 rfl
theorem dX6_crawls_22 : decode cX6_crawls 22 = .ok (.iconst 0, 1) := dcO tk_X6_crawls_0 14 rfl
theorem dX6_crawls_23 : decode cX6_crawls 23 = .ok (.istore_n 3, 1) := dcO tk_X6_crawls_0 15 rfl
theorem dX6_crawls_24 : decode cX6_crawls 24 = .ok (.iload_n 3, 1) := dcO tk_X6_crawls_0 16 rfl
theorem dX6_crawls_25 : decode cX6_crawls 25 = .ok (.iload_n 2, 1) := dcO tk_X6_crawls_0 17 rfl
theorem dX6_crawls_26 : decode cX6_crawls 26 = .ok (.if_icmp .ge 47, 3) := dcO tk_X6_crawls_0 18 rfl
theorem dX6_crawls_29 : decode cX6_crawls 29 = .ok (.aload_n 0, 1) := dcO tk_X6_crawls_0 19 rfl
theorem dX6_crawls_30 : decode cX6_crawls 30 = .ok (.iload_n 1, 1) := dcO tk_X6_crawls_0 20 rfl
theorem dX6_crawls_31 : decode cX6_crawls 31 = .ok (.invokevirtual 94, 3) := dcO tk_X6_crawls_0 21 rfl
theorem dX6_crawls_34 : decode cX6_crawls 34 = .ok (.istore 4, 2) := dcO tk_X6_crawls_0 22 rfl
theorem dX6_crawls_36 : decode cX6_crawls 36 = .ok (.iload 4, 2) := dcO tk_X6_crawls_0 23 rfl
theorem dX6_crawls_38 : decode cX6_crawls 38 = .ok (.aload_n 0, 1) := dcO tk_X6_crawls_0 24 rfl
theorem dX6_crawls_39 : decode cX6_crawls 39 = .ok (.iload_n 1, 1) := dcO tk_X6_crawls_0 25 rfl
theorem dX6_crawls_40 : decode cX6_crawls 40 = .ok (.iconst 1, 1) := dcO tk_X6_crawls_0 26 rfl
theorem dX6_crawls_41 : decode cX6_crawls 41 = .ok (.invokevirtual 76, 3) := dcO tk_X6_crawls_0 27 rfl
theorem dX6_crawls_44 : decode cX6_crawls 44 = .ok (.if_icmp .eq 23, 3) := dcO tk_X6_crawls_0 28 rfl
theorem dX6_crawls_47 : decode cX6_crawls 47 = .ok (.aload_n 0, 1) := dcO tk_X6_crawls_0 29 rfl
theorem dX6_crawls_48 : decode cX6_crawls 48 = .ok (.iload_n 1, 1) := dcO tk_X6_crawls_0 30 rfl
theorem dX6_crawls_49 : decode cX6_crawls 49 = .ok (.iconst 1, 1) := dcO tk_X6_crawls_0 31 rfl
theorem dX6_crawls_50 : decode cX6_crawls 50 = .ok (.iload 4, 2) := dcO tk_X6_crawls_0 32 rfl
theorem dX6_crawls_52 : decode cX6_crawls 52 = .ok (.invokevirtual 97, 3) := dcO tk_X6_crawls_0 33 rfl
theorem dX6_crawls_55 : decode cX6_crawls 55 = .ok (.aload_n 0, 1) := dcO tk_X6_crawls_0 34 rfl
theorem dX6_crawls_56 : decode cX6_crawls 56 = .ok (.iload 4, 2) := dcO tk_X6_crawls_0 35 rfl
theorem dX6_crawls_58 : decode cX6_crawls 58 = .ok (.aload_n 0, 1) := dcO tk_X6_crawls_0 36 rfl
theorem dX6_crawls_59 : decode cX6_crawls 59 = .ok (.iload_n 1, 1) := dcO tk_X6_crawls_0 37 rfl
theorem dX6_crawls_60 : decode cX6_crawls 60 = .ok (.iconst 2, 1) := dcO tk_X6_crawls_0 38 rfl
theorem dX6_crawls_61 : decode cX6_crawls 61 = .ok (.invokevirtual 76, 3) := dcO tk_X6_crawls_0 39 rfl
abbrev tb_X6_crawls_1 : List (Nat × Instr × Nat) := [(64, .invokevirtual 87, 3), (67, .iinc 3 1, 3), (70, .goto (-46), 3), (73, .bipush 95, 2), (75, .aload_n 0, 1), (76, .iload_n 1, 1), (77, .iconst 1, 1), (78, .invokevirtual 76, 3), (81, .iadd, 1), (82, .istore_n 3, 1), (83, .aload_n 0, 1), (84, .getfield 9, 3), (87, .iload_n 3, 1), (88, .dup2, 1), (89, .iaload, 1), (90, .aload_n 0, 1), (91, .iload_n 1, 1), (92, .invokevirtual 101, 3), (95, .ifCond .eq 16, 3), (98, .aload_n 0, 1), (99, .getfield 9, 3), (102, .iload_n 3, 1), (103, .iaload, 1), (104, .ifCond .le 7, 3), (107, .iconst 1, 1), (108, .goto 4, 3), (111, .iconst 0, 1), (112, .isub, 1), (113, .iastore, 1), (114, .return_, 1)]
theorem tk_X6_crawls_1 : dcA cX6_crawls tb_X6_crawls_1 = true := by decide +kernel
theorem dX6_crawls_64 : decode cX6_crawls 64 = .ok (.invokevirtual 87, 3) := dcO tk_X6_crawls_1 0 rfl
theorem dX6_crawls_67 : decode cX6_crawls 67 = .ok (.iinc 3 1, 3) := dcO tk_X6_crawls_1 1 rfl
theorem dX6_crawls_70 : decode cX6_crawls 70 = .ok (.goto (-46), 3) := dcO tk_X6_crawls_1 2 rfl
theorem dX6_crawls_73 : decode cX6_crawls 73 = .ok (.bipush 95, 2) := dcO tk_X6_crawls_1 3 rfl
theorem dX6_crawls_75 : decode cX6_crawls 75 = .ok (.aload_n 0, 1) := dcO tk_X6_crawls_1 4 rfl
theorem dX6_crawls_76 : decode cX6_crawls 76 = .ok (.iload_n 1, 1) := dcO tk_X6_crawls_1 5 rfl
theorem dX6_crawls_77 : decode cX6_crawls 77 = .ok (.iconst 1, 1) := dcO tk_X6_crawls_1 6 rfl
theorem dX6_crawls_78 : decode cX6_crawls 78 = .ok (.invokevirtual 76, 3) := dcO tk_X6_crawls_1 7 rfl
theorem dX6_crawls_81 : decode cX6_crawls 81 = .ok (.iadd, 1) := dcO tk_X6_crawls_1 8 rfl
theorem dX6_crawls_82 : decode cX6_crawls 82 = .ok (.istore_n 3, 1) := dcO tk_X6_crawls_1 9 rfl
theorem dX6_crawls_83 : decode cX6_crawls 83 = .ok (.aload_n 0, 1) := dcO tk_X6_crawls_1 10 rfl
theorem dX6_crawls_84 : decode cX6_crawls 84 = .ok (.getfield 9, 3) := dcO tk_X6_crawls_1 11 rfl
theorem dX6_crawls_87 : decode cX6_crawls 87 = .ok (.iload_n 3, 1) := dcO tk_X6_crawls_1 12 rfl
theorem dX6_crawls_88 : decode cX6_crawls 88 = .ok (.dup2, 1) := dcO tk_X6_crawls_1 13 rfl
theorem dX6_crawls_89 : decode cX6_crawls 89 = .ok (.iaload, 1) := dcO tk_X6_crawls_1 14 rfl
theorem dX6_crawls_90 : decode cX6_crawls 90 = .ok (.aload_n 0, 1) := dcO tk_X6_crawls_1 15 rfl
theorem dX6_crawls_91 : decode cX6_crawls 91 = .ok (.iload_n 1, 1) := dcO tk_X6_crawls_1 16 rfl
theorem dX6_crawls_92 : decode cX6_crawls 92 = .ok (.invokevirtual 101, 3) := dcO tk_X6_crawls_1 17 rfl
theorem dX6_crawls_95 : decode cX6_crawls 95 = .ok (.ifCond .eq 16, 3) := dcO tk_X6_crawls_1 18 rfl
theorem dX6_crawls_98 : decode cX6_crawls 98 = .ok (.aload_n 0, 1) := dcO tk_X6_crawls_1 19 rfl
theorem dX6_crawls_99 : decode cX6_crawls 99 = .ok (.getfield 9, 3) := dcO tk_X6_crawls_1 20 rfl
theorem dX6_crawls_102 : decode cX6_crawls 102 = .ok (.iload_n 3, 1) := dcO tk_X6_crawls_1 21 rfl
theorem dX6_crawls_103 : decode cX6_crawls 103 = .ok (.iaload, 1) := dcO tk_X6_crawls_1 22 rfl
theorem dX6_crawls_104 : decode cX6_crawls 104 = .ok (.ifCond .le 7, 3) := dcO tk_X6_crawls_1 23 rfl
theorem dX6_crawls_107 : decode cX6_crawls 107 = .ok (.iconst 1, 1) := dcO tk_X6_crawls_1 24 rfl
theorem dX6_crawls_108 : decode cX6_crawls 108 = .ok (.goto 4, 3) := dcO tk_X6_crawls_1 25 rfl
theorem dX6_crawls_111 : decode cX6_crawls 111 = .ok (.iconst 0, 1) := dcO tk_X6_crawls_1 26 rfl
theorem dX6_crawls_112 : decode cX6_crawls 112 = .ok (.isub, 1) := dcO tk_X6_crawls_1 27 rfl
theorem dX6_crawls_113 : decode cX6_crawls 113 = .ok (.iastore, 1) := dcO tk_X6_crawls_1 28 rfl
theorem dX6_crawls_114 : decode cX6_crawls 114 = .ok (.return_, 1) := dcO tk_X6_crawls_1 29 rfl
abbrev tb_X6_day_0 : List (Nat × Instr × Nat) := [(0, .iconst 0, 1), (1, .istore_n 2, 1), (2, .iload_n 2, 1), (3, .aload_n 0, 1), (4, .getfield 9, 3), (7, .iconst 2, 1), (8, .iaload, 1), (9, .if_icmp .ge 22, 3), (12, .iload_n 1, 1), (13, .iload_n 2, 1), (14, .invokestatic 104, 3), (17, .ifCond .eq 8, 3), (20, .aload_n 0, 1), (21, .iload_n 2, 1), (22, .invokevirtual 108, 3), (25, .iinc 2 1, 3), (28, .goto (-26), 3), (31, .aload_n 0, 1), (32, .getfield 9, 3), (35, .iconst 0, 1), (36, .dup2, 1), (37, .iaload, 1), (38, .iconst 1, 1), (39, .iadd, 1), (40, .iastore, 1), (41, .return_, 1)]
theorem tk_X6_day_0 : dcA cX6_day tb_X6_day_0 = true := by decide +kernel
theorem dX6_day_0 : decode cX6_day 0 = .ok (.iconst 0, 1) := dcO tk_X6_day_0 0 rfl
theorem dX6_day_1 : decode cX6_day 1 = .ok (.istore_n 2, 1) := dcO tk_X6_day_0 1 rfl
theorem dX6_day_2 : decode cX6_day 2 = .ok (.iload_n 2, 1) := dcO tk_X6_day_0 2 rfl
theorem dX6_day_3 : decode cX6_day 3 = .ok (.aload_n 0, 1) := dcO tk_X6_day_0 3 rfl
theorem dX6_day_4 : decode cX6_day 4 = .ok (.getfield 9, 3) := dcO tk_X6_day_0 4 rfl
theorem dX6_day_7 : decode cX6_day 7 = .ok (.iconst 2, 1) := dcO tk_X6_day_0 5 rfl
theorem dX6_day_8 : decode cX6_day 8 = .ok (.iaload, 1) := dcO tk_X6_day_0 6 rfl
theorem dX6_day_9 : decode cX6_day 9 = .ok (.if_icmp .ge 22, 3) := dcO tk_X6_day_0 7 rfl
theorem dX6_day_12 : decode cX6_day 12 = .ok (.iload_n 1, 1) := dcO tk_X6_day_0 8 rfl
theorem dX6_day_13 : decode cX6_day 13 = .ok (.iload_n 2, 1) := dcO tk_X6_day_0 9 rfl
theorem dX6_day_14 : decode cX6_day 14 = .ok (.invokestatic 104, 3) := dcO tk_X6_day_0 10 rfl
theorem dX6_day_17 : decode cX6_day 17 = .ok (.ifCond .eq 8, 3) := dcO tk_X6_day_0 11 rfl
theorem dX6_day_20 : decode cX6_day 20 = .ok (.aload_n 0, 1) := dcO tk_X6_day_0 12 rfl
theorem dX6_day_21 : decode cX6_day 21 = .ok (.iload_n 2, 1) := dcO tk_X6_day_0 13 rfl
theorem dX6_day_22 : decode cX6_day 22 = .ok (.invokevirtual 108, 3) := dcO tk_X6_day_0 14 rfl
theorem dX6_day_25 : decode cX6_day 25 = .ok (.iinc 2 1, 3) := dcO tk_X6_day_0 15 rfl
theorem dX6_day_28 : decode cX6_day 28 = .ok (.goto (-26), 3) := dcO tk_X6_day_0 16 rfl
theorem dX6_day_31 : decode cX6_day 31 = .ok (.aload_n 0, 1) := dcO tk_X6_day_0 17 rfl
theorem dX6_day_32 : decode cX6_day 32 = .ok (.getfield 9, 3) := dcO tk_X6_day_0 18 rfl
theorem dX6_day_35 : decode cX6_day 35 = .ok (.iconst 0, 1) := dcO tk_X6_day_0 19 rfl
theorem dX6_day_36 : decode cX6_day 36 = .ok (.dup2, 1) := dcO tk_X6_day_0 20 rfl
theorem dX6_day_37 : decode cX6_day 37 = .ok (.iaload, 1) := dcO tk_X6_day_0 21 rfl
theorem dX6_day_38 : decode cX6_day 38 = .ok (.iconst 1, 1) := dcO tk_X6_day_0 22 rfl
theorem dX6_day_39 : decode cX6_day 39 = .ok (.iadd, 1) := dcO tk_X6_day_0 23 rfl
theorem dX6_day_40 : decode cX6_day 40 = .ok (.iastore, 1) := dcO tk_X6_day_0 24 rfl
theorem dX6_day_41 : decode cX6_day 41 = .ok (.return_, 1) := dcO tk_X6_day_0 25 rfl
abbrev tb_X6_allSnails_0 : List (Nat × Instr × Nat) := [(0, .iconst 1, 1), (1, .aload_n 0, 1), (2, .getfield 9, 3), (5, .iconst 2, 1), (6, .iaload, 1), (7, .ishl, 1), (8, .iconst 1, 1), (9, .isub, 1), (10, .ireturn, 1)]
theorem tk_X6_allSnails_0 : dcA cX6_allSnails tb_X6_allSnails_0 = true := by decide +kernel
theorem dX6_allSnails_0 : decode cX6_allSnails 0 = .ok (.iconst 1, 1) := dcO tk_X6_allSnails_0 0 rfl
theorem dX6_allSnails_1 : decode cX6_allSnails 1 = .ok (.aload_n 0, 1) := dcO tk_X6_allSnails_0 1 rfl
theorem dX6_allSnails_2 : decode cX6_allSnails 2 = .ok (.getfield 9, 3) := dcO tk_X6_allSnails_0 2 rfl
theorem dX6_allSnails_5 : decode cX6_allSnails 5 = .ok (.iconst 2, 1) := dcO tk_X6_allSnails_0 3 rfl
theorem dX6_allSnails_6 : decode cX6_allSnails 6 = .ok (.iaload, 1) := dcO tk_X6_allSnails_0 4 rfl
theorem dX6_allSnails_7 : decode cX6_allSnails 7 = .ok (.ishl, 1) := dcO tk_X6_allSnails_0 5 rfl
theorem dX6_allSnails_8 : decode cX6_allSnails 8 = .ok (.iconst 1, 1) := dcO tk_X6_allSnails_0 6 rfl
theorem dX6_allSnails_9 : decode cX6_allSnails 9 = .ok (.isub, 1) := dcO tk_X6_allSnails_0 7 rfl
theorem dX6_allSnails_10 : decode cX6_allSnails 10 = .ok (.ireturn, 1) := dcO tk_X6_allSnails_0 8 rfl
abbrev tb_X6_days_0 : List (Nat × Instr × Nat) := [(0, .aload_n 0, 1), (1, .invokevirtual 112, 3), (4, .iconst 0, 1), (5, .istore_n 2, 1), (6, .iload_n 2, 1), (7, .iload_n 1, 1), (8, .if_icmp .ge 17, 3), (11, .aload_n 0, 1), (12, .aload_n 0, 1), (13, .invokevirtual 115, 3), (16, .invokevirtual 119, 3), (19, .iinc 2 1, 3), (22, .goto (-16), 3), (25, .return_, 1)]
theorem tk_X6_days_0 : dcA cX6_days tb_X6_days_0 = true := by decide +kernel
theorem dX6_days_0 : decode cX6_days 0 = .ok (.aload_n 0, 1) := dcO tk_X6_days_0 0 rfl
theorem dX6_days_1 : decode cX6_days 1 = .ok (.invokevirtual 112, 3) := dcO tk_X6_days_0 1 rfl
theorem dX6_days_4 : decode cX6_days 4 = .ok (.iconst 0, 1) := dcO tk_X6_days_0 2 rfl
theorem dX6_days_5 : decode cX6_days 5 = .ok (.istore_n 2, 1) := dcO tk_X6_days_0 3 rfl
theorem dX6_days_6 : decode cX6_days 6 = .ok (.iload_n 2, 1) := dcO tk_X6_days_0 4 rfl
theorem dX6_days_7 : decode cX6_days 7 = .ok (.iload_n 1, 1) := dcO tk_X6_days_0 5 rfl
theorem dX6_days_8 : decode cX6_days 8 = .ok (.if_icmp .ge 17, 3) := dcO tk_X6_days_0 6 rfl
theorem dX6_days_11 : decode cX6_days 11 = .ok (.aload_n 0, 1) := dcO tk_X6_days_0 7 rfl
theorem dX6_days_12 : decode cX6_days 12 = .ok (.aload_n 0, 1) := dcO tk_X6_days_0 8 rfl
theorem dX6_days_13 : decode cX6_days 13 = .ok (.invokevirtual 115, 3) := dcO tk_X6_days_0 9 rfl
theorem dX6_days_16 : decode cX6_days 16 = .ok (.invokevirtual 119, 3) := dcO tk_X6_days_0 10 rfl
theorem dX6_days_19 : decode cX6_days 19 = .ok (.iinc 2 1, 3) := dcO tk_X6_days_0 11 rfl
theorem dX6_days_22 : decode cX6_days 22 = .ok (.goto (-16), 3) := dcO tk_X6_days_0 12 rfl
theorem dX6_days_25 : decode cX6_days 25 = .ok (.return_, 1) := dcO tk_X6_days_0 13 rfl
abbrev tb_X6_hedge_0 : List (Nat × Instr × Nat) := [(0, .iload_n 1, 1), (1, .invokestatic 122, 3), (4, .ifCond .eq 12, 3), (7, .iload_n 2, 1), (8, .iconst 0, 1), (9, .iconst 1, 1), (10, .invokestatic 61, 3), (13, .ifCond .ne 9, 3), (16, .aload_n 0, 1), (17, .iconst 0, 1), (18, .invokevirtual 125, 3), (21, .ireturn, 1), (22, .aload_n 0, 1), (23, .getfield 9, 3), (26, .bipush 14, 2), (28, .iload_n 1, 1), (29, .iadd, 1), (30, .iaload, 1), (31, .istore_n 3, 1), (32, .aload_n 0, 1), (33, .getfield 9, 3), (36, .bipush 14, 2), (38, .iload_n 1, 1), (39, .iadd, 1), (40, .iload_n 2, 1), (41, .iastore, 1), (42, .iload_n 3, 1), (43, .iload_n 2, 1), (44, .if_icmp .ne 7, 3), (47, .iconst 0, 1), (48, .goto 4, 3), (51, .iconst 1, 1), (52, .ireturn, 1)]
theorem tk_X6_hedge_0 : dcA cX6_hedge tb_X6_hedge_0 = true := by decide +kernel
theorem dX6_hedge_0 : decode cX6_hedge 0 = .ok (.iload_n 1, 1) := dcO tk_X6_hedge_0 0 rfl
theorem dX6_hedge_1 : decode cX6_hedge 1 = .ok (.invokestatic 122, 3) := dcO tk_X6_hedge_0 1 rfl
theorem dX6_hedge_4 : decode cX6_hedge 4 = .ok (.ifCond .eq 12, 3) := dcO tk_X6_hedge_0 2 rfl
theorem dX6_hedge_7 : decode cX6_hedge 7 = .ok (.iload_n 2, 1) := dcO tk_X6_hedge_0 3 rfl
theorem dX6_hedge_8 : decode cX6_hedge 8 = .ok (.iconst 0, 1) := dcO tk_X6_hedge_0 4 rfl
theorem dX6_hedge_9 : decode cX6_hedge 9 = .ok (.iconst 1, 1) := dcO tk_X6_hedge_0 5 rfl
theorem dX6_hedge_10 : decode cX6_hedge 10 = .ok (.invokestatic 61, 3) := dcO tk_X6_hedge_0 6 rfl
theorem dX6_hedge_13 : decode cX6_hedge 13 = .ok (.ifCond .ne 9, 3) := dcO tk_X6_hedge_0 7 rfl
theorem dX6_hedge_16 : decode cX6_hedge 16 = .ok (.aload_n 0, 1) := dcO tk_X6_hedge_0 8 rfl
theorem dX6_hedge_17 : decode cX6_hedge 17 = .ok (.iconst 0, 1) := dcO tk_X6_hedge_0 9 rfl
theorem dX6_hedge_18 : decode cX6_hedge 18 = .ok (.invokevirtual 125, 3) := dcO tk_X6_hedge_0 10 rfl
theorem dX6_hedge_21 : decode cX6_hedge 21 = .ok (.ireturn, 1) := dcO tk_X6_hedge_0 11 rfl
theorem dX6_hedge_22 : decode cX6_hedge 22 = .ok (.aload_n 0, 1) := dcO tk_X6_hedge_0 12 rfl
theorem dX6_hedge_23 : decode cX6_hedge 23 = .ok (.getfield 9, 3) := dcO tk_X6_hedge_0 13 rfl
theorem dX6_hedge_26 : decode cX6_hedge 26 = .ok (.bipush 14, 2) := dcO tk_X6_hedge_0 14 rfl
theorem dX6_hedge_28 : decode cX6_hedge 28 = .ok (.iload_n 1, 1) := dcO tk_X6_hedge_0 15 rfl
theorem dX6_hedge_29 : decode cX6_hedge 29 = .ok (.iadd, 1) := dcO tk_X6_hedge_0 16 rfl
theorem dX6_hedge_30 : decode cX6_hedge 30 = .ok (.iaload, 1) := dcO tk_X6_hedge_0 17 rfl
theorem dX6_hedge_31 : decode cX6_hedge 31 = .ok (.istore_n 3, 1) := dcO tk_X6_hedge_0 18 rfl
theorem dX6_hedge_32 : decode cX6_hedge 32 = .ok (.aload_n 0, 1) := dcO tk_X6_hedge_0 19 rfl
theorem dX6_hedge_33 : decode cX6_hedge 33 = .ok (.getfield 9, 3) := dcO tk_X6_hedge_0 20 rfl
theorem dX6_hedge_36 : decode cX6_hedge 36 = .ok (.bipush 14, 2) := dcO tk_X6_hedge_0 21 rfl
theorem dX6_hedge_38 : decode cX6_hedge 38 = .ok (.iload_n 1, 1) := dcO tk_X6_hedge_0 22 rfl
theorem dX6_hedge_39 : decode cX6_hedge 39 = .ok (.iadd, 1) := dcO tk_X6_hedge_0 23 rfl
theorem dX6_hedge_40 : decode cX6_hedge 40 = .ok (.iload_n 2, 1) := dcO tk_X6_hedge_0 24 rfl
theorem dX6_hedge_41 : decode cX6_hedge 41 = .ok (.iastore, 1) := dcO tk_X6_hedge_0 25 rfl
theorem dX6_hedge_42 : decode cX6_hedge 42 = .ok (.iload_n 3, 1) := dcO tk_X6_hedge_0 26 rfl
theorem dX6_hedge_43 : decode cX6_hedge 43 = .ok (.iload_n 2, 1) := dcO tk_X6_hedge_0 27 rfl
theorem dX6_hedge_44 : decode cX6_hedge 44 = .ok (.if_icmp .ne 7, 3) := dcO tk_X6_hedge_0 28 rfl
theorem dX6_hedge_47 : decode cX6_hedge 47 = .ok (.iconst 0, 1) := dcO tk_X6_hedge_0 29 rfl
theorem dX6_hedge_48 : decode cX6_hedge 48 = .ok (.goto 4, 3) := dcO tk_X6_hedge_0 30 rfl
theorem dX6_hedge_51 : decode cX6_hedge 51 = .ok (.iconst 1, 1) := dcO tk_X6_hedge_0 31 rfl
theorem dX6_hedge_52 : decode cX6_hedge 52 = .ok (.ireturn, 1) := dcO tk_X6_hedge_0 32 rfl
abbrev tb_X6_greens_0 : List (Nat × Instr × Nat) := [(0, .iload_n 1, 1), (1, .invokestatic 122, 3), (4, .ifCond .eq 13, 3), (7, .iload_n 2, 1), (8, .iconst 0, 1), (9, .bipush 9, 2), (11, .invokestatic 61, 3), (14, .ifCond .ne 9, 3), (17, .aload_n 0, 1), (18, .iconst 0, 1), (19, .invokevirtual 125, 3), (22, .ireturn, 1), (23, .aload_n 0, 1), (24, .getfield 9, 3), (27, .bipush 95, 2), (29, .iload_n 1, 1), (30, .iadd, 1), (31, .iaload, 1), (32, .istore_n 3, 1), (33, .aload_n 0, 1), (34, .getfield 9, 3), (37, .bipush 95, 2), (39, .iload_n 1, 1), (40, .iadd, 1), (41, .iload_n 2, 1), (42, .iastore, 1), (43, .iload_n 3, 1), (44, .ireturn, 1)]
theorem tk_X6_greens_0 : dcA cX6_greens tb_X6_greens_0 = true := by decide +kernel
theorem dX6_greens_0 : decode cX6_greens 0 = .ok (.iload_n 1, 1) := dcO tk_X6_greens_0 0 rfl
theorem dX6_greens_1 : decode cX6_greens 1 = .ok (.invokestatic 122, 3) := dcO tk_X6_greens_0 1 rfl
theorem dX6_greens_4 : decode cX6_greens 4 = .ok (.ifCond .eq 13, 3) := dcO tk_X6_greens_0 2 rfl
theorem dX6_greens_7 : decode cX6_greens 7 = .ok (.iload_n 2, 1) := dcO tk_X6_greens_0 3 rfl
theorem dX6_greens_8 : decode cX6_greens 8 = .ok (.iconst 0, 1) := dcO tk_X6_greens_0 4 rfl
theorem dX6_greens_9 : decode cX6_greens 9 = .ok (.bipush 9, 2) := dcO tk_X6_greens_0 5 rfl
theorem dX6_greens_11 : decode cX6_greens 11 = .ok (.invokestatic 61, 3) := dcO tk_X6_greens_0 6 rfl
theorem dX6_greens_14 : decode cX6_greens 14 = .ok (.ifCond .ne 9, 3) := dcO tk_X6_greens_0 7 rfl
theorem dX6_greens_17 : decode cX6_greens 17 = .ok (.aload_n 0, 1) := dcO tk_X6_greens_0 8 rfl
theorem dX6_greens_18 : decode cX6_greens 18 = .ok (.iconst 0, 1) := dcO tk_X6_greens_0 9 rfl
theorem dX6_greens_19 : decode cX6_greens 19 = .ok (.invokevirtual 125, 3) := dcO tk_X6_greens_0 10 rfl
theorem dX6_greens_22 : decode cX6_greens 22 = .ok (.ireturn, 1) := dcO tk_X6_greens_0 11 rfl
theorem dX6_greens_23 : decode cX6_greens 23 = .ok (.aload_n 0, 1) := dcO tk_X6_greens_0 12 rfl
theorem dX6_greens_24 : decode cX6_greens 24 = .ok (.getfield 9, 3) := dcO tk_X6_greens_0 13 rfl
theorem dX6_greens_27 : decode cX6_greens 27 = .ok (.bipush 95, 2) := dcO tk_X6_greens_0 14 rfl
theorem dX6_greens_29 : decode cX6_greens 29 = .ok (.iload_n 1, 1) := dcO tk_X6_greens_0 15 rfl
theorem dX6_greens_30 : decode cX6_greens 30 = .ok (.iadd, 1) := dcO tk_X6_greens_0 16 rfl
theorem dX6_greens_31 : decode cX6_greens 31 = .ok (.iaload, 1) := dcO tk_X6_greens_0 17 rfl
theorem dX6_greens_32 : decode cX6_greens 32 = .ok (.istore_n 3, 1) := dcO tk_X6_greens_0 18 rfl
theorem dX6_greens_33 : decode cX6_greens 33 = .ok (.aload_n 0, 1) := dcO tk_X6_greens_0 19 rfl
theorem dX6_greens_34 : decode cX6_greens 34 = .ok (.getfield 9, 3) := dcO tk_X6_greens_0 20 rfl
theorem dX6_greens_37 : decode cX6_greens 37 = .ok (.bipush 95, 2) := dcO tk_X6_greens_0 21 rfl
theorem dX6_greens_39 : decode cX6_greens 39 = .ok (.iload_n 1, 1) := dcO tk_X6_greens_0 22 rfl
theorem dX6_greens_40 : decode cX6_greens 40 = .ok (.iadd, 1) := dcO tk_X6_greens_0 23 rfl
theorem dX6_greens_41 : decode cX6_greens 41 = .ok (.iload_n 2, 1) := dcO tk_X6_greens_0 24 rfl
theorem dX6_greens_42 : decode cX6_greens 42 = .ok (.iastore, 1) := dcO tk_X6_greens_0 25 rfl
theorem dX6_greens_43 : decode cX6_greens 43 = .ok (.iload_n 3, 1) := dcO tk_X6_greens_0 26 rfl
theorem dX6_greens_44 : decode cX6_greens 44 = .ok (.ireturn, 1) := dcO tk_X6_greens_0 27 rfl
abbrev tb_X6_land_0 : List (Nat × Instr × Nat) := [(0, .iload_n 1, 1), (1, .invokestatic 122, 3), (4, .ifCond .eq 12, 3), (7, .iload_n 2, 1), (8, .iconst 0, 1), (9, .iconst 2, 1), (10, .invokestatic 61, 3), (13, .ifCond .ne 9, 3), (16, .aload_n 0, 1), (17, .iconst 0, 1), (18, .invokevirtual 125, 3), (21, .ireturn, 1), (22, .iload_n 2, 1), (23, .ifCond .ne 15, 3), (26, .aload_n 0, 1), (27, .getfield 9, 3), (30, .bipush 14, 2), (32, .iload_n 1, 1), (33, .iadd, 1), (34, .iaload, 1), (35, .goto 30, 3), (38, .iload_n 2, 1), (39, .iconst 1, 1), (40, .if_icmp .ne 15, 3), (43, .aload_n 0, 1), (44, .getfield 9, 3), (47, .bipush 95, 2), (49, .iload_n 1, 1), (50, .iadd, 1), (51, .iaload, 1), (52, .goto 13, 3), (55, .aload_n 0, 1), (56, .getfield 9, 3), (59, .sipush 176, 3), (62, .iload_n 1, 1), (63, .iadd, 1), (64, .iaload, 1), (65, .ireturn, 1)]
theorem tk_X6_land_0 : dcA cX6_land tb_X6_land_0 = true := by decide +kernel
theorem dX6_land_0 : decode cX6_land 0 = .ok (.iload_n 1, 1) := dcO tk_X6_land_0 0 rfl
theorem dX6_land_1 : decode cX6_land 1 = .ok (.invokestatic 122, 3) := dcO tk_X6_land_0 1 rfl
theorem dX6_land_4 : decode cX6_land 4 = .ok (.ifCond .eq 12, 3) := dcO tk_X6_land_0 2 rfl
theorem dX6_land_7 : decode cX6_land 7 = .ok (.iload_n 2, 1) := dcO tk_X6_land_0 3 rfl
theorem dX6_land_8 : decode cX6_land 8 = .ok (.iconst 0, 1) := dcO tk_X6_land_0 4 rfl
theorem dX6_land_9 : decode cX6_land 9 = .ok (.iconst 2, 1) := dcO tk_X6_land_0 5 rfl
theorem dX6_land_10 : decode cX6_land 10 = .ok (.invokestatic 61, 3) := dcO tk_X6_land_0 6 rfl
theorem dX6_land_13 : decode cX6_land 13 = .ok (.ifCond .ne 9, 3) := dcO tk_X6_land_0 7 rfl
theorem dX6_land_16 : decode cX6_land 16 = .ok (.aload_n 0, 1) := dcO tk_X6_land_0 8 rfl
theorem dX6_land_17 : decode cX6_land 17 = .ok (.iconst 0, 1) := dcO tk_X6_land_0 9 rfl
theorem dX6_land_18 : decode cX6_land 18 = .ok (.invokevirtual 125, 3) := dcO tk_X6_land_0 10 rfl
theorem dX6_land_21 : decode cX6_land 21 = .ok (.ireturn, 1) := dcO tk_X6_land_0 11 rfl
theorem dX6_land_22 : decode cX6_land 22 = .ok (.iload_n 2, 1) := dcO tk_X6_land_0 12 rfl
theorem dX6_land_23 : decode cX6_land 23 = .ok (.ifCond .ne 15, 3) := dcO tk_X6_land_0 13 rfl
theorem dX6_land_26 : decode cX6_land 26 = .ok (.aload_n 0, 1) := dcO tk_X6_land_0 14 rfl
theorem dX6_land_27 : decode cX6_land 27 = .ok (.getfield 9, 3) := dcO tk_X6_land_0 15 rfl
theorem dX6_land_30 : decode cX6_land 30 = .ok (.bipush 14, 2) := dcO tk_X6_land_0 16 rfl
theorem dX6_land_32 : decode cX6_land 32 = .ok (.iload_n 1, 1) := dcO tk_X6_land_0 17 rfl
theorem dX6_land_33 : decode cX6_land 33 = .ok (.iadd, 1) := dcO tk_X6_land_0 18 rfl
theorem dX6_land_34 : decode cX6_land 34 = .ok (.iaload, 1) := dcO tk_X6_land_0 19 rfl
theorem dX6_land_35 : decode cX6_land 35 = .ok (.goto 30, 3) := dcO tk_X6_land_0 20 rfl
theorem dX6_land_38 : decode cX6_land 38 = .ok (.iload_n 2, 1) := dcO tk_X6_land_0 21 rfl
theorem dX6_land_39 : decode cX6_land 39 = .ok (.iconst 1, 1) := dcO tk_X6_land_0 22 rfl
theorem dX6_land_40 : decode cX6_land 40 = .ok (.if_icmp .ne 15, 3) := dcO tk_X6_land_0 23 rfl
theorem dX6_land_43 : decode cX6_land 43 = .ok (.aload_n 0, 1) := dcO tk_X6_land_0 24 rfl
theorem dX6_land_44 : decode cX6_land 44 = .ok (.getfield 9, 3) := dcO tk_X6_land_0 25 rfl
theorem dX6_land_47 : decode cX6_land 47 = .ok (.bipush 95, 2) := dcO tk_X6_land_0 26 rfl
theorem dX6_land_49 : decode cX6_land 49 = .ok (.iload_n 1, 1) := dcO tk_X6_land_0 27 rfl
theorem dX6_land_50 : decode cX6_land 50 = .ok (.iadd, 1) := dcO tk_X6_land_0 28 rfl
theorem dX6_land_51 : decode cX6_land 51 = .ok (.iaload, 1) := dcO tk_X6_land_0 29 rfl
theorem dX6_land_52 : decode cX6_land 52 = .ok (.goto 13, 3) := dcO tk_X6_land_0 30 rfl
theorem dX6_land_55 : decode cX6_land 55 = .ok (.aload_n 0, 1) := dcO tk_X6_land_0 31 rfl
theorem dX6_land_56 : decode cX6_land 56 = .ok (.getfield 9, 3) := dcO tk_X6_land_0 32 rfl
theorem dX6_land_59 : decode cX6_land 59 = .ok (.sipush 176, 3) := dcO tk_X6_land_0 33 rfl
theorem dX6_land_62 : decode cX6_land 62 = .ok (.iload_n 1, 1) := dcO tk_X6_land_0 34 rfl
theorem dX6_land_63 : decode cX6_land 63 = .ok (.iadd, 1) := dcO tk_X6_land_0 35 rfl
theorem dX6_land_64 : decode cX6_land 64 = .ok (.iaload, 1) := dcO tk_X6_land_0 36 rfl
theorem dX6_land_65 : decode cX6_land 65 = .ok (.ireturn, 1) := dcO tk_X6_land_0 37 rfl
abbrev tb_X6_far_0 : List (Nat × Instr × Nat) := [(0, .iload_n 1, 1), (1, .invokestatic 122, 3), (4, .ifCond .eq 10, 3), (7, .iload_n 2, 1), (8, .invokestatic 122, 3), (11, .ifCond .ne 9, 3), (14, .aload_n 0, 1), (15, .iconst 0, 1), (16, .invokevirtual 125, 3), (19, .ireturn, 1), (20, .aload_n 0, 1), (21, .invokevirtual 73, 3), (24, .aload_n 0, 1), (25, .iload_n 2, 1), (26, .sipush 648, 3), (29, .invokevirtual 79, 3), (32, .aload_n 0, 1), (33, .getfield 22, 3), (36, .sipush 648, 3), (39, .iload_n 1, 1), (40, .iadd, 1), (41, .iaload, 1), (42, .ireturn, 1)]
theorem tk_X6_far_0 : dcA cX6_far tb_X6_far_0 = true := by decide +kernel
theorem dX6_far_0 : decode cX6_far 0 = .ok (.iload_n 1, 1) := dcO tk_X6_far_0 0 rfl
theorem dX6_far_1 : decode cX6_far 1 = .ok (.invokestatic 122, 3) := dcO tk_X6_far_0 1 rfl
theorem dX6_far_4 : decode cX6_far 4 = .ok (.ifCond .eq 10, 3) := dcO tk_X6_far_0 2 rfl
theorem dX6_far_7 : decode cX6_far 7 = .ok (.iload_n 2, 1) := dcO tk_X6_far_0 3 rfl
theorem dX6_far_8 : decode cX6_far 8 = .ok (.invokestatic 122, 3) := dcO tk_X6_far_0 4 rfl
theorem dX6_far_11 : decode cX6_far 11 = .ok (.ifCond .ne 9, 3) := dcO tk_X6_far_0 5 rfl
theorem dX6_far_14 : decode cX6_far 14 = .ok (.aload_n 0, 1) := dcO tk_X6_far_0 6 rfl
theorem dX6_far_15 : decode cX6_far 15 = .ok (.iconst 0, 1) := dcO tk_X6_far_0 7 rfl
theorem dX6_far_16 : decode cX6_far 16 = .ok (.invokevirtual 125, 3) := dcO tk_X6_far_0 8 rfl
theorem dX6_far_19 : decode cX6_far 19 = .ok (.ireturn, 1) := dcO tk_X6_far_0 9 rfl
theorem dX6_far_20 : decode cX6_far 20 = .ok (.aload_n 0, 1) := dcO tk_X6_far_0 10 rfl
theorem dX6_far_21 : decode cX6_far 21 = .ok (.invokevirtual 73, 3) := dcO tk_X6_far_0 11 rfl
theorem dX6_far_24 : decode cX6_far 24 = .ok (.aload_n 0, 1) := dcO tk_X6_far_0 12 rfl
theorem dX6_far_25 : decode cX6_far 25 = .ok (.iload_n 2, 1) := dcO tk_X6_far_0 13 rfl
theorem dX6_far_26 : decode cX6_far 26 = .ok (.sipush 648, 3) := dcO tk_X6_far_0 14 rfl
theorem dX6_far_29 : decode cX6_far 29 = .ok (.invokevirtual 79, 3) := dcO tk_X6_far_0 15 rfl
theorem dX6_far_32 : decode cX6_far 32 = .ok (.aload_n 0, 1) := dcO tk_X6_far_0 16 rfl
theorem dX6_far_33 : decode cX6_far 33 = .ok (.getfield 22, 3) := dcO tk_X6_far_0 17 rfl
theorem dX6_far_36 : decode cX6_far 36 = .ok (.sipush 648, 3) := dcO tk_X6_far_0 18 rfl
theorem dX6_far_39 : decode cX6_far 39 = .ok (.iload_n 1, 1) := dcO tk_X6_far_0 19 rfl
theorem dX6_far_40 : decode cX6_far 40 = .ok (.iadd, 1) := dcO tk_X6_far_0 20 rfl
theorem dX6_far_41 : decode cX6_far 41 = .ok (.iaload, 1) := dcO tk_X6_far_0 21 rfl
theorem dX6_far_42 : decode cX6_far 42 = .ok (.ireturn, 1) := dcO tk_X6_far_0 22 rfl
abbrev tb_X6_addsSnail_0 : List (Nat × Instr × Nat) := [(0, .aload_n 0, 1), (1, .getfield 9, 3), (4, .iconst 2, 1), (5, .iaload, 1), (6, .istore_n 3, 1), (7, .aload_n 0, 1), (8, .iload_n 3, 1), (9, .iconst 0, 1), (10, .iload_n 1, 1), (11, .invokevirtual 97, 3), (14, .aload_n 0, 1), (15, .iload_n 3, 1), (16, .iconst 1, 1), (17, .iload_n 2, 1), (18, .invokevirtual 97, 3), (21, .aload_n 0, 1), (22, .iload_n 3, 1), (23, .iconst 2, 1), (24, .iconst 0, 1), (25, .invokevirtual 97, 3), (28, .aload_n 0, 1), (29, .iload_n 3, 1), (30, .iconst 3, 1), (31, .bipush 80, 2), (33, .invokevirtual 97, 3), (36, .aload_n 0, 1), (37, .iload_n 3, 1), (38, .iconst 4, 1), (39, .iconst 1, 1), (40, .invokevirtual 97, 3), (43, .aload_n 0, 1), (44, .getfield 9, 3), (47, .iconst 2, 1), (48, .dup2, 1), (49, .iaload, 1), (50, .iconst 1, 1), (51, .iadd, 1), (52, .iastore, 1), (53, .return_, 1)]
theorem tk_X6_addsSnail_0 : dcA cX6_addsSnail tb_X6_addsSnail_0 = true := by decide +kernel
theorem dX6_addsSnail_0 : decode cX6_addsSnail 0 = .ok (.aload_n 0, 1) := dcO tk_X6_addsSnail_0 0 rfl
theorem dX6_addsSnail_1 : decode cX6_addsSnail 1 = .ok (.getfield 9, 3) := dcO tk_X6_addsSnail_0 1 rfl
theorem dX6_addsSnail_4 : decode cX6_addsSnail 4 = .ok (.iconst 2, 1) := dcO tk_X6_addsSnail_0 2 rfl
theorem dX6_addsSnail_5 : decode cX6_addsSnail 5 = .ok (.iaload, 1) := dcO tk_X6_addsSnail_0 3 rfl
theorem dX6_addsSnail_6 : decode cX6_addsSnail 6 = .ok (.istore_n 3, 1) := dcO tk_X6_addsSnail_0 4 rfl
theorem dX6_addsSnail_7 : decode cX6_addsSnail 7 = .ok (.aload_n 0, 1) := dcO tk_X6_addsSnail_0 5 rfl
theorem dX6_addsSnail_8 : decode cX6_addsSnail 8 = .ok (.iload_n 3, 1) := dcO tk_X6_addsSnail_0 6 rfl
theorem dX6_addsSnail_9 : decode cX6_addsSnail 9 = .ok (.iconst 0, 1) := dcO tk_X6_addsSnail_0 7 rfl
theorem dX6_addsSnail_10 : decode cX6_addsSnail 10 = .ok (.iload_n 1, 1) := dcO tk_X6_addsSnail_0 8 rfl
theorem dX6_addsSnail_11 : decode cX6_addsSnail 11 = .ok (.invokevirtual 97, 3) := dcO tk_X6_addsSnail_0 9 rfl
theorem dX6_addsSnail_14 : decode cX6_addsSnail 14 = .ok (.aload_n 0, 1) := dcO tk_X6_addsSnail_0 10 rfl
theorem dX6_addsSnail_15 : decode cX6_addsSnail 15 = .ok (.iload_n 3, 1) := dcO tk_X6_addsSnail_0 11 rfl
theorem dX6_addsSnail_16 : decode cX6_addsSnail 16 = .ok (.iconst 1, 1) := dcO tk_X6_addsSnail_0 12 rfl
theorem dX6_addsSnail_17 : decode cX6_addsSnail 17 = .ok (.iload_n 2, 1) := dcO tk_X6_addsSnail_0 13 rfl
theorem dX6_addsSnail_18 : decode cX6_addsSnail 18 = .ok (.invokevirtual 97, 3) := dcO tk_X6_addsSnail_0 14 rfl
theorem dX6_addsSnail_21 : decode cX6_addsSnail 21 = .ok (.aload_n 0, 1) := dcO tk_X6_addsSnail_0 15 rfl
theorem dX6_addsSnail_22 : decode cX6_addsSnail 22 = .ok (.iload_n 3, 1) := dcO tk_X6_addsSnail_0 16 rfl
theorem dX6_addsSnail_23 : decode cX6_addsSnail 23 = .ok (.iconst 2, 1) := dcO tk_X6_addsSnail_0 17 rfl
theorem dX6_addsSnail_24 : decode cX6_addsSnail 24 = .ok (.iconst 0, 1) := dcO tk_X6_addsSnail_0 18 rfl
theorem dX6_addsSnail_25 : decode cX6_addsSnail 25 = .ok (.invokevirtual 97, 3) := dcO tk_X6_addsSnail_0 19 rfl
theorem dX6_addsSnail_28 : decode cX6_addsSnail 28 = .ok (.aload_n 0, 1) := dcO tk_X6_addsSnail_0 20 rfl
theorem dX6_addsSnail_29 : decode cX6_addsSnail 29 = .ok (.iload_n 3, 1) := dcO tk_X6_addsSnail_0 21 rfl
theorem dX6_addsSnail_30 : decode cX6_addsSnail 30 = .ok (.iconst 3, 1) := dcO tk_X6_addsSnail_0 22 rfl
theorem dX6_addsSnail_31 : decode cX6_addsSnail 31 = .ok (.bipush 80, 2) := dcO tk_X6_addsSnail_0 23 rfl
theorem dX6_addsSnail_33 : decode cX6_addsSnail 33 = .ok (.invokevirtual 97, 3) := dcO tk_X6_addsSnail_0 24 rfl
theorem dX6_addsSnail_36 : decode cX6_addsSnail 36 = .ok (.aload_n 0, 1) := dcO tk_X6_addsSnail_0 25 rfl
theorem dX6_addsSnail_37 : decode cX6_addsSnail 37 = .ok (.iload_n 3, 1) := dcO tk_X6_addsSnail_0 26 rfl
theorem dX6_addsSnail_38 : decode cX6_addsSnail 38 = .ok (.iconst 4, 1) := dcO tk_X6_addsSnail_0 27 rfl
theorem dX6_addsSnail_39 : decode cX6_addsSnail 39 = .ok (.iconst 1, 1) := dcO tk_X6_addsSnail_0 28 rfl
theorem dX6_addsSnail_40 : decode cX6_addsSnail 40 = .ok (.invokevirtual 97, 3) := dcO tk_X6_addsSnail_0 29 rfl
theorem dX6_addsSnail_43 : decode cX6_addsSnail 43 = .ok (.aload_n 0, 1) := dcO tk_X6_addsSnail_0 30 rfl
theorem dX6_addsSnail_44 : decode cX6_addsSnail 44 = .ok (.getfield 9, 3) := dcO tk_X6_addsSnail_0 31 rfl
theorem dX6_addsSnail_47 : decode cX6_addsSnail 47 = .ok (.iconst 2, 1) := dcO tk_X6_addsSnail_0 32 rfl
theorem dX6_addsSnail_48 : decode cX6_addsSnail 48 = .ok (.dup2, 1) := dcO tk_X6_addsSnail_0 33 rfl
theorem dX6_addsSnail_49 : decode cX6_addsSnail 49 = .ok (.iaload, 1) := dcO tk_X6_addsSnail_0 34 rfl
theorem dX6_addsSnail_50 : decode cX6_addsSnail 50 = .ok (.iconst 1, 1) := dcO tk_X6_addsSnail_0 35 rfl
theorem dX6_addsSnail_51 : decode cX6_addsSnail 51 = .ok (.iadd, 1) := dcO tk_X6_addsSnail_0 36 rfl
theorem dX6_addsSnail_52 : decode cX6_addsSnail 52 = .ok (.iastore, 1) := dcO tk_X6_addsSnail_0 37 rfl
theorem dX6_addsSnail_53 : decode cX6_addsSnail 53 = .ok (.return_, 1) := dcO tk_X6_addsSnail_0 38 rfl
abbrev tb_X6_snail_0 : List (Nat × Instr × Nat) := [(0, .iload_n 1, 1), (1, .iconst 0, 1), (2, .bipush 6, 2), (4, .invokestatic 61, 3), (7, .ifCond .eq 10, 3), (10, .iload_n 2, 1), (11, .invokestatic 122, 3), (14, .ifCond .ne 9, 3), (17, .aload_n 0, 1), (18, .iconst 0, 1), (19, .invokevirtual 125, 3), (22, .ireturn, 1), (23, .aload_n 0, 1), (24, .getfield 9, 3), (27, .iconst 2, 1), (28, .iaload, 1), (29, .bipush 8, 2), (31, .if_icmp .ne 9, 3), (34, .aload_n 0, 1), (35, .iconst 1, 1), (36, .invokevirtual 125, 3), (39, .ireturn, 1), (40, .aload_n 0, 1), (41, .iload_n 1, 1), (42, .iload_n 2, 1), (43, .invokevirtual 128, 3), (46, .aload_n 0, 1), (47, .getfield 9, 3), (50, .iconst 2, 1), (51, .iaload, 1), (52, .iconst 1, 1), (53, .isub, 1), (54, .ireturn, 1)]
theorem tk_X6_snail_0 : dcA cX6_snail tb_X6_snail_0 = true := by decide +kernel
theorem dX6_snail_0 : decode cX6_snail 0 = .ok (.iload_n 1, 1) := dcO tk_X6_snail_0 0 rfl
theorem dX6_snail_1 : decode cX6_snail 1 = .ok (.iconst 0, 1) := dcO tk_X6_snail_0 1 rfl
theorem dX6_snail_2 : decode cX6_snail 2 = .ok (.bipush 6, 2) := dcO tk_X6_snail_0 2 rfl
theorem dX6_snail_4 : decode cX6_snail 4 = .ok (.invokestatic 61, 3) := dcO tk_X6_snail_0 3 rfl
theorem dX6_snail_7 : decode cX6_snail 7 = .ok (.ifCond .eq 10, 3) := dcO tk_X6_snail_0 4 rfl
theorem dX6_snail_10 : decode cX6_snail 10 = .ok (.iload_n 2, 1) := dcO tk_X6_snail_0 5 rfl
theorem dX6_snail_11 : decode cX6_snail 11 = .ok (.invokestatic 122, 3) := dcO tk_X6_snail_0 6 rfl
theorem dX6_snail_14 : decode cX6_snail 14 = .ok (.ifCond .ne 9, 3) := dcO tk_X6_snail_0 7 rfl
theorem dX6_snail_17 : decode cX6_snail 17 = .ok (.aload_n 0, 1) := dcO tk_X6_snail_0 8 rfl
theorem dX6_snail_18 : decode cX6_snail 18 = .ok (.iconst 0, 1) := dcO tk_X6_snail_0 9 rfl
theorem dX6_snail_19 : decode cX6_snail 19 = .ok (.invokevirtual 125, 3) := dcO tk_X6_snail_0 10 rfl
theorem dX6_snail_22 : decode cX6_snail 22 = .ok (.ireturn, 1) := dcO tk_X6_snail_0 11 rfl
theorem dX6_snail_23 : decode cX6_snail 23 = .ok (.aload_n 0, 1) := dcO tk_X6_snail_0 12 rfl
theorem dX6_snail_24 : decode cX6_snail 24 = .ok (.getfield 9, 3) := dcO tk_X6_snail_0 13 rfl
theorem dX6_snail_27 : decode cX6_snail 27 = .ok (.iconst 2, 1) := dcO tk_X6_snail_0 14 rfl
theorem dX6_snail_28 : decode cX6_snail 28 = .ok (.iaload, 1) := dcO tk_X6_snail_0 15 rfl
theorem dX6_snail_29 : decode cX6_snail 29 = .ok (.bipush 8, 2) := dcO tk_X6_snail_0 16 rfl
theorem dX6_snail_31 : decode cX6_snail 31 = .ok (.if_icmp .ne 9, 3) := dcO tk_X6_snail_0 17 rfl
theorem dX6_snail_34 : decode cX6_snail 34 = .ok (.aload_n 0, 1) := dcO tk_X6_snail_0 18 rfl
theorem dX6_snail_35 : decode cX6_snail 35 = .ok (.iconst 1, 1) := dcO tk_X6_snail_0 19 rfl
theorem dX6_snail_36 : decode cX6_snail 36 = .ok (.invokevirtual 125, 3) := dcO tk_X6_snail_0 20 rfl
theorem dX6_snail_39 : decode cX6_snail 39 = .ok (.ireturn, 1) := dcO tk_X6_snail_0 21 rfl
theorem dX6_snail_40 : decode cX6_snail 40 = .ok (.aload_n 0, 1) := dcO tk_X6_snail_0 22 rfl
theorem dX6_snail_41 : decode cX6_snail 41 = .ok (.iload_n 1, 1) := dcO tk_X6_snail_0 23 rfl
theorem dX6_snail_42 : decode cX6_snail 42 = .ok (.iload_n 2, 1) := dcO tk_X6_snail_0 24 rfl
theorem dX6_snail_43 : decode cX6_snail 43 = .ok (.invokevirtual 128, 3) := dcO tk_X6_snail_0 25 rfl
theorem dX6_snail_46 : decode cX6_snail 46 = .ok (.aload_n 0, 1) := dcO tk_X6_snail_0 26 rfl
theorem dX6_snail_47 : decode cX6_snail 47 = .ok (.getfield 9, 3) := dcO tk_X6_snail_0 27 rfl
theorem dX6_snail_50 : decode cX6_snail 50 = .ok (.iconst 2, 1) := dcO tk_X6_snail_0 28 rfl
theorem dX6_snail_51 : decode cX6_snail 51 = .ok (.iaload, 1) := dcO tk_X6_snail_0 29 rfl
theorem dX6_snail_52 : decode cX6_snail 52 = .ok (.iconst 1, 1) := dcO tk_X6_snail_0 30 rfl
theorem dX6_snail_53 : decode cX6_snail 53 = .ok (.isub, 1) := dcO tk_X6_snail_0 31 rfl
theorem dX6_snail_54 : decode cX6_snail 54 = .ok (.ireturn, 1) := dcO tk_X6_snail_0 32 rfl
abbrev tb_X6_of_0 : List (Nat × Instr × Nat) := [(0, .aload_n 0, 1), (1, .iload_n 1, 1), (2, .invokevirtual 131, 3), (5, .ifCond .eq 13, 3), (8, .iload_n 2, 1), (9, .iconst 0, 1), (10, .bipush 6, 2), (12, .invokestatic 61, 3), (15, .ifCond .ne 9, 3), (18, .aload_n 0, 1), (19, .iconst 0, 1), (20, .invokevirtual 125, 3), (23, .ireturn, 1), (24, .aload_n 0, 1), (25, .invokevirtual 112, 3), (28, .iload_n 2, 1), (29, .iconst 5, 1), (30, .if_icmp .ge 12, 3), (33, .aload_n 0, 1), (34, .iload_n 1, 1), (35, .iload_n 2, 1), (36, .invokevirtual 76, 3), (39, .goto 27, 3), (42, .iload_n 2, 1), (43, .iconst 5, 1), (44, .if_icmp .ne 11, 3), (47, .aload_n 0, 1), (48, .iload_n 1, 1), (49, .invokevirtual 90, 3), (52, .goto 14, 3), (55, .aload_n 0, 1), (56, .iload_n 1, 1), (57, .aload_n 0, 1), (58, .iload_n 1, 1), (59, .iconst 1, 1), (60, .invokevirtual 76, 3), (63, .invokevirtual 84, 3), (66, .ireturn, 1)]
theorem tk_X6_of_0 : dcA cX6_of tb_X6_of_0 = true := by decide +kernel
theorem dX6_of_0 : decode cX6_of 0 = .ok (.aload_n 0, 1) := dcO tk_X6_of_0 0 rfl
theorem dX6_of_1 : decode cX6_of 1 = .ok (.iload_n 1, 1) := dcO tk_X6_of_0 1 rfl
theorem dX6_of_2 : decode cX6_of 2 = .ok (.invokevirtual 131, 3) := dcO tk_X6_of_0 2 rfl
theorem dX6_of_5 : decode cX6_of 5 = .ok (.ifCond .eq 13, 3) := dcO tk_X6_of_0 3 rfl
theorem dX6_of_8 : decode cX6_of 8 = .ok (.iload_n 2, 1) := dcO tk_X6_of_0 4 rfl
theorem dX6_of_9 : decode cX6_of 9 = .ok (.iconst 0, 1) := dcO tk_X6_of_0 5 rfl
theorem dX6_of_10 : decode cX6_of 10 = .ok (.bipush 6, 2) := dcO tk_X6_of_0 6 rfl
theorem dX6_of_12 : decode cX6_of 12 = .ok (.invokestatic 61, 3) := dcO tk_X6_of_0 7 rfl
theorem dX6_of_15 : decode cX6_of 15 = .ok (.ifCond .ne 9, 3) := dcO tk_X6_of_0 8 rfl
theorem dX6_of_18 : decode cX6_of 18 = .ok (.aload_n 0, 1) := dcO tk_X6_of_0 9 rfl
theorem dX6_of_19 : decode cX6_of 19 = .ok (.iconst 0, 1) := dcO tk_X6_of_0 10 rfl
theorem dX6_of_20 : decode cX6_of 20 = .ok (.invokevirtual 125, 3) := dcO tk_X6_of_0 11 rfl
theorem dX6_of_23 : decode cX6_of 23 = .ok (.ireturn, 1) := dcO tk_X6_of_0 12 rfl
theorem dX6_of_24 : decode cX6_of 24 = .ok (.aload_n 0, 1) := dcO tk_X6_of_0 13 rfl
theorem dX6_of_25 : decode cX6_of 25 = .ok (.invokevirtual 112, 3) := dcO tk_X6_of_0 14 rfl
theorem dX6_of_28 : decode cX6_of 28 = .ok (.iload_n 2, 1) := dcO tk_X6_of_0 15 rfl
theorem dX6_of_29 : decode cX6_of 29 = .ok (.iconst 5, 1) := dcO tk_X6_of_0 16 rfl
theorem dX6_of_30 : decode cX6_of 30 = .ok (.if_icmp .ge 12, 3) := dcO tk_X6_of_0 17 rfl
theorem dX6_of_33 : decode cX6_of 33 = .ok (.aload_n 0, 1) := dcO tk_X6_of_0 18 rfl
theorem dX6_of_34 : decode cX6_of 34 = .ok (.iload_n 1, 1) := dcO tk_X6_of_0 19 rfl
theorem dX6_of_35 : decode cX6_of 35 = .ok (.iload_n 2, 1) := dcO tk_X6_of_0 20 rfl
theorem dX6_of_36 : decode cX6_of 36 = .ok (.invokevirtual 76, 3) := dcO tk_X6_of_0 21 rfl
theorem dX6_of_39 : decode cX6_of 39 = .ok (.goto 27, 3) := dcO tk_X6_of_0 22 rfl
theorem dX6_of_42 : decode cX6_of 42 = .ok (.iload_n 2, 1) := dcO tk_X6_of_0 23 rfl
theorem dX6_of_43 : decode cX6_of 43 = .ok (.iconst 5, 1) := dcO tk_X6_of_0 24 rfl
theorem dX6_of_44 : decode cX6_of 44 = .ok (.if_icmp .ne 11, 3) := dcO tk_X6_of_0 25 rfl
theorem dX6_of_47 : decode cX6_of 47 = .ok (.aload_n 0, 1) := dcO tk_X6_of_0 26 rfl
theorem dX6_of_48 : decode cX6_of 48 = .ok (.iload_n 1, 1) := dcO tk_X6_of_0 27 rfl
theorem dX6_of_49 : decode cX6_of 49 = .ok (.invokevirtual 90, 3) := dcO tk_X6_of_0 28 rfl
theorem dX6_of_52 : decode cX6_of 52 = .ok (.goto 14, 3) := dcO tk_X6_of_0 29 rfl
theorem dX6_of_55 : decode cX6_of 55 = .ok (.aload_n 0, 1) := dcO tk_X6_of_0 30 rfl
theorem dX6_of_56 : decode cX6_of 56 = .ok (.iload_n 1, 1) := dcO tk_X6_of_0 31 rfl
theorem dX6_of_57 : decode cX6_of 57 = .ok (.aload_n 0, 1) := dcO tk_X6_of_0 32 rfl
theorem dX6_of_58 : decode cX6_of 58 = .ok (.iload_n 1, 1) := dcO tk_X6_of_0 33 rfl
theorem dX6_of_59 : decode cX6_of 59 = .ok (.iconst 1, 1) := dcO tk_X6_of_0 34 rfl
theorem dX6_of_60 : decode cX6_of 60 = .ok (.invokevirtual 76, 3) := dcO tk_X6_of_0 35 rfl
theorem dX6_of_63 : decode cX6_of 63 = .ok (.invokevirtual 84, 3) := dcO tk_X6_of_0 36 rfl
theorem dX6_of_66 : decode cX6_of 66 = .ok (.ireturn, 1) := dcO tk_X6_of_0 37 rfl
abbrev tb_X6_change_0 : List (Nat × Instr × Nat) := [(0, .iload_n 2, 1), (1, .ifCond .ne 8, 3), (4, .bipush 6, 2), (6, .goto 25, 3), (9, .iload_n 2, 1), (10, .iconst 2, 1), (11, .if_icmp .ne 8, 3), (14, .bipush 7, 2), (16, .goto 15, 3), (19, .iload_n 2, 1), (20, .iconst 4, 1), (21, .if_icmp .ne 8, 3), (24, .bipush 99, 2), (26, .goto 5, 3), (29, .bipush 80, 2), (31, .istore 4, 2), (33, .aload_n 0, 1), (34, .iload_n 1, 1), (35, .invokevirtual 131, 3), (38, .ifCond .eq 22, 3), (41, .iload_n 2, 1), (42, .iconst 0, 1), (43, .iconst 4, 1), (44, .invokestatic 61, 3), (47, .ifCond .eq 13, 3), (50, .iload_n 3, 1), (51, .iconst 0, 1), (52, .iload 4, 2), (54, .invokestatic 61, 3), (57, .ifCond .ne 9, 3), (60, .aload_n 0, 1), (61, .iconst 0, 1), (62, .invokevirtual 125, 3), (65, .ireturn, 1), (66, .aload_n 0, 1), (67, .iload_n 1, 1), (68, .iload_n 2, 1), (69, .invokevirtual 76, 3), (72, .istore 5, 2), (74, .aload_n 0, 1)]
theorem tk_X6_change_0 : dcA cX6_change tb_X6_change_0 = true := by decide +kernel
theorem dX6_change_0 : decode cX6_change 0 = .ok (.iload_n 2, 1) := dcO tk_X6_change_0 0 rfl
theorem dX6_change_1 : decode cX6_change 1 = .ok (.ifCond .ne 8, 3) := dcO tk_X6_change_0 1 rfl
theorem dX6_change_4 : decode cX6_change 4 = .ok (.bipush 6, 2) := dcO tk_X6_change_0 2 rfl
theorem dX6_change_6 : decode cX6_change 6 = .ok (.goto 25, 3) := dcO tk_X6_change_0 3 rfl
theorem dX6_change_9 : decode cX6_change 9 = .ok (.iload_n 2, 1) := dcO tk_X6_change_0 4 rfl
theorem dX6_change_10 : decode cX6_change 10 = .ok (.iconst 2, 1) := dcO tk_X6_change_0 5 rfl
theorem dX6_change_11 : decode cX6_change 11 = .ok (.if_icmp .ne 8, 3) := dcO tk_X6_change_0 6 rfl
theorem dX6_change_14 : decode cX6_change 14 = .ok (.bipush 7, 2) := dcO tk_X6_change_0 7 rfl
theorem dX6_change_16 : decode cX6_change 16 = .ok (.goto 15, 3) := dcO tk_X6_change_0 8 rfl
theorem dX6_change_19 : decode cX6_change 19 = .ok (.iload_n 2, 1) := dcO tk_X6_change_0 9 rfl
theorem dX6_change_20 : decode cX6_change 20 = .ok (.iconst 4, 1) := dcO tk_X6_change_0 10 rfl
theorem dX6_change_21 : decode cX6_change 21 = .ok (.if_icmp .ne 8, 3) := dcO tk_X6_change_0 11 rfl
theorem dX6_change_24 : decode cX6_change 24 = .ok (.bipush 99, 2) := dcO tk_X6_change_0 12 rfl
theorem dX6_change_26 : decode cX6_change 26 = .ok (.goto 5, 3) := dcO tk_X6_change_0 13 rfl
theorem dX6_change_29 : decode cX6_change 29 = .ok (.bipush 80, 2) := dcO tk_X6_change_0 14 rfl
theorem dX6_change_31 : decode cX6_change 31 = .ok (.istore 4, 2) := dcO tk_X6_change_0 15 rfl
theorem dX6_change_33 : decode cX6_change 33 = .ok (.aload_n 0, 1) := dcO tk_X6_change_0 16 rfl
theorem dX6_change_34 : decode cX6_change 34 = .ok (.iload_n 1, 1) := dcO tk_X6_change_0 17 rfl
theorem dX6_change_35 : decode cX6_change 35 = .ok (.invokevirtual 131, 3) := dcO tk_X6_change_0 18 rfl
theorem dX6_change_38 : decode cX6_change 38 = .ok (.ifCond .eq 22, 3) := dcO tk_X6_change_0 19 rfl
theorem dX6_change_41 : decode cX6_change 41 = .ok (.iload_n 2, 1) := dcO tk_X6_change_0 20 rfl
theorem dX6_change_42 : decode cX6_change 42 = .ok (.iconst 0, 1) := dcO tk_X6_change_0 21 rfl
theorem dX6_change_43 : decode cX6_change 43 = .ok (.iconst 4, 1) := dcO tk_X6_change_0 22 rfl
theorem dX6_change_44 : decode cX6_change 44 = .ok (.invokestatic 61, 3) := dcO tk_X6_change_0 23 rfl
theorem dX6_change_47 : decode cX6_change 47 = .ok (.ifCond .eq 13, 3) := dcO tk_X6_change_0 24 rfl
theorem dX6_change_50 : decode cX6_change 50 = .ok (.iload_n 3, 1) := dcO tk_X6_change_0 25 rfl
theorem dX6_change_51 : decode cX6_change 51 = .ok (.iconst 0, 1) := dcO tk_X6_change_0 26 rfl
theorem dX6_change_52 : decode cX6_change 52 = .ok (.iload 4, 2) := dcO tk_X6_change_0 27 rfl
theorem dX6_change_54 : decode cX6_change 54 = .ok (.invokestatic 61, 3) := dcO tk_X6_change_0 28 rfl
theorem dX6_change_57 : decode cX6_change 57 = .ok (.ifCond .ne 9, 3) := dcO tk_X6_change_0 29 rfl
theorem dX6_change_60 : decode cX6_change 60 = .ok (.aload_n 0, 1) := dcO tk_X6_change_0 30 rfl
theorem dX6_change_61 : decode cX6_change 61 = .ok (.iconst 0, 1) := dcO tk_X6_change_0 31 rfl
theorem dX6_change_62 : decode cX6_change 62 = .ok (.invokevirtual 125, 3) := dcO tk_X6_change_0 32 rfl
theorem dX6_change_65 : decode cX6_change 65 = .ok (.ireturn, 1) := dcO tk_X6_change_0 33 rfl
theorem dX6_change_66 : decode cX6_change 66 = .ok (.aload_n 0, 1) := dcO tk_X6_change_0 34 rfl
theorem dX6_change_67 : decode cX6_change 67 = .ok (.iload_n 1, 1) := dcO tk_X6_change_0 35 rfl
theorem dX6_change_68 : decode cX6_change 68 = .ok (.iload_n 2, 1) := dcO tk_X6_change_0 36 rfl
theorem dX6_change_69 : decode cX6_change 69 = .ok (.invokevirtual 76, 3) := dcO tk_X6_change_0 37 rfl
theorem dX6_change_72 : decode cX6_change 72 = .ok (.istore 5, 2) := dcO tk_X6_change_0 38 rfl
theorem dX6_change_74 : decode cX6_change 74 = .ok (.aload_n 0, 1) := dcO tk_X6_change_0 39 rfl
abbrev tb_X6_change_1 : List (Nat × Instr × Nat) := [(75, .iload_n 1, 1), (76, .iload_n 2, 1), (77, .iload_n 3, 1), (78, .invokevirtual 97, 3), (81, .iload 5, 2), (83, .ireturn, 1)]
theorem tk_X6_change_1 : dcA cX6_change tb_X6_change_1 = true := by decide +kernel
theorem dX6_change_75 : decode cX6_change 75 = .ok (.iload_n 1, 1) := dcO tk_X6_change_1 0 rfl
theorem dX6_change_76 : decode cX6_change 76 = .ok (.iload_n 2, 1) := dcO tk_X6_change_1 1 rfl
theorem dX6_change_77 : decode cX6_change 77 = .ok (.iload_n 3, 1) := dcO tk_X6_change_1 2 rfl
theorem dX6_change_78 : decode cX6_change 78 = .ok (.invokevirtual 97, 3) := dcO tk_X6_change_1 3 rfl
theorem dX6_change_81 : decode cX6_change 81 = .ok (.iload 5, 2) := dcO tk_X6_change_1 4 rfl
theorem dX6_change_83 : decode cX6_change 83 = .ok (.ireturn, 1) := dcO tk_X6_change_1 5 rfl
abbrev tb_X6_bans_0 : List (Nat × Instr × Nat) := [(0, .iload_n 1, 1), (1, .invokestatic 134, 3), (4, .ifCond .eq 14, 3), (7, .iload_n 2, 1), (8, .iconst 0, 1), (9, .sipush 255, 3), (12, .invokestatic 61, 3), (15, .ifCond .ne 9, 3), (18, .aload_n 0, 1), (19, .iconst 0, 1), (20, .invokevirtual 125, 3), (23, .ireturn, 1), (24, .aload_n 0, 1), (25, .getfield 9, 3), (28, .bipush 6, 2), (30, .iload_n 1, 1), (31, .iadd, 1), (32, .iaload, 1), (33, .istore_n 3, 1), (34, .aload_n 0, 1), (35, .getfield 9, 3), (38, .bipush 6, 2), (40, .iload_n 1, 1), (41, .iadd, 1), (42, .iload_n 2, 1), (43, .iastore, 1), (44, .iload_n 3, 1), (45, .ireturn, 1)]
theorem tk_X6_bans_0 : dcA cX6_bans tb_X6_bans_0 = true := by decide +kernel
theorem dX6_bans_0 : decode cX6_bans 0 = .ok (.iload_n 1, 1) := dcO tk_X6_bans_0 0 rfl
theorem dX6_bans_1 : decode cX6_bans 1 = .ok (.invokestatic 134, 3) := dcO tk_X6_bans_0 1 rfl
theorem dX6_bans_4 : decode cX6_bans 4 = .ok (.ifCond .eq 14, 3) := dcO tk_X6_bans_0 2 rfl
theorem dX6_bans_7 : decode cX6_bans 7 = .ok (.iload_n 2, 1) := dcO tk_X6_bans_0 3 rfl
theorem dX6_bans_8 : decode cX6_bans 8 = .ok (.iconst 0, 1) := dcO tk_X6_bans_0 4 rfl
theorem dX6_bans_9 : decode cX6_bans 9 = .ok (.sipush 255, 3) := dcO tk_X6_bans_0 5 rfl
theorem dX6_bans_12 : decode cX6_bans 12 = .ok (.invokestatic 61, 3) := dcO tk_X6_bans_0 6 rfl
theorem dX6_bans_15 : decode cX6_bans 15 = .ok (.ifCond .ne 9, 3) := dcO tk_X6_bans_0 7 rfl
theorem dX6_bans_18 : decode cX6_bans 18 = .ok (.aload_n 0, 1) := dcO tk_X6_bans_0 8 rfl
theorem dX6_bans_19 : decode cX6_bans 19 = .ok (.iconst 0, 1) := dcO tk_X6_bans_0 9 rfl
theorem dX6_bans_20 : decode cX6_bans 20 = .ok (.invokevirtual 125, 3) := dcO tk_X6_bans_0 10 rfl
theorem dX6_bans_23 : decode cX6_bans 23 = .ok (.ireturn, 1) := dcO tk_X6_bans_0 11 rfl
theorem dX6_bans_24 : decode cX6_bans 24 = .ok (.aload_n 0, 1) := dcO tk_X6_bans_0 12 rfl
theorem dX6_bans_25 : decode cX6_bans 25 = .ok (.getfield 9, 3) := dcO tk_X6_bans_0 13 rfl
theorem dX6_bans_28 : decode cX6_bans 28 = .ok (.bipush 6, 2) := dcO tk_X6_bans_0 14 rfl
theorem dX6_bans_30 : decode cX6_bans 30 = .ok (.iload_n 1, 1) := dcO tk_X6_bans_0 15 rfl
theorem dX6_bans_31 : decode cX6_bans 31 = .ok (.iadd, 1) := dcO tk_X6_bans_0 16 rfl
theorem dX6_bans_32 : decode cX6_bans 32 = .ok (.iaload, 1) := dcO tk_X6_bans_0 17 rfl
theorem dX6_bans_33 : decode cX6_bans 33 = .ok (.istore_n 3, 1) := dcO tk_X6_bans_0 18 rfl
theorem dX6_bans_34 : decode cX6_bans 34 = .ok (.aload_n 0, 1) := dcO tk_X6_bans_0 19 rfl
theorem dX6_bans_35 : decode cX6_bans 35 = .ok (.getfield 9, 3) := dcO tk_X6_bans_0 20 rfl
theorem dX6_bans_38 : decode cX6_bans 38 = .ok (.bipush 6, 2) := dcO tk_X6_bans_0 21 rfl
theorem dX6_bans_40 : decode cX6_bans 40 = .ok (.iload_n 1, 1) := dcO tk_X6_bans_0 22 rfl
theorem dX6_bans_41 : decode cX6_bans 41 = .ok (.iadd, 1) := dcO tk_X6_bans_0 23 rfl
theorem dX6_bans_42 : decode cX6_bans 42 = .ok (.iload_n 2, 1) := dcO tk_X6_bans_0 24 rfl
theorem dX6_bans_43 : decode cX6_bans 43 = .ok (.iastore, 1) := dcO tk_X6_bans_0 25 rfl
theorem dX6_bans_44 : decode cX6_bans 44 = .ok (.iload_n 3, 1) := dcO tk_X6_bans_0 26 rfl
theorem dX6_bans_45 : decode cX6_bans 45 = .ok (.ireturn, 1) := dcO tk_X6_bans_0 27 rfl
abbrev tb_X6_set_0 : List (Nat × Instr × Nat) := [(0, .iload_n 1, 1), (1, .iconst 0, 1), (2, .iconst 1, 1), (3, .invokestatic 61, 3), (6, .ifCond .eq 22, 3), (9, .iload_n 2, 1), (10, .iconst 0, 1), (11, .iload_n 1, 1), (12, .ifCond .ne 8, 3), (15, .bipush 9, 2), (17, .goto 5, 3), (20, .bipush 20, 2), (22, .invokestatic 61, 3), (25, .ifCond .ne 9, 3), (28, .aload_n 0, 1), (29, .iconst 0, 1), (30, .invokevirtual 125, 3), (33, .ireturn, 1), (34, .aload_n 0, 1), (35, .getfield 9, 3), (38, .iconst 4, 1), (39, .iload_n 1, 1), (40, .iadd, 1), (41, .iaload, 1), (42, .istore_n 3, 1), (43, .aload_n 0, 1), (44, .getfield 9, 3), (47, .iconst 4, 1), (48, .iload_n 1, 1), (49, .iadd, 1), (50, .iload_n 2, 1), (51, .iastore, 1), (52, .iload_n 3, 1), (53, .ireturn, 1)]
theorem tk_X6_set_0 : dcA cX6_set tb_X6_set_0 = true := by decide +kernel
theorem dX6_set_0 : decode cX6_set 0 = .ok (.iload_n 1, 1) := dcO tk_X6_set_0 0 rfl
theorem dX6_set_1 : decode cX6_set 1 = .ok (.iconst 0, 1) := dcO tk_X6_set_0 1 rfl
theorem dX6_set_2 : decode cX6_set 2 = .ok (.iconst 1, 1) := dcO tk_X6_set_0 2 rfl
theorem dX6_set_3 : decode cX6_set 3 = .ok (.invokestatic 61, 3) := dcO tk_X6_set_0 3 rfl
theorem dX6_set_6 : decode cX6_set 6 = .ok (.ifCond .eq 22, 3) := dcO tk_X6_set_0 4 rfl
theorem dX6_set_9 : decode cX6_set 9 = .ok (.iload_n 2, 1) := dcO tk_X6_set_0 5 rfl
theorem dX6_set_10 : decode cX6_set 10 = .ok (.iconst 0, 1) := dcO tk_X6_set_0 6 rfl
theorem dX6_set_11 : decode cX6_set 11 = .ok (.iload_n 1, 1) := dcO tk_X6_set_0 7 rfl
theorem dX6_set_12 : decode cX6_set 12 = .ok (.ifCond .ne 8, 3) := dcO tk_X6_set_0 8 rfl
theorem dX6_set_15 : decode cX6_set 15 = .ok (.bipush 9, 2) := dcO tk_X6_set_0 9 rfl
theorem dX6_set_17 : decode cX6_set 17 = .ok (.goto 5, 3) := dcO tk_X6_set_0 10 rfl
theorem dX6_set_20 : decode cX6_set 20 = .ok (.bipush 20, 2) := dcO tk_X6_set_0 11 rfl
theorem dX6_set_22 : decode cX6_set 22 = .ok (.invokestatic 61, 3) := dcO tk_X6_set_0 12 rfl
theorem dX6_set_25 : decode cX6_set 25 = .ok (.ifCond .ne 9, 3) := dcO tk_X6_set_0 13 rfl
theorem dX6_set_28 : decode cX6_set 28 = .ok (.aload_n 0, 1) := dcO tk_X6_set_0 14 rfl
theorem dX6_set_29 : decode cX6_set 29 = .ok (.iconst 0, 1) := dcO tk_X6_set_0 15 rfl
theorem dX6_set_30 : decode cX6_set 30 = .ok (.invokevirtual 125, 3) := dcO tk_X6_set_0 16 rfl
theorem dX6_set_33 : decode cX6_set 33 = .ok (.ireturn, 1) := dcO tk_X6_set_0 17 rfl
theorem dX6_set_34 : decode cX6_set 34 = .ok (.aload_n 0, 1) := dcO tk_X6_set_0 18 rfl
theorem dX6_set_35 : decode cX6_set 35 = .ok (.getfield 9, 3) := dcO tk_X6_set_0 19 rfl
theorem dX6_set_38 : decode cX6_set 38 = .ok (.iconst 4, 1) := dcO tk_X6_set_0 20 rfl
theorem dX6_set_39 : decode cX6_set 39 = .ok (.iload_n 1, 1) := dcO tk_X6_set_0 21 rfl
theorem dX6_set_40 : decode cX6_set 40 = .ok (.iadd, 1) := dcO tk_X6_set_0 22 rfl
theorem dX6_set_41 : decode cX6_set 41 = .ok (.iaload, 1) := dcO tk_X6_set_0 23 rfl
theorem dX6_set_42 : decode cX6_set 42 = .ok (.istore_n 3, 1) := dcO tk_X6_set_0 24 rfl
theorem dX6_set_43 : decode cX6_set 43 = .ok (.aload_n 0, 1) := dcO tk_X6_set_0 25 rfl
theorem dX6_set_44 : decode cX6_set 44 = .ok (.getfield 9, 3) := dcO tk_X6_set_0 26 rfl
theorem dX6_set_47 : decode cX6_set 47 = .ok (.iconst 4, 1) := dcO tk_X6_set_0 27 rfl
theorem dX6_set_48 : decode cX6_set 48 = .ok (.iload_n 1, 1) := dcO tk_X6_set_0 28 rfl
theorem dX6_set_49 : decode cX6_set 49 = .ok (.iadd, 1) := dcO tk_X6_set_0 29 rfl
theorem dX6_set_50 : decode cX6_set 50 = .ok (.iload_n 2, 1) := dcO tk_X6_set_0 30 rfl
theorem dX6_set_51 : decode cX6_set 51 = .ok (.iastore, 1) := dcO tk_X6_set_0 31 rfl
theorem dX6_set_52 : decode cX6_set 52 = .ok (.iload_n 3, 1) := dcO tk_X6_set_0 32 rfl
theorem dX6_set_53 : decode cX6_set 53 = .ok (.ireturn, 1) := dcO tk_X6_set_0 33 rfl
abbrev tb_X6_go_0 : List (Nat × Instr × Nat) := [(0, .iload_n 1, 1), (1, .iconst 1, 1), (2, .bipush 40, 2), (4, .invokestatic 61, 3), (7, .ifCond .ne 9, 3), (10, .aload_n 0, 1), (11, .iconst 0, 1), (12, .invokevirtual 125, 3), (15, .ireturn, 1), (16, .aload_n 0, 1), (17, .getfield 9, 3), (20, .iconst 0, 1), (21, .iaload, 1), (22, .iload_n 1, 1), (23, .iadd, 1), (24, .ldc 83, 2), (26, .if_icmp .le 9, 3), (29, .aload_n 0, 1), (30, .iconst 4, 1), (31, .invokevirtual 125, 3), (34, .ireturn, 1), (35, .aload_n 0, 1), (36, .iload_n 1, 1), (37, .invokevirtual 137, 3), (40, .aload_n 0, 1), (41, .getfield 9, 3), (44, .iconst 1, 1), (45, .iaload, 1), (46, .ireturn, 1)]
theorem tk_X6_go_0 : dcA cX6_go tb_X6_go_0 = true := by decide +kernel
theorem dX6_go_0 : decode cX6_go 0 = .ok (.iload_n 1, 1) := dcO tk_X6_go_0 0 rfl
theorem dX6_go_1 : decode cX6_go 1 = .ok (.iconst 1, 1) := dcO tk_X6_go_0 1 rfl
theorem dX6_go_2 : decode cX6_go 2 = .ok (.bipush 40, 2) := dcO tk_X6_go_0 2 rfl
theorem dX6_go_4 : decode cX6_go 4 = .ok (.invokestatic 61, 3) := dcO tk_X6_go_0 3 rfl
theorem dX6_go_7 : decode cX6_go 7 = .ok (.ifCond .ne 9, 3) := dcO tk_X6_go_0 4 rfl
theorem dX6_go_10 : decode cX6_go 10 = .ok (.aload_n 0, 1) := dcO tk_X6_go_0 5 rfl
theorem dX6_go_11 : decode cX6_go 11 = .ok (.iconst 0, 1) := dcO tk_X6_go_0 6 rfl
theorem dX6_go_12 : decode cX6_go 12 = .ok (.invokevirtual 125, 3) := dcO tk_X6_go_0 7 rfl
theorem dX6_go_15 : decode cX6_go 15 = .ok (.ireturn, 1) := dcO tk_X6_go_0 8 rfl
theorem dX6_go_16 : decode cX6_go 16 = .ok (.aload_n 0, 1) := dcO tk_X6_go_0 9 rfl
theorem dX6_go_17 : decode cX6_go 17 = .ok (.getfield 9, 3) := dcO tk_X6_go_0 10 rfl
theorem dX6_go_20 : decode cX6_go 20 = .ok (.iconst 0, 1) := dcO tk_X6_go_0 11 rfl
theorem dX6_go_21 : decode cX6_go 21 = .ok (.iaload, 1) := dcO tk_X6_go_0 12 rfl
theorem dX6_go_22 : decode cX6_go 22 = .ok (.iload_n 1, 1) := dcO tk_X6_go_0 13 rfl
theorem dX6_go_23 : decode cX6_go 23 = .ok (.iadd, 1) := dcO tk_X6_go_0 14 rfl
theorem dX6_go_24 : decode cX6_go 24 = .ok (.ldc 83, 2) := dcO tk_X6_go_0 15 rfl
theorem dX6_go_26 : decode cX6_go 26 = .ok (.if_icmp .le 9, 3) := dcO tk_X6_go_0 16 rfl
theorem dX6_go_29 : decode cX6_go 29 = .ok (.aload_n 0, 1) := dcO tk_X6_go_0 17 rfl
theorem dX6_go_30 : decode cX6_go 30 = .ok (.iconst 4, 1) := dcO tk_X6_go_0 18 rfl
theorem dX6_go_31 : decode cX6_go 31 = .ok (.invokevirtual 125, 3) := dcO tk_X6_go_0 19 rfl
theorem dX6_go_34 : decode cX6_go 34 = .ok (.ireturn, 1) := dcO tk_X6_go_0 20 rfl
theorem dX6_go_35 : decode cX6_go 35 = .ok (.aload_n 0, 1) := dcO tk_X6_go_0 21 rfl
theorem dX6_go_36 : decode cX6_go 36 = .ok (.iload_n 1, 1) := dcO tk_X6_go_0 22 rfl
theorem dX6_go_37 : decode cX6_go 37 = .ok (.invokevirtual 137, 3) := dcO tk_X6_go_0 23 rfl
theorem dX6_go_40 : decode cX6_go 40 = .ok (.aload_n 0, 1) := dcO tk_X6_go_0 24 rfl
theorem dX6_go_41 : decode cX6_go 41 = .ok (.getfield 9, 3) := dcO tk_X6_go_0 25 rfl
theorem dX6_go_44 : decode cX6_go 44 = .ok (.iconst 1, 1) := dcO tk_X6_go_0 26 rfl
theorem dX6_go_45 : decode cX6_go 45 = .ok (.iaload, 1) := dcO tk_X6_go_0 27 rfl
theorem dX6_go_46 : decode cX6_go 46 = .ok (.ireturn, 1) := dcO tk_X6_go_0 28 rfl
abbrev tb_X6_underLaw_0 : List (Nat × Instr × Nat) := [(0, .iconst 0, 1), (1, .istore_n 1, 1), (2, .iconst 0, 1), (3, .istore_n 2, 1), (4, .iload_n 2, 1), (5, .bipush 81, 2), (7, .if_icmp .ge 30, 3), (10, .iload_n 1, 1), (11, .aload_n 0, 1), (12, .getfield 9, 3), (15, .sipush 176, 3), (18, .iload_n 2, 1), (19, .iadd, 1), (20, .iaload, 1), (21, .ifCond .lt 7, 3), (24, .iconst 1, 1), (25, .goto 4, 3), (28, .iconst 0, 1), (29, .iadd, 1), (30, .istore_n 1, 1), (31, .iinc 2 1, 3), (34, .goto (-30), 3), (37, .iload_n 1, 1), (38, .ireturn, 1)]
theorem tk_X6_underLaw_0 : dcA cX6_underLaw tb_X6_underLaw_0 = true := by decide +kernel
theorem dX6_underLaw_0 : decode cX6_underLaw 0 = .ok (.iconst 0, 1) := dcO tk_X6_underLaw_0 0 rfl
theorem dX6_underLaw_1 : decode cX6_underLaw 1 = .ok (.istore_n 1, 1) := dcO tk_X6_underLaw_0 1 rfl
theorem dX6_underLaw_2 : decode cX6_underLaw 2 = .ok (.iconst 0, 1) := dcO tk_X6_underLaw_0 2 rfl
theorem dX6_underLaw_3 : decode cX6_underLaw 3 = .ok (.istore_n 2, 1) := dcO tk_X6_underLaw_0 3 rfl
theorem dX6_underLaw_4 : decode cX6_underLaw 4 = .ok (.iload_n 2, 1) := dcO tk_X6_underLaw_0 4 rfl
theorem dX6_underLaw_5 : decode cX6_underLaw 5 = .ok (.bipush 81, 2) := dcO tk_X6_underLaw_0 5 rfl
theorem dX6_underLaw_7 : decode cX6_underLaw 7 = .ok (.if_icmp .ge 30, 3) := dcO tk_X6_underLaw_0 6 rfl
theorem dX6_underLaw_10 : decode cX6_underLaw 10 = .ok (.iload_n 1, 1) := dcO tk_X6_underLaw_0 7 rfl
theorem dX6_underLaw_11 : decode cX6_underLaw 11 = .ok (.aload_n 0, 1) := dcO tk_X6_underLaw_0 8 rfl
theorem dX6_underLaw_12 : decode cX6_underLaw 12 = .ok (.getfield 9, 3) := dcO tk_X6_underLaw_0 9 rfl
theorem dX6_underLaw_15 : decode cX6_underLaw 15 = .ok (.sipush 176, 3) := dcO tk_X6_underLaw_0 10 rfl
theorem dX6_underLaw_18 : decode cX6_underLaw 18 = .ok (.iload_n 2, 1) := dcO tk_X6_underLaw_0 11 rfl
theorem dX6_underLaw_19 : decode cX6_underLaw 19 = .ok (.iadd, 1) := dcO tk_X6_underLaw_0 12 rfl
theorem dX6_underLaw_20 : decode cX6_underLaw 20 = .ok (.iaload, 1) := dcO tk_X6_underLaw_0 13 rfl
theorem dX6_underLaw_21 : decode cX6_underLaw 21 = .ok (.ifCond .lt 7, 3) := dcO tk_X6_underLaw_0 14 rfl
theorem dX6_underLaw_24 : decode cX6_underLaw 24 = .ok (.iconst 1, 1) := dcO tk_X6_underLaw_0 15 rfl
theorem dX6_underLaw_25 : decode cX6_underLaw 25 = .ok (.goto 4, 3) := dcO tk_X6_underLaw_0 16 rfl
theorem dX6_underLaw_28 : decode cX6_underLaw 28 = .ok (.iconst 0, 1) := dcO tk_X6_underLaw_0 17 rfl
theorem dX6_underLaw_29 : decode cX6_underLaw 29 = .ok (.iadd, 1) := dcO tk_X6_underLaw_0 18 rfl
theorem dX6_underLaw_30 : decode cX6_underLaw 30 = .ok (.istore_n 1, 1) := dcO tk_X6_underLaw_0 19 rfl
theorem dX6_underLaw_31 : decode cX6_underLaw 31 = .ok (.iinc 2 1, 3) := dcO tk_X6_underLaw_0 20 rfl
theorem dX6_underLaw_34 : decode cX6_underLaw 34 = .ok (.goto (-30), 3) := dcO tk_X6_underLaw_0 21 rfl
theorem dX6_underLaw_37 : decode cX6_underLaw 37 = .ok (.iload_n 1, 1) := dcO tk_X6_underLaw_0 22 rfl
theorem dX6_underLaw_38 : decode cX6_underLaw 38 = .ok (.ireturn, 1) := dcO tk_X6_underLaw_0 23 rfl
abbrev tb_X6_isThere_0 : List (Nat × Instr × Nat) := [(0, .aload_n 0, 1), (1, .iload_n 1, 1), (2, .iconst 1, 1), (3, .invokevirtual 76, 3), (6, .aload_n 0, 1), (7, .iload_n 1, 1), (8, .iconst 3, 1), (9, .invokevirtual 76, 3), (12, .if_icmp .ne 7, 3), (15, .iconst 1, 1), (16, .goto 4, 3), (19, .iconst 0, 1), (20, .ireturn, 1)]
theorem tk_X6_isThere_0 : dcA cX6_isThere tb_X6_isThere_0 = true := by decide +kernel
theorem dX6_isThere_0 : decode cX6_isThere 0 = .ok (.aload_n 0, 1) := dcO tk_X6_isThere_0 0 rfl
theorem dX6_isThere_1 : decode cX6_isThere 1 = .ok (.iload_n 1, 1) := dcO tk_X6_isThere_0 1 rfl
theorem dX6_isThere_2 : decode cX6_isThere 2 = .ok (.iconst 1, 1) := dcO tk_X6_isThere_0 2 rfl
theorem dX6_isThere_3 : decode cX6_isThere 3 = .ok (.invokevirtual 76, 3) := dcO tk_X6_isThere_0 3 rfl
theorem dX6_isThere_6 : decode cX6_isThere 6 = .ok (.aload_n 0, 1) := dcO tk_X6_isThere_0 4 rfl
theorem dX6_isThere_7 : decode cX6_isThere 7 = .ok (.iload_n 1, 1) := dcO tk_X6_isThere_0 5 rfl
theorem dX6_isThere_8 : decode cX6_isThere 8 = .ok (.iconst 3, 1) := dcO tk_X6_isThere_0 6 rfl
theorem dX6_isThere_9 : decode cX6_isThere 9 = .ok (.invokevirtual 76, 3) := dcO tk_X6_isThere_0 7 rfl
theorem dX6_isThere_12 : decode cX6_isThere 12 = .ok (.if_icmp .ne 7, 3) := dcO tk_X6_isThere_0 8 rfl
theorem dX6_isThere_15 : decode cX6_isThere 15 = .ok (.iconst 1, 1) := dcO tk_X6_isThere_0 9 rfl
theorem dX6_isThere_16 : decode cX6_isThere 16 = .ok (.goto 4, 3) := dcO tk_X6_isThere_0 10 rfl
theorem dX6_isThere_19 : decode cX6_isThere 19 = .ok (.iconst 0, 1) := dcO tk_X6_isThere_0 11 rfl
theorem dX6_isThere_20 : decode cX6_isThere 20 = .ok (.ireturn, 1) := dcO tk_X6_isThere_0 12 rfl
abbrev tb_X6_now_0 : List (Nat × Instr × Nat) := [(0, .iconst 0, 1), (1, .istore_n 2, 1), (2, .iload_n 1, 1), (3, .tableswitch 129 0 5 #[37, 44, 51, 56, 84, 91], 37), (40, .aload_n 0, 1), (41, .getfield 9, 3), (44, .iconst 0, 1), (45, .iaload, 1), (46, .ireturn, 1), (47, .aload_n 0, 1), (48, .getfield 9, 3), (51, .iconst 1, 1), (52, .iaload, 1), (53, .ireturn, 1), (54, .aload_n 0, 1), (55, .invokevirtual 140, 3), (58, .ireturn, 1), (59, .iconst 0, 1), (60, .istore_n 3, 1), (61, .iload_n 3, 1), (62, .bipush 81, 2), (64, .if_icmp .ge 21, 3), (67, .iload_n 2, 1), (68, .aload_n 0, 1), (69, .getfield 9, 3), (72, .bipush 95, 2), (74, .iload_n 3, 1), (75, .iadd, 1), (76, .iaload, 1), (77, .iadd, 1), (78, .istore_n 2, 1), (79, .iinc 3 1, 3), (82, .goto (-21), 3), (85, .iload_n 2, 1), (86, .ireturn, 1), (87, .aload_n 0, 1), (88, .getfield 9, 3), (91, .iconst 4, 1), (92, .iaload, 1), (93, .ireturn, 1)]
theorem tk_X6_now_0 : dcA cX6_now tb_X6_now_0 = true := by decide +kernel
theorem dX6_now_0 : decode cX6_now 0 = .ok (.iconst 0, 1) := dcO tk_X6_now_0 0 rfl
theorem dX6_now_1 : decode cX6_now 1 = .ok (.istore_n 2, 1) := dcO tk_X6_now_0 1 rfl
theorem dX6_now_2 : decode cX6_now 2 = .ok (.iload_n 1, 1) := dcO tk_X6_now_0 2 rfl
theorem dX6_now_3 : decode cX6_now 3 = .ok (.tableswitch 129 0 5 #[37, 44, 51, 56, 84, 91], 37) := dcO tk_X6_now_0 3 rfl
theorem dX6_now_40 : decode cX6_now 40 = .ok (.aload_n 0, 1) := dcO tk_X6_now_0 4 rfl
theorem dX6_now_41 : decode cX6_now 41 = .ok (.getfield 9, 3) := dcO tk_X6_now_0 5 rfl
theorem dX6_now_44 : decode cX6_now 44 = .ok (.iconst 0, 1) := dcO tk_X6_now_0 6 rfl
theorem dX6_now_45 : decode cX6_now 45 = .ok (.iaload, 1) := dcO tk_X6_now_0 7 rfl
theorem dX6_now_46 : decode cX6_now 46 = .ok (.ireturn, 1) := dcO tk_X6_now_0 8 rfl
theorem dX6_now_47 : decode cX6_now 47 = .ok (.aload_n 0, 1) := dcO tk_X6_now_0 9 rfl
theorem dX6_now_48 : decode cX6_now 48 = .ok (.getfield 9, 3) := dcO tk_X6_now_0 10 rfl
theorem dX6_now_51 : decode cX6_now 51 = .ok (.iconst 1, 1) := dcO tk_X6_now_0 11 rfl
theorem dX6_now_52 : decode cX6_now 52 = .ok (.iaload, 1) := dcO tk_X6_now_0 12 rfl
theorem dX6_now_53 : decode cX6_now 53 = .ok (.ireturn, 1) := dcO tk_X6_now_0 13 rfl
theorem dX6_now_54 : decode cX6_now 54 = .ok (.aload_n 0, 1) := dcO tk_X6_now_0 14 rfl
theorem dX6_now_55 : decode cX6_now 55 = .ok (.invokevirtual 140, 3) := dcO tk_X6_now_0 15 rfl
theorem dX6_now_58 : decode cX6_now 58 = .ok (.ireturn, 1) := dcO tk_X6_now_0 16 rfl
theorem dX6_now_59 : decode cX6_now 59 = .ok (.iconst 0, 1) := dcO tk_X6_now_0 17 rfl
theorem dX6_now_60 : decode cX6_now 60 = .ok (.istore_n 3, 1) := dcO tk_X6_now_0 18 rfl
theorem dX6_now_61 : decode cX6_now 61 = .ok (.iload_n 3, 1) := dcO tk_X6_now_0 19 rfl
theorem dX6_now_62 : decode cX6_now 62 = .ok (.bipush 81, 2) := dcO tk_X6_now_0 20 rfl
theorem dX6_now_64 : decode cX6_now 64 = .ok (.if_icmp .ge 21, 3) := dcO tk_X6_now_0 21 rfl
theorem dX6_now_67 : decode cX6_now 67 = .ok (.iload_n 2, 1) := dcO tk_X6_now_0 22 rfl
theorem dX6_now_68 : decode cX6_now 68 = .ok (.aload_n 0, 1) := dcO tk_X6_now_0 23 rfl
theorem dX6_now_69 : decode cX6_now 69 = .ok (.getfield 9, 3) := dcO tk_X6_now_0 24 rfl
theorem dX6_now_72 : decode cX6_now 72 = .ok (.bipush 95, 2) := dcO tk_X6_now_0 25 rfl
theorem dX6_now_74 : decode cX6_now 74 = .ok (.iload_n 3, 1) := dcO tk_X6_now_0 26 rfl
theorem dX6_now_75 : decode cX6_now 75 = .ok (.iadd, 1) := dcO tk_X6_now_0 27 rfl
theorem dX6_now_76 : decode cX6_now 76 = .ok (.iaload, 1) := dcO tk_X6_now_0 28 rfl
theorem dX6_now_77 : decode cX6_now 77 = .ok (.iadd, 1) := dcO tk_X6_now_0 29 rfl
theorem dX6_now_78 : decode cX6_now 78 = .ok (.istore_n 2, 1) := dcO tk_X6_now_0 30 rfl
theorem dX6_now_79 : decode cX6_now 79 = .ok (.iinc 3 1, 3) := dcO tk_X6_now_0 31 rfl
theorem dX6_now_82 : decode cX6_now 82 = .ok (.goto (-21), 3) := dcO tk_X6_now_0 32 rfl
theorem dX6_now_85 : decode cX6_now 85 = .ok (.iload_n 2, 1) := dcO tk_X6_now_0 33 rfl
theorem dX6_now_86 : decode cX6_now 86 = .ok (.ireturn, 1) := dcO tk_X6_now_0 34 rfl
theorem dX6_now_87 : decode cX6_now 87 = .ok (.aload_n 0, 1) := dcO tk_X6_now_0 35 rfl
theorem dX6_now_88 : decode cX6_now 88 = .ok (.getfield 9, 3) := dcO tk_X6_now_0 36 rfl
theorem dX6_now_91 : decode cX6_now 91 = .ok (.iconst 4, 1) := dcO tk_X6_now_0 37 rfl
theorem dX6_now_92 : decode cX6_now 92 = .ok (.iaload, 1) := dcO tk_X6_now_0 38 rfl
theorem dX6_now_93 : decode cX6_now 93 = .ok (.ireturn, 1) := dcO tk_X6_now_0 39 rfl
abbrev tb_X6_now_1 : List (Nat × Instr × Nat) := [(94, .iconst 0, 1), (95, .istore_n 3, 1), (96, .iload_n 3, 1), (97, .aload_n 0, 1), (98, .getfield 9, 3), (101, .iconst 2, 1), (102, .iaload, 1), (103, .if_icmp .ge 27, 3), (106, .iload_n 2, 1), (107, .aload_n 0, 1), (108, .iload_n 3, 1), (109, .invokevirtual 143, 3), (112, .ifCond .eq 9, 3), (115, .iconst 1, 1), (116, .iload_n 3, 1), (117, .ishl, 1), (118, .goto 4, 3), (121, .iconst 0, 1), (122, .ior, 1), (123, .istore_n 2, 1), (124, .iinc 3 1, 3), (127, .goto (-31), 3), (130, .iload_n 2, 1), (131, .ireturn, 1), (132, .aload_n 0, 1), (133, .iconst 0, 1), (134, .invokevirtual 125, 3), (137, .ireturn, 1)]
theorem tk_X6_now_1 : dcA cX6_now tb_X6_now_1 = true := by decide +kernel
theorem dX6_now_94 : decode cX6_now 94 = .ok (.iconst 0, 1) := dcO tk_X6_now_1 0 rfl
theorem dX6_now_95 : decode cX6_now 95 = .ok (.istore_n 3, 1) := dcO tk_X6_now_1 1 rfl
theorem dX6_now_96 : decode cX6_now 96 = .ok (.iload_n 3, 1) := dcO tk_X6_now_1 2 rfl
theorem dX6_now_97 : decode cX6_now 97 = .ok (.aload_n 0, 1) := dcO tk_X6_now_1 3 rfl
theorem dX6_now_98 : decode cX6_now 98 = .ok (.getfield 9, 3) := dcO tk_X6_now_1 4 rfl
theorem dX6_now_101 : decode cX6_now 101 = .ok (.iconst 2, 1) := dcO tk_X6_now_1 5 rfl
theorem dX6_now_102 : decode cX6_now 102 = .ok (.iaload, 1) := dcO tk_X6_now_1 6 rfl
theorem dX6_now_103 : decode cX6_now 103 = .ok (.if_icmp .ge 27, 3) := dcO tk_X6_now_1 7 rfl
theorem dX6_now_106 : decode cX6_now 106 = .ok (.iload_n 2, 1) := dcO tk_X6_now_1 8 rfl
theorem dX6_now_107 : decode cX6_now 107 = .ok (.aload_n 0, 1) := dcO tk_X6_now_1 9 rfl
theorem dX6_now_108 : decode cX6_now 108 = .ok (.iload_n 3, 1) := dcO tk_X6_now_1 10 rfl
theorem dX6_now_109 : decode cX6_now 109 = .ok (.invokevirtual 143, 3) := dcO tk_X6_now_1 11 rfl
theorem dX6_now_112 : decode cX6_now 112 = .ok (.ifCond .eq 9, 3) := dcO tk_X6_now_1 12 rfl
theorem dX6_now_115 : decode cX6_now 115 = .ok (.iconst 1, 1) := dcO tk_X6_now_1 13 rfl
theorem dX6_now_116 : decode cX6_now 116 = .ok (.iload_n 3, 1) := dcO tk_X6_now_1 14 rfl
theorem dX6_now_117 : decode cX6_now 117 = .ok (.ishl, 1) := dcO tk_X6_now_1 15 rfl
theorem dX6_now_118 : decode cX6_now 118 = .ok (.goto 4, 3) := dcO tk_X6_now_1 16 rfl
theorem dX6_now_121 : decode cX6_now 121 = .ok (.iconst 0, 1) := dcO tk_X6_now_1 17 rfl
theorem dX6_now_122 : decode cX6_now 122 = .ok (.ior, 1) := dcO tk_X6_now_1 18 rfl
theorem dX6_now_123 : decode cX6_now 123 = .ok (.istore_n 2, 1) := dcO tk_X6_now_1 19 rfl
theorem dX6_now_124 : decode cX6_now 124 = .ok (.iinc 3 1, 3) := dcO tk_X6_now_1 20 rfl
theorem dX6_now_127 : decode cX6_now 127 = .ok (.goto (-31), 3) := dcO tk_X6_now_1 21 rfl
theorem dX6_now_130 : decode cX6_now 130 = .ok (.iload_n 2, 1) := dcO tk_X6_now_1 22 rfl
theorem dX6_now_131 : decode cX6_now 131 = .ok (.ireturn, 1) := dcO tk_X6_now_1 23 rfl
theorem dX6_now_132 : decode cX6_now 132 = .ok (.aload_n 0, 1) := dcO tk_X6_now_1 24 rfl
theorem dX6_now_133 : decode cX6_now 133 = .ok (.iconst 0, 1) := dcO tk_X6_now_1 25 rfl
theorem dX6_now_134 : decode cX6_now 134 = .ok (.invokevirtual 125, 3) := dcO tk_X6_now_1 26 rfl
theorem dX6_now_137 : decode cX6_now 137 = .ok (.ireturn, 1) := dcO tk_X6_now_1 27 rfl
abbrev tb_X6_realm_0 : List (Nat × Instr × Nat) := [(0, .iload_n 1, 1), (1, .invokestatic 134, 3), (4, .ifCond .ne 9, 3), (7, .aload_n 0, 1), (8, .iconst 0, 1), (9, .invokevirtual 125, 3), (12, .ireturn, 1), (13, .iconst 0, 1), (14, .istore_n 2, 1), (15, .iconst 0, 1), (16, .istore_n 3, 1), (17, .iload_n 3, 1), (18, .bipush 81, 2), (20, .if_icmp .ge 31, 3), (23, .iload_n 2, 1), (24, .aload_n 0, 1), (25, .getfield 9, 3), (28, .sipush 176, 3), (31, .iload_n 3, 1), (32, .iadd, 1), (33, .iaload, 1), (34, .iload_n 1, 1), (35, .if_icmp .ne 7, 3), (38, .iconst 1, 1), (39, .goto 4, 3), (42, .iconst 0, 1), (43, .iadd, 1), (44, .istore_n 2, 1), (45, .iinc 3 1, 3), (48, .goto (-31), 3), (51, .iload_n 2, 1), (52, .ireturn, 1)]
theorem tk_X6_realm_0 : dcA cX6_realm tb_X6_realm_0 = true := by decide +kernel
theorem dX6_realm_0 : decode cX6_realm 0 = .ok (.iload_n 1, 1) := dcO tk_X6_realm_0 0 rfl
theorem dX6_realm_1 : decode cX6_realm 1 = .ok (.invokestatic 134, 3) := dcO tk_X6_realm_0 1 rfl
theorem dX6_realm_4 : decode cX6_realm 4 = .ok (.ifCond .ne 9, 3) := dcO tk_X6_realm_0 2 rfl
theorem dX6_realm_7 : decode cX6_realm 7 = .ok (.aload_n 0, 1) := dcO tk_X6_realm_0 3 rfl
theorem dX6_realm_8 : decode cX6_realm 8 = .ok (.iconst 0, 1) := dcO tk_X6_realm_0 4 rfl
theorem dX6_realm_9 : decode cX6_realm 9 = .ok (.invokevirtual 125, 3) := dcO tk_X6_realm_0 5 rfl
theorem dX6_realm_12 : decode cX6_realm 12 = .ok (.ireturn, 1) := dcO tk_X6_realm_0 6 rfl
theorem dX6_realm_13 : decode cX6_realm 13 = .ok (.iconst 0, 1) := dcO tk_X6_realm_0 7 rfl
theorem dX6_realm_14 : decode cX6_realm 14 = .ok (.istore_n 2, 1) := dcO tk_X6_realm_0 8 rfl
theorem dX6_realm_15 : decode cX6_realm 15 = .ok (.iconst 0, 1) := dcO tk_X6_realm_0 9 rfl
theorem dX6_realm_16 : decode cX6_realm 16 = .ok (.istore_n 3, 1) := dcO tk_X6_realm_0 10 rfl
theorem dX6_realm_17 : decode cX6_realm 17 = .ok (.iload_n 3, 1) := dcO tk_X6_realm_0 11 rfl
theorem dX6_realm_18 : decode cX6_realm 18 = .ok (.bipush 81, 2) := dcO tk_X6_realm_0 12 rfl
theorem dX6_realm_20 : decode cX6_realm 20 = .ok (.if_icmp .ge 31, 3) := dcO tk_X6_realm_0 13 rfl
theorem dX6_realm_23 : decode cX6_realm 23 = .ok (.iload_n 2, 1) := dcO tk_X6_realm_0 14 rfl
theorem dX6_realm_24 : decode cX6_realm 24 = .ok (.aload_n 0, 1) := dcO tk_X6_realm_0 15 rfl
theorem dX6_realm_25 : decode cX6_realm 25 = .ok (.getfield 9, 3) := dcO tk_X6_realm_0 16 rfl
theorem dX6_realm_28 : decode cX6_realm 28 = .ok (.sipush 176, 3) := dcO tk_X6_realm_0 17 rfl
theorem dX6_realm_31 : decode cX6_realm 31 = .ok (.iload_n 3, 1) := dcO tk_X6_realm_0 18 rfl
theorem dX6_realm_32 : decode cX6_realm 32 = .ok (.iadd, 1) := dcO tk_X6_realm_0 19 rfl
theorem dX6_realm_33 : decode cX6_realm 33 = .ok (.iaload, 1) := dcO tk_X6_realm_0 20 rfl
theorem dX6_realm_34 : decode cX6_realm 34 = .ok (.iload_n 1, 1) := dcO tk_X6_realm_0 21 rfl
theorem dX6_realm_35 : decode cX6_realm 35 = .ok (.if_icmp .ne 7, 3) := dcO tk_X6_realm_0 22 rfl
theorem dX6_realm_38 : decode cX6_realm 38 = .ok (.iconst 1, 1) := dcO tk_X6_realm_0 23 rfl
theorem dX6_realm_39 : decode cX6_realm 39 = .ok (.goto 4, 3) := dcO tk_X6_realm_0 24 rfl
theorem dX6_realm_42 : decode cX6_realm 42 = .ok (.iconst 0, 1) := dcO tk_X6_realm_0 25 rfl
theorem dX6_realm_43 : decode cX6_realm 43 = .ok (.iadd, 1) := dcO tk_X6_realm_0 26 rfl
theorem dX6_realm_44 : decode cX6_realm 44 = .ok (.istore_n 2, 1) := dcO tk_X6_realm_0 27 rfl
theorem dX6_realm_45 : decode cX6_realm 45 = .ok (.iinc 3 1, 3) := dcO tk_X6_realm_0 28 rfl
theorem dX6_realm_48 : decode cX6_realm 48 = .ok (.goto (-31), 3) := dcO tk_X6_realm_0 29 rfl
theorem dX6_realm_51 : decode cX6_realm 51 = .ok (.iload_n 2, 1) := dcO tk_X6_realm_0 30 rfl
theorem dX6_realm_52 : decode cX6_realm 52 = .ok (.ireturn, 1) := dcO tk_X6_realm_0 31 rfl
abbrev tb_X6_repeals_0 : List (Nat × Instr × Nat) := [(0, .aload_n 0, 1), (1, .invokevirtual 140, 3), (4, .istore_n 1, 1), (5, .iconst 0, 1), (6, .istore_n 2, 1), (7, .iload_n 2, 1), (8, .bipush 81, 2), (10, .if_icmp .ge 20, 3), (13, .aload_n 0, 1), (14, .getfield 9, 3), (17, .sipush 176, 3), (20, .iload_n 2, 1), (21, .iadd, 1), (22, .iconst (-1), 1), (23, .iastore, 1), (24, .iinc 2 1, 3), (27, .goto (-20), 3), (30, .iload_n 1, 1), (31, .ireturn, 1)]
theorem tk_X6_repeals_0 : dcA cX6_repeals tb_X6_repeals_0 = true := by decide +kernel
theorem dX6_repeals_0 : decode cX6_repeals 0 = .ok (.aload_n 0, 1) := dcO tk_X6_repeals_0 0 rfl
theorem dX6_repeals_1 : decode cX6_repeals 1 = .ok (.invokevirtual 140, 3) := dcO tk_X6_repeals_0 1 rfl
theorem dX6_repeals_4 : decode cX6_repeals 4 = .ok (.istore_n 1, 1) := dcO tk_X6_repeals_0 2 rfl
theorem dX6_repeals_5 : decode cX6_repeals 5 = .ok (.iconst 0, 1) := dcO tk_X6_repeals_0 3 rfl
theorem dX6_repeals_6 : decode cX6_repeals 6 = .ok (.istore_n 2, 1) := dcO tk_X6_repeals_0 4 rfl
theorem dX6_repeals_7 : decode cX6_repeals 7 = .ok (.iload_n 2, 1) := dcO tk_X6_repeals_0 5 rfl
theorem dX6_repeals_8 : decode cX6_repeals 8 = .ok (.bipush 81, 2) := dcO tk_X6_repeals_0 6 rfl
theorem dX6_repeals_10 : decode cX6_repeals 10 = .ok (.if_icmp .ge 20, 3) := dcO tk_X6_repeals_0 7 rfl
theorem dX6_repeals_13 : decode cX6_repeals 13 = .ok (.aload_n 0, 1) := dcO tk_X6_repeals_0 8 rfl
theorem dX6_repeals_14 : decode cX6_repeals 14 = .ok (.getfield 9, 3) := dcO tk_X6_repeals_0 9 rfl
theorem dX6_repeals_17 : decode cX6_repeals 17 = .ok (.sipush 176, 3) := dcO tk_X6_repeals_0 10 rfl
theorem dX6_repeals_20 : decode cX6_repeals 20 = .ok (.iload_n 2, 1) := dcO tk_X6_repeals_0 11 rfl
theorem dX6_repeals_21 : decode cX6_repeals 21 = .ok (.iadd, 1) := dcO tk_X6_repeals_0 12 rfl
theorem dX6_repeals_22 : decode cX6_repeals 22 = .ok (.iconst (-1), 1) := dcO tk_X6_repeals_0 13 rfl
theorem dX6_repeals_23 : decode cX6_repeals 23 = .ok (.iastore, 1) := dcO tk_X6_repeals_0 14 rfl
theorem dX6_repeals_24 : decode cX6_repeals 24 = .ok (.iinc 2 1, 3) := dcO tk_X6_repeals_0 15 rfl
theorem dX6_repeals_27 : decode cX6_repeals 27 = .ok (.goto (-20), 3) := dcO tk_X6_repeals_0 16 rfl
theorem dX6_repeals_30 : decode cX6_repeals 30 = .ok (.iload_n 1, 1) := dcO tk_X6_repeals_0 17 rfl
theorem dX6_repeals_31 : decode cX6_repeals 31 = .ok (.ireturn, 1) := dcO tk_X6_repeals_0 18 rfl
abbrev tb_X6_isLawful_0 : List (Nat × Instr × Nat) := [(0, .aload_n 0, 1), (1, .getfield 9, 3), (4, .sipush 176, 3), (7, .iload_n 1, 1), (8, .iadd, 1), (9, .iaload, 1), (10, .ifCond .lt 28, 3), (13, .aload_n 0, 1), (14, .getfield 9, 3), (17, .bipush 6, 2), (19, .aload_n 0, 1), (20, .getfield 9, 3), (23, .sipush 176, 3), (26, .iload_n 1, 1), (27, .iadd, 1), (28, .iaload, 1), (29, .iadd, 1), (30, .iaload, 1), (31, .iload_n 2, 1), (32, .invokestatic 104, 3), (35, .ifCond .ne 7, 3), (38, .iconst 1, 1), (39, .goto 4, 3), (42, .iconst 0, 1), (43, .ireturn, 1)]
theorem tk_X6_isLawful_0 : dcA cX6_isLawful tb_X6_isLawful_0 = true := by decide +kernel
theorem dX6_isLawful_0 : decode cX6_isLawful 0 = .ok (.aload_n 0, 1) := dcO tk_X6_isLawful_0 0 rfl
theorem dX6_isLawful_1 : decode cX6_isLawful 1 = .ok (.getfield 9, 3) := dcO tk_X6_isLawful_0 1 rfl
theorem dX6_isLawful_4 : decode cX6_isLawful 4 = .ok (.sipush 176, 3) := dcO tk_X6_isLawful_0 2 rfl
theorem dX6_isLawful_7 : decode cX6_isLawful 7 = .ok (.iload_n 1, 1) := dcO tk_X6_isLawful_0 3 rfl
theorem dX6_isLawful_8 : decode cX6_isLawful 8 = .ok (.iadd, 1) := dcO tk_X6_isLawful_0 4 rfl
theorem dX6_isLawful_9 : decode cX6_isLawful 9 = .ok (.iaload, 1) := dcO tk_X6_isLawful_0 5 rfl
theorem dX6_isLawful_10 : decode cX6_isLawful 10 = .ok (.ifCond .lt 28, 3) := dcO tk_X6_isLawful_0 6 rfl
theorem dX6_isLawful_13 : decode cX6_isLawful 13 = .ok (.aload_n 0, 1) := dcO tk_X6_isLawful_0 7 rfl
theorem dX6_isLawful_14 : decode cX6_isLawful 14 = .ok (.getfield 9, 3) := dcO tk_X6_isLawful_0 8 rfl
theorem dX6_isLawful_17 : decode cX6_isLawful 17 = .ok (.bipush 6, 2) := dcO tk_X6_isLawful_0 9 rfl
theorem dX6_isLawful_19 : decode cX6_isLawful 19 = .ok (.aload_n 0, 1) := dcO tk_X6_isLawful_0 10 rfl
theorem dX6_isLawful_20 : decode cX6_isLawful 20 = .ok (.getfield 9, 3) := dcO tk_X6_isLawful_0 11 rfl
theorem dX6_isLawful_23 : decode cX6_isLawful 23 = .ok (.sipush 176, 3) := dcO tk_X6_isLawful_0 12 rfl
theorem dX6_isLawful_26 : decode cX6_isLawful 26 = .ok (.iload_n 1, 1) := dcO tk_X6_isLawful_0 13 rfl
theorem dX6_isLawful_27 : decode cX6_isLawful 27 = .ok (.iadd, 1) := dcO tk_X6_isLawful_0 14 rfl
theorem dX6_isLawful_28 : decode cX6_isLawful 28 = .ok (.iaload, 1) := dcO tk_X6_isLawful_0 15 rfl
theorem dX6_isLawful_29 : decode cX6_isLawful 29 = .ok (.iadd, 1) := dcO tk_X6_isLawful_0 16 rfl
theorem dX6_isLawful_30 : decode cX6_isLawful 30 = .ok (.iaload, 1) := dcO tk_X6_isLawful_0 17 rfl
theorem dX6_isLawful_31 : decode cX6_isLawful 31 = .ok (.iload_n 2, 1) := dcO tk_X6_isLawful_0 18 rfl
theorem dX6_isLawful_32 : decode cX6_isLawful 32 = .ok (.invokestatic 104, 3) := dcO tk_X6_isLawful_0 19 rfl
theorem dX6_isLawful_35 : decode cX6_isLawful 35 = .ok (.ifCond .ne 7, 3) := dcO tk_X6_isLawful_0 20 rfl
theorem dX6_isLawful_38 : decode cX6_isLawful 38 = .ok (.iconst 1, 1) := dcO tk_X6_isLawful_0 21 rfl
theorem dX6_isLawful_39 : decode cX6_isLawful 39 = .ok (.goto 4, 3) := dcO tk_X6_isLawful_0 22 rfl
theorem dX6_isLawful_42 : decode cX6_isLawful 42 = .ok (.iconst 0, 1) := dcO tk_X6_isLawful_0 23 rfl
theorem dX6_isLawful_43 : decode cX6_isLawful 43 = .ok (.ireturn, 1) := dcO tk_X6_isLawful_0 24 rfl
abbrev tb_X6_may_0 : List (Nat × Instr × Nat) := [(0, .iload_n 1, 1), (1, .invokestatic 122, 3), (4, .ifCond .eq 27, 3), (7, .iload_n 2, 1), (8, .invokestatic 146, 3), (11, .ifCond .eq 20, 3), (14, .aload_n 0, 1), (15, .iload_n 1, 1), (16, .iload_n 2, 1), (17, .invokevirtual 149, 3), (20, .ifCond .eq 7, 3), (23, .iconst 1, 1), (24, .goto 12, 3), (27, .iconst 0, 1), (28, .goto 8, 3), (31, .aload_n 0, 1), (32, .iconst 0, 1), (33, .invokevirtual 125, 3), (36, .ireturn, 1)]
theorem tk_X6_may_0 : dcA cX6_may tb_X6_may_0 = true := by decide +kernel
theorem dX6_may_0 : decode cX6_may 0 = .ok (.iload_n 1, 1) := dcO tk_X6_may_0 0 rfl
theorem dX6_may_1 : decode cX6_may 1 = .ok (.invokestatic 122, 3) := dcO tk_X6_may_0 1 rfl
theorem dX6_may_4 : decode cX6_may 4 = .ok (.ifCond .eq 27, 3) := dcO tk_X6_may_0 2 rfl
theorem dX6_may_7 : decode cX6_may 7 = .ok (.iload_n 2, 1) := dcO tk_X6_may_0 3 rfl
theorem dX6_may_8 : decode cX6_may 8 = .ok (.invokestatic 146, 3) := dcO tk_X6_may_0 4 rfl
theorem dX6_may_11 : decode cX6_may 11 = .ok (.ifCond .eq 20, 3) := dcO tk_X6_may_0 5 rfl
theorem dX6_may_14 : decode cX6_may 14 = .ok (.aload_n 0, 1) := dcO tk_X6_may_0 6 rfl
theorem dX6_may_15 : decode cX6_may 15 = .ok (.iload_n 1, 1) := dcO tk_X6_may_0 7 rfl
theorem dX6_may_16 : decode cX6_may 16 = .ok (.iload_n 2, 1) := dcO tk_X6_may_0 8 rfl
theorem dX6_may_17 : decode cX6_may 17 = .ok (.invokevirtual 149, 3) := dcO tk_X6_may_0 9 rfl
theorem dX6_may_20 : decode cX6_may 20 = .ok (.ifCond .eq 7, 3) := dcO tk_X6_may_0 10 rfl
theorem dX6_may_23 : decode cX6_may 23 = .ok (.iconst 1, 1) := dcO tk_X6_may_0 11 rfl
theorem dX6_may_24 : decode cX6_may 24 = .ok (.goto 12, 3) := dcO tk_X6_may_0 12 rfl
theorem dX6_may_27 : decode cX6_may 27 = .ok (.iconst 0, 1) := dcO tk_X6_may_0 13 rfl
theorem dX6_may_28 : decode cX6_may 28 = .ok (.goto 8, 3) := dcO tk_X6_may_0 14 rfl
theorem dX6_may_31 : decode cX6_may 31 = .ok (.aload_n 0, 1) := dcO tk_X6_may_0 15 rfl
theorem dX6_may_32 : decode cX6_may 32 = .ok (.iconst 0, 1) := dcO tk_X6_may_0 16 rfl
theorem dX6_may_33 : decode cX6_may 33 = .ok (.invokevirtual 125, 3) := dcO tk_X6_may_0 17 rfl
theorem dX6_may_36 : decode cX6_may 36 = .ok (.ireturn, 1) := dcO tk_X6_may_0 18 rfl
abbrev tb_X6_lawfulCells_0 : List (Nat × Instr × Nat) := [(0, .iconst 0, 1), (1, .istore_n 2, 1), (2, .iconst 0, 1), (3, .istore_n 3, 1), (4, .iload_n 3, 1), (5, .bipush 81, 2), (7, .if_icmp .ge 34, 3), (10, .iload_n 2, 1), (11, .aload_n 0, 1), (12, .iload_n 3, 1), (13, .invokevirtual 69, 3), (16, .ifCond .ne 16, 3), (19, .aload_n 0, 1), (20, .iload_n 3, 1), (21, .iload_n 1, 1), (22, .invokevirtual 149, 3), (25, .ifCond .eq 7, 3), (28, .iconst 1, 1), (29, .goto 4, 3), (32, .iconst 0, 1), (33, .iadd, 1), (34, .istore_n 2, 1), (35, .iinc 3 1, 3), (38, .goto (-34), 3), (41, .iload_n 2, 1), (42, .ireturn, 1)]
theorem tk_X6_lawfulCells_0 : dcA cX6_lawfulCells tb_X6_lawfulCells_0 = true := by decide +kernel
theorem dX6_lawfulCells_0 : decode cX6_lawfulCells 0 = .ok (.iconst 0, 1) := dcO tk_X6_lawfulCells_0 0 rfl
theorem dX6_lawfulCells_1 : decode cX6_lawfulCells 1 = .ok (.istore_n 2, 1) := dcO tk_X6_lawfulCells_0 1 rfl
theorem dX6_lawfulCells_2 : decode cX6_lawfulCells 2 = .ok (.iconst 0, 1) := dcO tk_X6_lawfulCells_0 2 rfl
theorem dX6_lawfulCells_3 : decode cX6_lawfulCells 3 = .ok (.istore_n 3, 1) := dcO tk_X6_lawfulCells_0 3 rfl
theorem dX6_lawfulCells_4 : decode cX6_lawfulCells 4 = .ok (.iload_n 3, 1) := dcO tk_X6_lawfulCells_0 4 rfl
theorem dX6_lawfulCells_5 : decode cX6_lawfulCells 5 = .ok (.bipush 81, 2) := dcO tk_X6_lawfulCells_0 5 rfl
theorem dX6_lawfulCells_7 : decode cX6_lawfulCells 7 = .ok (.if_icmp .ge 34, 3) := dcO tk_X6_lawfulCells_0 6 rfl
theorem dX6_lawfulCells_10 : decode cX6_lawfulCells 10 = .ok (.iload_n 2, 1) := dcO tk_X6_lawfulCells_0 7 rfl
theorem dX6_lawfulCells_11 : decode cX6_lawfulCells 11 = .ok (.aload_n 0, 1) := dcO tk_X6_lawfulCells_0 8 rfl
theorem dX6_lawfulCells_12 : decode cX6_lawfulCells 12 = .ok (.iload_n 3, 1) := dcO tk_X6_lawfulCells_0 9 rfl
theorem dX6_lawfulCells_13 : decode cX6_lawfulCells 13 = .ok (.invokevirtual 69, 3) := dcO tk_X6_lawfulCells_0 10 rfl
theorem dX6_lawfulCells_16 : decode cX6_lawfulCells 16 = .ok (.ifCond .ne 16, 3) := dcO tk_X6_lawfulCells_0 11 rfl
theorem dX6_lawfulCells_19 : decode cX6_lawfulCells 19 = .ok (.aload_n 0, 1) := dcO tk_X6_lawfulCells_0 12 rfl
theorem dX6_lawfulCells_20 : decode cX6_lawfulCells 20 = .ok (.iload_n 3, 1) := dcO tk_X6_lawfulCells_0 13 rfl
theorem dX6_lawfulCells_21 : decode cX6_lawfulCells 21 = .ok (.iload_n 1, 1) := dcO tk_X6_lawfulCells_0 14 rfl
theorem dX6_lawfulCells_22 : decode cX6_lawfulCells 22 = .ok (.invokevirtual 149, 3) := dcO tk_X6_lawfulCells_0 15 rfl
theorem dX6_lawfulCells_25 : decode cX6_lawfulCells 25 = .ok (.ifCond .eq 7, 3) := dcO tk_X6_lawfulCells_0 16 rfl
theorem dX6_lawfulCells_28 : decode cX6_lawfulCells 28 = .ok (.iconst 1, 1) := dcO tk_X6_lawfulCells_0 17 rfl
theorem dX6_lawfulCells_29 : decode cX6_lawfulCells 29 = .ok (.goto 4, 3) := dcO tk_X6_lawfulCells_0 18 rfl
theorem dX6_lawfulCells_32 : decode cX6_lawfulCells 32 = .ok (.iconst 0, 1) := dcO tk_X6_lawfulCells_0 19 rfl
theorem dX6_lawfulCells_33 : decode cX6_lawfulCells 33 = .ok (.iadd, 1) := dcO tk_X6_lawfulCells_0 20 rfl
theorem dX6_lawfulCells_34 : decode cX6_lawfulCells 34 = .ok (.istore_n 2, 1) := dcO tk_X6_lawfulCells_0 21 rfl
theorem dX6_lawfulCells_35 : decode cX6_lawfulCells 35 = .ok (.iinc 3 1, 3) := dcO tk_X6_lawfulCells_0 22 rfl
theorem dX6_lawfulCells_38 : decode cX6_lawfulCells 38 = .ok (.goto (-34), 3) := dcO tk_X6_lawfulCells_0 23 rfl
theorem dX6_lawfulCells_41 : decode cX6_lawfulCells 41 = .ok (.iload_n 2, 1) := dcO tk_X6_lawfulCells_0 24 rfl
theorem dX6_lawfulCells_42 : decode cX6_lawfulCells 42 = .ok (.ireturn, 1) := dcO tk_X6_lawfulCells_0 25 rfl
abbrev tb_X6_where_0 : List (Nat × Instr × Nat) := [(0, .iload_n 1, 1), (1, .invokestatic 146, 3), (4, .ifCond .eq 11, 3), (7, .aload_n 0, 1), (8, .iload_n 1, 1), (9, .invokevirtual 152, 3), (12, .goto 8, 3), (15, .aload_n 0, 1), (16, .iconst 0, 1), (17, .invokevirtual 125, 3), (20, .ireturn, 1)]
theorem tk_X6_where_0 : dcA cX6_where tb_X6_where_0 = true := by decide +kernel
theorem dX6_where_0 : decode cX6_where 0 = .ok (.iload_n 1, 1) := dcO tk_X6_where_0 0 rfl
theorem dX6_where_1 : decode cX6_where 1 = .ok (.invokestatic 146, 3) := dcO tk_X6_where_0 1 rfl
theorem dX6_where_4 : decode cX6_where 4 = .ok (.ifCond .eq 11, 3) := dcO tk_X6_where_0 2 rfl
theorem dX6_where_7 : decode cX6_where 7 = .ok (.aload_n 0, 1) := dcO tk_X6_where_0 3 rfl
theorem dX6_where_8 : decode cX6_where 8 = .ok (.iload_n 1, 1) := dcO tk_X6_where_0 4 rfl
theorem dX6_where_9 : decode cX6_where 9 = .ok (.invokevirtual 152, 3) := dcO tk_X6_where_0 5 rfl
theorem dX6_where_12 : decode cX6_where 12 = .ok (.goto 8, 3) := dcO tk_X6_where_0 6 rfl
theorem dX6_where_15 : decode cX6_where 15 = .ok (.aload_n 0, 1) := dcO tk_X6_where_0 7 rfl
theorem dX6_where_16 : decode cX6_where 16 = .ok (.iconst 0, 1) := dcO tk_X6_where_0 8 rfl
theorem dX6_where_17 : decode cX6_where 17 = .ok (.invokevirtual 125, 3) := dcO tk_X6_where_0 9 rfl
theorem dX6_where_20 : decode cX6_where 20 = .ok (.ireturn, 1) := dcO tk_X6_where_0 10 rfl
abbrev tb_X6_route_0 : List (Nat × Instr × Nat) := [(0, .iload_n 1, 1), (1, .invokestatic 122, 3), (4, .ifCond .eq 17, 3), (7, .iload_n 2, 1), (8, .invokestatic 122, 3), (11, .ifCond .eq 10, 3), (14, .iload_n 3, 1), (15, .invokestatic 146, 3), (18, .ifCond .ne 9, 3), (21, .aload_n 0, 1), (22, .iconst 0, 1), (23, .invokevirtual 125, 3), (26, .ireturn, 1), (27, .iconst 0, 1), (28, .istore 4, 2), (30, .iload 4, 2), (32, .bipush 81, 2), (34, .if_icmp .ge 40, 3), (37, .aload_n 0, 1), (38, .getfield 28, 3), (41, .iload 4, 2), (43, .aload_n 0, 1), (44, .iload 4, 2), (46, .invokevirtual 69, 3), (49, .ifCond .ne 13, 3), (52, .aload_n 0, 1), (53, .iload 4, 2), (55, .iload_n 3, 1), (56, .invokevirtual 149, 3), (59, .ifCond .ne 7, 3), (62, .iconst 1, 1), (63, .goto 4, 3), (66, .iconst 0, 1), (67, .bastore, 1), (68, .iinc 4 1, 3), (71, .goto (-41), 3), (74, .aload_n 0, 1), (75, .iload_n 2, 1), (76, .sipush 648, 3), (79, .invokevirtual 79, 3)]
theorem tk_X6_route_0 : dcA cX6_route tb_X6_route_0 = true := by decide +kernel
theorem dX6_route_0 : decode cX6_route 0 = .ok (.iload_n 1, 1) := dcO tk_X6_route_0 0 rfl
theorem dX6_route_1 : decode cX6_route 1 = .ok (.invokestatic 122, 3) := dcO tk_X6_route_0 1 rfl
theorem dX6_route_4 : decode cX6_route 4 = .ok (.ifCond .eq 17, 3) := dcO tk_X6_route_0 2 rfl
theorem dX6_route_7 : decode cX6_route 7 = .ok (.iload_n 2, 1) := dcO tk_X6_route_0 3 rfl
theorem dX6_route_8 : decode cX6_route 8 = .ok (.invokestatic 122, 3) := dcO tk_X6_route_0 4 rfl
theorem dX6_route_11 : decode cX6_route 11 = .ok (.ifCond .eq 10, 3) := dcO tk_X6_route_0 5 rfl
theorem dX6_route_14 : decode cX6_route 14 = .ok (.iload_n 3, 1) := dcO tk_X6_route_0 6 rfl
theorem dX6_route_15 : decode cX6_route 15 = .ok (.invokestatic 146, 3) := dcO tk_X6_route_0 7 rfl
theorem dX6_route_18 : decode cX6_route 18 = .ok (.ifCond .ne 9, 3) := dcO tk_X6_route_0 8 rfl
theorem dX6_route_21 : decode cX6_route 21 = .ok (.aload_n 0, 1) := dcO tk_X6_route_0 9 rfl
theorem dX6_route_22 : decode cX6_route 22 = .ok (.iconst 0, 1) := dcO tk_X6_route_0 10 rfl
theorem dX6_route_23 : decode cX6_route 23 = .ok (.invokevirtual 125, 3) := dcO tk_X6_route_0 11 rfl
theorem dX6_route_26 : decode cX6_route 26 = .ok (.ireturn, 1) := dcO tk_X6_route_0 12 rfl
theorem dX6_route_27 : decode cX6_route 27 = .ok (.iconst 0, 1) := dcO tk_X6_route_0 13 rfl
theorem dX6_route_28 : decode cX6_route 28 = .ok (.istore 4, 2) := dcO tk_X6_route_0 14 rfl
theorem dX6_route_30 : decode cX6_route 30 = .ok (.iload 4, 2) := dcO tk_X6_route_0 15 rfl
theorem dX6_route_32 : decode cX6_route 32 = .ok (.bipush 81, 2) := dcO tk_X6_route_0 16 rfl
theorem dX6_route_34 : decode cX6_route 34 = .ok (.if_icmp .ge 40, 3) := dcO tk_X6_route_0 17 rfl
theorem dX6_route_37 : decode cX6_route 37 = .ok (.aload_n 0, 1) := dcO tk_X6_route_0 18 rfl
theorem dX6_route_38 : decode cX6_route 38 = .ok (.getfield 28, 3) := dcO tk_X6_route_0 19 rfl
theorem dX6_route_41 : decode cX6_route 41 = .ok (.iload 4, 2) := dcO tk_X6_route_0 20 rfl
theorem dX6_route_43 : decode cX6_route 43 = .ok (.aload_n 0, 1) := dcO tk_X6_route_0 21 rfl
theorem dX6_route_44 : decode cX6_route 44 = .ok (.iload 4, 2) := dcO tk_X6_route_0 22 rfl
theorem dX6_route_46 : decode cX6_route 46 = .ok (.invokevirtual 69, 3) := dcO tk_X6_route_0 23 rfl
theorem dX6_route_49 : decode cX6_route 49 = .ok (.ifCond .ne 13, 3) := dcO tk_X6_route_0 24 rfl
theorem dX6_route_52 : decode cX6_route 52 = .ok (.aload_n 0, 1) := dcO tk_X6_route_0 25 rfl
theorem dX6_route_53 : decode cX6_route 53 = .ok (.iload 4, 2) := dcO tk_X6_route_0 26 rfl
theorem dX6_route_55 : decode cX6_route 55 = .ok (.iload_n 3, 1) := dcO tk_X6_route_0 27 rfl
theorem dX6_route_56 : decode cX6_route 56 = .ok (.invokevirtual 149, 3) := dcO tk_X6_route_0 28 rfl
theorem dX6_route_59 : decode cX6_route 59 = .ok (.ifCond .ne 7, 3) := dcO tk_X6_route_0 29 rfl
theorem dX6_route_62 : decode cX6_route 62 = .ok (.iconst 1, 1) := dcO tk_X6_route_0 30 rfl
theorem dX6_route_63 : decode cX6_route 63 = .ok (.goto 4, 3) := dcO tk_X6_route_0 31 rfl
theorem dX6_route_66 : decode cX6_route 66 = .ok (.iconst 0, 1) := dcO tk_X6_route_0 32 rfl
theorem dX6_route_67 : decode cX6_route 67 = .ok (.bastore, 1) := dcO tk_X6_route_0 33 rfl
theorem dX6_route_68 : decode cX6_route 68 = .ok (.iinc 4 1, 3) := dcO tk_X6_route_0 34 rfl
theorem dX6_route_71 : decode cX6_route 71 = .ok (.goto (-41), 3) := dcO tk_X6_route_0 35 rfl
theorem dX6_route_74 : decode cX6_route 74 = .ok (.aload_n 0, 1) := dcO tk_X6_route_0 36 rfl
theorem dX6_route_75 : decode cX6_route 75 = .ok (.iload_n 2, 1) := dcO tk_X6_route_0 37 rfl
theorem dX6_route_76 : decode cX6_route 76 = .ok (.sipush 648, 3) := dcO tk_X6_route_0 38 rfl
theorem dX6_route_79 : decode cX6_route 79 = .ok (.invokevirtual 79, 3) := dcO tk_X6_route_0 39 rfl
abbrev tb_X6_route_1 : List (Nat × Instr × Nat) := [(82, .aload_n 0, 1), (83, .getfield 22, 3), (86, .sipush 648, 3), (89, .iload_n 1, 1), (90, .iadd, 1), (91, .iaload, 1), (92, .istore 4, 2), (94, .iload 4, 2), (96, .bipush 99, 2), (98, .if_icmp .ne 11, 3), (101, .aload_n 0, 1), (102, .iconst 3, 1), (103, .invokevirtual 125, 3), (106, .goto 5, 3), (109, .iload 4, 2), (111, .ireturn, 1)]
theorem tk_X6_route_1 : dcA cX6_route tb_X6_route_1 = true := by decide +kernel
theorem dX6_route_82 : decode cX6_route 82 = .ok (.aload_n 0, 1) := dcO tk_X6_route_1 0 rfl
theorem dX6_route_83 : decode cX6_route 83 = .ok (.getfield 22, 3) := dcO tk_X6_route_1 1 rfl
theorem dX6_route_86 : decode cX6_route 86 = .ok (.sipush 648, 3) := dcO tk_X6_route_1 2 rfl
theorem dX6_route_89 : decode cX6_route 89 = .ok (.iload_n 1, 1) := dcO tk_X6_route_1 3 rfl
theorem dX6_route_90 : decode cX6_route 90 = .ok (.iadd, 1) := dcO tk_X6_route_1 4 rfl
theorem dX6_route_91 : decode cX6_route 91 = .ok (.iaload, 1) := dcO tk_X6_route_1 5 rfl
theorem dX6_route_92 : decode cX6_route 92 = .ok (.istore 4, 2) := dcO tk_X6_route_1 6 rfl
theorem dX6_route_94 : decode cX6_route 94 = .ok (.iload 4, 2) := dcO tk_X6_route_1 7 rfl
theorem dX6_route_96 : decode cX6_route 96 = .ok (.bipush 99, 2) := dcO tk_X6_route_1 8 rfl
theorem dX6_route_98 : decode cX6_route 98 = .ok (.if_icmp .ne 11, 3) := dcO tk_X6_route_1 9 rfl
theorem dX6_route_101 : decode cX6_route 101 = .ok (.aload_n 0, 1) := dcO tk_X6_route_1 10 rfl
theorem dX6_route_102 : decode cX6_route 102 = .ok (.iconst 3, 1) := dcO tk_X6_route_1 11 rfl
theorem dX6_route_103 : decode cX6_route 103 = .ok (.invokevirtual 125, 3) := dcO tk_X6_route_1 12 rfl
theorem dX6_route_106 : decode cX6_route 106 = .ok (.goto 5, 3) := dcO tk_X6_route_1 13 rfl
theorem dX6_route_109 : decode cX6_route 109 = .ok (.iload 4, 2) := dcO tk_X6_route_1 14 rfl
theorem dX6_route_111 : decode cX6_route 111 = .ok (.ireturn, 1) := dcO tk_X6_route_1 15 rfl
abbrev tb_X6_free_0 : List (Nat × Instr × Nat) := [(0, .iconst 0, 1), (1, .istore_n 1, 1), (2, .iconst 0, 1), (3, .istore_n 2, 1), (4, .iload_n 2, 1), (5, .bipush 81, 2), (7, .if_icmp .ge 25, 3), (10, .iload_n 1, 1), (11, .aload_n 0, 1), (12, .iload_n 2, 1), (13, .invokevirtual 69, 3), (16, .ifCond .eq 7, 3), (19, .iconst 0, 1), (20, .goto 4, 3), (23, .iconst 1, 1), (24, .iadd, 1), (25, .istore_n 1, 1), (26, .iinc 2 1, 3), (29, .goto (-25), 3), (32, .iconst 0, 1), (33, .istore_n 2, 1), (34, .iconst 0, 1), (35, .istore_n 3, 1), (36, .iload_n 3, 1), (37, .bipush 8, 2), (39, .if_icmp .ge 28, 3), (42, .iload_n 2, 1), (43, .aload_n 0, 1), (44, .iload_n 3, 1), (45, .invokevirtual 152, 3), (48, .iload_n 1, 1), (49, .if_icmp .ne 9, 3), (52, .iconst 1, 1), (53, .iload_n 3, 1), (54, .ishl, 1), (55, .goto 4, 3), (58, .iconst 0, 1), (59, .ior, 1), (60, .istore_n 2, 1), (61, .iinc 3 1, 3)]
theorem tk_X6_free_0 : dcA cX6_free tb_X6_free_0 = true := by decide +kernel
theorem dX6_free_0 : decode cX6_free 0 = .ok (.iconst 0, 1) := dcO tk_X6_free_0 0 rfl
theorem dX6_free_1 : decode cX6_free 1 = .ok (.istore_n 1, 1) := dcO tk_X6_free_0 1 rfl
theorem dX6_free_2 : decode cX6_free 2 = .ok (.iconst 0, 1) := dcO tk_X6_free_0 2 rfl
theorem dX6_free_3 : decode cX6_free 3 = .ok (.istore_n 2, 1) := dcO tk_X6_free_0 3 rfl
theorem dX6_free_4 : decode cX6_free 4 = .ok (.iload_n 2, 1) := dcO tk_X6_free_0 4 rfl
theorem dX6_free_5 : decode cX6_free 5 = .ok (.bipush 81, 2) := dcO tk_X6_free_0 5 rfl
theorem dX6_free_7 : decode cX6_free 7 = .ok (.if_icmp .ge 25, 3) := dcO tk_X6_free_0 6 rfl
theorem dX6_free_10 : decode cX6_free 10 = .ok (.iload_n 1, 1) := dcO tk_X6_free_0 7 rfl
theorem dX6_free_11 : decode cX6_free 11 = .ok (.aload_n 0, 1) := dcO tk_X6_free_0 8 rfl
theorem dX6_free_12 : decode cX6_free 12 = .ok (.iload_n 2, 1) := dcO tk_X6_free_0 9 rfl
theorem dX6_free_13 : decode cX6_free 13 = .ok (.invokevirtual 69, 3) := dcO tk_X6_free_0 10 rfl
theorem dX6_free_16 : decode cX6_free 16 = .ok (.ifCond .eq 7, 3) := dcO tk_X6_free_0 11 rfl
theorem dX6_free_19 : decode cX6_free 19 = .ok (.iconst 0, 1) := dcO tk_X6_free_0 12 rfl
theorem dX6_free_20 : decode cX6_free 20 = .ok (.goto 4, 3) := dcO tk_X6_free_0 13 rfl
theorem dX6_free_23 : decode cX6_free 23 = .ok (.iconst 1, 1) := dcO tk_X6_free_0 14 rfl
theorem dX6_free_24 : decode cX6_free 24 = .ok (.iadd, 1) := dcO tk_X6_free_0 15 rfl
theorem dX6_free_25 : decode cX6_free 25 = .ok (.istore_n 1, 1) := dcO tk_X6_free_0 16 rfl
theorem dX6_free_26 : decode cX6_free 26 = .ok (.iinc 2 1, 3) := dcO tk_X6_free_0 17 rfl
theorem dX6_free_29 : decode cX6_free 29 = .ok (.goto (-25), 3) := dcO tk_X6_free_0 18 rfl
theorem dX6_free_32 : decode cX6_free 32 = .ok (.iconst 0, 1) := dcO tk_X6_free_0 19 rfl
theorem dX6_free_33 : decode cX6_free 33 = .ok (.istore_n 2, 1) := dcO tk_X6_free_0 20 rfl
theorem dX6_free_34 : decode cX6_free 34 = .ok (.iconst 0, 1) := dcO tk_X6_free_0 21 rfl
theorem dX6_free_35 : decode cX6_free 35 = .ok (.istore_n 3, 1) := dcO tk_X6_free_0 22 rfl
theorem dX6_free_36 : decode cX6_free 36 = .ok (.iload_n 3, 1) := dcO tk_X6_free_0 23 rfl
theorem dX6_free_37 : decode cX6_free 37 = .ok (.bipush 8, 2) := dcO tk_X6_free_0 24 rfl
theorem dX6_free_39 : decode cX6_free 39 = .ok (.if_icmp .ge 28, 3) := dcO tk_X6_free_0 25 rfl
theorem dX6_free_42 : decode cX6_free 42 = .ok (.iload_n 2, 1) := dcO tk_X6_free_0 26 rfl
theorem dX6_free_43 : decode cX6_free 43 = .ok (.aload_n 0, 1) := dcO tk_X6_free_0 27 rfl
theorem dX6_free_44 : decode cX6_free 44 = .ok (.iload_n 3, 1) := dcO tk_X6_free_0 28 rfl
theorem dX6_free_45 : decode cX6_free 45 = .ok (.invokevirtual 152, 3) := dcO tk_X6_free_0 29 rfl
theorem dX6_free_48 : decode cX6_free 48 = .ok (.iload_n 1, 1) := dcO tk_X6_free_0 30 rfl
theorem dX6_free_49 : decode cX6_free 49 = .ok (.if_icmp .ne 9, 3) := dcO tk_X6_free_0 31 rfl
theorem dX6_free_52 : decode cX6_free 52 = .ok (.iconst 1, 1) := dcO tk_X6_free_0 32 rfl
theorem dX6_free_53 : decode cX6_free 53 = .ok (.iload_n 3, 1) := dcO tk_X6_free_0 33 rfl
theorem dX6_free_54 : decode cX6_free 54 = .ok (.ishl, 1) := dcO tk_X6_free_0 34 rfl
theorem dX6_free_55 : decode cX6_free 55 = .ok (.goto 4, 3) := dcO tk_X6_free_0 35 rfl
theorem dX6_free_58 : decode cX6_free 58 = .ok (.iconst 0, 1) := dcO tk_X6_free_0 36 rfl
theorem dX6_free_59 : decode cX6_free 59 = .ok (.ior, 1) := dcO tk_X6_free_0 37 rfl
theorem dX6_free_60 : decode cX6_free 60 = .ok (.istore_n 2, 1) := dcO tk_X6_free_0 38 rfl
theorem dX6_free_61 : decode cX6_free 61 = .ok (.iinc 3 1, 3) := dcO tk_X6_free_0 39 rfl
abbrev tb_X6_free_1 : List (Nat × Instr × Nat) := [(64, .goto (-28), 3), (67, .iload_n 2, 1), (68, .ireturn, 1)]
theorem tk_X6_free_1 : dcA cX6_free tb_X6_free_1 = true := by decide +kernel
theorem dX6_free_64 : decode cX6_free 64 = .ok (.goto (-28), 3) := dcO tk_X6_free_1 0 rfl
theorem dX6_free_67 : decode cX6_free 67 = .ok (.iload_n 2, 1) := dcO tk_X6_free_1 1 rfl
theorem dX6_free_68 : decode cX6_free 68 = .ok (.ireturn, 1) := dcO tk_X6_free_1 2 rfl
abbrev tb_X6_ahead_0 : List (Nat × Instr × Nat) := [(0, .aload_n 0, 1), (1, .iload_n 1, 1), (2, .invokevirtual 131, 3), (5, .ifCond .eq 13, 3), (8, .iload_n 2, 1), (9, .iconst 0, 1), (10, .bipush 100, 2), (12, .invokestatic 61, 3), (15, .ifCond .ne 9, 3), (18, .aload_n 0, 1), (19, .iconst 0, 1), (20, .invokevirtual 125, 3), (23, .ireturn, 1), (24, .aload_n 0, 1), (25, .invokevirtual 155, 3), (28, .aload_n 0, 1), (29, .iload_n 2, 1), (30, .invokevirtual 137, 3), (33, .aload_n 0, 1), (34, .iload_n 1, 1), (35, .iconst 1, 1), (36, .invokevirtual 76, 3), (39, .istore_n 3, 1), (40, .aload_n 0, 1), (41, .invokevirtual 158, 3), (44, .iload_n 3, 1), (45, .ireturn, 1)]
theorem tk_X6_ahead_0 : dcA cX6_ahead tb_X6_ahead_0 = true := by decide +kernel
theorem dX6_ahead_0 : decode cX6_ahead 0 = .ok (.aload_n 0, 1) := dcO tk_X6_ahead_0 0 rfl
theorem dX6_ahead_1 : decode cX6_ahead 1 = .ok (.iload_n 1, 1) := dcO tk_X6_ahead_0 1 rfl
theorem dX6_ahead_2 : decode cX6_ahead 2 = .ok (.invokevirtual 131, 3) := dcO tk_X6_ahead_0 2 rfl
theorem dX6_ahead_5 : decode cX6_ahead 5 = .ok (.ifCond .eq 13, 3) := dcO tk_X6_ahead_0 3 rfl
theorem dX6_ahead_8 : decode cX6_ahead 8 = .ok (.iload_n 2, 1) := dcO tk_X6_ahead_0 4 rfl
theorem dX6_ahead_9 : decode cX6_ahead 9 = .ok (.iconst 0, 1) := dcO tk_X6_ahead_0 5 rfl
theorem dX6_ahead_10 : decode cX6_ahead 10 = .ok (.bipush 100, 2) := dcO tk_X6_ahead_0 6 rfl
theorem dX6_ahead_12 : decode cX6_ahead 12 = .ok (.invokestatic 61, 3) := dcO tk_X6_ahead_0 7 rfl
theorem dX6_ahead_15 : decode cX6_ahead 15 = .ok (.ifCond .ne 9, 3) := dcO tk_X6_ahead_0 8 rfl
theorem dX6_ahead_18 : decode cX6_ahead 18 = .ok (.aload_n 0, 1) := dcO tk_X6_ahead_0 9 rfl
theorem dX6_ahead_19 : decode cX6_ahead 19 = .ok (.iconst 0, 1) := dcO tk_X6_ahead_0 10 rfl
theorem dX6_ahead_20 : decode cX6_ahead 20 = .ok (.invokevirtual 125, 3) := dcO tk_X6_ahead_0 11 rfl
theorem dX6_ahead_23 : decode cX6_ahead 23 = .ok (.ireturn, 1) := dcO tk_X6_ahead_0 12 rfl
theorem dX6_ahead_24 : decode cX6_ahead 24 = .ok (.aload_n 0, 1) := dcO tk_X6_ahead_0 13 rfl
theorem dX6_ahead_25 : decode cX6_ahead 25 = .ok (.invokevirtual 155, 3) := dcO tk_X6_ahead_0 14 rfl
theorem dX6_ahead_28 : decode cX6_ahead 28 = .ok (.aload_n 0, 1) := dcO tk_X6_ahead_0 15 rfl
theorem dX6_ahead_29 : decode cX6_ahead 29 = .ok (.iload_n 2, 1) := dcO tk_X6_ahead_0 16 rfl
theorem dX6_ahead_30 : decode cX6_ahead 30 = .ok (.invokevirtual 137, 3) := dcO tk_X6_ahead_0 17 rfl
theorem dX6_ahead_33 : decode cX6_ahead 33 = .ok (.aload_n 0, 1) := dcO tk_X6_ahead_0 18 rfl
theorem dX6_ahead_34 : decode cX6_ahead 34 = .ok (.iload_n 1, 1) := dcO tk_X6_ahead_0 19 rfl
theorem dX6_ahead_35 : decode cX6_ahead 35 = .ok (.iconst 1, 1) := dcO tk_X6_ahead_0 20 rfl
theorem dX6_ahead_36 : decode cX6_ahead 36 = .ok (.invokevirtual 76, 3) := dcO tk_X6_ahead_0 21 rfl
theorem dX6_ahead_39 : decode cX6_ahead 39 = .ok (.istore_n 3, 1) := dcO tk_X6_ahead_0 22 rfl
theorem dX6_ahead_40 : decode cX6_ahead 40 = .ok (.aload_n 0, 1) := dcO tk_X6_ahead_0 23 rfl
theorem dX6_ahead_41 : decode cX6_ahead 41 = .ok (.invokevirtual 158, 3) := dcO tk_X6_ahead_0 24 rfl
theorem dX6_ahead_44 : decode cX6_ahead 44 = .ok (.iload_n 3, 1) := dcO tk_X6_ahead_0 25 rfl
theorem dX6_ahead_45 : decode cX6_ahead 45 = .ok (.ireturn, 1) := dcO tk_X6_ahead_0 26 rfl
abbrev tb_X6_lawAt_0 : List (Nat × Instr × Nat) := [(0, .iload_n 1, 1), (1, .invokestatic 122, 3), (4, .ifCond .eq 13, 3), (7, .iload_n 2, 1), (8, .iconst 0, 1), (9, .bipush 100, 2), (11, .invokestatic 61, 3), (14, .ifCond .ne 9, 3), (17, .aload_n 0, 1), (18, .iconst 0, 1), (19, .invokevirtual 125, 3), (22, .ireturn, 1), (23, .aload_n 0, 1), (24, .invokevirtual 155, 3), (27, .aload_n 0, 1), (28, .iload_n 2, 1), (29, .invokevirtual 137, 3), (32, .aload_n 0, 1), (33, .getfield 9, 3), (36, .sipush 176, 3), (39, .iload_n 1, 1), (40, .iadd, 1), (41, .iaload, 1), (42, .istore_n 3, 1), (43, .aload_n 0, 1), (44, .invokevirtual 158, 3), (47, .iload_n 3, 1), (48, .ireturn, 1)]
theorem tk_X6_lawAt_0 : dcA cX6_lawAt tb_X6_lawAt_0 = true := by decide +kernel
theorem dX6_lawAt_0 : decode cX6_lawAt 0 = .ok (.iload_n 1, 1) := dcO tk_X6_lawAt_0 0 rfl
theorem dX6_lawAt_1 : decode cX6_lawAt 1 = .ok (.invokestatic 122, 3) := dcO tk_X6_lawAt_0 1 rfl
theorem dX6_lawAt_4 : decode cX6_lawAt 4 = .ok (.ifCond .eq 13, 3) := dcO tk_X6_lawAt_0 2 rfl
theorem dX6_lawAt_7 : decode cX6_lawAt 7 = .ok (.iload_n 2, 1) := dcO tk_X6_lawAt_0 3 rfl
theorem dX6_lawAt_8 : decode cX6_lawAt 8 = .ok (.iconst 0, 1) := dcO tk_X6_lawAt_0 4 rfl
theorem dX6_lawAt_9 : decode cX6_lawAt 9 = .ok (.bipush 100, 2) := dcO tk_X6_lawAt_0 5 rfl
theorem dX6_lawAt_11 : decode cX6_lawAt 11 = .ok (.invokestatic 61, 3) := dcO tk_X6_lawAt_0 6 rfl
theorem dX6_lawAt_14 : decode cX6_lawAt 14 = .ok (.ifCond .ne 9, 3) := dcO tk_X6_lawAt_0 7 rfl
theorem dX6_lawAt_17 : decode cX6_lawAt 17 = .ok (.aload_n 0, 1) := dcO tk_X6_lawAt_0 8 rfl
theorem dX6_lawAt_18 : decode cX6_lawAt 18 = .ok (.iconst 0, 1) := dcO tk_X6_lawAt_0 9 rfl
theorem dX6_lawAt_19 : decode cX6_lawAt 19 = .ok (.invokevirtual 125, 3) := dcO tk_X6_lawAt_0 10 rfl
theorem dX6_lawAt_22 : decode cX6_lawAt 22 = .ok (.ireturn, 1) := dcO tk_X6_lawAt_0 11 rfl
theorem dX6_lawAt_23 : decode cX6_lawAt 23 = .ok (.aload_n 0, 1) := dcO tk_X6_lawAt_0 12 rfl
theorem dX6_lawAt_24 : decode cX6_lawAt 24 = .ok (.invokevirtual 155, 3) := dcO tk_X6_lawAt_0 13 rfl
theorem dX6_lawAt_27 : decode cX6_lawAt 27 = .ok (.aload_n 0, 1) := dcO tk_X6_lawAt_0 14 rfl
theorem dX6_lawAt_28 : decode cX6_lawAt 28 = .ok (.iload_n 2, 1) := dcO tk_X6_lawAt_0 15 rfl
theorem dX6_lawAt_29 : decode cX6_lawAt 29 = .ok (.invokevirtual 137, 3) := dcO tk_X6_lawAt_0 16 rfl
theorem dX6_lawAt_32 : decode cX6_lawAt 32 = .ok (.aload_n 0, 1) := dcO tk_X6_lawAt_0 17 rfl
theorem dX6_lawAt_33 : decode cX6_lawAt 33 = .ok (.getfield 9, 3) := dcO tk_X6_lawAt_0 18 rfl
theorem dX6_lawAt_36 : decode cX6_lawAt 36 = .ok (.sipush 176, 3) := dcO tk_X6_lawAt_0 19 rfl
theorem dX6_lawAt_39 : decode cX6_lawAt 39 = .ok (.iload_n 1, 1) := dcO tk_X6_lawAt_0 20 rfl
theorem dX6_lawAt_40 : decode cX6_lawAt 40 = .ok (.iadd, 1) := dcO tk_X6_lawAt_0 21 rfl
theorem dX6_lawAt_41 : decode cX6_lawAt 41 = .ok (.iaload, 1) := dcO tk_X6_lawAt_0 22 rfl
theorem dX6_lawAt_42 : decode cX6_lawAt 42 = .ok (.istore_n 3, 1) := dcO tk_X6_lawAt_0 23 rfl
theorem dX6_lawAt_43 : decode cX6_lawAt 43 = .ok (.aload_n 0, 1) := dcO tk_X6_lawAt_0 24 rfl
theorem dX6_lawAt_44 : decode cX6_lawAt 44 = .ok (.invokevirtual 158, 3) := dcO tk_X6_lawAt_0 25 rfl
theorem dX6_lawAt_47 : decode cX6_lawAt 47 = .ok (.iload_n 3, 1) := dcO tk_X6_lawAt_0 26 rfl
theorem dX6_lawAt_48 : decode cX6_lawAt 48 = .ok (.ireturn, 1) := dcO tk_X6_lawAt_0 27 rfl
abbrev tb_X6_reachedBy_0 : List (Nat × Instr × Nat) := [(0, .aload_n 0, 1), (1, .invokevirtual 155, 3), (4, .aload_n 0, 1), (5, .invokevirtual 112, 3), (8, .iconst 0, 1), (9, .istore_n 3, 1), (10, .iload_n 3, 1), (11, .bipush 100, 2), (13, .if_icmp .gt 31, 3), (16, .aload_n 0, 1), (17, .getfield 9, 3), (20, .sipush 176, 3), (23, .iload_n 2, 1), (24, .iadd, 1), (25, .iaload, 1), (26, .iload_n 1, 1), (27, .if_icmp .eq 17, 3), (30, .aload_n 0, 1), (31, .aload_n 0, 1), (32, .invokevirtual 115, 3), (35, .invokevirtual 119, 3), (38, .iinc 3 1, 3), (41, .goto (-31), 3), (44, .aload_n 0, 1), (45, .invokevirtual 158, 3), (48, .iload_n 3, 1), (49, .bipush 100, 2), (51, .if_icmp .gt 7, 3), (54, .iload_n 3, 1), (55, .goto 4, 3), (58, .iconst (-1), 1), (59, .ireturn, 1)]
theorem tk_X6_reachedBy_0 : dcA cX6_reachedBy tb_X6_reachedBy_0 = true := by decide +kernel
theorem dX6_reachedBy_0 : decode cX6_reachedBy 0 = .ok (.aload_n 0, 1) := dcO tk_X6_reachedBy_0 0 rfl
theorem dX6_reachedBy_1 : decode cX6_reachedBy 1 = .ok (.invokevirtual 155, 3) := dcO tk_X6_reachedBy_0 1 rfl
theorem dX6_reachedBy_4 : decode cX6_reachedBy 4 = .ok (.aload_n 0, 1) := dcO tk_X6_reachedBy_0 2 rfl
theorem dX6_reachedBy_5 : decode cX6_reachedBy 5 = .ok (.invokevirtual 112, 3) := dcO tk_X6_reachedBy_0 3 rfl
theorem dX6_reachedBy_8 : decode cX6_reachedBy 8 = .ok (.iconst 0, 1) := dcO tk_X6_reachedBy_0 4 rfl
theorem dX6_reachedBy_9 : decode cX6_reachedBy 9 = .ok (.istore_n 3, 1) := dcO tk_X6_reachedBy_0 5 rfl
theorem dX6_reachedBy_10 : decode cX6_reachedBy 10 = .ok (.iload_n 3, 1) := dcO tk_X6_reachedBy_0 6 rfl
theorem dX6_reachedBy_11 : decode cX6_reachedBy 11 = .ok (.bipush 100, 2) := dcO tk_X6_reachedBy_0 7 rfl
theorem dX6_reachedBy_13 : decode cX6_reachedBy 13 = .ok (.if_icmp .gt 31, 3) := dcO tk_X6_reachedBy_0 8 rfl
theorem dX6_reachedBy_16 : decode cX6_reachedBy 16 = .ok (.aload_n 0, 1) := dcO tk_X6_reachedBy_0 9 rfl
theorem dX6_reachedBy_17 : decode cX6_reachedBy 17 = .ok (.getfield 9, 3) := dcO tk_X6_reachedBy_0 10 rfl
theorem dX6_reachedBy_20 : decode cX6_reachedBy 20 = .ok (.sipush 176, 3) := dcO tk_X6_reachedBy_0 11 rfl
theorem dX6_reachedBy_23 : decode cX6_reachedBy 23 = .ok (.iload_n 2, 1) := dcO tk_X6_reachedBy_0 12 rfl
theorem dX6_reachedBy_24 : decode cX6_reachedBy 24 = .ok (.iadd, 1) := dcO tk_X6_reachedBy_0 13 rfl
theorem dX6_reachedBy_25 : decode cX6_reachedBy 25 = .ok (.iaload, 1) := dcO tk_X6_reachedBy_0 14 rfl
theorem dX6_reachedBy_26 : decode cX6_reachedBy 26 = .ok (.iload_n 1, 1) := dcO tk_X6_reachedBy_0 15 rfl
theorem dX6_reachedBy_27 : decode cX6_reachedBy 27 = .ok (.if_icmp .eq 17, 3) := dcO tk_X6_reachedBy_0 16 rfl
theorem dX6_reachedBy_30 : decode cX6_reachedBy 30 = .ok (.aload_n 0, 1) := dcO tk_X6_reachedBy_0 17 rfl
theorem dX6_reachedBy_31 : decode cX6_reachedBy 31 = .ok (.aload_n 0, 1) := dcO tk_X6_reachedBy_0 18 rfl
theorem dX6_reachedBy_32 : decode cX6_reachedBy 32 = .ok (.invokevirtual 115, 3) := dcO tk_X6_reachedBy_0 19 rfl
theorem dX6_reachedBy_35 : decode cX6_reachedBy 35 = .ok (.invokevirtual 119, 3) := dcO tk_X6_reachedBy_0 20 rfl
theorem dX6_reachedBy_38 : decode cX6_reachedBy 38 = .ok (.iinc 3 1, 3) := dcO tk_X6_reachedBy_0 21 rfl
theorem dX6_reachedBy_41 : decode cX6_reachedBy 41 = .ok (.goto (-31), 3) := dcO tk_X6_reachedBy_0 22 rfl
theorem dX6_reachedBy_44 : decode cX6_reachedBy 44 = .ok (.aload_n 0, 1) := dcO tk_X6_reachedBy_0 23 rfl
theorem dX6_reachedBy_45 : decode cX6_reachedBy 45 = .ok (.invokevirtual 158, 3) := dcO tk_X6_reachedBy_0 24 rfl
theorem dX6_reachedBy_48 : decode cX6_reachedBy 48 = .ok (.iload_n 3, 1) := dcO tk_X6_reachedBy_0 25 rfl
theorem dX6_reachedBy_49 : decode cX6_reachedBy 49 = .ok (.bipush 100, 2) := dcO tk_X6_reachedBy_0 26 rfl
theorem dX6_reachedBy_51 : decode cX6_reachedBy 51 = .ok (.if_icmp .gt 7, 3) := dcO tk_X6_reachedBy_0 27 rfl
theorem dX6_reachedBy_54 : decode cX6_reachedBy 54 = .ok (.iload_n 3, 1) := dcO tk_X6_reachedBy_0 28 rfl
theorem dX6_reachedBy_55 : decode cX6_reachedBy 55 = .ok (.goto 4, 3) := dcO tk_X6_reachedBy_0 29 rfl
theorem dX6_reachedBy_58 : decode cX6_reachedBy 58 = .ok (.iconst (-1), 1) := dcO tk_X6_reachedBy_0 30 rfl
theorem dX6_reachedBy_59 : decode cX6_reachedBy 59 = .ok (.ireturn, 1) := dcO tk_X6_reachedBy_0 31 rfl
abbrev tb_X6_reaches_0 : List (Nat × Instr × Nat) := [(0, .iload_n 1, 1), (1, .invokestatic 134, 3), (4, .ifCond .eq 10, 3), (7, .iload_n 2, 1), (8, .invokestatic 122, 3), (11, .ifCond .ne 9, 3), (14, .aload_n 0, 1), (15, .iconst 0, 1), (16, .invokevirtual 125, 3), (19, .ireturn, 1), (20, .aload_n 0, 1), (21, .iload_n 1, 1), (22, .iload_n 2, 1), (23, .invokevirtual 161, 3), (26, .istore_n 3, 1), (27, .iload_n 3, 1), (28, .ifCond .ge 11, 3), (31, .aload_n 0, 1), (32, .iconst 3, 1), (33, .invokevirtual 125, 3), (36, .goto 4, 3), (39, .iload_n 3, 1), (40, .ireturn, 1)]
theorem tk_X6_reaches_0 : dcA cX6_reaches tb_X6_reaches_0 = true := by decide +kernel
theorem dX6_reaches_0 : decode cX6_reaches 0 = .ok (.iload_n 1, 1) := dcO tk_X6_reaches_0 0 rfl
theorem dX6_reaches_1 : decode cX6_reaches 1 = .ok (.invokestatic 134, 3) := dcO tk_X6_reaches_0 1 rfl
theorem dX6_reaches_4 : decode cX6_reaches 4 = .ok (.ifCond .eq 10, 3) := dcO tk_X6_reaches_0 2 rfl
theorem dX6_reaches_7 : decode cX6_reaches 7 = .ok (.iload_n 2, 1) := dcO tk_X6_reaches_0 3 rfl
theorem dX6_reaches_8 : decode cX6_reaches 8 = .ok (.invokestatic 122, 3) := dcO tk_X6_reaches_0 4 rfl
theorem dX6_reaches_11 : decode cX6_reaches 11 = .ok (.ifCond .ne 9, 3) := dcO tk_X6_reaches_0 5 rfl
theorem dX6_reaches_14 : decode cX6_reaches 14 = .ok (.aload_n 0, 1) := dcO tk_X6_reaches_0 6 rfl
theorem dX6_reaches_15 : decode cX6_reaches 15 = .ok (.iconst 0, 1) := dcO tk_X6_reaches_0 7 rfl
theorem dX6_reaches_16 : decode cX6_reaches 16 = .ok (.invokevirtual 125, 3) := dcO tk_X6_reaches_0 8 rfl
theorem dX6_reaches_19 : decode cX6_reaches 19 = .ok (.ireturn, 1) := dcO tk_X6_reaches_0 9 rfl
theorem dX6_reaches_20 : decode cX6_reaches 20 = .ok (.aload_n 0, 1) := dcO tk_X6_reaches_0 10 rfl
theorem dX6_reaches_21 : decode cX6_reaches 21 = .ok (.iload_n 1, 1) := dcO tk_X6_reaches_0 11 rfl
theorem dX6_reaches_22 : decode cX6_reaches 22 = .ok (.iload_n 2, 1) := dcO tk_X6_reaches_0 12 rfl
theorem dX6_reaches_23 : decode cX6_reaches 23 = .ok (.invokevirtual 161, 3) := dcO tk_X6_reaches_0 13 rfl
theorem dX6_reaches_26 : decode cX6_reaches 26 = .ok (.istore_n 3, 1) := dcO tk_X6_reaches_0 14 rfl
theorem dX6_reaches_27 : decode cX6_reaches 27 = .ok (.iload_n 3, 1) := dcO tk_X6_reaches_0 15 rfl
theorem dX6_reaches_28 : decode cX6_reaches 28 = .ok (.ifCond .ge 11, 3) := dcO tk_X6_reaches_0 16 rfl
theorem dX6_reaches_31 : decode cX6_reaches 31 = .ok (.aload_n 0, 1) := dcO tk_X6_reaches_0 17 rfl
theorem dX6_reaches_32 : decode cX6_reaches 32 = .ok (.iconst 3, 1) := dcO tk_X6_reaches_0 18 rfl
theorem dX6_reaches_33 : decode cX6_reaches 33 = .ok (.invokevirtual 125, 3) := dcO tk_X6_reaches_0 19 rfl
theorem dX6_reaches_36 : decode cX6_reaches 36 = .ok (.goto 4, 3) := dcO tk_X6_reaches_0 20 rfl
theorem dX6_reaches_39 : decode cX6_reaches 39 = .ok (.iload_n 3, 1) := dcO tk_X6_reaches_0 21 rfl
theorem dX6_reaches_40 : decode cX6_reaches 40 = .ok (.ireturn, 1) := dcO tk_X6_reaches_0 22 rfl
abbrev tb_X6_wetFor_0 : List (Nat × Instr × Nat) := [(0, .iload_n 1, 1), (1, .invokestatic 134, 3), (4, .ifCond .eq 10, 3), (7, .iload_n 2, 1), (8, .invokestatic 122, 3), (11, .ifCond .ne 9, 3), (14, .aload_n 0, 1), (15, .iconst 0, 1), (16, .invokevirtual 125, 3), (19, .ireturn, 1), (20, .aload_n 0, 1), (21, .getfield 9, 3), (24, .iconst 4, 1), (25, .iaload, 1), (26, .istore_n 3, 1), (27, .iconst (-1), 1), (28, .istore 4, 2), (30, .iconst 0, 1), (31, .istore 5, 2), (33, .iconst 0, 1), (34, .istore 6, 2), (36, .iload 6, 2), (38, .bipush 9, 2), (40, .if_icmp .gt 77, 3), (43, .aload_n 0, 1), (44, .getfield 9, 3), (47, .iconst 4, 1), (48, .iload 6, 2), (50, .iastore, 1), (51, .aload_n 0, 1), (52, .iload_n 1, 1), (53, .iload_n 2, 1), (54, .invokevirtual 161, 3), (57, .istore 7, 2), (59, .iload 7, 2), (61, .ifCond .lt 19, 3), (64, .iload 4, 2), (66, .ifCond .lt 10, 3), (69, .iload 7, 2), (71, .iload 5, 2)]
theorem tk_X6_wetFor_0 : dcA cX6_wetFor tb_X6_wetFor_0 = true := by decide +kernel
theorem dX6_wetFor_0 : decode cX6_wetFor 0 = .ok (.iload_n 1, 1) := dcO tk_X6_wetFor_0 0 rfl
theorem dX6_wetFor_1 : decode cX6_wetFor 1 = .ok (.invokestatic 134, 3) := dcO tk_X6_wetFor_0 1 rfl
theorem dX6_wetFor_4 : decode cX6_wetFor 4 = .ok (.ifCond .eq 10, 3) := dcO tk_X6_wetFor_0 2 rfl
theorem dX6_wetFor_7 : decode cX6_wetFor 7 = .ok (.iload_n 2, 1) := dcO tk_X6_wetFor_0 3 rfl
theorem dX6_wetFor_8 : decode cX6_wetFor 8 = .ok (.invokestatic 122, 3) := dcO tk_X6_wetFor_0 4 rfl
theorem dX6_wetFor_11 : decode cX6_wetFor 11 = .ok (.ifCond .ne 9, 3) := dcO tk_X6_wetFor_0 5 rfl
theorem dX6_wetFor_14 : decode cX6_wetFor 14 = .ok (.aload_n 0, 1) := dcO tk_X6_wetFor_0 6 rfl
theorem dX6_wetFor_15 : decode cX6_wetFor 15 = .ok (.iconst 0, 1) := dcO tk_X6_wetFor_0 7 rfl
theorem dX6_wetFor_16 : decode cX6_wetFor 16 = .ok (.invokevirtual 125, 3) := dcO tk_X6_wetFor_0 8 rfl
theorem dX6_wetFor_19 : decode cX6_wetFor 19 = .ok (.ireturn, 1) := dcO tk_X6_wetFor_0 9 rfl
theorem dX6_wetFor_20 : decode cX6_wetFor 20 = .ok (.aload_n 0, 1) := dcO tk_X6_wetFor_0 10 rfl
theorem dX6_wetFor_21 : decode cX6_wetFor 21 = .ok (.getfield 9, 3) := dcO tk_X6_wetFor_0 11 rfl
theorem dX6_wetFor_24 : decode cX6_wetFor 24 = .ok (.iconst 4, 1) := dcO tk_X6_wetFor_0 12 rfl
theorem dX6_wetFor_25 : decode cX6_wetFor 25 = .ok (.iaload, 1) := dcO tk_X6_wetFor_0 13 rfl
theorem dX6_wetFor_26 : decode cX6_wetFor 26 = .ok (.istore_n 3, 1) := dcO tk_X6_wetFor_0 14 rfl
theorem dX6_wetFor_27 : decode cX6_wetFor 27 = .ok (.iconst (-1), 1) := dcO tk_X6_wetFor_0 15 rfl
theorem dX6_wetFor_28 : decode cX6_wetFor 28 = .ok (.istore 4, 2) := dcO tk_X6_wetFor_0 16 rfl
theorem dX6_wetFor_30 : decode cX6_wetFor 30 = .ok (.iconst 0, 1) := dcO tk_X6_wetFor_0 17 rfl
theorem dX6_wetFor_31 : decode cX6_wetFor 31 = .ok (.istore 5, 2) := dcO tk_X6_wetFor_0 18 rfl
theorem dX6_wetFor_33 : decode cX6_wetFor 33 = .ok (.iconst 0, 1) := dcO tk_X6_wetFor_0 19 rfl
theorem dX6_wetFor_34 : decode cX6_wetFor 34 = .ok (.istore 6, 2) := dcO tk_X6_wetFor_0 20 rfl
theorem dX6_wetFor_36 : decode cX6_wetFor 36 = .ok (.iload 6, 2) := dcO tk_X6_wetFor_0 21 rfl
theorem dX6_wetFor_38 : decode cX6_wetFor 38 = .ok (.bipush 9, 2) := dcO tk_X6_wetFor_0 22 rfl
theorem dX6_wetFor_40 : decode cX6_wetFor 40 = .ok (.if_icmp .gt 77, 3) := dcO tk_X6_wetFor_0 23 rfl
theorem dX6_wetFor_43 : decode cX6_wetFor 43 = .ok (.aload_n 0, 1) := dcO tk_X6_wetFor_0 24 rfl
theorem dX6_wetFor_44 : decode cX6_wetFor 44 = .ok (.getfield 9, 3) := dcO tk_X6_wetFor_0 25 rfl
theorem dX6_wetFor_47 : decode cX6_wetFor 47 = .ok (.iconst 4, 1) := dcO tk_X6_wetFor_0 26 rfl
theorem dX6_wetFor_48 : decode cX6_wetFor 48 = .ok (.iload 6, 2) := dcO tk_X6_wetFor_0 27 rfl
theorem dX6_wetFor_50 : decode cX6_wetFor 50 = .ok (.iastore, 1) := dcO tk_X6_wetFor_0 28 rfl
theorem dX6_wetFor_51 : decode cX6_wetFor 51 = .ok (.aload_n 0, 1) := dcO tk_X6_wetFor_0 29 rfl
theorem dX6_wetFor_52 : decode cX6_wetFor 52 = .ok (.iload_n 1, 1) := dcO tk_X6_wetFor_0 30 rfl
theorem dX6_wetFor_53 : decode cX6_wetFor 53 = .ok (.iload_n 2, 1) := dcO tk_X6_wetFor_0 31 rfl
theorem dX6_wetFor_54 : decode cX6_wetFor 54 = .ok (.invokevirtual 161, 3) := dcO tk_X6_wetFor_0 32 rfl
theorem dX6_wetFor_57 : decode cX6_wetFor 57 = .ok (.istore 7, 2) := dcO tk_X6_wetFor_0 33 rfl
theorem dX6_wetFor_59 : decode cX6_wetFor 59 = .ok (.iload 7, 2) := dcO tk_X6_wetFor_0 34 rfl
theorem dX6_wetFor_61 : decode cX6_wetFor 61 = .ok (.ifCond .lt 19, 3) := dcO tk_X6_wetFor_0 35 rfl
theorem dX6_wetFor_64 : decode cX6_wetFor 64 = .ok (.iload 4, 2) := dcO tk_X6_wetFor_0 36 rfl
theorem dX6_wetFor_66 : decode cX6_wetFor 66 = .ok (.ifCond .lt 10, 3) := dcO tk_X6_wetFor_0 37 rfl
theorem dX6_wetFor_69 : decode cX6_wetFor 69 = .ok (.iload 7, 2) := dcO tk_X6_wetFor_0 38 rfl
theorem dX6_wetFor_71 : decode cX6_wetFor 71 = .ok (.iload 5, 2) := dcO tk_X6_wetFor_0 39 rfl
abbrev tb_X6_wetFor_1 : List (Nat × Instr × Nat) := [(73, .if_icmp .ge 7, 3), (76, .iconst 1, 1), (77, .goto 4, 3), (80, .iconst 0, 1), (81, .istore 8, 2), (83, .iload 8, 2), (85, .ifCond .eq 8, 3), (88, .iload 6, 2), (90, .goto 5, 3), (93, .iload 4, 2), (95, .istore 4, 2), (97, .iload 8, 2), (99, .ifCond .eq 8, 3), (102, .iload 7, 2), (104, .goto 5, 3), (107, .iload 5, 2), (109, .istore 5, 2), (111, .iinc 6 1, 3), (114, .goto (-78), 3), (117, .aload_n 0, 1), (118, .getfield 9, 3), (121, .iconst 4, 1), (122, .iload_n 3, 1), (123, .iastore, 1), (124, .iload 4, 2), (126, .ifCond .ge 11, 3), (129, .aload_n 0, 1), (130, .iconst 3, 1), (131, .invokevirtual 125, 3), (134, .goto 5, 3), (137, .iload 4, 2), (139, .ireturn, 1)]
theorem tk_X6_wetFor_1 : dcA cX6_wetFor tb_X6_wetFor_1 = true := by decide +kernel
theorem dX6_wetFor_73 : decode cX6_wetFor 73 = .ok (.if_icmp .ge 7, 3) := dcO tk_X6_wetFor_1 0 rfl
theorem dX6_wetFor_76 : decode cX6_wetFor 76 = .ok (.iconst 1, 1) := dcO tk_X6_wetFor_1 1 rfl
theorem dX6_wetFor_77 : decode cX6_wetFor 77 = .ok (.goto 4, 3) := dcO tk_X6_wetFor_1 2 rfl
theorem dX6_wetFor_80 : decode cX6_wetFor 80 = .ok (.iconst 0, 1) := dcO tk_X6_wetFor_1 3 rfl
theorem dX6_wetFor_81 : decode cX6_wetFor 81 = .ok (.istore 8, 2) := dcO tk_X6_wetFor_1 4 rfl
theorem dX6_wetFor_83 : decode cX6_wetFor 83 = .ok (.iload 8, 2) := dcO tk_X6_wetFor_1 5 rfl
theorem dX6_wetFor_85 : decode cX6_wetFor 85 = .ok (.ifCond .eq 8, 3) := dcO tk_X6_wetFor_1 6 rfl
theorem dX6_wetFor_88 : decode cX6_wetFor 88 = .ok (.iload 6, 2) := dcO tk_X6_wetFor_1 7 rfl
theorem dX6_wetFor_90 : decode cX6_wetFor 90 = .ok (.goto 5, 3) := dcO tk_X6_wetFor_1 8 rfl
theorem dX6_wetFor_93 : decode cX6_wetFor 93 = .ok (.iload 4, 2) := dcO tk_X6_wetFor_1 9 rfl
theorem dX6_wetFor_95 : decode cX6_wetFor 95 = .ok (.istore 4, 2) := dcO tk_X6_wetFor_1 10 rfl
theorem dX6_wetFor_97 : decode cX6_wetFor 97 = .ok (.iload 8, 2) := dcO tk_X6_wetFor_1 11 rfl
theorem dX6_wetFor_99 : decode cX6_wetFor 99 = .ok (.ifCond .eq 8, 3) := dcO tk_X6_wetFor_1 12 rfl
theorem dX6_wetFor_102 : decode cX6_wetFor 102 = .ok (.iload 7, 2) := dcO tk_X6_wetFor_1 13 rfl
theorem dX6_wetFor_104 : decode cX6_wetFor 104 = .ok (.goto 5, 3) := dcO tk_X6_wetFor_1 14 rfl
theorem dX6_wetFor_107 : decode cX6_wetFor 107 = .ok (.iload 5, 2) := dcO tk_X6_wetFor_1 15 rfl
theorem dX6_wetFor_109 : decode cX6_wetFor 109 = .ok (.istore 5, 2) := dcO tk_X6_wetFor_1 16 rfl
theorem dX6_wetFor_111 : decode cX6_wetFor 111 = .ok (.iinc 6 1, 3) := dcO tk_X6_wetFor_1 17 rfl
theorem dX6_wetFor_114 : decode cX6_wetFor 114 = .ok (.goto (-78), 3) := dcO tk_X6_wetFor_1 18 rfl
theorem dX6_wetFor_117 : decode cX6_wetFor 117 = .ok (.aload_n 0, 1) := dcO tk_X6_wetFor_1 19 rfl
theorem dX6_wetFor_118 : decode cX6_wetFor 118 = .ok (.getfield 9, 3) := dcO tk_X6_wetFor_1 20 rfl
theorem dX6_wetFor_121 : decode cX6_wetFor 121 = .ok (.iconst 4, 1) := dcO tk_X6_wetFor_1 21 rfl
theorem dX6_wetFor_122 : decode cX6_wetFor 122 = .ok (.iload_n 3, 1) := dcO tk_X6_wetFor_1 22 rfl
theorem dX6_wetFor_123 : decode cX6_wetFor 123 = .ok (.iastore, 1) := dcO tk_X6_wetFor_1 23 rfl
theorem dX6_wetFor_124 : decode cX6_wetFor 124 = .ok (.iload 4, 2) := dcO tk_X6_wetFor_1 24 rfl
theorem dX6_wetFor_126 : decode cX6_wetFor 126 = .ok (.ifCond .ge 11, 3) := dcO tk_X6_wetFor_1 25 rfl
theorem dX6_wetFor_129 : decode cX6_wetFor 129 = .ok (.aload_n 0, 1) := dcO tk_X6_wetFor_1 26 rfl
theorem dX6_wetFor_130 : decode cX6_wetFor 130 = .ok (.iconst 3, 1) := dcO tk_X6_wetFor_1 27 rfl
theorem dX6_wetFor_131 : decode cX6_wetFor 131 = .ok (.invokevirtual 125, 3) := dcO tk_X6_wetFor_1 28 rfl
theorem dX6_wetFor_134 : decode cX6_wetFor 134 = .ok (.goto 5, 3) := dcO tk_X6_wetFor_1 29 rfl
theorem dX6_wetFor_137 : decode cX6_wetFor 137 = .ok (.iload 4, 2) := dcO tk_X6_wetFor_1 30 rfl
theorem dX6_wetFor_139 : decode cX6_wetFor 139 = .ok (.ireturn, 1) := dcO tk_X6_wetFor_1 31 rfl
abbrev tb_X6_thereBy_0 : List (Nat × Instr × Nat) := [(0, .aload_n 0, 1), (1, .invokevirtual 155, 3), (4, .aload_n 0, 1), (5, .invokevirtual 112, 3), (8, .iconst 0, 1), (9, .istore_n 3, 1), (10, .iload_n 3, 1), (11, .iload_n 2, 1), (12, .if_icmp .gt 25, 3), (15, .aload_n 0, 1), (16, .iload_n 1, 1), (17, .invokevirtual 143, 3), (20, .ifCond .ne 17, 3), (23, .aload_n 0, 1), (24, .aload_n 0, 1), (25, .invokevirtual 115, 3), (28, .invokevirtual 119, 3), (31, .iinc 3 1, 3), (34, .goto (-24), 3), (37, .aload_n 0, 1), (38, .invokevirtual 158, 3), (41, .iload_n 3, 1), (42, .iload_n 2, 1), (43, .if_icmp .gt 7, 3), (46, .iload_n 3, 1), (47, .goto 4, 3), (50, .iconst (-1), 1), (51, .ireturn, 1)]
theorem tk_X6_thereBy_0 : dcA cX6_thereBy tb_X6_thereBy_0 = true := by decide +kernel
theorem dX6_thereBy_0 : decode cX6_thereBy 0 = .ok (.aload_n 0, 1) := dcO tk_X6_thereBy_0 0 rfl
theorem dX6_thereBy_1 : decode cX6_thereBy 1 = .ok (.invokevirtual 155, 3) := dcO tk_X6_thereBy_0 1 rfl
theorem dX6_thereBy_4 : decode cX6_thereBy 4 = .ok (.aload_n 0, 1) := dcO tk_X6_thereBy_0 2 rfl
theorem dX6_thereBy_5 : decode cX6_thereBy 5 = .ok (.invokevirtual 112, 3) := dcO tk_X6_thereBy_0 3 rfl
theorem dX6_thereBy_8 : decode cX6_thereBy 8 = .ok (.iconst 0, 1) := dcO tk_X6_thereBy_0 4 rfl
theorem dX6_thereBy_9 : decode cX6_thereBy 9 = .ok (.istore_n 3, 1) := dcO tk_X6_thereBy_0 5 rfl
theorem dX6_thereBy_10 : decode cX6_thereBy 10 = .ok (.iload_n 3, 1) := dcO tk_X6_thereBy_0 6 rfl
theorem dX6_thereBy_11 : decode cX6_thereBy 11 = .ok (.iload_n 2, 1) := dcO tk_X6_thereBy_0 7 rfl
theorem dX6_thereBy_12 : decode cX6_thereBy 12 = .ok (.if_icmp .gt 25, 3) := dcO tk_X6_thereBy_0 8 rfl
theorem dX6_thereBy_15 : decode cX6_thereBy 15 = .ok (.aload_n 0, 1) := dcO tk_X6_thereBy_0 9 rfl
theorem dX6_thereBy_16 : decode cX6_thereBy 16 = .ok (.iload_n 1, 1) := dcO tk_X6_thereBy_0 10 rfl
theorem dX6_thereBy_17 : decode cX6_thereBy 17 = .ok (.invokevirtual 143, 3) := dcO tk_X6_thereBy_0 11 rfl
theorem dX6_thereBy_20 : decode cX6_thereBy 20 = .ok (.ifCond .ne 17, 3) := dcO tk_X6_thereBy_0 12 rfl
theorem dX6_thereBy_23 : decode cX6_thereBy 23 = .ok (.aload_n 0, 1) := dcO tk_X6_thereBy_0 13 rfl
theorem dX6_thereBy_24 : decode cX6_thereBy 24 = .ok (.aload_n 0, 1) := dcO tk_X6_thereBy_0 14 rfl
theorem dX6_thereBy_25 : decode cX6_thereBy 25 = .ok (.invokevirtual 115, 3) := dcO tk_X6_thereBy_0 15 rfl
theorem dX6_thereBy_28 : decode cX6_thereBy 28 = .ok (.invokevirtual 119, 3) := dcO tk_X6_thereBy_0 16 rfl
theorem dX6_thereBy_31 : decode cX6_thereBy 31 = .ok (.iinc 3 1, 3) := dcO tk_X6_thereBy_0 17 rfl
theorem dX6_thereBy_34 : decode cX6_thereBy 34 = .ok (.goto (-24), 3) := dcO tk_X6_thereBy_0 18 rfl
theorem dX6_thereBy_37 : decode cX6_thereBy 37 = .ok (.aload_n 0, 1) := dcO tk_X6_thereBy_0 19 rfl
theorem dX6_thereBy_38 : decode cX6_thereBy 38 = .ok (.invokevirtual 158, 3) := dcO tk_X6_thereBy_0 20 rfl
theorem dX6_thereBy_41 : decode cX6_thereBy 41 = .ok (.iload_n 3, 1) := dcO tk_X6_thereBy_0 21 rfl
theorem dX6_thereBy_42 : decode cX6_thereBy 42 = .ok (.iload_n 2, 1) := dcO tk_X6_thereBy_0 22 rfl
theorem dX6_thereBy_43 : decode cX6_thereBy 43 = .ok (.if_icmp .gt 7, 3) := dcO tk_X6_thereBy_0 23 rfl
theorem dX6_thereBy_46 : decode cX6_thereBy 46 = .ok (.iload_n 3, 1) := dcO tk_X6_thereBy_0 24 rfl
theorem dX6_thereBy_47 : decode cX6_thereBy 47 = .ok (.goto 4, 3) := dcO tk_X6_thereBy_0 25 rfl
theorem dX6_thereBy_50 : decode cX6_thereBy 50 = .ok (.iconst (-1), 1) := dcO tk_X6_thereBy_0 26 rfl
theorem dX6_thereBy_51 : decode cX6_thereBy 51 = .ok (.ireturn, 1) := dcO tk_X6_thereBy_0 27 rfl
abbrev tb_X6_comes_0 : List (Nat × Instr × Nat) := [(0, .aload_n 0, 1), (1, .iload_n 1, 1), (2, .invokevirtual 131, 3), (5, .ifCond .ne 9, 3), (8, .aload_n 0, 1), (9, .iconst 0, 1), (10, .invokevirtual 125, 3), (13, .ireturn, 1), (14, .aload_n 0, 1), (15, .iload_n 1, 1), (16, .bipush 100, 2), (18, .invokevirtual 164, 3), (21, .istore_n 2, 1), (22, .iload_n 2, 1), (23, .ifCond .ge 11, 3), (26, .aload_n 0, 1), (27, .iconst 3, 1), (28, .invokevirtual 125, 3), (31, .goto 4, 3), (34, .iload_n 2, 1), (35, .ireturn, 1)]
theorem tk_X6_comes_0 : dcA cX6_comes tb_X6_comes_0 = true := by decide +kernel
theorem dX6_comes_0 : decode cX6_comes 0 = .ok (.aload_n 0, 1) := dcO tk_X6_comes_0 0 rfl
theorem dX6_comes_1 : decode cX6_comes 1 = .ok (.iload_n 1, 1) := dcO tk_X6_comes_0 1 rfl
theorem dX6_comes_2 : decode cX6_comes 2 = .ok (.invokevirtual 131, 3) := dcO tk_X6_comes_0 2 rfl
theorem dX6_comes_5 : decode cX6_comes 5 = .ok (.ifCond .ne 9, 3) := dcO tk_X6_comes_0 3 rfl
theorem dX6_comes_8 : decode cX6_comes 8 = .ok (.aload_n 0, 1) := dcO tk_X6_comes_0 4 rfl
theorem dX6_comes_9 : decode cX6_comes 9 = .ok (.iconst 0, 1) := dcO tk_X6_comes_0 5 rfl
theorem dX6_comes_10 : decode cX6_comes 10 = .ok (.invokevirtual 125, 3) := dcO tk_X6_comes_0 6 rfl
theorem dX6_comes_13 : decode cX6_comes 13 = .ok (.ireturn, 1) := dcO tk_X6_comes_0 7 rfl
theorem dX6_comes_14 : decode cX6_comes 14 = .ok (.aload_n 0, 1) := dcO tk_X6_comes_0 8 rfl
theorem dX6_comes_15 : decode cX6_comes 15 = .ok (.iload_n 1, 1) := dcO tk_X6_comes_0 9 rfl
theorem dX6_comes_16 : decode cX6_comes 16 = .ok (.bipush 100, 2) := dcO tk_X6_comes_0 10 rfl
theorem dX6_comes_18 : decode cX6_comes 18 = .ok (.invokevirtual 164, 3) := dcO tk_X6_comes_0 11 rfl
theorem dX6_comes_21 : decode cX6_comes 21 = .ok (.istore_n 2, 1) := dcO tk_X6_comes_0 12 rfl
theorem dX6_comes_22 : decode cX6_comes 22 = .ok (.iload_n 2, 1) := dcO tk_X6_comes_0 13 rfl
theorem dX6_comes_23 : decode cX6_comes 23 = .ok (.ifCond .ge 11, 3) := dcO tk_X6_comes_0 14 rfl
theorem dX6_comes_26 : decode cX6_comes 26 = .ok (.aload_n 0, 1) := dcO tk_X6_comes_0 15 rfl
theorem dX6_comes_27 : decode cX6_comes 27 = .ok (.iconst 3, 1) := dcO tk_X6_comes_0 16 rfl
theorem dX6_comes_28 : decode cX6_comes 28 = .ok (.invokevirtual 125, 3) := dcO tk_X6_comes_0 17 rfl
theorem dX6_comes_31 : decode cX6_comes 31 = .ok (.goto 4, 3) := dcO tk_X6_comes_0 18 rfl
theorem dX6_comes_34 : decode cX6_comes 34 = .ok (.iload_n 2, 1) := dcO tk_X6_comes_0 19 rfl
theorem dX6_comes_35 : decode cX6_comes 35 = .ok (.ireturn, 1) := dcO tk_X6_comes_0 20 rfl
abbrev tb_X6_kindFor_0 : List (Nat × Instr × Nat) := [(0, .aload_n 0, 1), (1, .iload_n 1, 1), (2, .invokevirtual 131, 3), (5, .ifCond .ne 9, 3), (8, .aload_n 0, 1), (9, .iconst 0, 1), (10, .invokevirtual 125, 3), (13, .ireturn, 1), (14, .aload_n 0, 1), (15, .iload_n 1, 1), (16, .iconst 0, 1), (17, .invokevirtual 76, 3), (20, .istore_n 2, 1), (21, .iconst (-1), 1), (22, .istore_n 3, 1), (23, .iconst 0, 1), (24, .istore 4, 2), (26, .iconst 0, 1), (27, .istore 5, 2), (29, .iload 5, 2), (31, .bipush 6, 2), (33, .if_icmp .gt 75, 3), (36, .aload_n 0, 1), (37, .iload_n 1, 1), (38, .iconst 0, 1), (39, .iload 5, 2), (41, .invokevirtual 97, 3), (44, .aload_n 0, 1), (45, .iload_n 1, 1), (46, .bipush 100, 2), (48, .invokevirtual 164, 3), (51, .istore 6, 2), (53, .iload 6, 2), (55, .ifCond .lt 18, 3), (58, .iload_n 3, 1), (59, .ifCond .lt 10, 3), (62, .iload 6, 2), (64, .iload 4, 2), (66, .if_icmp .ge 7, 3), (69, .iconst 1, 1)]
theorem tk_X6_kindFor_0 : dcA cX6_kindFor tb_X6_kindFor_0 = true := by decide +kernel
theorem dX6_kindFor_0 : decode cX6_kindFor 0 = .ok (.aload_n 0, 1) := dcO tk_X6_kindFor_0 0 rfl
theorem dX6_kindFor_1 : decode cX6_kindFor 1 = .ok (.iload_n 1, 1) := dcO tk_X6_kindFor_0 1 rfl
theorem dX6_kindFor_2 : decode cX6_kindFor 2 = .ok (.invokevirtual 131, 3) := dcO tk_X6_kindFor_0 2 rfl
theorem dX6_kindFor_5 : decode cX6_kindFor 5 = .ok (.ifCond .ne 9, 3) := dcO tk_X6_kindFor_0 3 rfl
theorem dX6_kindFor_8 : decode cX6_kindFor 8 = .ok (.aload_n 0, 1) := dcO tk_X6_kindFor_0 4 rfl
theorem dX6_kindFor_9 : decode cX6_kindFor 9 = .ok (.iconst 0, 1) := dcO tk_X6_kindFor_0 5 rfl
theorem dX6_kindFor_10 : decode cX6_kindFor 10 = .ok (.invokevirtual 125, 3) := dcO tk_X6_kindFor_0 6 rfl
theorem dX6_kindFor_13 : decode cX6_kindFor 13 = .ok (.ireturn, 1) := dcO tk_X6_kindFor_0 7 rfl
theorem dX6_kindFor_14 : decode cX6_kindFor 14 = .ok (.aload_n 0, 1) := dcO tk_X6_kindFor_0 8 rfl
theorem dX6_kindFor_15 : decode cX6_kindFor 15 = .ok (.iload_n 1, 1) := dcO tk_X6_kindFor_0 9 rfl
theorem dX6_kindFor_16 : decode cX6_kindFor 16 = .ok (.iconst 0, 1) := dcO tk_X6_kindFor_0 10 rfl
theorem dX6_kindFor_17 : decode cX6_kindFor 17 = .ok (.invokevirtual 76, 3) := dcO tk_X6_kindFor_0 11 rfl
theorem dX6_kindFor_20 : decode cX6_kindFor 20 = .ok (.istore_n 2, 1) := dcO tk_X6_kindFor_0 12 rfl
theorem dX6_kindFor_21 : decode cX6_kindFor 21 = .ok (.iconst (-1), 1) := dcO tk_X6_kindFor_0 13 rfl
theorem dX6_kindFor_22 : decode cX6_kindFor 22 = .ok (.istore_n 3, 1) := dcO tk_X6_kindFor_0 14 rfl
theorem dX6_kindFor_23 : decode cX6_kindFor 23 = .ok (.iconst 0, 1) := dcO tk_X6_kindFor_0 15 rfl
theorem dX6_kindFor_24 : decode cX6_kindFor 24 = .ok (.istore 4, 2) := dcO tk_X6_kindFor_0 16 rfl
theorem dX6_kindFor_26 : decode cX6_kindFor 26 = .ok (.iconst 0, 1) := dcO tk_X6_kindFor_0 17 rfl
theorem dX6_kindFor_27 : decode cX6_kindFor 27 = .ok (.istore 5, 2) := dcO tk_X6_kindFor_0 18 rfl
theorem dX6_kindFor_29 : decode cX6_kindFor 29 = .ok (.iload 5, 2) := dcO tk_X6_kindFor_0 19 rfl
theorem dX6_kindFor_31 : decode cX6_kindFor 31 = .ok (.bipush 6, 2) := dcO tk_X6_kindFor_0 20 rfl
theorem dX6_kindFor_33 : decode cX6_kindFor 33 = .ok (.if_icmp .gt 75, 3) := dcO tk_X6_kindFor_0 21 rfl
theorem dX6_kindFor_36 : decode cX6_kindFor 36 = .ok (.aload_n 0, 1) := dcO tk_X6_kindFor_0 22 rfl
theorem dX6_kindFor_37 : decode cX6_kindFor 37 = .ok (.iload_n 1, 1) := dcO tk_X6_kindFor_0 23 rfl
theorem dX6_kindFor_38 : decode cX6_kindFor 38 = .ok (.iconst 0, 1) := dcO tk_X6_kindFor_0 24 rfl
theorem dX6_kindFor_39 : decode cX6_kindFor 39 = .ok (.iload 5, 2) := dcO tk_X6_kindFor_0 25 rfl
theorem dX6_kindFor_41 : decode cX6_kindFor 41 = .ok (.invokevirtual 97, 3) := dcO tk_X6_kindFor_0 26 rfl
theorem dX6_kindFor_44 : decode cX6_kindFor 44 = .ok (.aload_n 0, 1) := dcO tk_X6_kindFor_0 27 rfl
theorem dX6_kindFor_45 : decode cX6_kindFor 45 = .ok (.iload_n 1, 1) := dcO tk_X6_kindFor_0 28 rfl
theorem dX6_kindFor_46 : decode cX6_kindFor 46 = .ok (.bipush 100, 2) := dcO tk_X6_kindFor_0 29 rfl
theorem dX6_kindFor_48 : decode cX6_kindFor 48 = .ok (.invokevirtual 164, 3) := dcO tk_X6_kindFor_0 30 rfl
theorem dX6_kindFor_51 : decode cX6_kindFor 51 = .ok (.istore 6, 2) := dcO tk_X6_kindFor_0 31 rfl
theorem dX6_kindFor_53 : decode cX6_kindFor 53 = .ok (.iload 6, 2) := dcO tk_X6_kindFor_0 32 rfl
theorem dX6_kindFor_55 : decode cX6_kindFor 55 = .ok (.ifCond .lt 18, 3) := dcO tk_X6_kindFor_0 33 rfl
theorem dX6_kindFor_58 : decode cX6_kindFor 58 = .ok (.iload_n 3, 1) := dcO tk_X6_kindFor_0 34 rfl
theorem dX6_kindFor_59 : decode cX6_kindFor 59 = .ok (.ifCond .lt 10, 3) := dcO tk_X6_kindFor_0 35 rfl
theorem dX6_kindFor_62 : decode cX6_kindFor 62 = .ok (.iload 6, 2) := dcO tk_X6_kindFor_0 36 rfl
theorem dX6_kindFor_64 : decode cX6_kindFor 64 = .ok (.iload 4, 2) := dcO tk_X6_kindFor_0 37 rfl
theorem dX6_kindFor_66 : decode cX6_kindFor 66 = .ok (.if_icmp .ge 7, 3) := dcO tk_X6_kindFor_0 38 rfl
theorem dX6_kindFor_69 : decode cX6_kindFor 69 = .ok (.iconst 1, 1) := dcO tk_X6_kindFor_0 39 rfl
abbrev tb_X6_kindFor_1 : List (Nat × Instr × Nat) := [(70, .goto 4, 3), (73, .iconst 0, 1), (74, .istore 7, 2), (76, .iload 7, 2), (78, .ifCond .eq 8, 3), (81, .iload 5, 2), (83, .goto 4, 3), (86, .iload_n 3, 1), (87, .istore_n 3, 1), (88, .iload 7, 2), (90, .ifCond .eq 8, 3), (93, .iload 6, 2), (95, .goto 5, 3), (98, .iload 4, 2), (100, .istore 4, 2), (102, .iinc 5 1, 3), (105, .goto (-76), 3), (108, .aload_n 0, 1), (109, .iload_n 1, 1), (110, .iconst 0, 1), (111, .iload_n 2, 1), (112, .invokevirtual 97, 3), (115, .iload_n 3, 1), (116, .ifCond .ge 11, 3), (119, .aload_n 0, 1), (120, .iconst 3, 1), (121, .invokevirtual 125, 3), (124, .goto 4, 3), (127, .iload_n 3, 1), (128, .ireturn, 1)]
theorem tk_X6_kindFor_1 : dcA cX6_kindFor tb_X6_kindFor_1 = true := by decide +kernel
theorem dX6_kindFor_70 : decode cX6_kindFor 70 = .ok (.goto 4, 3) := dcO tk_X6_kindFor_1 0 rfl
theorem dX6_kindFor_73 : decode cX6_kindFor 73 = .ok (.iconst 0, 1) := dcO tk_X6_kindFor_1 1 rfl
theorem dX6_kindFor_74 : decode cX6_kindFor 74 = .ok (.istore 7, 2) := dcO tk_X6_kindFor_1 2 rfl
theorem dX6_kindFor_76 : decode cX6_kindFor 76 = .ok (.iload 7, 2) := dcO tk_X6_kindFor_1 3 rfl
theorem dX6_kindFor_78 : decode cX6_kindFor 78 = .ok (.ifCond .eq 8, 3) := dcO tk_X6_kindFor_1 4 rfl
theorem dX6_kindFor_81 : decode cX6_kindFor 81 = .ok (.iload 5, 2) := dcO tk_X6_kindFor_1 5 rfl
theorem dX6_kindFor_83 : decode cX6_kindFor 83 = .ok (.goto 4, 3) := dcO tk_X6_kindFor_1 6 rfl
theorem dX6_kindFor_86 : decode cX6_kindFor 86 = .ok (.iload_n 3, 1) := dcO tk_X6_kindFor_1 7 rfl
theorem dX6_kindFor_87 : decode cX6_kindFor 87 = .ok (.istore_n 3, 1) := dcO tk_X6_kindFor_1 8 rfl
theorem dX6_kindFor_88 : decode cX6_kindFor 88 = .ok (.iload 7, 2) := dcO tk_X6_kindFor_1 9 rfl
theorem dX6_kindFor_90 : decode cX6_kindFor 90 = .ok (.ifCond .eq 8, 3) := dcO tk_X6_kindFor_1 10 rfl
theorem dX6_kindFor_93 : decode cX6_kindFor 93 = .ok (.iload 6, 2) := dcO tk_X6_kindFor_1 11 rfl
theorem dX6_kindFor_95 : decode cX6_kindFor 95 = .ok (.goto 5, 3) := dcO tk_X6_kindFor_1 12 rfl
theorem dX6_kindFor_98 : decode cX6_kindFor 98 = .ok (.iload 4, 2) := dcO tk_X6_kindFor_1 13 rfl
theorem dX6_kindFor_100 : decode cX6_kindFor 100 = .ok (.istore 4, 2) := dcO tk_X6_kindFor_1 14 rfl
theorem dX6_kindFor_102 : decode cX6_kindFor 102 = .ok (.iinc 5 1, 3) := dcO tk_X6_kindFor_1 15 rfl
theorem dX6_kindFor_105 : decode cX6_kindFor 105 = .ok (.goto (-76), 3) := dcO tk_X6_kindFor_1 16 rfl
theorem dX6_kindFor_108 : decode cX6_kindFor 108 = .ok (.aload_n 0, 1) := dcO tk_X6_kindFor_1 17 rfl
theorem dX6_kindFor_109 : decode cX6_kindFor 109 = .ok (.iload_n 1, 1) := dcO tk_X6_kindFor_1 18 rfl
theorem dX6_kindFor_110 : decode cX6_kindFor 110 = .ok (.iconst 0, 1) := dcO tk_X6_kindFor_1 19 rfl
theorem dX6_kindFor_111 : decode cX6_kindFor 111 = .ok (.iload_n 2, 1) := dcO tk_X6_kindFor_1 20 rfl
theorem dX6_kindFor_112 : decode cX6_kindFor 112 = .ok (.invokevirtual 97, 3) := dcO tk_X6_kindFor_1 21 rfl
theorem dX6_kindFor_115 : decode cX6_kindFor 115 = .ok (.iload_n 3, 1) := dcO tk_X6_kindFor_1 22 rfl
theorem dX6_kindFor_116 : decode cX6_kindFor 116 = .ok (.ifCond .ge 11, 3) := dcO tk_X6_kindFor_1 23 rfl
theorem dX6_kindFor_119 : decode cX6_kindFor 119 = .ok (.aload_n 0, 1) := dcO tk_X6_kindFor_1 24 rfl
theorem dX6_kindFor_120 : decode cX6_kindFor 120 = .ok (.iconst 3, 1) := dcO tk_X6_kindFor_1 25 rfl
theorem dX6_kindFor_121 : decode cX6_kindFor 121 = .ok (.invokevirtual 125, 3) := dcO tk_X6_kindFor_1 26 rfl
theorem dX6_kindFor_124 : decode cX6_kindFor 124 = .ok (.goto 4, 3) := dcO tk_X6_kindFor_1 27 rfl
theorem dX6_kindFor_127 : decode cX6_kindFor 127 = .ok (.iload_n 3, 1) := dcO tk_X6_kindFor_1 28 rfl
theorem dX6_kindFor_128 : decode cX6_kindFor 128 = .ok (.ireturn, 1) := dcO tk_X6_kindFor_1 29 rfl
abbrev tb_X6_overtakes_0 : List (Nat × Instr × Nat) := [(0, .aload_n 0, 1), (1, .iload_n 1, 1), (2, .invokevirtual 131, 3), (5, .ifCond .eq 16, 3), (8, .aload_n 0, 1), (9, .iload_n 2, 1), (10, .invokevirtual 131, 3), (13, .ifCond .eq 8, 3), (16, .iload_n 1, 1), (17, .iload_n 2, 1), (18, .if_icmp .ne 9, 3), (21, .aload_n 0, 1), (22, .iconst 0, 1), (23, .invokevirtual 125, 3), (26, .ireturn, 1), (27, .aload_n 0, 1), (28, .invokevirtual 155, 3), (31, .aload_n 0, 1), (32, .invokevirtual 112, 3), (35, .iconst 0, 1), (36, .istore_n 3, 1), (37, .iload_n 3, 1), (38, .bipush 100, 2), (40, .if_icmp .gt 42, 3), (43, .aload_n 0, 1), (44, .iload_n 2, 1), (45, .aload_n 0, 1), (46, .iload_n 1, 1), (47, .iconst 1, 1), (48, .invokevirtual 76, 3), (51, .invokevirtual 84, 3), (54, .aload_n 0, 1), (55, .iload_n 2, 1), (56, .aload_n 0, 1), (57, .iload_n 2, 1), (58, .iconst 1, 1), (59, .invokevirtual 76, 3), (62, .invokevirtual 84, 3), (65, .if_icmp .lt 17, 3), (68, .aload_n 0, 1)]
theorem tk_X6_overtakes_0 : dcA cX6_overtakes tb_X6_overtakes_0 = true := by decide +kernel
theorem dX6_overtakes_0 : decode cX6_overtakes 0 = .ok (.aload_n 0, 1) := dcO tk_X6_overtakes_0 0 rfl
theorem dX6_overtakes_1 : decode cX6_overtakes 1 = .ok (.iload_n 1, 1) := dcO tk_X6_overtakes_0 1 rfl
theorem dX6_overtakes_2 : decode cX6_overtakes 2 = .ok (.invokevirtual 131, 3) := dcO tk_X6_overtakes_0 2 rfl
theorem dX6_overtakes_5 : decode cX6_overtakes 5 = .ok (.ifCond .eq 16, 3) := dcO tk_X6_overtakes_0 3 rfl
theorem dX6_overtakes_8 : decode cX6_overtakes 8 = .ok (.aload_n 0, 1) := dcO tk_X6_overtakes_0 4 rfl
theorem dX6_overtakes_9 : decode cX6_overtakes 9 = .ok (.iload_n 2, 1) := dcO tk_X6_overtakes_0 5 rfl
theorem dX6_overtakes_10 : decode cX6_overtakes 10 = .ok (.invokevirtual 131, 3) := dcO tk_X6_overtakes_0 6 rfl
theorem dX6_overtakes_13 : decode cX6_overtakes 13 = .ok (.ifCond .eq 8, 3) := dcO tk_X6_overtakes_0 7 rfl
theorem dX6_overtakes_16 : decode cX6_overtakes 16 = .ok (.iload_n 1, 1) := dcO tk_X6_overtakes_0 8 rfl
theorem dX6_overtakes_17 : decode cX6_overtakes 17 = .ok (.iload_n 2, 1) := dcO tk_X6_overtakes_0 9 rfl
theorem dX6_overtakes_18 : decode cX6_overtakes 18 = .ok (.if_icmp .ne 9, 3) := dcO tk_X6_overtakes_0 10 rfl
theorem dX6_overtakes_21 : decode cX6_overtakes 21 = .ok (.aload_n 0, 1) := dcO tk_X6_overtakes_0 11 rfl
theorem dX6_overtakes_22 : decode cX6_overtakes 22 = .ok (.iconst 0, 1) := dcO tk_X6_overtakes_0 12 rfl
theorem dX6_overtakes_23 : decode cX6_overtakes 23 = .ok (.invokevirtual 125, 3) := dcO tk_X6_overtakes_0 13 rfl
theorem dX6_overtakes_26 : decode cX6_overtakes 26 = .ok (.ireturn, 1) := dcO tk_X6_overtakes_0 14 rfl
theorem dX6_overtakes_27 : decode cX6_overtakes 27 = .ok (.aload_n 0, 1) := dcO tk_X6_overtakes_0 15 rfl
theorem dX6_overtakes_28 : decode cX6_overtakes 28 = .ok (.invokevirtual 155, 3) := dcO tk_X6_overtakes_0 16 rfl
theorem dX6_overtakes_31 : decode cX6_overtakes 31 = .ok (.aload_n 0, 1) := dcO tk_X6_overtakes_0 17 rfl
theorem dX6_overtakes_32 : decode cX6_overtakes 32 = .ok (.invokevirtual 112, 3) := dcO tk_X6_overtakes_0 18 rfl
theorem dX6_overtakes_35 : decode cX6_overtakes 35 = .ok (.iconst 0, 1) := dcO tk_X6_overtakes_0 19 rfl
theorem dX6_overtakes_36 : decode cX6_overtakes 36 = .ok (.istore_n 3, 1) := dcO tk_X6_overtakes_0 20 rfl
theorem dX6_overtakes_37 : decode cX6_overtakes 37 = .ok (.iload_n 3, 1) := dcO tk_X6_overtakes_0 21 rfl
theorem dX6_overtakes_38 : decode cX6_overtakes 38 = .ok (.bipush 100, 2) := dcO tk_X6_overtakes_0 22 rfl
theorem dX6_overtakes_40 : decode cX6_overtakes 40 = .ok (.if_icmp .gt 42, 3) := dcO tk_X6_overtakes_0 23 rfl
theorem dX6_overtakes_43 : decode cX6_overtakes 43 = .ok (.aload_n 0, 1) := dcO tk_X6_overtakes_0 24 rfl
theorem dX6_overtakes_44 : decode cX6_overtakes 44 = .ok (.iload_n 2, 1) := dcO tk_X6_overtakes_0 25 rfl
theorem dX6_overtakes_45 : decode cX6_overtakes 45 = .ok (.aload_n 0, 1) := dcO tk_X6_overtakes_0 26 rfl
theorem dX6_overtakes_46 : decode cX6_overtakes 46 = .ok (.iload_n 1, 1) := dcO tk_X6_overtakes_0 27 rfl
theorem dX6_overtakes_47 : decode cX6_overtakes 47 = .ok (.iconst 1, 1) := dcO tk_X6_overtakes_0 28 rfl
theorem dX6_overtakes_48 : decode cX6_overtakes 48 = .ok (.invokevirtual 76, 3) := dcO tk_X6_overtakes_0 29 rfl
theorem dX6_overtakes_51 : decode cX6_overtakes 51 = .ok (.invokevirtual 84, 3) := dcO tk_X6_overtakes_0 30 rfl
theorem dX6_overtakes_54 : decode cX6_overtakes 54 = .ok (.aload_n 0, 1) := dcO tk_X6_overtakes_0 31 rfl
theorem dX6_overtakes_55 : decode cX6_overtakes 55 = .ok (.iload_n 2, 1) := dcO tk_X6_overtakes_0 32 rfl
theorem dX6_overtakes_56 : decode cX6_overtakes 56 = .ok (.aload_n 0, 1) := dcO tk_X6_overtakes_0 33 rfl
theorem dX6_overtakes_57 : decode cX6_overtakes 57 = .ok (.iload_n 2, 1) := dcO tk_X6_overtakes_0 34 rfl
theorem dX6_overtakes_58 : decode cX6_overtakes 58 = .ok (.iconst 1, 1) := dcO tk_X6_overtakes_0 35 rfl
theorem dX6_overtakes_59 : decode cX6_overtakes 59 = .ok (.invokevirtual 76, 3) := dcO tk_X6_overtakes_0 36 rfl
theorem dX6_overtakes_62 : decode cX6_overtakes 62 = .ok (.invokevirtual 84, 3) := dcO tk_X6_overtakes_0 37 rfl
theorem dX6_overtakes_65 : decode cX6_overtakes 65 = .ok (.if_icmp .lt 17, 3) := dcO tk_X6_overtakes_0 38 rfl
theorem dX6_overtakes_68 : decode cX6_overtakes 68 = .ok (.aload_n 0, 1) := dcO tk_X6_overtakes_0 39 rfl
abbrev tb_X6_overtakes_1 : List (Nat × Instr × Nat) := [(69, .aload_n 0, 1), (70, .invokevirtual 115, 3), (73, .invokevirtual 119, 3), (76, .iinc 3 1, 3), (79, .goto (-42), 3), (82, .aload_n 0, 1), (83, .invokevirtual 158, 3), (86, .iload_n 3, 1), (87, .bipush 100, 2), (89, .if_icmp .gt 7, 3), (92, .iload_n 3, 1), (93, .goto 8, 3), (96, .aload_n 0, 1), (97, .iconst 3, 1), (98, .invokevirtual 125, 3), (101, .ireturn, 1)]
theorem tk_X6_overtakes_1 : dcA cX6_overtakes tb_X6_overtakes_1 = true := by decide +kernel
theorem dX6_overtakes_69 : decode cX6_overtakes 69 = .ok (.aload_n 0, 1) := dcO tk_X6_overtakes_1 0 rfl
theorem dX6_overtakes_70 : decode cX6_overtakes 70 = .ok (.invokevirtual 115, 3) := dcO tk_X6_overtakes_1 1 rfl
theorem dX6_overtakes_73 : decode cX6_overtakes 73 = .ok (.invokevirtual 119, 3) := dcO tk_X6_overtakes_1 2 rfl
theorem dX6_overtakes_76 : decode cX6_overtakes 76 = .ok (.iinc 3 1, 3) := dcO tk_X6_overtakes_1 3 rfl
theorem dX6_overtakes_79 : decode cX6_overtakes 79 = .ok (.goto (-42), 3) := dcO tk_X6_overtakes_1 4 rfl
theorem dX6_overtakes_82 : decode cX6_overtakes 82 = .ok (.aload_n 0, 1) := dcO tk_X6_overtakes_1 5 rfl
theorem dX6_overtakes_83 : decode cX6_overtakes 83 = .ok (.invokevirtual 158, 3) := dcO tk_X6_overtakes_1 6 rfl
theorem dX6_overtakes_86 : decode cX6_overtakes 86 = .ok (.iload_n 3, 1) := dcO tk_X6_overtakes_1 7 rfl
theorem dX6_overtakes_87 : decode cX6_overtakes 87 = .ok (.bipush 100, 2) := dcO tk_X6_overtakes_1 8 rfl
theorem dX6_overtakes_89 : decode cX6_overtakes 89 = .ok (.if_icmp .gt 7, 3) := dcO tk_X6_overtakes_1 9 rfl
theorem dX6_overtakes_92 : decode cX6_overtakes 92 = .ok (.iload_n 3, 1) := dcO tk_X6_overtakes_1 10 rfl
theorem dX6_overtakes_93 : decode cX6_overtakes 93 = .ok (.goto 8, 3) := dcO tk_X6_overtakes_1 11 rfl
theorem dX6_overtakes_96 : decode cX6_overtakes 96 = .ok (.aload_n 0, 1) := dcO tk_X6_overtakes_1 12 rfl
theorem dX6_overtakes_97 : decode cX6_overtakes 97 = .ok (.iconst 3, 1) := dcO tk_X6_overtakes_1 13 rfl
theorem dX6_overtakes_98 : decode cX6_overtakes 98 = .ok (.invokevirtual 125, 3) := dcO tk_X6_overtakes_1 14 rfl
theorem dX6_overtakes_101 : decode cX6_overtakes 101 = .ok (.ireturn, 1) := dcO tk_X6_overtakes_1 15 rfl
abbrev tb_X6_lag_0 : List (Nat × Instr × Nat) := [(0, .iload_n 1, 1), (1, .invokestatic 134, 3), (4, .ifCond .eq 17, 3), (7, .iload_n 2, 1), (8, .invokestatic 134, 3), (11, .ifCond .eq 10, 3), (14, .iload_n 3, 1), (15, .invokestatic 122, 3), (18, .ifCond .ne 9, 3), (21, .aload_n 0, 1), (22, .iconst 0, 1), (23, .invokevirtual 125, 3), (26, .ireturn, 1), (27, .aload_n 0, 1), (28, .iload_n 1, 1), (29, .iload_n 3, 1), (30, .invokevirtual 161, 3), (33, .istore 4, 2), (35, .aload_n 0, 1), (36, .iload_n 2, 1), (37, .iload_n 3, 1), (38, .invokevirtual 161, 3), (41, .istore 5, 2), (43, .iload 4, 2), (45, .ifCond .lt 8, 3), (48, .iload 5, 2), (50, .ifCond .ge 11, 3), (53, .aload_n 0, 1), (54, .iconst 3, 1), (55, .invokevirtual 125, 3), (58, .goto 8, 3), (61, .iload 4, 2), (63, .iload 5, 2), (65, .isub, 1), (66, .ireturn, 1)]
theorem tk_X6_lag_0 : dcA cX6_lag tb_X6_lag_0 = true := by decide +kernel
theorem dX6_lag_0 : decode cX6_lag 0 = .ok (.iload_n 1, 1) := dcO tk_X6_lag_0 0 rfl
theorem dX6_lag_1 : decode cX6_lag 1 = .ok (.invokestatic 134, 3) := dcO tk_X6_lag_0 1 rfl
theorem dX6_lag_4 : decode cX6_lag 4 = .ok (.ifCond .eq 17, 3) := dcO tk_X6_lag_0 2 rfl
theorem dX6_lag_7 : decode cX6_lag 7 = .ok (.iload_n 2, 1) := dcO tk_X6_lag_0 3 rfl
theorem dX6_lag_8 : decode cX6_lag 8 = .ok (.invokestatic 134, 3) := dcO tk_X6_lag_0 4 rfl
theorem dX6_lag_11 : decode cX6_lag 11 = .ok (.ifCond .eq 10, 3) := dcO tk_X6_lag_0 5 rfl
theorem dX6_lag_14 : decode cX6_lag 14 = .ok (.iload_n 3, 1) := dcO tk_X6_lag_0 6 rfl
theorem dX6_lag_15 : decode cX6_lag 15 = .ok (.invokestatic 122, 3) := dcO tk_X6_lag_0 7 rfl
theorem dX6_lag_18 : decode cX6_lag 18 = .ok (.ifCond .ne 9, 3) := dcO tk_X6_lag_0 8 rfl
theorem dX6_lag_21 : decode cX6_lag 21 = .ok (.aload_n 0, 1) := dcO tk_X6_lag_0 9 rfl
theorem dX6_lag_22 : decode cX6_lag 22 = .ok (.iconst 0, 1) := dcO tk_X6_lag_0 10 rfl
theorem dX6_lag_23 : decode cX6_lag 23 = .ok (.invokevirtual 125, 3) := dcO tk_X6_lag_0 11 rfl
theorem dX6_lag_26 : decode cX6_lag 26 = .ok (.ireturn, 1) := dcO tk_X6_lag_0 12 rfl
theorem dX6_lag_27 : decode cX6_lag 27 = .ok (.aload_n 0, 1) := dcO tk_X6_lag_0 13 rfl
theorem dX6_lag_28 : decode cX6_lag 28 = .ok (.iload_n 1, 1) := dcO tk_X6_lag_0 14 rfl
theorem dX6_lag_29 : decode cX6_lag 29 = .ok (.iload_n 3, 1) := dcO tk_X6_lag_0 15 rfl
theorem dX6_lag_30 : decode cX6_lag 30 = .ok (.invokevirtual 161, 3) := dcO tk_X6_lag_0 16 rfl
theorem dX6_lag_33 : decode cX6_lag 33 = .ok (.istore 4, 2) := dcO tk_X6_lag_0 17 rfl
theorem dX6_lag_35 : decode cX6_lag 35 = .ok (.aload_n 0, 1) := dcO tk_X6_lag_0 18 rfl
theorem dX6_lag_36 : decode cX6_lag 36 = .ok (.iload_n 2, 1) := dcO tk_X6_lag_0 19 rfl
theorem dX6_lag_37 : decode cX6_lag 37 = .ok (.iload_n 3, 1) := dcO tk_X6_lag_0 20 rfl
theorem dX6_lag_38 : decode cX6_lag 38 = .ok (.invokevirtual 161, 3) := dcO tk_X6_lag_0 21 rfl
theorem dX6_lag_41 : decode cX6_lag 41 = .ok (.istore 5, 2) := dcO tk_X6_lag_0 22 rfl
theorem dX6_lag_43 : decode cX6_lag 43 = .ok (.iload 4, 2) := dcO tk_X6_lag_0 23 rfl
theorem dX6_lag_45 : decode cX6_lag 45 = .ok (.ifCond .lt 8, 3) := dcO tk_X6_lag_0 24 rfl
theorem dX6_lag_48 : decode cX6_lag 48 = .ok (.iload 5, 2) := dcO tk_X6_lag_0 25 rfl
theorem dX6_lag_50 : decode cX6_lag 50 = .ok (.ifCond .ge 11, 3) := dcO tk_X6_lag_0 26 rfl
theorem dX6_lag_53 : decode cX6_lag 53 = .ok (.aload_n 0, 1) := dcO tk_X6_lag_0 27 rfl
theorem dX6_lag_54 : decode cX6_lag 54 = .ok (.iconst 3, 1) := dcO tk_X6_lag_0 28 rfl
theorem dX6_lag_55 : decode cX6_lag 55 = .ok (.invokevirtual 125, 3) := dcO tk_X6_lag_0 29 rfl
theorem dX6_lag_58 : decode cX6_lag 58 = .ok (.goto 8, 3) := dcO tk_X6_lag_0 30 rfl
theorem dX6_lag_61 : decode cX6_lag 61 = .ok (.iload 4, 2) := dcO tk_X6_lag_0 31 rfl
theorem dX6_lag_63 : decode cX6_lag 63 = .ok (.iload 5, 2) := dcO tk_X6_lag_0 32 rfl
theorem dX6_lag_65 : decode cX6_lag 65 = .ok (.isub, 1) := dcO tk_X6_lag_0 33 rfl
theorem dX6_lag_66 : decode cX6_lag 66 = .ok (.ireturn, 1) := dcO tk_X6_lag_0 34 rfl
abbrev tb_X6_clash_0 : List (Nat × Instr × Nat) := [(0, .iload_n 1, 1), (1, .iconst 0, 1), (2, .bipush 40, 2), (4, .invokestatic 61, 3), (7, .ifCond .ne 9, 3), (10, .aload_n 0, 1), (11, .iconst 0, 1), (12, .invokevirtual 125, 3), (15, .ireturn, 1), (16, .iconst 0, 1), (17, .istore_n 2, 1), (18, .iload_n 2, 1), (19, .bipush 81, 2), (21, .if_icmp .ge 16, 3), (24, .aload_n 0, 1), (25, .getfield 32, 3), (28, .iload_n 2, 1), (29, .iconst 0, 1), (30, .iastore, 1), (31, .iinc 2 1, 3), (34, .goto (-16), 3), (37, .aload_n 0, 1), (38, .invokevirtual 155, 3), (41, .aload_n 0, 1), (42, .iload_n 1, 1), (43, .invokevirtual 137, 3), (46, .aload_n 0, 1), (47, .invokevirtual 158, 3), (50, .iconst (-1), 1), (51, .istore_n 2, 1), (52, .iconst 0, 1), (53, .istore_n 3, 1), (54, .iconst 0, 1), (55, .istore 4, 2), (57, .iload 4, 2), (59, .bipush 81, 2), (61, .if_icmp .ge 50, 3), (64, .aload_n 0, 1), (65, .getfield 32, 3), (68, .iload 4, 2)]
theorem tk_X6_clash_0 : dcA cX6_clash tb_X6_clash_0 = true := by decide +kernel
theorem dX6_clash_0 : decode cX6_clash 0 = .ok (.iload_n 1, 1) := dcO tk_X6_clash_0 0 rfl
theorem dX6_clash_1 : decode cX6_clash 1 = .ok (.iconst 0, 1) := dcO tk_X6_clash_0 1 rfl
theorem dX6_clash_2 : decode cX6_clash 2 = .ok (.bipush 40, 2) := dcO tk_X6_clash_0 2 rfl
theorem dX6_clash_4 : decode cX6_clash 4 = .ok (.invokestatic 61, 3) := dcO tk_X6_clash_0 3 rfl
theorem dX6_clash_7 : decode cX6_clash 7 = .ok (.ifCond .ne 9, 3) := dcO tk_X6_clash_0 4 rfl
theorem dX6_clash_10 : decode cX6_clash 10 = .ok (.aload_n 0, 1) := dcO tk_X6_clash_0 5 rfl
theorem dX6_clash_11 : decode cX6_clash 11 = .ok (.iconst 0, 1) := dcO tk_X6_clash_0 6 rfl
theorem dX6_clash_12 : decode cX6_clash 12 = .ok (.invokevirtual 125, 3) := dcO tk_X6_clash_0 7 rfl
theorem dX6_clash_15 : decode cX6_clash 15 = .ok (.ireturn, 1) := dcO tk_X6_clash_0 8 rfl
theorem dX6_clash_16 : decode cX6_clash 16 = .ok (.iconst 0, 1) := dcO tk_X6_clash_0 9 rfl
theorem dX6_clash_17 : decode cX6_clash 17 = .ok (.istore_n 2, 1) := dcO tk_X6_clash_0 10 rfl
theorem dX6_clash_18 : decode cX6_clash 18 = .ok (.iload_n 2, 1) := dcO tk_X6_clash_0 11 rfl
theorem dX6_clash_19 : decode cX6_clash 19 = .ok (.bipush 81, 2) := dcO tk_X6_clash_0 12 rfl
theorem dX6_clash_21 : decode cX6_clash 21 = .ok (.if_icmp .ge 16, 3) := dcO tk_X6_clash_0 13 rfl
theorem dX6_clash_24 : decode cX6_clash 24 = .ok (.aload_n 0, 1) := dcO tk_X6_clash_0 14 rfl
theorem dX6_clash_25 : decode cX6_clash 25 = .ok (.getfield 32, 3) := dcO tk_X6_clash_0 15 rfl
theorem dX6_clash_28 : decode cX6_clash 28 = .ok (.iload_n 2, 1) := dcO tk_X6_clash_0 16 rfl
theorem dX6_clash_29 : decode cX6_clash 29 = .ok (.iconst 0, 1) := dcO tk_X6_clash_0 17 rfl
theorem dX6_clash_30 : decode cX6_clash 30 = .ok (.iastore, 1) := dcO tk_X6_clash_0 18 rfl
theorem dX6_clash_31 : decode cX6_clash 31 = .ok (.iinc 2 1, 3) := dcO tk_X6_clash_0 19 rfl
theorem dX6_clash_34 : decode cX6_clash 34 = .ok (.goto (-16), 3) := dcO tk_X6_clash_0 20 rfl
theorem dX6_clash_37 : decode cX6_clash 37 = .ok (.aload_n 0, 1) := dcO tk_X6_clash_0 21 rfl
theorem dX6_clash_38 : decode cX6_clash 38 = .ok (.invokevirtual 155, 3) := dcO tk_X6_clash_0 22 rfl
theorem dX6_clash_41 : decode cX6_clash 41 = .ok (.aload_n 0, 1) := dcO tk_X6_clash_0 23 rfl
theorem dX6_clash_42 : decode cX6_clash 42 = .ok (.iload_n 1, 1) := dcO tk_X6_clash_0 24 rfl
theorem dX6_clash_43 : decode cX6_clash 43 = .ok (.invokevirtual 137, 3) := dcO tk_X6_clash_0 25 rfl
theorem dX6_clash_46 : decode cX6_clash 46 = .ok (.aload_n 0, 1) := dcO tk_X6_clash_0 26 rfl
theorem dX6_clash_47 : decode cX6_clash 47 = .ok (.invokevirtual 158, 3) := dcO tk_X6_clash_0 27 rfl
theorem dX6_clash_50 : decode cX6_clash 50 = .ok (.iconst (-1), 1) := dcO tk_X6_clash_0 28 rfl
theorem dX6_clash_51 : decode cX6_clash 51 = .ok (.istore_n 2, 1) := dcO tk_X6_clash_0 29 rfl
theorem dX6_clash_52 : decode cX6_clash 52 = .ok (.iconst 0, 1) := dcO tk_X6_clash_0 30 rfl
theorem dX6_clash_53 : decode cX6_clash 53 = .ok (.istore_n 3, 1) := dcO tk_X6_clash_0 31 rfl
theorem dX6_clash_54 : decode cX6_clash 54 = .ok (.iconst 0, 1) := dcO tk_X6_clash_0 32 rfl
theorem dX6_clash_55 : decode cX6_clash 55 = .ok (.istore 4, 2) := dcO tk_X6_clash_0 33 rfl
theorem dX6_clash_57 : decode cX6_clash 57 = .ok (.iload 4, 2) := dcO tk_X6_clash_0 34 rfl
theorem dX6_clash_59 : decode cX6_clash 59 = .ok (.bipush 81, 2) := dcO tk_X6_clash_0 35 rfl
theorem dX6_clash_61 : decode cX6_clash 61 = .ok (.if_icmp .ge 50, 3) := dcO tk_X6_clash_0 36 rfl
theorem dX6_clash_64 : decode cX6_clash 64 = .ok (.aload_n 0, 1) := dcO tk_X6_clash_0 37 rfl
theorem dX6_clash_65 : decode cX6_clash 65 = .ok (.getfield 32, 3) := dcO tk_X6_clash_0 38 rfl
theorem dX6_clash_68 : decode cX6_clash 68 = .ok (.iload 4, 2) := dcO tk_X6_clash_0 39 rfl
