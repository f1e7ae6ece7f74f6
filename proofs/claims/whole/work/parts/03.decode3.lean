abbrev tb_X6_clash_1 : List (Nat × Instr × Nat) := [(70, .iaload, 1), (71, .iload_n 3, 1), (72, .if_icmp .le 8, 3), (75, .iload 4, 2), (77, .goto 4, 3), (80, .iload_n 2, 1), (81, .istore_n 2, 1), (82, .aload_n 0, 1), (83, .getfield 32, 3), (86, .iload 4, 2), (88, .iaload, 1), (89, .iload_n 3, 1), (90, .if_icmp .le 13, 3), (93, .aload_n 0, 1), (94, .getfield 32, 3), (97, .iload 4, 2), (99, .iaload, 1), (100, .goto 4, 3), (103, .iload_n 3, 1), (104, .istore_n 3, 1), (105, .iinc 4 1, 3), (108, .goto (-51), 3), (111, .iload_n 2, 1), (112, .ifCond .ge 11, 3), (115, .aload_n 0, 1), (116, .iconst 3, 1), (117, .invokevirtual 125, 3), (120, .goto 4, 3), (123, .iload_n 2, 1), (124, .ireturn, 1)]
theorem tk_X6_clash_1 : dcA cX6_clash tb_X6_clash_1 = true := by decide +kernel
theorem dX6_clash_70 : decode cX6_clash 70 = .ok (.iaload, 1) := dcO tk_X6_clash_1 0 rfl
theorem dX6_clash_71 : decode cX6_clash 71 = .ok (.iload_n 3, 1) := dcO tk_X6_clash_1 1 rfl
theorem dX6_clash_72 : decode cX6_clash 72 = .ok (.if_icmp .le 8, 3) := dcO tk_X6_clash_1 2 rfl
theorem dX6_clash_75 : decode cX6_clash 75 = .ok (.iload 4, 2) := dcO tk_X6_clash_1 3 rfl
theorem dX6_clash_77 : decode cX6_clash 77 = .ok (.goto 4, 3) := dcO tk_X6_clash_1 4 rfl
theorem dX6_clash_80 : decode cX6_clash 80 = .ok (.iload_n 2, 1) := dcO tk_X6_clash_1 5 rfl
theorem dX6_clash_81 : decode cX6_clash 81 = .ok (.istore_n 2, 1) := dcO tk_X6_clash_1 6 rfl
theorem dX6_clash_82 : decode cX6_clash 82 = .ok (.aload_n 0, 1) := dcO tk_X6_clash_1 7 rfl
theorem dX6_clash_83 : decode cX6_clash 83 = .ok (.getfield 32, 3) := dcO tk_X6_clash_1 8 rfl
theorem dX6_clash_86 : decode cX6_clash 86 = .ok (.iload 4, 2) := dcO tk_X6_clash_1 9 rfl
theorem dX6_clash_88 : decode cX6_clash 88 = .ok (.iaload, 1) := dcO tk_X6_clash_1 10 rfl
theorem dX6_clash_89 : decode cX6_clash 89 = .ok (.iload_n 3, 1) := dcO tk_X6_clash_1 11 rfl
theorem dX6_clash_90 : decode cX6_clash 90 = .ok (.if_icmp .le 13, 3) := dcO tk_X6_clash_1 12 rfl
theorem dX6_clash_93 : decode cX6_clash 93 = .ok (.aload_n 0, 1) := dcO tk_X6_clash_1 13 rfl
theorem dX6_clash_94 : decode cX6_clash 94 = .ok (.getfield 32, 3) := dcO tk_X6_clash_1 14 rfl
theorem dX6_clash_97 : decode cX6_clash 97 = .ok (.iload 4, 2) := dcO tk_X6_clash_1 15 rfl
theorem dX6_clash_99 : decode cX6_clash 99 = .ok (.iaload, 1) := dcO tk_X6_clash_1 16 rfl
theorem dX6_clash_100 : decode cX6_clash 100 = .ok (.goto 4, 3) := dcO tk_X6_clash_1 17 rfl
theorem dX6_clash_103 : decode cX6_clash 103 = .ok (.iload_n 3, 1) := dcO tk_X6_clash_1 18 rfl
theorem dX6_clash_104 : decode cX6_clash 104 = .ok (.istore_n 3, 1) := dcO tk_X6_clash_1 19 rfl
theorem dX6_clash_105 : decode cX6_clash 105 = .ok (.iinc 4 1, 3) := dcO tk_X6_clash_1 20 rfl
theorem dX6_clash_108 : decode cX6_clash 108 = .ok (.goto (-51), 3) := dcO tk_X6_clash_1 21 rfl
theorem dX6_clash_111 : decode cX6_clash 111 = .ok (.iload_n 2, 1) := dcO tk_X6_clash_1 22 rfl
theorem dX6_clash_112 : decode cX6_clash 112 = .ok (.ifCond .ge 11, 3) := dcO tk_X6_clash_1 23 rfl
theorem dX6_clash_115 : decode cX6_clash 115 = .ok (.aload_n 0, 1) := dcO tk_X6_clash_1 24 rfl
theorem dX6_clash_116 : decode cX6_clash 116 = .ok (.iconst 3, 1) := dcO tk_X6_clash_1 25 rfl
theorem dX6_clash_117 : decode cX6_clash 117 = .ok (.invokevirtual 125, 3) := dcO tk_X6_clash_1 26 rfl
theorem dX6_clash_120 : decode cX6_clash 120 = .ok (.goto 4, 3) := dcO tk_X6_clash_1 27 rfl
theorem dX6_clash_123 : decode cX6_clash 123 = .ok (.iload_n 2, 1) := dcO tk_X6_clash_1 28 rfl
theorem dX6_clash_124 : decode cX6_clash 124 = .ok (.ireturn, 1) := dcO tk_X6_clash_1 29 rfl
abbrev tb_X6_priceOf_0 : List (Nat × Instr × Nat) := [(0, .iconst 0, 1), (1, .istore_n 2, 1), (2, .iconst 0, 1), (3, .istore_n 3, 1), (4, .iload_n 3, 1), (5, .aload_n 0, 1), (6, .getfield 9, 3), (9, .iconst 2, 1), (10, .iaload, 1), (11, .if_icmp .ge 30, 3), (14, .iload_n 2, 1), (15, .iload_n 1, 1), (16, .iload_n 3, 1), (17, .invokestatic 104, 3), (20, .ifCond .eq 12, 3), (23, .aload_n 0, 1), (24, .iload_n 3, 1), (25, .iconst 4, 1), (26, .invokevirtual 76, 3), (29, .goto 4, 3), (32, .iconst 0, 1), (33, .iadd, 1), (34, .istore_n 2, 1), (35, .iinc 3 1, 3), (38, .goto (-34), 3), (41, .iload_n 2, 1), (42, .ireturn, 1)]
theorem tk_X6_priceOf_0 : dcA cX6_priceOf tb_X6_priceOf_0 = true := by decide +kernel
theorem dX6_priceOf_0 : decode cX6_priceOf 0 = .ok (.iconst 0, 1) := dcO tk_X6_priceOf_0 0 rfl
theorem dX6_priceOf_1 : decode cX6_priceOf 1 = .ok (.istore_n 2, 1) := dcO tk_X6_priceOf_0 1 rfl
theorem dX6_priceOf_2 : decode cX6_priceOf 2 = .ok (.iconst 0, 1) := dcO tk_X6_priceOf_0 2 rfl
theorem dX6_priceOf_3 : decode cX6_priceOf 3 = .ok (.istore_n 3, 1) := dcO tk_X6_priceOf_0 3 rfl
theorem dX6_priceOf_4 : decode cX6_priceOf 4 = .ok (.iload_n 3, 1) := dcO tk_X6_priceOf_0 4 rfl
theorem dX6_priceOf_5 : decode cX6_priceOf 5 = .ok (.aload_n 0, 1) := dcO tk_X6_priceOf_0 5 rfl
theorem dX6_priceOf_6 : decode cX6_priceOf 6 = .ok (.getfield 9, 3) := dcO tk_X6_priceOf_0 6 rfl
theorem dX6_priceOf_9 : decode cX6_priceOf 9 = .ok (.iconst 2, 1) := dcO tk_X6_priceOf_0 7 rfl
theorem dX6_priceOf_10 : decode cX6_priceOf 10 = .ok (.iaload, 1) := dcO tk_X6_priceOf_0 8 rfl
theorem dX6_priceOf_11 : decode cX6_priceOf 11 = .ok (.if_icmp .ge 30, 3) := dcO tk_X6_priceOf_0 9 rfl
theorem dX6_priceOf_14 : decode cX6_priceOf 14 = .ok (.iload_n 2, 1) := dcO tk_X6_priceOf_0 10 rfl
theorem dX6_priceOf_15 : decode cX6_priceOf 15 = .ok (.iload_n 1, 1) := dcO tk_X6_priceOf_0 11 rfl
theorem dX6_priceOf_16 : decode cX6_priceOf 16 = .ok (.iload_n 3, 1) := dcO tk_X6_priceOf_0 12 rfl
theorem dX6_priceOf_17 : decode cX6_priceOf 17 = .ok (.invokestatic 104, 3) := dcO tk_X6_priceOf_0 13 rfl
theorem dX6_priceOf_20 : decode cX6_priceOf 20 = .ok (.ifCond .eq 12, 3) := dcO tk_X6_priceOf_0 14 rfl
theorem dX6_priceOf_23 : decode cX6_priceOf 23 = .ok (.aload_n 0, 1) := dcO tk_X6_priceOf_0 15 rfl
theorem dX6_priceOf_24 : decode cX6_priceOf 24 = .ok (.iload_n 3, 1) := dcO tk_X6_priceOf_0 16 rfl
theorem dX6_priceOf_25 : decode cX6_priceOf 25 = .ok (.iconst 4, 1) := dcO tk_X6_priceOf_0 17 rfl
theorem dX6_priceOf_26 : decode cX6_priceOf 26 = .ok (.invokevirtual 76, 3) := dcO tk_X6_priceOf_0 18 rfl
theorem dX6_priceOf_29 : decode cX6_priceOf 29 = .ok (.goto 4, 3) := dcO tk_X6_priceOf_0 19 rfl
theorem dX6_priceOf_32 : decode cX6_priceOf 32 = .ok (.iconst 0, 1) := dcO tk_X6_priceOf_0 20 rfl
theorem dX6_priceOf_33 : decode cX6_priceOf 33 = .ok (.iadd, 1) := dcO tk_X6_priceOf_0 21 rfl
theorem dX6_priceOf_34 : decode cX6_priceOf 34 = .ok (.istore_n 2, 1) := dcO tk_X6_priceOf_0 22 rfl
theorem dX6_priceOf_35 : decode cX6_priceOf 35 = .ok (.iinc 3 1, 3) := dcO tk_X6_priceOf_0 23 rfl
theorem dX6_priceOf_38 : decode cX6_priceOf 38 = .ok (.goto (-34), 3) := dcO tk_X6_priceOf_0 24 rfl
theorem dX6_priceOf_41 : decode cX6_priceOf 41 = .ok (.iload_n 2, 1) := dcO tk_X6_priceOf_0 25 rfl
theorem dX6_priceOf_42 : decode cX6_priceOf 42 = .ok (.ireturn, 1) := dcO tk_X6_priceOf_0 26 rfl
abbrev tb_X6_bestRelease_0 : List (Nat × Instr × Nat) := [(0, .aload_n 0, 1), (1, .invokevirtual 155, 3), (4, .aload_n 0, 1), (5, .invokevirtual 112, 3), (8, .iconst (-1), 1), (9, .istore 4, 2), (11, .iconst 0, 1), (12, .istore 5, 2), (14, .iload 5, 2), (16, .aload_n 0, 1), (17, .invokevirtual 115, 3), (20, .if_icmp .gt 77, 3), (23, .iload 4, 2), (25, .ifCond .lt 18, 3), (28, .aload_n 0, 1), (29, .iload 5, 2), (31, .invokevirtual 167, 3), (34, .aload_n 0, 1), (35, .iload 4, 2), (37, .invokevirtual 167, 3), (40, .if_icmp .ge 51, 3), (43, .iconst 0, 1), (44, .istore 6, 2), (46, .iload 6, 2), (48, .iload_n 3, 1), (49, .if_icmp .ge 15, 3), (52, .aload_n 0, 1), (53, .iload 5, 2), (55, .invokevirtual 119, 3), (58, .iinc 6 1, 3), (61, .goto (-15), 3), (64, .aload_n 0, 1), (65, .getfield 9, 3), (68, .sipush 176, 3), (71, .iload_n 2, 1), (72, .iadd, 1), (73, .iaload, 1), (74, .iload_n 1, 1), (75, .if_icmp .ne 8, 3), (78, .iload 5, 2)]
theorem tk_X6_bestRelease_0 : dcA cX6_bestRelease tb_X6_bestRelease_0 = true := by decide +kernel
theorem dX6_bestRelease_0 : decode cX6_bestRelease 0 = .ok (.aload_n 0, 1) := dcO tk_X6_bestRelease_0 0 rfl
theorem dX6_bestRelease_1 : decode cX6_bestRelease 1 = .ok (.invokevirtual 155, 3) := dcO tk_X6_bestRelease_0 1 rfl
theorem dX6_bestRelease_4 : decode cX6_bestRelease 4 = .ok (.aload_n 0, 1) := dcO tk_X6_bestRelease_0 2 rfl
theorem dX6_bestRelease_5 : decode cX6_bestRelease 5 = .ok (.invokevirtual 112, 3) := dcO tk_X6_bestRelease_0 3 rfl
theorem dX6_bestRelease_8 : decode cX6_bestRelease 8 = .ok (.iconst (-1), 1) := dcO tk_X6_bestRelease_0 4 rfl
theorem dX6_bestRelease_9 : decode cX6_bestRelease 9 = .ok (.istore 4, 2) := dcO tk_X6_bestRelease_0 5 rfl
theorem dX6_bestRelease_11 : decode cX6_bestRelease 11 = .ok (.iconst 0, 1) := dcO tk_X6_bestRelease_0 6 rfl
theorem dX6_bestRelease_12 : decode cX6_bestRelease 12 = .ok (.istore 5, 2) := dcO tk_X6_bestRelease_0 7 rfl
theorem dX6_bestRelease_14 : decode cX6_bestRelease 14 = .ok (.iload 5, 2) := dcO tk_X6_bestRelease_0 8 rfl
theorem dX6_bestRelease_16 : decode cX6_bestRelease 16 = .ok (.aload_n 0, 1) := dcO tk_X6_bestRelease_0 9 rfl
theorem dX6_bestRelease_17 : decode cX6_bestRelease 17 = .ok (.invokevirtual 115, 3) := dcO tk_X6_bestRelease_0 10 rfl
theorem dX6_bestRelease_20 : decode cX6_bestRelease 20 = .ok (.if_icmp .gt 77, 3) := dcO tk_X6_bestRelease_0 11 rfl
theorem dX6_bestRelease_23 : decode cX6_bestRelease 23 = .ok (.iload 4, 2) := dcO tk_X6_bestRelease_0 12 rfl
theorem dX6_bestRelease_25 : decode cX6_bestRelease 25 = .ok (.ifCond .lt 18, 3) := dcO tk_X6_bestRelease_0 13 rfl
theorem dX6_bestRelease_28 : decode cX6_bestRelease 28 = .ok (.aload_n 0, 1) := dcO tk_X6_bestRelease_0 14 rfl
theorem dX6_bestRelease_29 : decode cX6_bestRelease 29 = .ok (.iload 5, 2) := dcO tk_X6_bestRelease_0 15 rfl
theorem dX6_bestRelease_31 : decode cX6_bestRelease 31 = .ok (.invokevirtual 167, 3) := dcO tk_X6_bestRelease_0 16 rfl
theorem dX6_bestRelease_34 : decode cX6_bestRelease 34 = .ok (.aload_n 0, 1) := dcO tk_X6_bestRelease_0 17 rfl
theorem dX6_bestRelease_35 : decode cX6_bestRelease 35 = .ok (.iload 4, 2) := dcO tk_X6_bestRelease_0 18 rfl
theorem dX6_bestRelease_37 : decode cX6_bestRelease 37 = .ok (.invokevirtual 167, 3) := dcO tk_X6_bestRelease_0 19 rfl
theorem dX6_bestRelease_40 : decode cX6_bestRelease 40 = .ok (.if_icmp .ge 51, 3) := dcO tk_X6_bestRelease_0 20 rfl
theorem dX6_bestRelease_43 : decode cX6_bestRelease 43 = .ok (.iconst 0, 1) := dcO tk_X6_bestRelease_0 21 rfl
theorem dX6_bestRelease_44 : decode cX6_bestRelease 44 = .ok (.istore 6, 2) := dcO tk_X6_bestRelease_0 22 rfl
theorem dX6_bestRelease_46 : decode cX6_bestRelease 46 = .ok (.iload 6, 2) := dcO tk_X6_bestRelease_0 23 rfl
theorem dX6_bestRelease_48 : decode cX6_bestRelease 48 = .ok (.iload_n 3, 1) := dcO tk_X6_bestRelease_0 24 rfl
theorem dX6_bestRelease_49 : decode cX6_bestRelease 49 = .ok (.if_icmp .ge 15, 3) := dcO tk_X6_bestRelease_0 25 rfl
theorem dX6_bestRelease_52 : decode cX6_bestRelease 52 = .ok (.aload_n 0, 1) := dcO tk_X6_bestRelease_0 26 rfl
theorem dX6_bestRelease_53 : decode cX6_bestRelease 53 = .ok (.iload 5, 2) := dcO tk_X6_bestRelease_0 27 rfl
theorem dX6_bestRelease_55 : decode cX6_bestRelease 55 = .ok (.invokevirtual 119, 3) := dcO tk_X6_bestRelease_0 28 rfl
theorem dX6_bestRelease_58 : decode cX6_bestRelease 58 = .ok (.iinc 6 1, 3) := dcO tk_X6_bestRelease_0 29 rfl
theorem dX6_bestRelease_61 : decode cX6_bestRelease 61 = .ok (.goto (-15), 3) := dcO tk_X6_bestRelease_0 30 rfl
theorem dX6_bestRelease_64 : decode cX6_bestRelease 64 = .ok (.aload_n 0, 1) := dcO tk_X6_bestRelease_0 31 rfl
theorem dX6_bestRelease_65 : decode cX6_bestRelease 65 = .ok (.getfield 9, 3) := dcO tk_X6_bestRelease_0 32 rfl
theorem dX6_bestRelease_68 : decode cX6_bestRelease 68 = .ok (.sipush 176, 3) := dcO tk_X6_bestRelease_0 33 rfl
theorem dX6_bestRelease_71 : decode cX6_bestRelease 71 = .ok (.iload_n 2, 1) := dcO tk_X6_bestRelease_0 34 rfl
theorem dX6_bestRelease_72 : decode cX6_bestRelease 72 = .ok (.iadd, 1) := dcO tk_X6_bestRelease_0 35 rfl
theorem dX6_bestRelease_73 : decode cX6_bestRelease 73 = .ok (.iaload, 1) := dcO tk_X6_bestRelease_0 36 rfl
theorem dX6_bestRelease_74 : decode cX6_bestRelease 74 = .ok (.iload_n 1, 1) := dcO tk_X6_bestRelease_0 37 rfl
theorem dX6_bestRelease_75 : decode cX6_bestRelease 75 = .ok (.if_icmp .ne 8, 3) := dcO tk_X6_bestRelease_0 38 rfl
theorem dX6_bestRelease_78 : decode cX6_bestRelease 78 = .ok (.iload 5, 2) := dcO tk_X6_bestRelease_0 39 rfl
abbrev tb_X6_bestRelease_1 : List (Nat × Instr × Nat) := [(80, .goto 5, 3), (83, .iload 4, 2), (85, .istore 4, 2), (87, .aload_n 0, 1), (88, .invokevirtual 158, 3), (91, .iinc 5 1, 3), (94, .goto (-80), 3), (97, .iload 4, 2), (99, .ireturn, 1)]
theorem tk_X6_bestRelease_1 : dcA cX6_bestRelease tb_X6_bestRelease_1 = true := by decide +kernel
theorem dX6_bestRelease_80 : decode cX6_bestRelease 80 = .ok (.goto 5, 3) := dcO tk_X6_bestRelease_1 0 rfl
theorem dX6_bestRelease_83 : decode cX6_bestRelease 83 = .ok (.iload 4, 2) := dcO tk_X6_bestRelease_1 1 rfl
theorem dX6_bestRelease_85 : decode cX6_bestRelease 85 = .ok (.istore 4, 2) := dcO tk_X6_bestRelease_1 2 rfl
theorem dX6_bestRelease_87 : decode cX6_bestRelease 87 = .ok (.aload_n 0, 1) := dcO tk_X6_bestRelease_1 3 rfl
theorem dX6_bestRelease_88 : decode cX6_bestRelease 88 = .ok (.invokevirtual 158, 3) := dcO tk_X6_bestRelease_1 4 rfl
theorem dX6_bestRelease_91 : decode cX6_bestRelease 91 = .ok (.iinc 5 1, 3) := dcO tk_X6_bestRelease_1 5 rfl
theorem dX6_bestRelease_94 : decode cX6_bestRelease 94 = .ok (.goto (-80), 3) := dcO tk_X6_bestRelease_1 6 rfl
theorem dX6_bestRelease_97 : decode cX6_bestRelease 97 = .ok (.iload 4, 2) := dcO tk_X6_bestRelease_1 7 rfl
theorem dX6_bestRelease_99 : decode cX6_bestRelease 99 = .ok (.ireturn, 1) := dcO tk_X6_bestRelease_1 8 rfl
abbrev tb_X6_isRelease_0 : List (Nat × Instr × Nat) := [(0, .iload_n 0, 1), (1, .invokestatic 134, 3), (4, .ifCond .eq 24, 3), (7, .iload_n 1, 1), (8, .invokestatic 122, 3), (11, .ifCond .eq 17, 3), (14, .iload_n 2, 1), (15, .iconst 0, 1), (16, .bipush 40, 2), (18, .invokestatic 61, 3), (21, .ifCond .eq 7, 3), (24, .iconst 1, 1), (25, .goto 4, 3), (28, .iconst 0, 1), (29, .ireturn, 1)]
theorem tk_X6_isRelease_0 : dcA cX6_isRelease tb_X6_isRelease_0 = true := by decide +kernel
theorem dX6_isRelease_0 : decode cX6_isRelease 0 = .ok (.iload_n 0, 1) := dcO tk_X6_isRelease_0 0 rfl
theorem dX6_isRelease_1 : decode cX6_isRelease 1 = .ok (.invokestatic 134, 3) := dcO tk_X6_isRelease_0 1 rfl
theorem dX6_isRelease_4 : decode cX6_isRelease 4 = .ok (.ifCond .eq 24, 3) := dcO tk_X6_isRelease_0 2 rfl
theorem dX6_isRelease_7 : decode cX6_isRelease 7 = .ok (.iload_n 1, 1) := dcO tk_X6_isRelease_0 3 rfl
theorem dX6_isRelease_8 : decode cX6_isRelease 8 = .ok (.invokestatic 122, 3) := dcO tk_X6_isRelease_0 4 rfl
theorem dX6_isRelease_11 : decode cX6_isRelease 11 = .ok (.ifCond .eq 17, 3) := dcO tk_X6_isRelease_0 5 rfl
theorem dX6_isRelease_14 : decode cX6_isRelease 14 = .ok (.iload_n 2, 1) := dcO tk_X6_isRelease_0 6 rfl
theorem dX6_isRelease_15 : decode cX6_isRelease 15 = .ok (.iconst 0, 1) := dcO tk_X6_isRelease_0 7 rfl
theorem dX6_isRelease_16 : decode cX6_isRelease 16 = .ok (.bipush 40, 2) := dcO tk_X6_isRelease_0 8 rfl
theorem dX6_isRelease_18 : decode cX6_isRelease 18 = .ok (.invokestatic 61, 3) := dcO tk_X6_isRelease_0 9 rfl
theorem dX6_isRelease_21 : decode cX6_isRelease 21 = .ok (.ifCond .eq 7, 3) := dcO tk_X6_isRelease_0 10 rfl
theorem dX6_isRelease_24 : decode cX6_isRelease 24 = .ok (.iconst 1, 1) := dcO tk_X6_isRelease_0 11 rfl
theorem dX6_isRelease_25 : decode cX6_isRelease 25 = .ok (.goto 4, 3) := dcO tk_X6_isRelease_0 12 rfl
theorem dX6_isRelease_28 : decode cX6_isRelease 28 = .ok (.iconst 0, 1) := dcO tk_X6_isRelease_0 13 rfl
theorem dX6_isRelease_29 : decode cX6_isRelease 29 = .ok (.ireturn, 1) := dcO tk_X6_isRelease_0 14 rfl
abbrev tb_X6_release_0 : List (Nat × Instr × Nat) := [(0, .iload_n 1, 1), (1, .iload_n 2, 1), (2, .iload_n 3, 1), (3, .invokestatic 170, 3), (6, .ifCond .ne 9, 3), (9, .aload_n 0, 1), (10, .iconst 0, 1), (11, .invokevirtual 125, 3), (14, .ireturn, 1), (15, .aload_n 0, 1), (16, .iload_n 1, 1), (17, .iload_n 2, 1), (18, .iload_n 3, 1), (19, .invokevirtual 173, 3), (22, .istore 4, 2), (24, .iload 4, 2), (26, .ifCond .ge 11, 3), (29, .aload_n 0, 1), (30, .iconst 3, 1), (31, .invokevirtual 125, 3), (34, .goto 5, 3), (37, .iload 4, 2), (39, .ireturn, 1)]
theorem tk_X6_release_0 : dcA cX6_release tb_X6_release_0 = true := by decide +kernel
theorem dX6_release_0 : decode cX6_release 0 = .ok (.iload_n 1, 1) := dcO tk_X6_release_0 0 rfl
theorem dX6_release_1 : decode cX6_release 1 = .ok (.iload_n 2, 1) := dcO tk_X6_release_0 1 rfl
theorem dX6_release_2 : decode cX6_release 2 = .ok (.iload_n 3, 1) := dcO tk_X6_release_0 2 rfl
theorem dX6_release_3 : decode cX6_release 3 = .ok (.invokestatic 170, 3) := dcO tk_X6_release_0 3 rfl
theorem dX6_release_6 : decode cX6_release 6 = .ok (.ifCond .ne 9, 3) := dcO tk_X6_release_0 4 rfl
theorem dX6_release_9 : decode cX6_release 9 = .ok (.aload_n 0, 1) := dcO tk_X6_release_0 5 rfl
theorem dX6_release_10 : decode cX6_release 10 = .ok (.iconst 0, 1) := dcO tk_X6_release_0 6 rfl
theorem dX6_release_11 : decode cX6_release 11 = .ok (.invokevirtual 125, 3) := dcO tk_X6_release_0 7 rfl
theorem dX6_release_14 : decode cX6_release 14 = .ok (.ireturn, 1) := dcO tk_X6_release_0 8 rfl
theorem dX6_release_15 : decode cX6_release 15 = .ok (.aload_n 0, 1) := dcO tk_X6_release_0 9 rfl
theorem dX6_release_16 : decode cX6_release 16 = .ok (.iload_n 1, 1) := dcO tk_X6_release_0 10 rfl
theorem dX6_release_17 : decode cX6_release 17 = .ok (.iload_n 2, 1) := dcO tk_X6_release_0 11 rfl
theorem dX6_release_18 : decode cX6_release 18 = .ok (.iload_n 3, 1) := dcO tk_X6_release_0 12 rfl
theorem dX6_release_19 : decode cX6_release 19 = .ok (.invokevirtual 173, 3) := dcO tk_X6_release_0 13 rfl
theorem dX6_release_22 : decode cX6_release 22 = .ok (.istore 4, 2) := dcO tk_X6_release_0 14 rfl
theorem dX6_release_24 : decode cX6_release 24 = .ok (.iload 4, 2) := dcO tk_X6_release_0 15 rfl
theorem dX6_release_26 : decode cX6_release 26 = .ok (.ifCond .ge 11, 3) := dcO tk_X6_release_0 16 rfl
theorem dX6_release_29 : decode cX6_release 29 = .ok (.aload_n 0, 1) := dcO tk_X6_release_0 17 rfl
theorem dX6_release_30 : decode cX6_release 30 = .ok (.iconst 3, 1) := dcO tk_X6_release_0 18 rfl
theorem dX6_release_31 : decode cX6_release 31 = .ok (.invokevirtual 125, 3) := dcO tk_X6_release_0 19 rfl
theorem dX6_release_34 : decode cX6_release 34 = .ok (.goto 5, 3) := dcO tk_X6_release_0 20 rfl
theorem dX6_release_37 : decode cX6_release 37 = .ok (.iload 4, 2) := dcO tk_X6_release_0 21 rfl
theorem dX6_release_39 : decode cX6_release 39 = .ok (.ireturn, 1) := dcO tk_X6_release_0 22 rfl
abbrev tb_X6_costs_0 : List (Nat × Instr × Nat) := [(0, .iload_n 1, 1), (1, .iload_n 2, 1), (2, .iload_n 3, 1), (3, .invokestatic 170, 3), (6, .ifCond .ne 9, 3), (9, .aload_n 0, 1), (10, .iconst 0, 1), (11, .invokevirtual 125, 3), (14, .ireturn, 1), (15, .aload_n 0, 1), (16, .iload_n 1, 1), (17, .iload_n 2, 1), (18, .iload_n 3, 1), (19, .invokevirtual 173, 3), (22, .istore 4, 2), (24, .iload 4, 2), (26, .ifCond .ge 11, 3), (29, .aload_n 0, 1), (30, .iconst 3, 1), (31, .invokevirtual 125, 3), (34, .goto 9, 3), (37, .aload_n 0, 1), (38, .iload 4, 2), (40, .invokevirtual 167, 3), (43, .ireturn, 1)]
theorem tk_X6_costs_0 : dcA cX6_costs tb_X6_costs_0 = true := by decide +kernel
theorem dX6_costs_0 : decode cX6_costs 0 = .ok (.iload_n 1, 1) := dcO tk_X6_costs_0 0 rfl
theorem dX6_costs_1 : decode cX6_costs 1 = .ok (.iload_n 2, 1) := dcO tk_X6_costs_0 1 rfl
theorem dX6_costs_2 : decode cX6_costs 2 = .ok (.iload_n 3, 1) := dcO tk_X6_costs_0 2 rfl
theorem dX6_costs_3 : decode cX6_costs 3 = .ok (.invokestatic 170, 3) := dcO tk_X6_costs_0 3 rfl
theorem dX6_costs_6 : decode cX6_costs 6 = .ok (.ifCond .ne 9, 3) := dcO tk_X6_costs_0 4 rfl
theorem dX6_costs_9 : decode cX6_costs 9 = .ok (.aload_n 0, 1) := dcO tk_X6_costs_0 5 rfl
theorem dX6_costs_10 : decode cX6_costs 10 = .ok (.iconst 0, 1) := dcO tk_X6_costs_0 6 rfl
theorem dX6_costs_11 : decode cX6_costs 11 = .ok (.invokevirtual 125, 3) := dcO tk_X6_costs_0 7 rfl
theorem dX6_costs_14 : decode cX6_costs 14 = .ok (.ireturn, 1) := dcO tk_X6_costs_0 8 rfl
theorem dX6_costs_15 : decode cX6_costs 15 = .ok (.aload_n 0, 1) := dcO tk_X6_costs_0 9 rfl
theorem dX6_costs_16 : decode cX6_costs 16 = .ok (.iload_n 1, 1) := dcO tk_X6_costs_0 10 rfl
theorem dX6_costs_17 : decode cX6_costs 17 = .ok (.iload_n 2, 1) := dcO tk_X6_costs_0 11 rfl
theorem dX6_costs_18 : decode cX6_costs 18 = .ok (.iload_n 3, 1) := dcO tk_X6_costs_0 12 rfl
theorem dX6_costs_19 : decode cX6_costs 19 = .ok (.invokevirtual 173, 3) := dcO tk_X6_costs_0 13 rfl
theorem dX6_costs_22 : decode cX6_costs 22 = .ok (.istore 4, 2) := dcO tk_X6_costs_0 14 rfl
theorem dX6_costs_24 : decode cX6_costs 24 = .ok (.iload 4, 2) := dcO tk_X6_costs_0 15 rfl
theorem dX6_costs_26 : decode cX6_costs 26 = .ok (.ifCond .ge 11, 3) := dcO tk_X6_costs_0 16 rfl
theorem dX6_costs_29 : decode cX6_costs 29 = .ok (.aload_n 0, 1) := dcO tk_X6_costs_0 17 rfl
theorem dX6_costs_30 : decode cX6_costs 30 = .ok (.iconst 3, 1) := dcO tk_X6_costs_0 18 rfl
theorem dX6_costs_31 : decode cX6_costs 31 = .ok (.invokevirtual 125, 3) := dcO tk_X6_costs_0 19 rfl
theorem dX6_costs_34 : decode cX6_costs 34 = .ok (.goto 9, 3) := dcO tk_X6_costs_0 20 rfl
theorem dX6_costs_37 : decode cX6_costs 37 = .ok (.aload_n 0, 1) := dcO tk_X6_costs_0 21 rfl
theorem dX6_costs_38 : decode cX6_costs 38 = .ok (.iload 4, 2) := dcO tk_X6_costs_0 22 rfl
theorem dX6_costs_40 : decode cX6_costs 40 = .ok (.invokevirtual 167, 3) := dcO tk_X6_costs_0 23 rfl
theorem dX6_costs_43 : decode cX6_costs 43 = .ok (.ireturn, 1) := dcO tk_X6_costs_0 24 rfl
abbrev tb_X6_farthest_0 : List (Nat × Instr × Nat) := [(0, .aload_n 0, 1), (1, .iload_n 1, 1), (2, .invokevirtual 131, 3), (5, .ifCond .eq 13, 3), (8, .iload_n 2, 1), (9, .iconst 0, 1), (10, .bipush 40, 2), (12, .invokestatic 61, 3), (15, .ifCond .ne 9, 3), (18, .aload_n 0, 1), (19, .iconst 0, 1), (20, .invokevirtual 125, 3), (23, .ireturn, 1), (24, .aload_n 0, 1), (25, .aload_n 0, 1), (26, .iload_n 1, 1), (27, .iconst 3, 1), (28, .invokevirtual 76, 3), (31, .invokevirtual 69, 3), (34, .ifCond .eq 9, 3), (37, .aload_n 0, 1), (38, .iconst 3, 1), (39, .invokevirtual 125, 3), (42, .ireturn, 1), (43, .aload_n 0, 1), (44, .invokevirtual 112, 3), (47, .aload_n 0, 1), (48, .iload_n 1, 1), (49, .iconst 1, 1), (50, .invokevirtual 76, 3), (53, .istore_n 3, 1), (54, .iconst (-1), 1), (55, .istore 4, 2), (57, .iconst 0, 1), (58, .istore 5, 2), (60, .iload 5, 2), (62, .bipush 81, 2), (64, .if_icmp .ge 78, 3), (67, .aload_n 0, 1), (68, .iload 5, 2)]
theorem tk_X6_farthest_0 : dcA cX6_farthest tb_X6_farthest_0 = true := by decide +kernel
theorem dX6_farthest_0 : decode cX6_farthest 0 = .ok (.aload_n 0, 1) := dcO tk_X6_farthest_0 0 rfl
theorem dX6_farthest_1 : decode cX6_farthest 1 = .ok (.iload_n 1, 1) := dcO tk_X6_farthest_0 1 rfl
theorem dX6_farthest_2 : decode cX6_farthest 2 = .ok (.invokevirtual 131, 3) := dcO tk_X6_farthest_0 2 rfl
theorem dX6_farthest_5 : decode cX6_farthest 5 = .ok (.ifCond .eq 13, 3) := dcO tk_X6_farthest_0 3 rfl
theorem dX6_farthest_8 : decode cX6_farthest 8 = .ok (.iload_n 2, 1) := dcO tk_X6_farthest_0 4 rfl
theorem dX6_farthest_9 : decode cX6_farthest 9 = .ok (.iconst 0, 1) := dcO tk_X6_farthest_0 5 rfl
theorem dX6_farthest_10 : decode cX6_farthest 10 = .ok (.bipush 40, 2) := dcO tk_X6_farthest_0 6 rfl
theorem dX6_farthest_12 : decode cX6_farthest 12 = .ok (.invokestatic 61, 3) := dcO tk_X6_farthest_0 7 rfl
theorem dX6_farthest_15 : decode cX6_farthest 15 = .ok (.ifCond .ne 9, 3) := dcO tk_X6_farthest_0 8 rfl
theorem dX6_farthest_18 : decode cX6_farthest 18 = .ok (.aload_n 0, 1) := dcO tk_X6_farthest_0 9 rfl
theorem dX6_farthest_19 : decode cX6_farthest 19 = .ok (.iconst 0, 1) := dcO tk_X6_farthest_0 10 rfl
theorem dX6_farthest_20 : decode cX6_farthest 20 = .ok (.invokevirtual 125, 3) := dcO tk_X6_farthest_0 11 rfl
theorem dX6_farthest_23 : decode cX6_farthest 23 = .ok (.ireturn, 1) := dcO tk_X6_farthest_0 12 rfl
theorem dX6_farthest_24 : decode cX6_farthest 24 = .ok (.aload_n 0, 1) := dcO tk_X6_farthest_0 13 rfl
theorem dX6_farthest_25 : decode cX6_farthest 25 = .ok (.aload_n 0, 1) := dcO tk_X6_farthest_0 14 rfl
theorem dX6_farthest_26 : decode cX6_farthest 26 = .ok (.iload_n 1, 1) := dcO tk_X6_farthest_0 15 rfl
theorem dX6_farthest_27 : decode cX6_farthest 27 = .ok (.iconst 3, 1) := dcO tk_X6_farthest_0 16 rfl
theorem dX6_farthest_28 : decode cX6_farthest 28 = .ok (.invokevirtual 76, 3) := dcO tk_X6_farthest_0 17 rfl
theorem dX6_farthest_31 : decode cX6_farthest 31 = .ok (.invokevirtual 69, 3) := dcO tk_X6_farthest_0 18 rfl
theorem dX6_farthest_34 : decode cX6_farthest 34 = .ok (.ifCond .eq 9, 3) := dcO tk_X6_farthest_0 19 rfl
theorem dX6_farthest_37 : decode cX6_farthest 37 = .ok (.aload_n 0, 1) := dcO tk_X6_farthest_0 20 rfl
theorem dX6_farthest_38 : decode cX6_farthest 38 = .ok (.iconst 3, 1) := dcO tk_X6_farthest_0 21 rfl
theorem dX6_farthest_39 : decode cX6_farthest 39 = .ok (.invokevirtual 125, 3) := dcO tk_X6_farthest_0 22 rfl
theorem dX6_farthest_42 : decode cX6_farthest 42 = .ok (.ireturn, 1) := dcO tk_X6_farthest_0 23 rfl
theorem dX6_farthest_43 : decode cX6_farthest 43 = .ok (.aload_n 0, 1) := dcO tk_X6_farthest_0 24 rfl
theorem dX6_farthest_44 : decode cX6_farthest 44 = .ok (.invokevirtual 112, 3) := dcO tk_X6_farthest_0 25 rfl
theorem dX6_farthest_47 : decode cX6_farthest 47 = .ok (.aload_n 0, 1) := dcO tk_X6_farthest_0 26 rfl
theorem dX6_farthest_48 : decode cX6_farthest 48 = .ok (.iload_n 1, 1) := dcO tk_X6_farthest_0 27 rfl
theorem dX6_farthest_49 : decode cX6_farthest 49 = .ok (.iconst 1, 1) := dcO tk_X6_farthest_0 28 rfl
theorem dX6_farthest_50 : decode cX6_farthest 50 = .ok (.invokevirtual 76, 3) := dcO tk_X6_farthest_0 29 rfl
theorem dX6_farthest_53 : decode cX6_farthest 53 = .ok (.istore_n 3, 1) := dcO tk_X6_farthest_0 30 rfl
theorem dX6_farthest_54 : decode cX6_farthest 54 = .ok (.iconst (-1), 1) := dcO tk_X6_farthest_0 31 rfl
theorem dX6_farthest_55 : decode cX6_farthest 55 = .ok (.istore 4, 2) := dcO tk_X6_farthest_0 32 rfl
theorem dX6_farthest_57 : decode cX6_farthest 57 = .ok (.iconst 0, 1) := dcO tk_X6_farthest_0 33 rfl
theorem dX6_farthest_58 : decode cX6_farthest 58 = .ok (.istore 5, 2) := dcO tk_X6_farthest_0 34 rfl
theorem dX6_farthest_60 : decode cX6_farthest 60 = .ok (.iload 5, 2) := dcO tk_X6_farthest_0 35 rfl
theorem dX6_farthest_62 : decode cX6_farthest 62 = .ok (.bipush 81, 2) := dcO tk_X6_farthest_0 36 rfl
theorem dX6_farthest_64 : decode cX6_farthest 64 = .ok (.if_icmp .ge 78, 3) := dcO tk_X6_farthest_0 37 rfl
theorem dX6_farthest_67 : decode cX6_farthest 67 = .ok (.aload_n 0, 1) := dcO tk_X6_farthest_0 38 rfl
theorem dX6_farthest_68 : decode cX6_farthest 68 = .ok (.iload 5, 2) := dcO tk_X6_farthest_0 39 rfl
abbrev tb_X6_farthest_1 : List (Nat × Instr × Nat) := [(70, .invokevirtual 69, 3), (73, .ifCond .ne 29, 3), (76, .iload 4, 2), (78, .ifCond .lt 20, 3), (81, .aload_n 0, 1), (82, .iload_n 1, 1), (83, .iload 5, 2), (85, .invokevirtual 84, 3), (88, .aload_n 0, 1), (89, .iload_n 1, 1), (90, .iload 4, 2), (92, .invokevirtual 84, 3), (95, .if_icmp .le 7, 3), (98, .iconst 1, 1), (99, .goto 4, 3), (102, .iconst 0, 1), (103, .istore 6, 2), (105, .aload_n 0, 1), (106, .iload_n 1, 1), (107, .iconst 1, 1), (108, .iload 5, 2), (110, .invokevirtual 97, 3), (113, .iload 6, 2), (115, .ifCond .eq 17, 3), (118, .aload_n 0, 1), (119, .iload_n 1, 1), (120, .iload_n 2, 1), (121, .invokevirtual 164, 3), (124, .ifCond .lt 8, 3), (127, .iload 5, 2), (129, .goto 5, 3), (132, .iload 4, 2), (134, .istore 4, 2), (136, .iinc 5 1, 3), (139, .goto (-79), 3), (142, .aload_n 0, 1), (143, .iload_n 1, 1), (144, .iconst 1, 1), (145, .iload_n 3, 1), (146, .invokevirtual 97, 3)]
theorem tk_X6_farthest_1 : dcA cX6_farthest tb_X6_farthest_1 = true := by decide +kernel
theorem dX6_farthest_70 : decode cX6_farthest 70 = .ok (.invokevirtual 69, 3) := dcO tk_X6_farthest_1 0 rfl
theorem dX6_farthest_73 : decode cX6_farthest 73 = .ok (.ifCond .ne 29, 3) := dcO tk_X6_farthest_1 1 rfl
theorem dX6_farthest_76 : decode cX6_farthest 76 = .ok (.iload 4, 2) := dcO tk_X6_farthest_1 2 rfl
theorem dX6_farthest_78 : decode cX6_farthest 78 = .ok (.ifCond .lt 20, 3) := dcO tk_X6_farthest_1 3 rfl
theorem dX6_farthest_81 : decode cX6_farthest 81 = .ok (.aload_n 0, 1) := dcO tk_X6_farthest_1 4 rfl
theorem dX6_farthest_82 : decode cX6_farthest 82 = .ok (.iload_n 1, 1) := dcO tk_X6_farthest_1 5 rfl
theorem dX6_farthest_83 : decode cX6_farthest 83 = .ok (.iload 5, 2) := dcO tk_X6_farthest_1 6 rfl
theorem dX6_farthest_85 : decode cX6_farthest 85 = .ok (.invokevirtual 84, 3) := dcO tk_X6_farthest_1 7 rfl
theorem dX6_farthest_88 : decode cX6_farthest 88 = .ok (.aload_n 0, 1) := dcO tk_X6_farthest_1 8 rfl
theorem dX6_farthest_89 : decode cX6_farthest 89 = .ok (.iload_n 1, 1) := dcO tk_X6_farthest_1 9 rfl
theorem dX6_farthest_90 : decode cX6_farthest 90 = .ok (.iload 4, 2) := dcO tk_X6_farthest_1 10 rfl
theorem dX6_farthest_92 : decode cX6_farthest 92 = .ok (.invokevirtual 84, 3) := dcO tk_X6_farthest_1 11 rfl
theorem dX6_farthest_95 : decode cX6_farthest 95 = .ok (.if_icmp .le 7, 3) := dcO tk_X6_farthest_1 12 rfl
theorem dX6_farthest_98 : decode cX6_farthest 98 = .ok (.iconst 1, 1) := dcO tk_X6_farthest_1 13 rfl
theorem dX6_farthest_99 : decode cX6_farthest 99 = .ok (.goto 4, 3) := dcO tk_X6_farthest_1 14 rfl
theorem dX6_farthest_102 : decode cX6_farthest 102 = .ok (.iconst 0, 1) := dcO tk_X6_farthest_1 15 rfl
theorem dX6_farthest_103 : decode cX6_farthest 103 = .ok (.istore 6, 2) := dcO tk_X6_farthest_1 16 rfl
theorem dX6_farthest_105 : decode cX6_farthest 105 = .ok (.aload_n 0, 1) := dcO tk_X6_farthest_1 17 rfl
theorem dX6_farthest_106 : decode cX6_farthest 106 = .ok (.iload_n 1, 1) := dcO tk_X6_farthest_1 18 rfl
theorem dX6_farthest_107 : decode cX6_farthest 107 = .ok (.iconst 1, 1) := dcO tk_X6_farthest_1 19 rfl
theorem dX6_farthest_108 : decode cX6_farthest 108 = .ok (.iload 5, 2) := dcO tk_X6_farthest_1 20 rfl
theorem dX6_farthest_110 : decode cX6_farthest 110 = .ok (.invokevirtual 97, 3) := dcO tk_X6_farthest_1 21 rfl
theorem dX6_farthest_113 : decode cX6_farthest 113 = .ok (.iload 6, 2) := dcO tk_X6_farthest_1 22 rfl
theorem dX6_farthest_115 : decode cX6_farthest 115 = .ok (.ifCond .eq 17, 3) := dcO tk_X6_farthest_1 23 rfl
theorem dX6_farthest_118 : decode cX6_farthest 118 = .ok (.aload_n 0, 1) := dcO tk_X6_farthest_1 24 rfl
theorem dX6_farthest_119 : decode cX6_farthest 119 = .ok (.iload_n 1, 1) := dcO tk_X6_farthest_1 25 rfl
theorem dX6_farthest_120 : decode cX6_farthest 120 = .ok (.iload_n 2, 1) := dcO tk_X6_farthest_1 26 rfl
theorem dX6_farthest_121 : decode cX6_farthest 121 = .ok (.invokevirtual 164, 3) := dcO tk_X6_farthest_1 27 rfl
theorem dX6_farthest_124 : decode cX6_farthest 124 = .ok (.ifCond .lt 8, 3) := dcO tk_X6_farthest_1 28 rfl
theorem dX6_farthest_127 : decode cX6_farthest 127 = .ok (.iload 5, 2) := dcO tk_X6_farthest_1 29 rfl
theorem dX6_farthest_129 : decode cX6_farthest 129 = .ok (.goto 5, 3) := dcO tk_X6_farthest_1 30 rfl
theorem dX6_farthest_132 : decode cX6_farthest 132 = .ok (.iload 4, 2) := dcO tk_X6_farthest_1 31 rfl
theorem dX6_farthest_134 : decode cX6_farthest 134 = .ok (.istore 4, 2) := dcO tk_X6_farthest_1 32 rfl
theorem dX6_farthest_136 : decode cX6_farthest 136 = .ok (.iinc 5 1, 3) := dcO tk_X6_farthest_1 33 rfl
theorem dX6_farthest_139 : decode cX6_farthest 139 = .ok (.goto (-79), 3) := dcO tk_X6_farthest_1 34 rfl
theorem dX6_farthest_142 : decode cX6_farthest 142 = .ok (.aload_n 0, 1) := dcO tk_X6_farthest_1 35 rfl
theorem dX6_farthest_143 : decode cX6_farthest 143 = .ok (.iload_n 1, 1) := dcO tk_X6_farthest_1 36 rfl
theorem dX6_farthest_144 : decode cX6_farthest 144 = .ok (.iconst 1, 1) := dcO tk_X6_farthest_1 37 rfl
theorem dX6_farthest_145 : decode cX6_farthest 145 = .ok (.iload_n 3, 1) := dcO tk_X6_farthest_1 38 rfl
theorem dX6_farthest_146 : decode cX6_farthest 146 = .ok (.invokevirtual 97, 3) := dcO tk_X6_farthest_1 39 rfl
abbrev tb_X6_farthest_2 : List (Nat × Instr × Nat) := [(149, .iload 4, 2), (151, .ireturn, 1)]
theorem tk_X6_farthest_2 : dcA cX6_farthest tb_X6_farthest_2 = true := by decide +kernel
theorem dX6_farthest_149 : decode cX6_farthest 149 = .ok (.iload 4, 2) := dcO tk_X6_farthest_2 0 rfl
theorem dX6_farthest_151 : decode cX6_farthest 151 = .ok (.ireturn, 1) := dcO tk_X6_farthest_2 1 rfl
abbrev tb_X6_isSheet_0 : List (Nat × Instr × Nat) := [(0, .iload_n 0, 1), (1, .iconst 0, 1), (2, .iconst 3, 1), (3, .invokestatic 61, 3), (6, .ireturn, 1)]
theorem tk_X6_isSheet_0 : dcA cX6_isSheet tb_X6_isSheet_0 = true := by decide +kernel
theorem dX6_isSheet_0 : decode cX6_isSheet 0 = .ok (.iload_n 0, 1) := dcO tk_X6_isSheet_0 0 rfl
theorem dX6_isSheet_1 : decode cX6_isSheet 1 = .ok (.iconst 0, 1) := dcO tk_X6_isSheet_0 1 rfl
theorem dX6_isSheet_2 : decode cX6_isSheet 2 = .ok (.iconst 3, 1) := dcO tk_X6_isSheet_0 2 rfl
theorem dX6_isSheet_3 : decode cX6_isSheet 3 = .ok (.invokestatic 61, 3) := dcO tk_X6_isSheet_0 3 rfl
theorem dX6_isSheet_6 : decode cX6_isSheet 6 = .ok (.ireturn, 1) := dcO tk_X6_isSheet_0 4 rfl
abbrev tb_X6_wrongSheet_0 : List (Nat × Instr × Nat) := [(0, .iload_n 1, 1), (1, .invokestatic 177, 3), (4, .ifCond .ne 7, 3), (7, .iconst 0, 1), (8, .goto 17, 3), (11, .aload_n 0, 1), (12, .getfield 48, 3), (15, .iload_n 1, 1), (16, .iaload, 1), (17, .ifCond .ne 7, 3), (20, .iconst 5, 1), (21, .goto 4, 3), (24, .iconst (-1), 1), (25, .ireturn, 1)]
theorem tk_X6_wrongSheet_0 : dcA cX6_wrongSheet tb_X6_wrongSheet_0 = true := by decide +kernel
theorem dX6_wrongSheet_0 : decode cX6_wrongSheet 0 = .ok (.iload_n 1, 1) := dcO tk_X6_wrongSheet_0 0 rfl
theorem dX6_wrongSheet_1 : decode cX6_wrongSheet 1 = .ok (.invokestatic 177, 3) := dcO tk_X6_wrongSheet_0 1 rfl
theorem dX6_wrongSheet_4 : decode cX6_wrongSheet 4 = .ok (.ifCond .ne 7, 3) := dcO tk_X6_wrongSheet_0 2 rfl
theorem dX6_wrongSheet_7 : decode cX6_wrongSheet 7 = .ok (.iconst 0, 1) := dcO tk_X6_wrongSheet_0 3 rfl
theorem dX6_wrongSheet_8 : decode cX6_wrongSheet 8 = .ok (.goto 17, 3) := dcO tk_X6_wrongSheet_0 4 rfl
theorem dX6_wrongSheet_11 : decode cX6_wrongSheet 11 = .ok (.aload_n 0, 1) := dcO tk_X6_wrongSheet_0 5 rfl
theorem dX6_wrongSheet_12 : decode cX6_wrongSheet 12 = .ok (.getfield 48, 3) := dcO tk_X6_wrongSheet_0 6 rfl
theorem dX6_wrongSheet_15 : decode cX6_wrongSheet 15 = .ok (.iload_n 1, 1) := dcO tk_X6_wrongSheet_0 7 rfl
theorem dX6_wrongSheet_16 : decode cX6_wrongSheet 16 = .ok (.iaload, 1) := dcO tk_X6_wrongSheet_0 8 rfl
theorem dX6_wrongSheet_17 : decode cX6_wrongSheet 17 = .ok (.ifCond .ne 7, 3) := dcO tk_X6_wrongSheet_0 9 rfl
theorem dX6_wrongSheet_20 : decode cX6_wrongSheet 20 = .ok (.iconst 5, 1) := dcO tk_X6_wrongSheet_0 10 rfl
theorem dX6_wrongSheet_21 : decode cX6_wrongSheet 21 = .ok (.goto 4, 3) := dcO tk_X6_wrongSheet_0 11 rfl
theorem dX6_wrongSheet_24 : decode cX6_wrongSheet 24 = .ok (.iconst (-1), 1) := dcO tk_X6_wrongSheet_0 12 rfl
theorem dX6_wrongSheet_25 : decode cX6_wrongSheet 25 = .ok (.ireturn, 1) := dcO tk_X6_wrongSheet_0 13 rfl
abbrev tb_X6_fitsFrom_0 : List (Nat × Instr × Nat) := [(0, .aload_n 0, 1), (1, .invokevirtual 155, 3), (4, .aload_n 0, 1), (5, .invokevirtual 112, 3), (8, .aload_n 0, 1), (9, .iload_n 2, 1), (10, .iconst 1, 1), (11, .iload_n 3, 1), (12, .invokevirtual 97, 3), (15, .iconst 1, 1), (16, .istore 4, 2), (18, .iconst 0, 1), (19, .istore 5, 2), (21, .iload 5, 2), (23, .aload_n 0, 1), (24, .getfield 51, 3), (27, .iload_n 1, 1), (28, .iaload, 1), (29, .if_icmp .ge 60, 3), (32, .iload 4, 2), (34, .ifCond .eq 55, 3), (37, .aload_n 0, 1), (38, .getfield 54, 3), (41, .bipush 40, 2), (43, .iload_n 1, 1), (44, .imul, 1), (45, .iload 5, 2), (47, .iadd, 1), (48, .iaload, 1), (49, .istore 6, 2), (51, .iload 6, 2), (53, .iconst (-1), 1), (54, .if_icmp .eq 14, 3), (57, .iload 6, 2), (59, .aload_n 0, 1), (60, .iload_n 2, 1), (61, .iconst 1, 1), (62, .invokevirtual 76, 3), (65, .if_icmp .ne 7, 3), (68, .iconst 1, 1)]
theorem tk_X6_fitsFrom_0 : dcA cX6_fitsFrom tb_X6_fitsFrom_0 = true := by decide +kernel
theorem dX6_fitsFrom_0 : decode cX6_fitsFrom 0 = .ok (.aload_n 0, 1) := dcO tk_X6_fitsFrom_0 0 rfl
theorem dX6_fitsFrom_1 : decode cX6_fitsFrom 1 = .ok (.invokevirtual 155, 3) := dcO tk_X6_fitsFrom_0 1 rfl
theorem dX6_fitsFrom_4 : decode cX6_fitsFrom 4 = .ok (.aload_n 0, 1) := dcO tk_X6_fitsFrom_0 2 rfl
theorem dX6_fitsFrom_5 : decode cX6_fitsFrom 5 = .ok (.invokevirtual 112, 3) := dcO tk_X6_fitsFrom_0 3 rfl
theorem dX6_fitsFrom_8 : decode cX6_fitsFrom 8 = .ok (.aload_n 0, 1) := dcO tk_X6_fitsFrom_0 4 rfl
theorem dX6_fitsFrom_9 : decode cX6_fitsFrom 9 = .ok (.iload_n 2, 1) := dcO tk_X6_fitsFrom_0 5 rfl
theorem dX6_fitsFrom_10 : decode cX6_fitsFrom 10 = .ok (.iconst 1, 1) := dcO tk_X6_fitsFrom_0 6 rfl
theorem dX6_fitsFrom_11 : decode cX6_fitsFrom 11 = .ok (.iload_n 3, 1) := dcO tk_X6_fitsFrom_0 7 rfl
theorem dX6_fitsFrom_12 : decode cX6_fitsFrom 12 = .ok (.invokevirtual 97, 3) := dcO tk_X6_fitsFrom_0 8 rfl
theorem dX6_fitsFrom_15 : decode cX6_fitsFrom 15 = .ok (.iconst 1, 1) := dcO tk_X6_fitsFrom_0 9 rfl
theorem dX6_fitsFrom_16 : decode cX6_fitsFrom 16 = .ok (.istore 4, 2) := dcO tk_X6_fitsFrom_0 10 rfl
theorem dX6_fitsFrom_18 : decode cX6_fitsFrom 18 = .ok (.iconst 0, 1) := dcO tk_X6_fitsFrom_0 11 rfl
theorem dX6_fitsFrom_19 : decode cX6_fitsFrom 19 = .ok (.istore 5, 2) := dcO tk_X6_fitsFrom_0 12 rfl
theorem dX6_fitsFrom_21 : decode cX6_fitsFrom 21 = .ok (.iload 5, 2) := dcO tk_X6_fitsFrom_0 13 rfl
theorem dX6_fitsFrom_23 : decode cX6_fitsFrom 23 = .ok (.aload_n 0, 1) := dcO tk_X6_fitsFrom_0 14 rfl
theorem dX6_fitsFrom_24 : decode cX6_fitsFrom 24 = .ok (.getfield 51, 3) := dcO tk_X6_fitsFrom_0 15 rfl
theorem dX6_fitsFrom_27 : decode cX6_fitsFrom 27 = .ok (.iload_n 1, 1) := dcO tk_X6_fitsFrom_0 16 rfl
theorem dX6_fitsFrom_28 : decode cX6_fitsFrom 28 = .ok (.iaload, 1) := dcO tk_X6_fitsFrom_0 17 rfl
theorem dX6_fitsFrom_29 : decode cX6_fitsFrom 29 = .ok (.if_icmp .ge 60, 3) := dcO tk_X6_fitsFrom_0 18 rfl
theorem dX6_fitsFrom_32 : decode cX6_fitsFrom 32 = .ok (.iload 4, 2) := dcO tk_X6_fitsFrom_0 19 rfl
theorem dX6_fitsFrom_34 : decode cX6_fitsFrom 34 = .ok (.ifCond .eq 55, 3) := dcO tk_X6_fitsFrom_0 20 rfl
theorem dX6_fitsFrom_37 : decode cX6_fitsFrom 37 = .ok (.aload_n 0, 1) := dcO tk_X6_fitsFrom_0 21 rfl
theorem dX6_fitsFrom_38 : decode cX6_fitsFrom 38 = .ok (.getfield 54, 3) := dcO tk_X6_fitsFrom_0 22 rfl
theorem dX6_fitsFrom_41 : decode cX6_fitsFrom 41 = .ok (.bipush 40, 2) := dcO tk_X6_fitsFrom_0 23 rfl
theorem dX6_fitsFrom_43 : decode cX6_fitsFrom 43 = .ok (.iload_n 1, 1) := dcO tk_X6_fitsFrom_0 24 rfl
theorem dX6_fitsFrom_44 : decode cX6_fitsFrom 44 = .ok (.imul, 1) := dcO tk_X6_fitsFrom_0 25 rfl
theorem dX6_fitsFrom_45 : decode cX6_fitsFrom 45 = .ok (.iload 5, 2) := dcO tk_X6_fitsFrom_0 26 rfl
theorem dX6_fitsFrom_47 : decode cX6_fitsFrom 47 = .ok (.iadd, 1) := dcO tk_X6_fitsFrom_0 27 rfl
theorem dX6_fitsFrom_48 : decode cX6_fitsFrom 48 = .ok (.iaload, 1) := dcO tk_X6_fitsFrom_0 28 rfl
theorem dX6_fitsFrom_49 : decode cX6_fitsFrom 49 = .ok (.istore 6, 2) := dcO tk_X6_fitsFrom_0 29 rfl
theorem dX6_fitsFrom_51 : decode cX6_fitsFrom 51 = .ok (.iload 6, 2) := dcO tk_X6_fitsFrom_0 30 rfl
theorem dX6_fitsFrom_53 : decode cX6_fitsFrom 53 = .ok (.iconst (-1), 1) := dcO tk_X6_fitsFrom_0 31 rfl
theorem dX6_fitsFrom_54 : decode cX6_fitsFrom 54 = .ok (.if_icmp .eq 14, 3) := dcO tk_X6_fitsFrom_0 32 rfl
theorem dX6_fitsFrom_57 : decode cX6_fitsFrom 57 = .ok (.iload 6, 2) := dcO tk_X6_fitsFrom_0 33 rfl
theorem dX6_fitsFrom_59 : decode cX6_fitsFrom 59 = .ok (.aload_n 0, 1) := dcO tk_X6_fitsFrom_0 34 rfl
theorem dX6_fitsFrom_60 : decode cX6_fitsFrom 60 = .ok (.iload_n 2, 1) := dcO tk_X6_fitsFrom_0 35 rfl
theorem dX6_fitsFrom_61 : decode cX6_fitsFrom 61 = .ok (.iconst 1, 1) := dcO tk_X6_fitsFrom_0 36 rfl
theorem dX6_fitsFrom_62 : decode cX6_fitsFrom 62 = .ok (.invokevirtual 76, 3) := dcO tk_X6_fitsFrom_0 37 rfl
theorem dX6_fitsFrom_65 : decode cX6_fitsFrom 65 = .ok (.if_icmp .ne 7, 3) := dcO tk_X6_fitsFrom_0 38 rfl
theorem dX6_fitsFrom_68 : decode cX6_fitsFrom 68 = .ok (.iconst 1, 1) := dcO tk_X6_fitsFrom_0 39 rfl
abbrev tb_X6_fitsFrom_1 : List (Nat × Instr × Nat) := [(69, .goto 4, 3), (72, .iconst 0, 1), (73, .istore 4, 2), (75, .aload_n 0, 1), (76, .aload_n 0, 1), (77, .invokevirtual 115, 3), (80, .invokevirtual 119, 3), (83, .iinc 5 1, 3), (86, .goto (-65), 3), (89, .aload_n 0, 1), (90, .invokevirtual 158, 3), (93, .iload 4, 2), (95, .ireturn, 1)]
theorem tk_X6_fitsFrom_1 : dcA cX6_fitsFrom tb_X6_fitsFrom_1 = true := by decide +kernel
theorem dX6_fitsFrom_69 : decode cX6_fitsFrom 69 = .ok (.goto 4, 3) := dcO tk_X6_fitsFrom_1 0 rfl
theorem dX6_fitsFrom_72 : decode cX6_fitsFrom 72 = .ok (.iconst 0, 1) := dcO tk_X6_fitsFrom_1 1 rfl
theorem dX6_fitsFrom_73 : decode cX6_fitsFrom 73 = .ok (.istore 4, 2) := dcO tk_X6_fitsFrom_1 2 rfl
theorem dX6_fitsFrom_75 : decode cX6_fitsFrom 75 = .ok (.aload_n 0, 1) := dcO tk_X6_fitsFrom_1 3 rfl
theorem dX6_fitsFrom_76 : decode cX6_fitsFrom 76 = .ok (.aload_n 0, 1) := dcO tk_X6_fitsFrom_1 4 rfl
theorem dX6_fitsFrom_77 : decode cX6_fitsFrom 77 = .ok (.invokevirtual 115, 3) := dcO tk_X6_fitsFrom_1 5 rfl
theorem dX6_fitsFrom_80 : decode cX6_fitsFrom 80 = .ok (.invokevirtual 119, 3) := dcO tk_X6_fitsFrom_1 6 rfl
theorem dX6_fitsFrom_83 : decode cX6_fitsFrom 83 = .ok (.iinc 5 1, 3) := dcO tk_X6_fitsFrom_1 7 rfl
theorem dX6_fitsFrom_86 : decode cX6_fitsFrom 86 = .ok (.goto (-65), 3) := dcO tk_X6_fitsFrom_1 8 rfl
theorem dX6_fitsFrom_89 : decode cX6_fitsFrom 89 = .ok (.aload_n 0, 1) := dcO tk_X6_fitsFrom_1 9 rfl
theorem dX6_fitsFrom_90 : decode cX6_fitsFrom 90 = .ok (.invokevirtual 158, 3) := dcO tk_X6_fitsFrom_1 10 rfl
theorem dX6_fitsFrom_93 : decode cX6_fitsFrom 93 = .ok (.iload 4, 2) := dcO tk_X6_fitsFrom_1 11 rfl
theorem dX6_fitsFrom_95 : decode cX6_fitsFrom 95 = .ok (.ireturn, 1) := dcO tk_X6_fitsFrom_1 12 rfl
abbrev tb_X6_wrongTrail_0 : List (Nat × Instr × Nat) := [(0, .aload_n 0, 1), (1, .iload_n 1, 1), (2, .invokevirtual 180, 3), (5, .istore_n 3, 1), (6, .iload_n 3, 1), (7, .ifCond .lt 7, 3), (10, .iload_n 3, 1), (11, .goto 16, 3), (14, .aload_n 0, 1), (15, .iload_n 2, 1), (16, .invokevirtual 131, 3), (19, .ifCond .eq 7, 3), (22, .iconst (-1), 1), (23, .goto 4, 3), (26, .iconst 0, 1), (27, .ireturn, 1)]
theorem tk_X6_wrongTrail_0 : dcA cX6_wrongTrail tb_X6_wrongTrail_0 = true := by decide +kernel
theorem dX6_wrongTrail_0 : decode cX6_wrongTrail 0 = .ok (.aload_n 0, 1) := dcO tk_X6_wrongTrail_0 0 rfl
theorem dX6_wrongTrail_1 : decode cX6_wrongTrail 1 = .ok (.iload_n 1, 1) := dcO tk_X6_wrongTrail_0 1 rfl
theorem dX6_wrongTrail_2 : decode cX6_wrongTrail 2 = .ok (.invokevirtual 180, 3) := dcO tk_X6_wrongTrail_0 2 rfl
theorem dX6_wrongTrail_5 : decode cX6_wrongTrail 5 = .ok (.istore_n 3, 1) := dcO tk_X6_wrongTrail_0 3 rfl
theorem dX6_wrongTrail_6 : decode cX6_wrongTrail 6 = .ok (.iload_n 3, 1) := dcO tk_X6_wrongTrail_0 4 rfl
theorem dX6_wrongTrail_7 : decode cX6_wrongTrail 7 = .ok (.ifCond .lt 7, 3) := dcO tk_X6_wrongTrail_0 5 rfl
theorem dX6_wrongTrail_10 : decode cX6_wrongTrail 10 = .ok (.iload_n 3, 1) := dcO tk_X6_wrongTrail_0 6 rfl
theorem dX6_wrongTrail_11 : decode cX6_wrongTrail 11 = .ok (.goto 16, 3) := dcO tk_X6_wrongTrail_0 7 rfl
theorem dX6_wrongTrail_14 : decode cX6_wrongTrail 14 = .ok (.aload_n 0, 1) := dcO tk_X6_wrongTrail_0 8 rfl
theorem dX6_wrongTrail_15 : decode cX6_wrongTrail 15 = .ok (.iload_n 2, 1) := dcO tk_X6_wrongTrail_0 9 rfl
theorem dX6_wrongTrail_16 : decode cX6_wrongTrail 16 = .ok (.invokevirtual 131, 3) := dcO tk_X6_wrongTrail_0 10 rfl
theorem dX6_wrongTrail_19 : decode cX6_wrongTrail 19 = .ok (.ifCond .eq 7, 3) := dcO tk_X6_wrongTrail_0 11 rfl
theorem dX6_wrongTrail_22 : decode cX6_wrongTrail 22 = .ok (.iconst (-1), 1) := dcO tk_X6_wrongTrail_0 12 rfl
theorem dX6_wrongTrail_23 : decode cX6_wrongTrail 23 = .ok (.goto 4, 3) := dcO tk_X6_wrongTrail_0 13 rfl
theorem dX6_wrongTrail_26 : decode cX6_wrongTrail 26 = .ok (.iconst 0, 1) := dcO tk_X6_wrongTrail_0 14 rfl
theorem dX6_wrongTrail_27 : decode cX6_wrongTrail 27 = .ok (.ireturn, 1) := dcO tk_X6_wrongTrail_0 15 rfl
abbrev tb_X6_fits_0 : List (Nat × Instr × Nat) := [(0, .aload_n 0, 1), (1, .iload_n 1, 1), (2, .iload_n 2, 1), (3, .invokevirtual 183, 3), (6, .istore_n 3, 1), (7, .iload_n 3, 1), (8, .ifCond .lt 9, 3), (11, .aload_n 0, 1), (12, .iload_n 3, 1), (13, .invokevirtual 125, 3), (16, .ireturn, 1), (17, .iconst 0, 1), (18, .istore 4, 2), (20, .iconst 0, 1), (21, .istore 5, 2), (23, .iload 5, 2), (25, .bipush 81, 2), (27, .if_icmp .ge 30, 3), (30, .iload 4, 2), (32, .aload_n 0, 1), (33, .iload_n 1, 1), (34, .iload_n 2, 1), (35, .iload 5, 2), (37, .invokevirtual 186, 3), (40, .ifCond .eq 7, 3), (43, .iconst 1, 1), (44, .goto 4, 3), (47, .iconst 0, 1), (48, .iadd, 1), (49, .istore 4, 2), (51, .iinc 5 1, 3), (54, .goto (-31), 3), (57, .iload 4, 2), (59, .ireturn, 1)]
theorem tk_X6_fits_0 : dcA cX6_fits tb_X6_fits_0 = true := by decide +kernel
theorem dX6_fits_0 : decode cX6_fits 0 = .ok (.aload_n 0, 1) := dcO tk_X6_fits_0 0 rfl
theorem dX6_fits_1 : decode cX6_fits 1 = .ok (.iload_n 1, 1) := dcO tk_X6_fits_0 1 rfl
theorem dX6_fits_2 : decode cX6_fits 2 = .ok (.iload_n 2, 1) := dcO tk_X6_fits_0 2 rfl
theorem dX6_fits_3 : decode cX6_fits 3 = .ok (.invokevirtual 183, 3) := dcO tk_X6_fits_0 3 rfl
theorem dX6_fits_6 : decode cX6_fits 6 = .ok (.istore_n 3, 1) := dcO tk_X6_fits_0 4 rfl
theorem dX6_fits_7 : decode cX6_fits 7 = .ok (.iload_n 3, 1) := dcO tk_X6_fits_0 5 rfl
theorem dX6_fits_8 : decode cX6_fits 8 = .ok (.ifCond .lt 9, 3) := dcO tk_X6_fits_0 6 rfl
theorem dX6_fits_11 : decode cX6_fits 11 = .ok (.aload_n 0, 1) := dcO tk_X6_fits_0 7 rfl
theorem dX6_fits_12 : decode cX6_fits 12 = .ok (.iload_n 3, 1) := dcO tk_X6_fits_0 8 rfl
theorem dX6_fits_13 : decode cX6_fits 13 = .ok (.invokevirtual 125, 3) := dcO tk_X6_fits_0 9 rfl
theorem dX6_fits_16 : decode cX6_fits 16 = .ok (.ireturn, 1) := dcO tk_X6_fits_0 10 rfl
theorem dX6_fits_17 : decode cX6_fits 17 = .ok (.iconst 0, 1) := dcO tk_X6_fits_0 11 rfl
theorem dX6_fits_18 : decode cX6_fits 18 = .ok (.istore 4, 2) := dcO tk_X6_fits_0 12 rfl
theorem dX6_fits_20 : decode cX6_fits 20 = .ok (.iconst 0, 1) := dcO tk_X6_fits_0 13 rfl
theorem dX6_fits_21 : decode cX6_fits 21 = .ok (.istore 5, 2) := dcO tk_X6_fits_0 14 rfl
theorem dX6_fits_23 : decode cX6_fits 23 = .ok (.iload 5, 2) := dcO tk_X6_fits_0 15 rfl
theorem dX6_fits_25 : decode cX6_fits 25 = .ok (.bipush 81, 2) := dcO tk_X6_fits_0 16 rfl
theorem dX6_fits_27 : decode cX6_fits 27 = .ok (.if_icmp .ge 30, 3) := dcO tk_X6_fits_0 17 rfl
theorem dX6_fits_30 : decode cX6_fits 30 = .ok (.iload 4, 2) := dcO tk_X6_fits_0 18 rfl
theorem dX6_fits_32 : decode cX6_fits 32 = .ok (.aload_n 0, 1) := dcO tk_X6_fits_0 19 rfl
theorem dX6_fits_33 : decode cX6_fits 33 = .ok (.iload_n 1, 1) := dcO tk_X6_fits_0 20 rfl
theorem dX6_fits_34 : decode cX6_fits 34 = .ok (.iload_n 2, 1) := dcO tk_X6_fits_0 21 rfl
theorem dX6_fits_35 : decode cX6_fits 35 = .ok (.iload 5, 2) := dcO tk_X6_fits_0 22 rfl
theorem dX6_fits_37 : decode cX6_fits 37 = .ok (.invokevirtual 186, 3) := dcO tk_X6_fits_0 23 rfl
theorem dX6_fits_40 : decode cX6_fits 40 = .ok (.ifCond .eq 7, 3) := dcO tk_X6_fits_0 24 rfl
theorem dX6_fits_43 : decode cX6_fits 43 = .ok (.iconst 1, 1) := dcO tk_X6_fits_0 25 rfl
theorem dX6_fits_44 : decode cX6_fits 44 = .ok (.goto 4, 3) := dcO tk_X6_fits_0 26 rfl
theorem dX6_fits_47 : decode cX6_fits 47 = .ok (.iconst 0, 1) := dcO tk_X6_fits_0 27 rfl
theorem dX6_fits_48 : decode cX6_fits 48 = .ok (.iadd, 1) := dcO tk_X6_fits_0 28 rfl
theorem dX6_fits_49 : decode cX6_fits 49 = .ok (.istore 4, 2) := dcO tk_X6_fits_0 29 rfl
theorem dX6_fits_51 : decode cX6_fits 51 = .ok (.iinc 5 1, 3) := dcO tk_X6_fits_0 30 rfl
theorem dX6_fits_54 : decode cX6_fits 54 = .ok (.goto (-31), 3) := dcO tk_X6_fits_0 31 rfl
theorem dX6_fits_57 : decode cX6_fits 57 = .ok (.iload 4, 2) := dcO tk_X6_fits_0 32 rfl
theorem dX6_fits_59 : decode cX6_fits 59 = .ok (.ireturn, 1) := dcO tk_X6_fits_0 33 rfl
abbrev tb_X6_began_0 : List (Nat × Instr × Nat) := [(0, .aload_n 0, 1), (1, .iload_n 1, 1), (2, .iload_n 2, 1), (3, .invokevirtual 183, 3), (6, .istore_n 3, 1), (7, .iload_n 3, 1), (8, .ifCond .lt 9, 3), (11, .aload_n 0, 1), (12, .iload_n 3, 1), (13, .invokevirtual 125, 3), (16, .ireturn, 1), (17, .iconst 0, 1), (18, .istore 4, 2), (20, .iload 4, 2), (22, .bipush 81, 2), (24, .if_icmp .ge 23, 3), (27, .aload_n 0, 1), (28, .iload_n 1, 1), (29, .iload_n 2, 1), (30, .iload 4, 2), (32, .invokevirtual 186, 3), (35, .ifCond .eq 6, 3), (38, .iload 4, 2), (40, .ireturn, 1), (41, .iinc 4 1, 3), (44, .goto (-24), 3), (47, .aload_n 0, 1), (48, .iconst 3, 1), (49, .invokevirtual 125, 3), (52, .ireturn, 1)]
theorem tk_X6_began_0 : dcA cX6_began tb_X6_began_0 = true := by decide +kernel
theorem dX6_began_0 : decode cX6_began 0 = .ok (.aload_n 0, 1) := dcO tk_X6_began_0 0 rfl
theorem dX6_began_1 : decode cX6_began 1 = .ok (.iload_n 1, 1) := dcO tk_X6_began_0 1 rfl
theorem dX6_began_2 : decode cX6_began 2 = .ok (.iload_n 2, 1) := dcO tk_X6_began_0 2 rfl
theorem dX6_began_3 : decode cX6_began 3 = .ok (.invokevirtual 183, 3) := dcO tk_X6_began_0 3 rfl
theorem dX6_began_6 : decode cX6_began 6 = .ok (.istore_n 3, 1) := dcO tk_X6_began_0 4 rfl
theorem dX6_began_7 : decode cX6_began 7 = .ok (.iload_n 3, 1) := dcO tk_X6_began_0 5 rfl
theorem dX6_began_8 : decode cX6_began 8 = .ok (.ifCond .lt 9, 3) := dcO tk_X6_began_0 6 rfl
theorem dX6_began_11 : decode cX6_began 11 = .ok (.aload_n 0, 1) := dcO tk_X6_began_0 7 rfl
theorem dX6_began_12 : decode cX6_began 12 = .ok (.iload_n 3, 1) := dcO tk_X6_began_0 8 rfl
theorem dX6_began_13 : decode cX6_began 13 = .ok (.invokevirtual 125, 3) := dcO tk_X6_began_0 9 rfl
theorem dX6_began_16 : decode cX6_began 16 = .ok (.ireturn, 1) := dcO tk_X6_began_0 10 rfl
theorem dX6_began_17 : decode cX6_began 17 = .ok (.iconst 0, 1) := dcO tk_X6_began_0 11 rfl
theorem dX6_began_18 : decode cX6_began 18 = .ok (.istore 4, 2) := dcO tk_X6_began_0 12 rfl
theorem dX6_began_20 : decode cX6_began 20 = .ok (.iload 4, 2) := dcO tk_X6_began_0 13 rfl
theorem dX6_began_22 : decode cX6_began 22 = .ok (.bipush 81, 2) := dcO tk_X6_began_0 14 rfl
theorem dX6_began_24 : decode cX6_began 24 = .ok (.if_icmp .ge 23, 3) := dcO tk_X6_began_0 15 rfl
theorem dX6_began_27 : decode cX6_began 27 = .ok (.aload_n 0, 1) := dcO tk_X6_began_0 16 rfl
theorem dX6_began_28 : decode cX6_began 28 = .ok (.iload_n 1, 1) := dcO tk_X6_began_0 17 rfl
theorem dX6_began_29 : decode cX6_began 29 = .ok (.iload_n 2, 1) := dcO tk_X6_began_0 18 rfl
theorem dX6_began_30 : decode cX6_began 30 = .ok (.iload 4, 2) := dcO tk_X6_began_0 19 rfl
theorem dX6_began_32 : decode cX6_began 32 = .ok (.invokevirtual 186, 3) := dcO tk_X6_began_0 20 rfl
theorem dX6_began_35 : decode cX6_began 35 = .ok (.ifCond .eq 6, 3) := dcO tk_X6_began_0 21 rfl
theorem dX6_began_38 : decode cX6_began 38 = .ok (.iload 4, 2) := dcO tk_X6_began_0 22 rfl
theorem dX6_began_40 : decode cX6_began 40 = .ok (.ireturn, 1) := dcO tk_X6_began_0 23 rfl
theorem dX6_began_41 : decode cX6_began 41 = .ok (.iinc 4 1, 3) := dcO tk_X6_began_0 24 rfl
theorem dX6_began_44 : decode cX6_began 44 = .ok (.goto (-24), 3) := dcO tk_X6_began_0 25 rfl
theorem dX6_began_47 : decode cX6_began 47 = .ok (.aload_n 0, 1) := dcO tk_X6_began_0 26 rfl
theorem dX6_began_48 : decode cX6_began 48 = .ok (.iconst 3, 1) := dcO tk_X6_began_0 27 rfl
theorem dX6_began_49 : decode cX6_began 49 = .ok (.invokevirtual 125, 3) := dcO tk_X6_began_0 28 rfl
theorem dX6_began_52 : decode cX6_began 52 = .ok (.ireturn, 1) := dcO tk_X6_began_0 29 rfl
abbrev tb_X6_draw_0 : List (Nat × Instr × Nat) := [(0, .aload_n 0, 1), (1, .getfield 9, 3), (4, .iconst 3, 1), (5, .aload_n 0, 1), (6, .getfield 9, 3), (9, .iconst 3, 1), (10, .iaload, 1), (11, .ldc 189, 2), (13, .imul, 1), (14, .sipush 12345, 3), (17, .iadd, 1), (18, .iastore, 1), (19, .aload_n 0, 1), (20, .getfield 9, 3), (23, .iconst 3, 1), (24, .iaload, 1), (25, .bipush 8, 2), (27, .iushr, 1), (28, .ireturn, 1)]
theorem tk_X6_draw_0 : dcA cX6_draw tb_X6_draw_0 = true := by decide +kernel
theorem dX6_draw_0 : decode cX6_draw 0 = .ok (.aload_n 0, 1) := dcO tk_X6_draw_0 0 rfl
theorem dX6_draw_1 : decode cX6_draw 1 = .ok (.getfield 9, 3) := dcO tk_X6_draw_0 1 rfl
theorem dX6_draw_4 : decode cX6_draw 4 = .ok (.iconst 3, 1) := dcO tk_X6_draw_0 2 rfl
theorem dX6_draw_5 : decode cX6_draw 5 = .ok (.aload_n 0, 1) := dcO tk_X6_draw_0 3 rfl
theorem dX6_draw_6 : decode cX6_draw 6 = .ok (.getfield 9, 3) := dcO tk_X6_draw_0 4 rfl
theorem dX6_draw_9 : decode cX6_draw 9 = .ok (.iconst 3, 1) := dcO tk_X6_draw_0 5 rfl
theorem dX6_draw_10 : decode cX6_draw 10 = .ok (.iaload, 1) := dcO tk_X6_draw_0 6 rfl
theorem dX6_draw_11 : decode cX6_draw 11 = .ok (.ldc 189, 2) := dcO tk_X6_draw_0 7 rfl
theorem dX6_draw_13 : decode cX6_draw 13 = .ok (.imul, 1) := dcO tk_X6_draw_0 8 rfl
theorem dX6_draw_14 : decode cX6_draw 14 = .ok (.sipush 12345, 3) := dcO tk_X6_draw_0 9 rfl
theorem dX6_draw_17 : decode cX6_draw 17 = .ok (.iadd, 1) := dcO tk_X6_draw_0 10 rfl
theorem dX6_draw_18 : decode cX6_draw 18 = .ok (.iastore, 1) := dcO tk_X6_draw_0 11 rfl
theorem dX6_draw_19 : decode cX6_draw 19 = .ok (.aload_n 0, 1) := dcO tk_X6_draw_0 12 rfl
theorem dX6_draw_20 : decode cX6_draw 20 = .ok (.getfield 9, 3) := dcO tk_X6_draw_0 13 rfl
theorem dX6_draw_23 : decode cX6_draw 23 = .ok (.iconst 3, 1) := dcO tk_X6_draw_0 14 rfl
theorem dX6_draw_24 : decode cX6_draw 24 = .ok (.iaload, 1) := dcO tk_X6_draw_0 15 rfl
theorem dX6_draw_25 : decode cX6_draw 25 = .ok (.bipush 8, 2) := dcO tk_X6_draw_0 16 rfl
theorem dX6_draw_27 : decode cX6_draw 27 = .ok (.iushr, 1) := dcO tk_X6_draw_0 17 rfl
theorem dX6_draw_28 : decode cX6_draw 28 = .ok (.ireturn, 1) := dcO tk_X6_draw_0 18 rfl
abbrev tb_X6_thrushes_0 : List (Nat × Instr × Nat) := [(0, .iload_n 1, 1), (1, .iconst 1, 1), (2, .bipush 20, 2), (4, .invokestatic 61, 3), (7, .ifCond .ne 9, 3), (10, .aload_n 0, 1), (11, .iconst 0, 1), (12, .invokevirtual 125, 3), (15, .ireturn, 1), (16, .aload_n 0, 1), (17, .getfield 9, 3), (20, .iconst 0, 1), (21, .iaload, 1), (22, .iload_n 1, 1), (23, .iadd, 1), (24, .ldc 83, 2), (26, .if_icmp .le 9, 3), (29, .aload_n 0, 1), (30, .iconst 4, 1), (31, .invokevirtual 125, 3), (34, .ireturn, 1), (35, .aload_n 0, 1), (36, .invokevirtual 112, 3), (39, .iconst 0, 1), (40, .istore_n 2, 1), (41, .iconst 0, 1), (42, .istore_n 3, 1), (43, .iload_n 3, 1), (44, .iload_n 1, 1), (45, .if_icmp .ge 96, 3), (48, .iconst 0, 1), (49, .istore 4, 2), (51, .iload 4, 2), (53, .aload_n 0, 1), (54, .getfield 9, 3), (57, .iconst 2, 1), (58, .iaload, 1), (59, .if_icmp .ge 68, 3), (62, .aload_n 0, 1), (63, .invokevirtual 190, 3)]
theorem tk_X6_thrushes_0 : dcA cX6_thrushes tb_X6_thrushes_0 = true := by decide +kernel
theorem dX6_thrushes_0 : decode cX6_thrushes 0 = .ok (.iload_n 1, 1) := dcO tk_X6_thrushes_0 0 rfl
theorem dX6_thrushes_1 : decode cX6_thrushes 1 = .ok (.iconst 1, 1) := dcO tk_X6_thrushes_0 1 rfl
theorem dX6_thrushes_2 : decode cX6_thrushes 2 = .ok (.bipush 20, 2) := dcO tk_X6_thrushes_0 2 rfl
theorem dX6_thrushes_4 : decode cX6_thrushes 4 = .ok (.invokestatic 61, 3) := dcO tk_X6_thrushes_0 3 rfl
theorem dX6_thrushes_7 : decode cX6_thrushes 7 = .ok (.ifCond .ne 9, 3) := dcO tk_X6_thrushes_0 4 rfl
theorem dX6_thrushes_10 : decode cX6_thrushes 10 = .ok (.aload_n 0, 1) := dcO tk_X6_thrushes_0 5 rfl
theorem dX6_thrushes_11 : decode cX6_thrushes 11 = .ok (.iconst 0, 1) := dcO tk_X6_thrushes_0 6 rfl
theorem dX6_thrushes_12 : decode cX6_thrushes 12 = .ok (.invokevirtual 125, 3) := dcO tk_X6_thrushes_0 7 rfl
theorem dX6_thrushes_15 : decode cX6_thrushes 15 = .ok (.ireturn, 1) := dcO tk_X6_thrushes_0 8 rfl
theorem dX6_thrushes_16 : decode cX6_thrushes 16 = .ok (.aload_n 0, 1) := dcO tk_X6_thrushes_0 9 rfl
theorem dX6_thrushes_17 : decode cX6_thrushes 17 = .ok (.getfield 9, 3) := dcO tk_X6_thrushes_0 10 rfl
theorem dX6_thrushes_20 : decode cX6_thrushes 20 = .ok (.iconst 0, 1) := dcO tk_X6_thrushes_0 11 rfl
theorem dX6_thrushes_21 : decode cX6_thrushes 21 = .ok (.iaload, 1) := dcO tk_X6_thrushes_0 12 rfl
theorem dX6_thrushes_22 : decode cX6_thrushes 22 = .ok (.iload_n 1, 1) := dcO tk_X6_thrushes_0 13 rfl
theorem dX6_thrushes_23 : decode cX6_thrushes 23 = .ok (.iadd, 1) := dcO tk_X6_thrushes_0 14 rfl
theorem dX6_thrushes_24 : decode cX6_thrushes 24 = .ok (.ldc 83, 2) := dcO tk_X6_thrushes_0 15 rfl
theorem dX6_thrushes_26 : decode cX6_thrushes 26 = .ok (.if_icmp .le 9, 3) := dcO tk_X6_thrushes_0 16 rfl
theorem dX6_thrushes_29 : decode cX6_thrushes 29 = .ok (.aload_n 0, 1) := dcO tk_X6_thrushes_0 17 rfl
theorem dX6_thrushes_30 : decode cX6_thrushes 30 = .ok (.iconst 4, 1) := dcO tk_X6_thrushes_0 18 rfl
theorem dX6_thrushes_31 : decode cX6_thrushes 31 = .ok (.invokevirtual 125, 3) := dcO tk_X6_thrushes_0 19 rfl
theorem dX6_thrushes_34 : decode cX6_thrushes 34 = .ok (.ireturn, 1) := dcO tk_X6_thrushes_0 20 rfl
theorem dX6_thrushes_35 : decode cX6_thrushes 35 = .ok (.aload_n 0, 1) := dcO tk_X6_thrushes_0 21 rfl
theorem dX6_thrushes_36 : decode cX6_thrushes 36 = .ok (.invokevirtual 112, 3) := dcO tk_X6_thrushes_0 22 rfl
theorem dX6_thrushes_39 : decode cX6_thrushes 39 = .ok (.iconst 0, 1) := dcO tk_X6_thrushes_0 23 rfl
theorem dX6_thrushes_40 : decode cX6_thrushes 40 = .ok (.istore_n 2, 1) := dcO tk_X6_thrushes_0 24 rfl
theorem dX6_thrushes_41 : decode cX6_thrushes 41 = .ok (.iconst 0, 1) := dcO tk_X6_thrushes_0 25 rfl
theorem dX6_thrushes_42 : decode cX6_thrushes 42 = .ok (.istore_n 3, 1) := dcO tk_X6_thrushes_0 26 rfl
theorem dX6_thrushes_43 : decode cX6_thrushes 43 = .ok (.iload_n 3, 1) := dcO tk_X6_thrushes_0 27 rfl
theorem dX6_thrushes_44 : decode cX6_thrushes 44 = .ok (.iload_n 1, 1) := dcO tk_X6_thrushes_0 28 rfl
theorem dX6_thrushes_45 : decode cX6_thrushes 45 = .ok (.if_icmp .ge 96, 3) := dcO tk_X6_thrushes_0 29 rfl
theorem dX6_thrushes_48 : decode cX6_thrushes 48 = .ok (.iconst 0, 1) := dcO tk_X6_thrushes_0 30 rfl
theorem dX6_thrushes_49 : decode cX6_thrushes 49 = .ok (.istore 4, 2) := dcO tk_X6_thrushes_0 31 rfl
theorem dX6_thrushes_51 : decode cX6_thrushes 51 = .ok (.iload 4, 2) := dcO tk_X6_thrushes_0 32 rfl
theorem dX6_thrushes_53 : decode cX6_thrushes 53 = .ok (.aload_n 0, 1) := dcO tk_X6_thrushes_0 33 rfl
theorem dX6_thrushes_54 : decode cX6_thrushes 54 = .ok (.getfield 9, 3) := dcO tk_X6_thrushes_0 34 rfl
theorem dX6_thrushes_57 : decode cX6_thrushes 57 = .ok (.iconst 2, 1) := dcO tk_X6_thrushes_0 35 rfl
theorem dX6_thrushes_58 : decode cX6_thrushes 58 = .ok (.iaload, 1) := dcO tk_X6_thrushes_0 36 rfl
theorem dX6_thrushes_59 : decode cX6_thrushes 59 = .ok (.if_icmp .ge 68, 3) := dcO tk_X6_thrushes_0 37 rfl
theorem dX6_thrushes_62 : decode cX6_thrushes 62 = .ok (.aload_n 0, 1) := dcO tk_X6_thrushes_0 38 rfl
theorem dX6_thrushes_63 : decode cX6_thrushes 63 = .ok (.invokevirtual 190, 3) := dcO tk_X6_thrushes_0 39 rfl
abbrev tb_X6_thrushes_1 : List (Nat × Instr × Nat) := [(66, .bipush 20, 2), (68, .irem, 1), (69, .aload_n 0, 1), (70, .getfield 9, 3), (73, .iconst 5, 1), (74, .iaload, 1), (75, .if_icmp .ge 7, 3), (78, .iconst 1, 1), (79, .goto 4, 3), (82, .iconst 0, 1), (83, .istore 5, 2), (85, .aload_n 0, 1), (86, .iload 4, 2), (88, .iconst 1, 1), (89, .iload 5, 2), (91, .ifCond .eq 7, 3), (94, .iconst 0, 1), (95, .goto 10, 3), (98, .aload_n 0, 1), (99, .iload 4, 2), (101, .iconst 1, 1), (102, .invokevirtual 76, 3), (105, .invokevirtual 97, 3), (108, .iload_n 2, 1), (109, .iload 5, 2), (111, .ifCond .eq 7, 3), (114, .iconst 1, 1), (115, .goto 4, 3), (118, .iconst 0, 1), (119, .iadd, 1), (120, .istore_n 2, 1), (121, .iinc 4 1, 3), (124, .goto (-73), 3), (127, .aload_n 0, 1), (128, .aload_n 0, 1), (129, .invokevirtual 115, 3), (132, .invokevirtual 119, 3), (135, .iinc 3 1, 3), (138, .goto (-95), 3), (141, .iload_n 2, 1)]
theorem tk_X6_thrushes_1 : dcA cX6_thrushes tb_X6_thrushes_1 = true := by decide +kernel
theorem dX6_thrushes_66 : decode cX6_thrushes 66 = .ok (.bipush 20, 2) := dcO tk_X6_thrushes_1 0 rfl
theorem dX6_thrushes_68 : decode cX6_thrushes 68 = .ok (.irem, 1) := dcO tk_X6_thrushes_1 1 rfl
theorem dX6_thrushes_69 : decode cX6_thrushes 69 = .ok (.aload_n 0, 1) := dcO tk_X6_thrushes_1 2 rfl
theorem dX6_thrushes_70 : decode cX6_thrushes 70 = .ok (.getfield 9, 3) := dcO tk_X6_thrushes_1 3 rfl
theorem dX6_thrushes_73 : decode cX6_thrushes 73 = .ok (.iconst 5, 1) := dcO tk_X6_thrushes_1 4 rfl
theorem dX6_thrushes_74 : decode cX6_thrushes 74 = .ok (.iaload, 1) := dcO tk_X6_thrushes_1 5 rfl
theorem dX6_thrushes_75 : decode cX6_thrushes 75 = .ok (.if_icmp .ge 7, 3) := dcO tk_X6_thrushes_1 6 rfl
theorem dX6_thrushes_78 : decode cX6_thrushes 78 = .ok (.iconst 1, 1) := dcO tk_X6_thrushes_1 7 rfl
theorem dX6_thrushes_79 : decode cX6_thrushes 79 = .ok (.goto 4, 3) := dcO tk_X6_thrushes_1 8 rfl
theorem dX6_thrushes_82 : decode cX6_thrushes 82 = .ok (.iconst 0, 1) := dcO tk_X6_thrushes_1 9 rfl
theorem dX6_thrushes_83 : decode cX6_thrushes 83 = .ok (.istore 5, 2) := dcO tk_X6_thrushes_1 10 rfl
theorem dX6_thrushes_85 : decode cX6_thrushes 85 = .ok (.aload_n 0, 1) := dcO tk_X6_thrushes_1 11 rfl
theorem dX6_thrushes_86 : decode cX6_thrushes 86 = .ok (.iload 4, 2) := dcO tk_X6_thrushes_1 12 rfl
theorem dX6_thrushes_88 : decode cX6_thrushes 88 = .ok (.iconst 1, 1) := dcO tk_X6_thrushes_1 13 rfl
theorem dX6_thrushes_89 : decode cX6_thrushes 89 = .ok (.iload 5, 2) := dcO tk_X6_thrushes_1 14 rfl
theorem dX6_thrushes_91 : decode cX6_thrushes 91 = .ok (.ifCond .eq 7, 3) := dcO tk_X6_thrushes_1 15 rfl
theorem dX6_thrushes_94 : decode cX6_thrushes 94 = .ok (.iconst 0, 1) := dcO tk_X6_thrushes_1 16 rfl
theorem dX6_thrushes_95 : decode cX6_thrushes 95 = .ok (.goto 10, 3) := dcO tk_X6_thrushes_1 17 rfl
theorem dX6_thrushes_98 : decode cX6_thrushes 98 = .ok (.aload_n 0, 1) := dcO tk_X6_thrushes_1 18 rfl
theorem dX6_thrushes_99 : decode cX6_thrushes 99 = .ok (.iload 4, 2) := dcO tk_X6_thrushes_1 19 rfl
theorem dX6_thrushes_101 : decode cX6_thrushes 101 = .ok (.iconst 1, 1) := dcO tk_X6_thrushes_1 20 rfl
theorem dX6_thrushes_102 : decode cX6_thrushes 102 = .ok (.invokevirtual 76, 3) := dcO tk_X6_thrushes_1 21 rfl
theorem dX6_thrushes_105 : decode cX6_thrushes 105 = .ok (.invokevirtual 97, 3) := dcO tk_X6_thrushes_1 22 rfl
theorem dX6_thrushes_108 : decode cX6_thrushes 108 = .ok (.iload_n 2, 1) := dcO tk_X6_thrushes_1 23 rfl
theorem dX6_thrushes_109 : decode cX6_thrushes 109 = .ok (.iload 5, 2) := dcO tk_X6_thrushes_1 24 rfl
theorem dX6_thrushes_111 : decode cX6_thrushes 111 = .ok (.ifCond .eq 7, 3) := dcO tk_X6_thrushes_1 25 rfl
theorem dX6_thrushes_114 : decode cX6_thrushes 114 = .ok (.iconst 1, 1) := dcO tk_X6_thrushes_1 26 rfl
theorem dX6_thrushes_115 : decode cX6_thrushes 115 = .ok (.goto 4, 3) := dcO tk_X6_thrushes_1 27 rfl
theorem dX6_thrushes_118 : decode cX6_thrushes 118 = .ok (.iconst 0, 1) := dcO tk_X6_thrushes_1 28 rfl
theorem dX6_thrushes_119 : decode cX6_thrushes 119 = .ok (.iadd, 1) := dcO tk_X6_thrushes_1 29 rfl
theorem dX6_thrushes_120 : decode cX6_thrushes 120 = .ok (.istore_n 2, 1) := dcO tk_X6_thrushes_1 30 rfl
theorem dX6_thrushes_121 : decode cX6_thrushes 121 = .ok (.iinc 4 1, 3) := dcO tk_X6_thrushes_1 31 rfl
theorem dX6_thrushes_124 : decode cX6_thrushes 124 = .ok (.goto (-73), 3) := dcO tk_X6_thrushes_1 32 rfl
theorem dX6_thrushes_127 : decode cX6_thrushes 127 = .ok (.aload_n 0, 1) := dcO tk_X6_thrushes_1 33 rfl
theorem dX6_thrushes_128 : decode cX6_thrushes 128 = .ok (.aload_n 0, 1) := dcO tk_X6_thrushes_1 34 rfl
theorem dX6_thrushes_129 : decode cX6_thrushes 129 = .ok (.invokevirtual 115, 3) := dcO tk_X6_thrushes_1 35 rfl
theorem dX6_thrushes_132 : decode cX6_thrushes 132 = .ok (.invokevirtual 119, 3) := dcO tk_X6_thrushes_1 36 rfl
theorem dX6_thrushes_135 : decode cX6_thrushes 135 = .ok (.iinc 3 1, 3) := dcO tk_X6_thrushes_1 37 rfl
theorem dX6_thrushes_138 : decode cX6_thrushes 138 = .ok (.goto (-95), 3) := dcO tk_X6_thrushes_1 38 rfl
theorem dX6_thrushes_141 : decode cX6_thrushes 141 = .ok (.iload_n 2, 1) := dcO tk_X6_thrushes_1 39 rfl
abbrev tb_X6_thrushes_2 : List (Nat × Instr × Nat) := [(142, .ireturn, 1)]
theorem tk_X6_thrushes_2 : dcA cX6_thrushes tb_X6_thrushes_2 = true := by decide +kernel
theorem dX6_thrushes_142 : decode cX6_thrushes 142 = .ok (.ireturn, 1) := dcO tk_X6_thrushes_2 0 rfl
abbrev tb_X6_alone_0 : List (Nat × Instr × Nat) := [(0, .iload_n 1, 1), (1, .iconst 0, 1), (2, .bipush 14, 2), (4, .invokestatic 61, 3), (7, .ifCond .eq 12, 3), (10, .iload_n 2, 1), (11, .iconst 0, 1), (12, .iconst 1, 1), (13, .invokestatic 61, 3), (16, .ifCond .ne 10, 3), (19, .aload_n 0, 1), (20, .iconst 0, 1), (21, .invokevirtual 125, 3), (24, .i2l, 1), (25, .lreturn, 1), (26, .lconst 1, 1), (27, .lstore_n 3, 1), (28, .lconst 1, 1), (29, .lstore 5, 2), (31, .iconst 0, 1), (32, .istore 7, 2), (34, .iload 7, 2), (36, .iload_n 1, 1), (37, .if_icmp .ge 31, 3), (40, .lload_n 3, 1), (41, .ldc2_w 193, 3), (44, .aload_n 0, 1), (45, .getfield 9, 3), (48, .iconst 5, 1), (49, .iaload, 1), (50, .i2l, 1), (51, .lsub, 1), (52, .lmul, 1), (53, .lstore_n 3, 1), (54, .lload 5, 2), (56, .ldc2_w 193, 3), (59, .lmul, 1), (60, .lstore 5, 2), (62, .iinc 7 1, 3), (65, .goto (-31), 3)]
theorem tk_X6_alone_0 : dcA cX6_alone tb_X6_alone_0 = true := by decide +kernel
theorem dX6_alone_0 : decode cX6_alone 0 = .ok (.iload_n 1, 1) := dcO tk_X6_alone_0 0 rfl
theorem dX6_alone_1 : decode cX6_alone 1 = .ok (.iconst 0, 1) := dcO tk_X6_alone_0 1 rfl
theorem dX6_alone_2 : decode cX6_alone 2 = .ok (.bipush 14, 2) := dcO tk_X6_alone_0 2 rfl
theorem dX6_alone_4 : decode cX6_alone 4 = .ok (.invokestatic 61, 3) := dcO tk_X6_alone_0 3 rfl
theorem dX6_alone_7 : decode cX6_alone 7 = .ok (.ifCond .eq 12, 3) := dcO tk_X6_alone_0 4 rfl
theorem dX6_alone_10 : decode cX6_alone 10 = .ok (.iload_n 2, 1) := dcO tk_X6_alone_0 5 rfl
theorem dX6_alone_11 : decode cX6_alone 11 = .ok (.iconst 0, 1) := dcO tk_X6_alone_0 6 rfl
theorem dX6_alone_12 : decode cX6_alone 12 = .ok (.iconst 1, 1) := dcO tk_X6_alone_0 7 rfl
theorem dX6_alone_13 : decode cX6_alone 13 = .ok (.invokestatic 61, 3) := dcO tk_X6_alone_0 8 rfl
theorem dX6_alone_16 : decode cX6_alone 16 = .ok (.ifCond .ne 10, 3) := dcO tk_X6_alone_0 9 rfl
theorem dX6_alone_19 : decode cX6_alone 19 = .ok (.aload_n 0, 1) := dcO tk_X6_alone_0 10 rfl
theorem dX6_alone_20 : decode cX6_alone 20 = .ok (.iconst 0, 1) := dcO tk_X6_alone_0 11 rfl
theorem dX6_alone_21 : decode cX6_alone 21 = .ok (.invokevirtual 125, 3) := dcO tk_X6_alone_0 12 rfl
theorem dX6_alone_24 : decode cX6_alone 24 = .ok (.i2l, 1) := dcO tk_X6_alone_0 13 rfl
theorem dX6_alone_25 : decode cX6_alone 25 = .ok (.lreturn, 1) := dcO tk_X6_alone_0 14 rfl
theorem dX6_alone_26 : decode cX6_alone 26 = .ok (.lconst 1, 1) := dcO tk_X6_alone_0 15 rfl
theorem dX6_alone_27 : decode cX6_alone 27 = .ok (.lstore_n 3, 1) := dcO tk_X6_alone_0 16 rfl
theorem dX6_alone_28 : decode cX6_alone 28 = .ok (.lconst 1, 1) := dcO tk_X6_alone_0 17 rfl
theorem dX6_alone_29 : decode cX6_alone 29 = .ok (.lstore 5, 2) := dcO tk_X6_alone_0 18 rfl
theorem dX6_alone_31 : decode cX6_alone 31 = .ok (.iconst 0, 1) := dcO tk_X6_alone_0 19 rfl
theorem dX6_alone_32 : decode cX6_alone 32 = .ok (.istore 7, 2) := dcO tk_X6_alone_0 20 rfl
theorem dX6_alone_34 : decode cX6_alone 34 = .ok (.iload 7, 2) := dcO tk_X6_alone_0 21 rfl
theorem dX6_alone_36 : decode cX6_alone 36 = .ok (.iload_n 1, 1) := dcO tk_X6_alone_0 22 rfl
theorem dX6_alone_37 : decode cX6_alone 37 = .ok (.if_icmp .ge 31, 3) := dcO tk_X6_alone_0 23 rfl
theorem dX6_alone_40 : decode cX6_alone 40 = .ok (.lload_n 3, 1) := dcO tk_X6_alone_0 24 rfl
theorem dX6_alone_41 : decode cX6_alone 41 = .ok (.ldc2_w 193, 3) := dcO tk_X6_alone_0 25 rfl
theorem dX6_alone_44 : decode cX6_alone 44 = .ok (.aload_n 0, 1) := dcO tk_X6_alone_0 26 rfl
theorem dX6_alone_45 : decode cX6_alone 45 = .ok (.getfield 9, 3) := dcO tk_X6_alone_0 27 rfl
theorem dX6_alone_48 : decode cX6_alone 48 = .ok (.iconst 5, 1) := dcO tk_X6_alone_0 28 rfl
theorem dX6_alone_49 : decode cX6_alone 49 = .ok (.iaload, 1) := dcO tk_X6_alone_0 29 rfl
theorem dX6_alone_50 : decode cX6_alone 50 = .ok (.i2l, 1) := dcO tk_X6_alone_0 30 rfl
theorem dX6_alone_51 : decode cX6_alone 51 = .ok (.lsub, 1) := dcO tk_X6_alone_0 31 rfl
theorem dX6_alone_52 : decode cX6_alone 52 = .ok (.lmul, 1) := dcO tk_X6_alone_0 32 rfl
theorem dX6_alone_53 : decode cX6_alone 53 = .ok (.lstore_n 3, 1) := dcO tk_X6_alone_0 33 rfl
theorem dX6_alone_54 : decode cX6_alone 54 = .ok (.lload 5, 2) := dcO tk_X6_alone_0 34 rfl
theorem dX6_alone_56 : decode cX6_alone 56 = .ok (.ldc2_w 193, 3) := dcO tk_X6_alone_0 35 rfl
theorem dX6_alone_59 : decode cX6_alone 59 = .ok (.lmul, 1) := dcO tk_X6_alone_0 36 rfl
theorem dX6_alone_60 : decode cX6_alone 60 = .ok (.lstore 5, 2) := dcO tk_X6_alone_0 37 rfl
theorem dX6_alone_62 : decode cX6_alone 62 = .ok (.iinc 7 1, 3) := dcO tk_X6_alone_0 38 rfl
theorem dX6_alone_65 : decode cX6_alone 65 = .ok (.goto (-31), 3) := dcO tk_X6_alone_0 39 rfl
abbrev tb_X6_alone_1 : List (Nat × Instr × Nat) := [(68, .lload_n 3, 1), (69, .lstore 7, 2), (71, .lload 5, 2), (73, .lstore 9, 2), (75, .lload 9, 2), (77, .lconst 0, 1), (78, .lcmp, 1), (79, .ifCond .eq 21, 3), (82, .lload 7, 2), (84, .lload 9, 2), (86, .lrem, 1), (87, .lstore 11, 2), (89, .lload 9, 2), (91, .lstore 7, 2), (93, .lload 11, 2), (95, .lstore 9, 2), (97, .goto (-22), 3), (100, .iload_n 2, 1), (101, .ifCond .ne 10, 3), (104, .lload_n 3, 1), (105, .lload 7, 2), (107, .ldiv, 1), (108, .goto 8, 3), (111, .lload 5, 2), (113, .lload 7, 2), (115, .ldiv, 1), (116, .lreturn, 1)]
theorem tk_X6_alone_1 : dcA cX6_alone tb_X6_alone_1 = true := by decide +kernel
theorem dX6_alone_68 : decode cX6_alone 68 = .ok (.lload_n 3, 1) := dcO tk_X6_alone_1 0 rfl
theorem dX6_alone_69 : decode cX6_alone 69 = .ok (.lstore 7, 2) := dcO tk_X6_alone_1 1 rfl
theorem dX6_alone_71 : decode cX6_alone 71 = .ok (.lload 5, 2) := dcO tk_X6_alone_1 2 rfl
theorem dX6_alone_73 : decode cX6_alone 73 = .ok (.lstore 9, 2) := dcO tk_X6_alone_1 3 rfl
theorem dX6_alone_75 : decode cX6_alone 75 = .ok (.lload 9, 2) := dcO tk_X6_alone_1 4 rfl
theorem dX6_alone_77 : decode cX6_alone 77 = .ok (.lconst 0, 1) := dcO tk_X6_alone_1 5 rfl
theorem dX6_alone_78 : decode cX6_alone 78 = .ok (.lcmp, 1) := dcO tk_X6_alone_1 6 rfl
theorem dX6_alone_79 : decode cX6_alone 79 = .ok (.ifCond .eq 21, 3) := dcO tk_X6_alone_1 7 rfl
theorem dX6_alone_82 : decode cX6_alone 82 = .ok (.lload 7, 2) := dcO tk_X6_alone_1 8 rfl
theorem dX6_alone_84 : decode cX6_alone 84 = .ok (.lload 9, 2) := dcO tk_X6_alone_1 9 rfl
theorem dX6_alone_86 : decode cX6_alone 86 = .ok (.lrem, 1) := dcO tk_X6_alone_1 10 rfl
theorem dX6_alone_87 : decode cX6_alone 87 = .ok (.lstore 11, 2) := dcO tk_X6_alone_1 11 rfl
theorem dX6_alone_89 : decode cX6_alone 89 = .ok (.lload 9, 2) := dcO tk_X6_alone_1 12 rfl
theorem dX6_alone_91 : decode cX6_alone 91 = .ok (.lstore 7, 2) := dcO tk_X6_alone_1 13 rfl
theorem dX6_alone_93 : decode cX6_alone 93 = .ok (.lload 11, 2) := dcO tk_X6_alone_1 14 rfl
theorem dX6_alone_95 : decode cX6_alone 95 = .ok (.lstore 9, 2) := dcO tk_X6_alone_1 15 rfl
theorem dX6_alone_97 : decode cX6_alone 97 = .ok (.goto (-22), 3) := dcO tk_X6_alone_1 16 rfl
theorem dX6_alone_100 : decode cX6_alone 100 = .ok (.iload_n 2, 1) := dcO tk_X6_alone_1 17 rfl
theorem dX6_alone_101 : decode cX6_alone 101 = .ok (.ifCond .ne 10, 3) := dcO tk_X6_alone_1 18 rfl
theorem dX6_alone_104 : decode cX6_alone 104 = .ok (.lload_n 3, 1) := dcO tk_X6_alone_1 19 rfl
theorem dX6_alone_105 : decode cX6_alone 105 = .ok (.lload 7, 2) := dcO tk_X6_alone_1 20 rfl
theorem dX6_alone_107 : decode cX6_alone 107 = .ok (.ldiv, 1) := dcO tk_X6_alone_1 21 rfl
theorem dX6_alone_108 : decode cX6_alone 108 = .ok (.goto 8, 3) := dcO tk_X6_alone_1 22 rfl
theorem dX6_alone_111 : decode cX6_alone 111 = .ok (.lload 5, 2) := dcO tk_X6_alone_1 23 rfl
theorem dX6_alone_113 : decode cX6_alone 113 = .ok (.lload 7, 2) := dcO tk_X6_alone_1 24 rfl
theorem dX6_alone_115 : decode cX6_alone 115 = .ok (.ldiv, 1) := dcO tk_X6_alone_1 25 rfl
theorem dX6_alone_116 : decode cX6_alone 116 = .ok (.lreturn, 1) := dcO tk_X6_alone_1 26 rfl
abbrev tb_X6_seed_0 : List (Nat × Instr × Nat) := [(0, .aload_n 0, 1), (1, .getfield 9, 3), (4, .iconst 3, 1), (5, .iaload, 1), (6, .istore_n 2, 1), (7, .aload_n 0, 1), (8, .getfield 9, 3), (11, .iconst 3, 1), (12, .iload_n 1, 1), (13, .iastore, 1), (14, .iload_n 2, 1), (15, .ireturn, 1)]
theorem tk_X6_seed_0 : dcA cX6_seed tb_X6_seed_0 = true := by decide +kernel
theorem dX6_seed_0 : decode cX6_seed 0 = .ok (.aload_n 0, 1) := dcO tk_X6_seed_0 0 rfl
theorem dX6_seed_1 : decode cX6_seed 1 = .ok (.getfield 9, 3) := dcO tk_X6_seed_0 1 rfl
theorem dX6_seed_4 : decode cX6_seed 4 = .ok (.iconst 3, 1) := dcO tk_X6_seed_0 2 rfl
theorem dX6_seed_5 : decode cX6_seed 5 = .ok (.iaload, 1) := dcO tk_X6_seed_0 3 rfl
theorem dX6_seed_6 : decode cX6_seed 6 = .ok (.istore_n 2, 1) := dcO tk_X6_seed_0 4 rfl
theorem dX6_seed_7 : decode cX6_seed 7 = .ok (.aload_n 0, 1) := dcO tk_X6_seed_0 5 rfl
theorem dX6_seed_8 : decode cX6_seed 8 = .ok (.getfield 9, 3) := dcO tk_X6_seed_0 6 rfl
theorem dX6_seed_11 : decode cX6_seed 11 = .ok (.iconst 3, 1) := dcO tk_X6_seed_0 7 rfl
theorem dX6_seed_12 : decode cX6_seed 12 = .ok (.iload_n 1, 1) := dcO tk_X6_seed_0 8 rfl
theorem dX6_seed_13 : decode cX6_seed 13 = .ok (.iastore, 1) := dcO tk_X6_seed_0 9 rfl
theorem dX6_seed_14 : decode cX6_seed 14 = .ok (.iload_n 2, 1) := dcO tk_X6_seed_0 10 rfl
theorem dX6_seed_15 : decode cX6_seed 15 = .ok (.ireturn, 1) := dcO tk_X6_seed_0 11 rfl
abbrev tb_X6_feed_0 : List (Nat × Instr × Nat) := [(0, .iload_n 2, 1), (1, .iconst 1, 1), (2, .iconst 4, 1), (3, .invokestatic 61, 3), (6, .ifCond .ne 9, 3), (9, .aload_n 0, 1), (10, .iconst 0, 1), (11, .invokevirtual 125, 3), (14, .ireturn, 1), (15, .aload_n 0, 1), (16, .getfield 195, 3), (19, .iload_n 2, 1), (20, .iadd, 1), (21, .bipush 120, 2), (23, .if_icmp .le 9, 3), (26, .aload_n 0, 1), (27, .iconst 1, 1), (28, .invokevirtual 125, 3), (31, .ireturn, 1), (32, .iload_n 2, 1), (33, .iconst 1, 1), (34, .isub, 1), (35, .istore_n 3, 1), (36, .iload_n 3, 1), (37, .ifCond .lt 38, 3), (40, .aload_n 0, 1), (41, .getfield 35, 3), (44, .aload_n 0, 1), (45, .getfield 195, 3), (48, .iload_n 1, 1), (49, .bipush 8, 2), (51, .iload_n 3, 1), (52, .imul, 1), (53, .ishr, 1), (54, .sipush 255, 3), (57, .iand, 1), (58, .iastore, 1), (59, .aload_n 0, 1), (60, .dup, 1), (61, .getfield 195, 3)]
theorem tk_X6_feed_0 : dcA cX6_feed tb_X6_feed_0 = true := by decide +kernel
theorem dX6_feed_0 : decode cX6_feed 0 = .ok (.iload_n 2, 1) := dcO tk_X6_feed_0 0 rfl
theorem dX6_feed_1 : decode cX6_feed 1 = .ok (.iconst 1, 1) := dcO tk_X6_feed_0 1 rfl
theorem dX6_feed_2 : decode cX6_feed 2 = .ok (.iconst 4, 1) := dcO tk_X6_feed_0 2 rfl
theorem dX6_feed_3 : decode cX6_feed 3 = .ok (.invokestatic 61, 3) := dcO tk_X6_feed_0 3 rfl
theorem dX6_feed_6 : decode cX6_feed 6 = .ok (.ifCond .ne 9, 3) := dcO tk_X6_feed_0 4 rfl
theorem dX6_feed_9 : decode cX6_feed 9 = .ok (.aload_n 0, 1) := dcO tk_X6_feed_0 5 rfl
theorem dX6_feed_10 : decode cX6_feed 10 = .ok (.iconst 0, 1) := dcO tk_X6_feed_0 6 rfl
theorem dX6_feed_11 : decode cX6_feed 11 = .ok (.invokevirtual 125, 3) := dcO tk_X6_feed_0 7 rfl
theorem dX6_feed_14 : decode cX6_feed 14 = .ok (.ireturn, 1) := dcO tk_X6_feed_0 8 rfl
theorem dX6_feed_15 : decode cX6_feed 15 = .ok (.aload_n 0, 1) := dcO tk_X6_feed_0 9 rfl
theorem dX6_feed_16 : decode cX6_feed 16 = .ok (.getfield 195, 3) := dcO tk_X6_feed_0 10 rfl
theorem dX6_feed_19 : decode cX6_feed 19 = .ok (.iload_n 2, 1) := dcO tk_X6_feed_0 11 rfl
theorem dX6_feed_20 : decode cX6_feed 20 = .ok (.iadd, 1) := dcO tk_X6_feed_0 12 rfl
theorem dX6_feed_21 : decode cX6_feed 21 = .ok (.bipush 120, 2) := dcO tk_X6_feed_0 13 rfl
theorem dX6_feed_23 : decode cX6_feed 23 = .ok (.if_icmp .le 9, 3) := dcO tk_X6_feed_0 14 rfl
theorem dX6_feed_26 : decode cX6_feed 26 = .ok (.aload_n 0, 1) := dcO tk_X6_feed_0 15 rfl
theorem dX6_feed_27 : decode cX6_feed 27 = .ok (.iconst 1, 1) := dcO tk_X6_feed_0 16 rfl
theorem dX6_feed_28 : decode cX6_feed 28 = .ok (.invokevirtual 125, 3) := dcO tk_X6_feed_0 17 rfl
theorem dX6_feed_31 : decode cX6_feed 31 = .ok (.ireturn, 1) := dcO tk_X6_feed_0 18 rfl
theorem dX6_feed_32 : decode cX6_feed 32 = .ok (.iload_n 2, 1) := dcO tk_X6_feed_0 19 rfl
theorem dX6_feed_33 : decode cX6_feed 33 = .ok (.iconst 1, 1) := dcO tk_X6_feed_0 20 rfl
theorem dX6_feed_34 : decode cX6_feed 34 = .ok (.isub, 1) := dcO tk_X6_feed_0 21 rfl
theorem dX6_feed_35 : decode cX6_feed 35 = .ok (.istore_n 3, 1) := dcO tk_X6_feed_0 22 rfl
theorem dX6_feed_36 : decode cX6_feed 36 = .ok (.iload_n 3, 1) := dcO tk_X6_feed_0 23 rfl
theorem dX6_feed_37 : decode cX6_feed 37 = .ok (.ifCond .lt 38, 3) := dcO tk_X6_feed_0 24 rfl
theorem dX6_feed_40 : decode cX6_feed 40 = .ok (.aload_n 0, 1) := dcO tk_X6_feed_0 25 rfl
theorem dX6_feed_41 : decode cX6_feed 41 = .ok (.getfield 35, 3) := dcO tk_X6_feed_0 26 rfl
theorem dX6_feed_44 : decode cX6_feed 44 = .ok (.aload_n 0, 1) := dcO tk_X6_feed_0 27 rfl
theorem dX6_feed_45 : decode cX6_feed 45 = .ok (.getfield 195, 3) := dcO tk_X6_feed_0 28 rfl
theorem dX6_feed_48 : decode cX6_feed 48 = .ok (.iload_n 1, 1) := dcO tk_X6_feed_0 29 rfl
theorem dX6_feed_49 : decode cX6_feed 49 = .ok (.bipush 8, 2) := dcO tk_X6_feed_0 30 rfl
theorem dX6_feed_51 : decode cX6_feed 51 = .ok (.iload_n 3, 1) := dcO tk_X6_feed_0 31 rfl
theorem dX6_feed_52 : decode cX6_feed 52 = .ok (.imul, 1) := dcO tk_X6_feed_0 32 rfl
theorem dX6_feed_53 : decode cX6_feed 53 = .ok (.ishr, 1) := dcO tk_X6_feed_0 33 rfl
theorem dX6_feed_54 : decode cX6_feed 54 = .ok (.sipush 255, 3) := dcO tk_X6_feed_0 34 rfl
theorem dX6_feed_57 : decode cX6_feed 57 = .ok (.iand, 1) := dcO tk_X6_feed_0 35 rfl
theorem dX6_feed_58 : decode cX6_feed 58 = .ok (.iastore, 1) := dcO tk_X6_feed_0 36 rfl
theorem dX6_feed_59 : decode cX6_feed 59 = .ok (.aload_n 0, 1) := dcO tk_X6_feed_0 37 rfl
theorem dX6_feed_60 : decode cX6_feed 60 = .ok (.dup, 1) := dcO tk_X6_feed_0 38 rfl
theorem dX6_feed_61 : decode cX6_feed 61 = .ok (.getfield 195, 3) := dcO tk_X6_feed_0 39 rfl
abbrev tb_X6_feed_1 : List (Nat × Instr × Nat) := [(64, .iconst 1, 1), (65, .iadd, 1), (66, .putfield 195, 3), (69, .iinc 3 (-1), 3), (72, .goto (-36), 3), (75, .aload_n 0, 1), (76, .getfield 195, 3), (79, .ireturn, 1)]
theorem tk_X6_feed_1 : dcA cX6_feed tb_X6_feed_1 = true := by decide +kernel
theorem dX6_feed_64 : decode cX6_feed 64 = .ok (.iconst 1, 1) := dcO tk_X6_feed_1 0 rfl
theorem dX6_feed_65 : decode cX6_feed 65 = .ok (.iadd, 1) := dcO tk_X6_feed_1 1 rfl
theorem dX6_feed_66 : decode cX6_feed 66 = .ok (.putfield 195, 3) := dcO tk_X6_feed_1 2 rfl
theorem dX6_feed_69 : decode cX6_feed 69 = .ok (.iinc 3 (-1), 3) := dcO tk_X6_feed_1 3 rfl
theorem dX6_feed_72 : decode cX6_feed 72 = .ok (.goto (-36), 3) := dcO tk_X6_feed_1 4 rfl
theorem dX6_feed_75 : decode cX6_feed 75 = .ok (.aload_n 0, 1) := dcO tk_X6_feed_1 5 rfl
theorem dX6_feed_76 : decode cX6_feed 76 = .ok (.getfield 195, 3) := dcO tk_X6_feed_1 6 rfl
theorem dX6_feed_79 : decode cX6_feed 79 = .ok (.ireturn, 1) := dcO tk_X6_feed_1 7 rfl
abbrev tb_X6_wipe_0 : List (Nat × Instr × Nat) := [(0, .aload_n 0, 1), (1, .getfield 195, 3), (4, .istore_n 1, 1), (5, .aload_n 0, 1), (6, .iconst 0, 1), (7, .putfield 195, 3), (10, .iload_n 1, 1), (11, .ireturn, 1)]
theorem tk_X6_wipe_0 : dcA cX6_wipe tb_X6_wipe_0 = true := by decide +kernel
theorem dX6_wipe_0 : decode cX6_wipe 0 = .ok (.aload_n 0, 1) := dcO tk_X6_wipe_0 0 rfl
theorem dX6_wipe_1 : decode cX6_wipe 1 = .ok (.getfield 195, 3) := dcO tk_X6_wipe_0 1 rfl
theorem dX6_wipe_4 : decode cX6_wipe 4 = .ok (.istore_n 1, 1) := dcO tk_X6_wipe_0 2 rfl
theorem dX6_wipe_5 : decode cX6_wipe 5 = .ok (.aload_n 0, 1) := dcO tk_X6_wipe_0 3 rfl
theorem dX6_wipe_6 : decode cX6_wipe 6 = .ok (.iconst 0, 1) := dcO tk_X6_wipe_0 4 rfl
theorem dX6_wipe_7 : decode cX6_wipe 7 = .ok (.putfield 195, 3) := dcO tk_X6_wipe_0 5 rfl
theorem dX6_wipe_10 : decode cX6_wipe 10 = .ok (.iload_n 1, 1) := dcO tk_X6_wipe_0 6 rfl
theorem dX6_wipe_11 : decode cX6_wipe 11 = .ok (.ireturn, 1) := dcO tk_X6_wipe_0 7 rfl
abbrev tb_X6_isLetter_0 : List (Nat × Instr × Nat) := [(0, .iload_n 0, 1), (1, .bipush 97, 2), (3, .bipush 122, 2), (5, .invokestatic 61, 3), (8, .ireturn, 1)]
theorem tk_X6_isLetter_0 : dcA cX6_isLetter tb_X6_isLetter_0 = true := by decide +kernel
theorem dX6_isLetter_0 : decode cX6_isLetter 0 = .ok (.iload_n 0, 1) := dcO tk_X6_isLetter_0 0 rfl
theorem dX6_isLetter_1 : decode cX6_isLetter 1 = .ok (.bipush 97, 2) := dcO tk_X6_isLetter_0 1 rfl
theorem dX6_isLetter_3 : decode cX6_isLetter 3 = .ok (.bipush 122, 2) := dcO tk_X6_isLetter_0 2 rfl
theorem dX6_isLetter_5 : decode cX6_isLetter 5 = .ok (.invokestatic 61, 3) := dcO tk_X6_isLetter_0 3 rfl
theorem dX6_isLetter_8 : decode cX6_isLetter 8 = .ok (.ireturn, 1) := dcO tk_X6_isLetter_0 4 rfl
abbrev tb_X6_isDigit_0 : List (Nat × Instr × Nat) := [(0, .iload_n 0, 1), (1, .bipush 48, 2), (3, .bipush 57, 2), (5, .invokestatic 61, 3), (8, .ireturn, 1)]
theorem tk_X6_isDigit_0 : dcA cX6_isDigit tb_X6_isDigit_0 = true := by decide +kernel
theorem dX6_isDigit_0 : decode cX6_isDigit 0 = .ok (.iload_n 0, 1) := dcO tk_X6_isDigit_0 0 rfl
theorem dX6_isDigit_1 : decode cX6_isDigit 1 = .ok (.bipush 48, 2) := dcO tk_X6_isDigit_0 1 rfl
theorem dX6_isDigit_3 : decode cX6_isDigit 3 = .ok (.bipush 57, 2) := dcO tk_X6_isDigit_0 2 rfl
theorem dX6_isDigit_5 : decode cX6_isDigit 5 = .ok (.invokestatic 61, 3) := dcO tk_X6_isDigit_0 3 rfl
theorem dX6_isDigit_8 : decode cX6_isDigit 8 = .ok (.ireturn, 1) := dcO tk_X6_isDigit_0 4 rfl
abbrev tb_X6_nextToken_0 : List (Nat × Instr × Nat) := [(0, .aload_n 0, 1), (1, .aload_n 0, 1), (2, .getfield 199, 3), (5, .putfield 202, 3), (8, .aload_n 0, 1), (9, .getfield 202, 3), (12, .aload_n 0, 1), (13, .getfield 195, 3), (16, .if_icmp .ge 30, 3), (19, .aload_n 0, 1), (20, .getfield 35, 3), (23, .aload_n 0, 1), (24, .getfield 202, 3), (27, .iaload, 1), (28, .bipush 32, 2), (30, .if_icmp .ne 16, 3), (33, .aload_n 0, 1), (34, .dup, 1), (35, .getfield 202, 3), (38, .iconst 1, 1), (39, .iadd, 1), (40, .putfield 202, 3), (43, .goto (-35), 3), (46, .aload_n 0, 1), (47, .aload_n 0, 1), (48, .getfield 202, 3), (51, .putfield 199, 3), (54, .aload_n 0, 1), (55, .lconst 0, 1), (56, .putfield 205, 3), (59, .aload_n 0, 1), (60, .getfield 202, 3), (63, .aload_n 0, 1), (64, .getfield 195, 3), (67, .if_icmp .ne 11, 3), (70, .aload_n 0, 1), (71, .iconst 0, 1), (72, .putfield 209, 3), (75, .goto 262, 3), (78, .aload_n 0, 1)]
theorem tk_X6_nextToken_0 : dcA cX6_nextToken tb_X6_nextToken_0 = true := by decide +kernel
theorem dX6_nextToken_0 : decode cX6_nextToken 0 = .ok (.aload_n 0, 1) := dcO tk_X6_nextToken_0 0 rfl
theorem dX6_nextToken_1 : decode cX6_nextToken 1 = .ok (.aload_n 0, 1) := dcO tk_X6_nextToken_0 1 rfl
theorem dX6_nextToken_2 : decode cX6_nextToken 2 = .ok (.getfield 199, 3) := dcO tk_X6_nextToken_0 2 rfl
theorem dX6_nextToken_5 : decode cX6_nextToken 5 = .ok (.putfield 202, 3) := dcO tk_X6_nextToken_0 3 rfl
theorem dX6_nextToken_8 : decode cX6_nextToken 8 = .ok (.aload_n 0, 1) := dcO tk_X6_nextToken_0 4 rfl
theorem dX6_nextToken_9 : decode cX6_nextToken 9 = .ok (.getfield 202, 3) := dcO tk_X6_nextToken_0 5 rfl
theorem dX6_nextToken_12 : decode cX6_nextToken 12 = .ok (.aload_n 0, 1) := dcO tk_X6_nextToken_0 6 rfl
theorem dX6_nextToken_13 : decode cX6_nextToken 13 = .ok (.getfield 195, 3) := dcO tk_X6_nextToken_0 7 rfl
theorem dX6_nextToken_16 : decode cX6_nextToken 16 = .ok (.if_icmp .ge 30, 3) := dcO tk_X6_nextToken_0 8 rfl
theorem dX6_nextToken_19 : decode cX6_nextToken 19 = .ok (.aload_n 0, 1) := dcO tk_X6_nextToken_0 9 rfl
theorem dX6_nextToken_20 : decode cX6_nextToken 20 = .ok (.getfield 35, 3) := dcO tk_X6_nextToken_0 10 rfl
theorem dX6_nextToken_23 : decode cX6_nextToken 23 = .ok (.aload_n 0, 1) := dcO tk_X6_nextToken_0 11 rfl
theorem dX6_nextToken_24 : decode cX6_nextToken 24 = .ok (.getfield 202, 3) := dcO tk_X6_nextToken_0 12 rfl
theorem dX6_nextToken_27 : decode cX6_nextToken 27 = .ok (.iaload, 1) := dcO tk_X6_nextToken_0 13 rfl
theorem dX6_nextToken_28 : decode cX6_nextToken 28 = .ok (.bipush 32, 2) := dcO tk_X6_nextToken_0 14 rfl
theorem dX6_nextToken_30 : decode cX6_nextToken 30 = .ok (.if_icmp .ne 16, 3) := dcO tk_X6_nextToken_0 15 rfl
theorem dX6_nextToken_33 : decode cX6_nextToken 33 = .ok (.aload_n 0, 1) := dcO tk_X6_nextToken_0 16 rfl
theorem dX6_nextToken_34 : decode cX6_nextToken 34 = .ok (.dup, 1) := dcO tk_X6_nextToken_0 17 rfl
theorem dX6_nextToken_35 : decode cX6_nextToken 35 = .ok (.getfield 202, 3) := dcO tk_X6_nextToken_0 18 rfl
theorem dX6_nextToken_38 : decode cX6_nextToken 38 = .ok (.iconst 1, 1) := dcO tk_X6_nextToken_0 19 rfl
theorem dX6_nextToken_39 : decode cX6_nextToken 39 = .ok (.iadd, 1) := dcO tk_X6_nextToken_0 20 rfl
theorem dX6_nextToken_40 : decode cX6_nextToken 40 = .ok (.putfield 202, 3) := dcO tk_X6_nextToken_0 21 rfl
theorem dX6_nextToken_43 : decode cX6_nextToken 43 = .ok (.goto (-35), 3) := dcO tk_X6_nextToken_0 22 rfl
theorem dX6_nextToken_46 : decode cX6_nextToken 46 = .ok (.aload_n 0, 1) := dcO tk_X6_nextToken_0 23 rfl
theorem dX6_nextToken_47 : decode cX6_nextToken 47 = .ok (.aload_n 0, 1) := dcO tk_X6_nextToken_0 24 rfl
theorem dX6_nextToken_48 : decode cX6_nextToken 48 = .ok (.getfield 202, 3) := dcO tk_X6_nextToken_0 25 rfl
theorem dX6_nextToken_51 : decode cX6_nextToken 51 = .ok (.putfield 199, 3) := dcO tk_X6_nextToken_0 26 rfl
theorem dX6_nextToken_54 : decode cX6_nextToken 54 = .ok (.aload_n 0, 1) := dcO tk_X6_nextToken_0 27 rfl
theorem dX6_nextToken_55 : decode cX6_nextToken 55 = .ok (.lconst 0, 1) := dcO tk_X6_nextToken_0 28 rfl
theorem dX6_nextToken_56 : decode cX6_nextToken 56 = .ok (.putfield 205, 3) := dcO tk_X6_nextToken_0 29 rfl
theorem dX6_nextToken_59 : decode cX6_nextToken 59 = .ok (.aload_n 0, 1) := dcO tk_X6_nextToken_0 30 rfl
theorem dX6_nextToken_60 : decode cX6_nextToken 60 = .ok (.getfield 202, 3) := dcO tk_X6_nextToken_0 31 rfl
theorem dX6_nextToken_63 : decode cX6_nextToken 63 = .ok (.aload_n 0, 1) := dcO tk_X6_nextToken_0 32 rfl
theorem dX6_nextToken_64 : decode cX6_nextToken 64 = .ok (.getfield 195, 3) := dcO tk_X6_nextToken_0 33 rfl
theorem dX6_nextToken_67 : decode cX6_nextToken 67 = .ok (.if_icmp .ne 11, 3) := dcO tk_X6_nextToken_0 34 rfl
theorem dX6_nextToken_70 : decode cX6_nextToken 70 = .ok (.aload_n 0, 1) := dcO tk_X6_nextToken_0 35 rfl
theorem dX6_nextToken_71 : decode cX6_nextToken 71 = .ok (.iconst 0, 1) := dcO tk_X6_nextToken_0 36 rfl
theorem dX6_nextToken_72 : decode cX6_nextToken 72 = .ok (.putfield 209, 3) := dcO tk_X6_nextToken_0 37 rfl
theorem dX6_nextToken_75 : decode cX6_nextToken 75 = .ok (.goto 262, 3) := dcO tk_X6_nextToken_0 38 rfl
theorem dX6_nextToken_78 : decode cX6_nextToken 78 = .ok (.aload_n 0, 1) := dcO tk_X6_nextToken_0 39 rfl
abbrev tb_X6_nextToken_1 : List (Nat × Instr × Nat) := [(79, .getfield 35, 3), (82, .aload_n 0, 1), (83, .getfield 202, 3), (86, .iaload, 1), (87, .invokestatic 212, 3), (90, .ifCond .eq 92, 3), (93, .aload_n 0, 1), (94, .iconst 1, 1), (95, .putfield 209, 3), (98, .aload_n 0, 1), (99, .getfield 199, 3), (102, .aload_n 0, 1), (103, .getfield 195, 3), (106, .if_icmp .ge 231, 3), (109, .aload_n 0, 1), (110, .getfield 35, 3), (113, .aload_n 0, 1), (114, .getfield 199, 3), (117, .iaload, 1), (118, .invokestatic 212, 3), (121, .ifCond .eq 216, 3), (124, .aload_n 0, 1), (125, .aload_n 0, 1), (126, .getfield 205, 3), (129, .ldc2_w 215, 3), (132, .lcmp, 1), (133, .ifCond .le 10, 3), (136, .aload_n 0, 1), (137, .getfield 205, 3), (140, .goto 26, 3), (143, .aload_n 0, 1), (144, .getfield 205, 3), (147, .ldc2_w 217, 3), (150, .lmul, 1), (151, .aload_n 0, 1), (152, .getfield 35, 3), (155, .aload_n 0, 1), (156, .getfield 199, 3), (159, .iaload, 1), (160, .i2l, 1)]
theorem tk_X6_nextToken_1 : dcA cX6_nextToken tb_X6_nextToken_1 = true := by decide +kernel
theorem dX6_nextToken_79 : decode cX6_nextToken 79 = .ok (.getfield 35, 3) := dcO tk_X6_nextToken_1 0 rfl
theorem dX6_nextToken_82 : decode cX6_nextToken 82 = .ok (.aload_n 0, 1) := dcO tk_X6_nextToken_1 1 rfl
theorem dX6_nextToken_83 : decode cX6_nextToken 83 = .ok (.getfield 202, 3) := dcO tk_X6_nextToken_1 2 rfl
theorem dX6_nextToken_86 : decode cX6_nextToken 86 = .ok (.iaload, 1) := dcO tk_X6_nextToken_1 3 rfl
theorem dX6_nextToken_87 : decode cX6_nextToken 87 = .ok (.invokestatic 212, 3) := dcO tk_X6_nextToken_1 4 rfl
theorem dX6_nextToken_90 : decode cX6_nextToken 90 = .ok (.ifCond .eq 92, 3) := dcO tk_X6_nextToken_1 5 rfl
theorem dX6_nextToken_93 : decode cX6_nextToken 93 = .ok (.aload_n 0, 1) := dcO tk_X6_nextToken_1 6 rfl
theorem dX6_nextToken_94 : decode cX6_nextToken 94 = .ok (.iconst 1, 1) := dcO tk_X6_nextToken_1 7 rfl
theorem dX6_nextToken_95 : decode cX6_nextToken 95 = .ok (.putfield 209, 3) := dcO tk_X6_nextToken_1 8 rfl
theorem dX6_nextToken_98 : decode cX6_nextToken 98 = .ok (.aload_n 0, 1) := dcO tk_X6_nextToken_1 9 rfl
theorem dX6_nextToken_99 : decode cX6_nextToken 99 = .ok (.getfield 199, 3) := dcO tk_X6_nextToken_1 10 rfl
theorem dX6_nextToken_102 : decode cX6_nextToken 102 = .ok (.aload_n 0, 1) := dcO tk_X6_nextToken_1 11 rfl
theorem dX6_nextToken_103 : decode cX6_nextToken 103 = .ok (.getfield 195, 3) := dcO tk_X6_nextToken_1 12 rfl
theorem dX6_nextToken_106 : decode cX6_nextToken 106 = .ok (.if_icmp .ge 231, 3) := dcO tk_X6_nextToken_1 13 rfl
theorem dX6_nextToken_109 : decode cX6_nextToken 109 = .ok (.aload_n 0, 1) := dcO tk_X6_nextToken_1 14 rfl
theorem dX6_nextToken_110 : decode cX6_nextToken 110 = .ok (.getfield 35, 3) := dcO tk_X6_nextToken_1 15 rfl
theorem dX6_nextToken_113 : decode cX6_nextToken 113 = .ok (.aload_n 0, 1) := dcO tk_X6_nextToken_1 16 rfl
theorem dX6_nextToken_114 : decode cX6_nextToken 114 = .ok (.getfield 199, 3) := dcO tk_X6_nextToken_1 17 rfl
theorem dX6_nextToken_117 : decode cX6_nextToken 117 = .ok (.iaload, 1) := dcO tk_X6_nextToken_1 18 rfl
theorem dX6_nextToken_118 : decode cX6_nextToken 118 = .ok (.invokestatic 212, 3) := dcO tk_X6_nextToken_1 19 rfl
theorem dX6_nextToken_121 : decode cX6_nextToken 121 = .ok (.ifCond .eq 216, 3) := dcO tk_X6_nextToken_1 20 rfl
theorem dX6_nextToken_124 : decode cX6_nextToken 124 = .ok (.aload_n 0, 1) := dcO tk_X6_nextToken_1 21 rfl
theorem dX6_nextToken_125 : decode cX6_nextToken 125 = .ok (.aload_n 0, 1) := dcO tk_X6_nextToken_1 22 rfl
theorem dX6_nextToken_126 : decode cX6_nextToken 126 = .ok (.getfield 205, 3) := dcO tk_X6_nextToken_1 23 rfl
theorem dX6_nextToken_129 : decode cX6_nextToken 129 = .ok (.ldc2_w 215, 3) := dcO tk_X6_nextToken_1 24 rfl
theorem dX6_nextToken_132 : decode cX6_nextToken 132 = .ok (.lcmp, 1) := dcO tk_X6_nextToken_1 25 rfl
theorem dX6_nextToken_133 : decode cX6_nextToken 133 = .ok (.ifCond .le 10, 3) := dcO tk_X6_nextToken_1 26 rfl
theorem dX6_nextToken_136 : decode cX6_nextToken 136 = .ok (.aload_n 0, 1) := dcO tk_X6_nextToken_1 27 rfl
theorem dX6_nextToken_137 : decode cX6_nextToken 137 = .ok (.getfield 205, 3) := dcO tk_X6_nextToken_1 28 rfl
theorem dX6_nextToken_140 : decode cX6_nextToken 140 = .ok (.goto 26, 3) := dcO tk_X6_nextToken_1 29 rfl
theorem dX6_nextToken_143 : decode cX6_nextToken 143 = .ok (.aload_n 0, 1) := dcO tk_X6_nextToken_1 30 rfl
theorem dX6_nextToken_144 : decode cX6_nextToken 144 = .ok (.getfield 205, 3) := dcO tk_X6_nextToken_1 31 rfl
theorem dX6_nextToken_147 : decode cX6_nextToken 147 = .ok (.ldc2_w 217, 3) := dcO tk_X6_nextToken_1 32 rfl
theorem dX6_nextToken_150 : decode cX6_nextToken 150 = .ok (.lmul, 1) := dcO tk_X6_nextToken_1 33 rfl
theorem dX6_nextToken_151 : decode cX6_nextToken 151 = .ok (.aload_n 0, 1) := dcO tk_X6_nextToken_1 34 rfl
theorem dX6_nextToken_152 : decode cX6_nextToken 152 = .ok (.getfield 35, 3) := dcO tk_X6_nextToken_1 35 rfl
theorem dX6_nextToken_155 : decode cX6_nextToken 155 = .ok (.aload_n 0, 1) := dcO tk_X6_nextToken_1 36 rfl
theorem dX6_nextToken_156 : decode cX6_nextToken 156 = .ok (.getfield 199, 3) := dcO tk_X6_nextToken_1 37 rfl
theorem dX6_nextToken_159 : decode cX6_nextToken 159 = .ok (.iaload, 1) := dcO tk_X6_nextToken_1 38 rfl
theorem dX6_nextToken_160 : decode cX6_nextToken 160 = .ok (.i2l, 1) := dcO tk_X6_nextToken_1 39 rfl
abbrev tb_X6_nextToken_2 : List (Nat × Instr × Nat) := [(161, .ladd, 1), (162, .ldc2_w 219, 3), (165, .lsub, 1), (166, .putfield 205, 3), (169, .aload_n 0, 1), (170, .dup, 1), (171, .getfield 199, 3), (174, .iconst 1, 1), (175, .iadd, 1), (176, .putfield 199, 3), (179, .goto (-81), 3), (182, .aload_n 0, 1), (183, .getfield 35, 3), (186, .aload_n 0, 1), (187, .getfield 202, 3), (190, .iaload, 1), (191, .invokestatic 221, 3), (194, .ifCond .eq 110, 3), (197, .aload_n 0, 1), (198, .getfield 199, 3), (201, .aload_n 0, 1), (202, .getfield 195, 3), (205, .if_icmp .ge 76, 3), (208, .aload_n 0, 1), (209, .getfield 35, 3), (212, .aload_n 0, 1), (213, .getfield 199, 3), (216, .iaload, 1), (217, .invokestatic 221, 3), (220, .ifCond .eq 61, 3), (223, .aload_n 0, 1), (224, .aload_n 0, 1), (225, .getfield 205, 3), (228, .ldc2_w 224, 3), (231, .lcmp, 1), (232, .ifCond .le 10, 3), (235, .aload_n 0, 1), (236, .getfield 205, 3), (239, .goto 26, 3), (242, .aload_n 0, 1)]
theorem tk_X6_nextToken_2 : dcA cX6_nextToken tb_X6_nextToken_2 = true := by decide +kernel
theorem dX6_nextToken_161 : decode cX6_nextToken 161 = .ok (.ladd, 1) := dcO tk_X6_nextToken_2 0 rfl
theorem dX6_nextToken_162 : decode cX6_nextToken 162 = .ok (.ldc2_w 219, 3) := dcO tk_X6_nextToken_2 1 rfl
theorem dX6_nextToken_165 : decode cX6_nextToken 165 = .ok (.lsub, 1) := dcO tk_X6_nextToken_2 2 rfl
theorem dX6_nextToken_166 : decode cX6_nextToken 166 = .ok (.putfield 205, 3) := dcO tk_X6_nextToken_2 3 rfl
theorem dX6_nextToken_169 : decode cX6_nextToken 169 = .ok (.aload_n 0, 1) := dcO tk_X6_nextToken_2 4 rfl
theorem dX6_nextToken_170 : decode cX6_nextToken 170 = .ok (.dup, 1) := dcO tk_X6_nextToken_2 5 rfl
theorem dX6_nextToken_171 : decode cX6_nextToken 171 = .ok (.getfield 199, 3) := dcO tk_X6_nextToken_2 6 rfl
theorem dX6_nextToken_174 : decode cX6_nextToken 174 = .ok (.iconst 1, 1) := dcO tk_X6_nextToken_2 7 rfl
theorem dX6_nextToken_175 : decode cX6_nextToken 175 = .ok (.iadd, 1) := dcO tk_X6_nextToken_2 8 rfl
theorem dX6_nextToken_176 : decode cX6_nextToken 176 = .ok (.putfield 199, 3) := dcO tk_X6_nextToken_2 9 rfl
theorem dX6_nextToken_179 : decode cX6_nextToken 179 = .ok (.goto (-81), 3) := dcO tk_X6_nextToken_2 10 rfl
theorem dX6_nextToken_182 : decode cX6_nextToken 182 = .ok (.aload_n 0, 1) := dcO tk_X6_nextToken_2 11 rfl
theorem dX6_nextToken_183 : decode cX6_nextToken 183 = .ok (.getfield 35, 3) := dcO tk_X6_nextToken_2 12 rfl
theorem dX6_nextToken_186 : decode cX6_nextToken 186 = .ok (.aload_n 0, 1) := dcO tk_X6_nextToken_2 13 rfl
theorem dX6_nextToken_187 : decode cX6_nextToken 187 = .ok (.getfield 202, 3) := dcO tk_X6_nextToken_2 14 rfl
theorem dX6_nextToken_190 : decode cX6_nextToken 190 = .ok (.iaload, 1) := dcO tk_X6_nextToken_2 15 rfl
theorem dX6_nextToken_191 : decode cX6_nextToken 191 = .ok (.invokestatic 221, 3) := dcO tk_X6_nextToken_2 16 rfl
theorem dX6_nextToken_194 : decode cX6_nextToken 194 = .ok (.ifCond .eq 110, 3) := dcO tk_X6_nextToken_2 17 rfl
theorem dX6_nextToken_197 : decode cX6_nextToken 197 = .ok (.aload_n 0, 1) := dcO tk_X6_nextToken_2 18 rfl
theorem dX6_nextToken_198 : decode cX6_nextToken 198 = .ok (.getfield 199, 3) := dcO tk_X6_nextToken_2 19 rfl
theorem dX6_nextToken_201 : decode cX6_nextToken 201 = .ok (.aload_n 0, 1) := dcO tk_X6_nextToken_2 20 rfl
theorem dX6_nextToken_202 : decode cX6_nextToken 202 = .ok (.getfield 195, 3) := dcO tk_X6_nextToken_2 21 rfl
theorem dX6_nextToken_205 : decode cX6_nextToken 205 = .ok (.if_icmp .ge 76, 3) := dcO tk_X6_nextToken_2 22 rfl
theorem dX6_nextToken_208 : decode cX6_nextToken 208 = .ok (.aload_n 0, 1) := dcO tk_X6_nextToken_2 23 rfl
theorem dX6_nextToken_209 : decode cX6_nextToken 209 = .ok (.getfield 35, 3) := dcO tk_X6_nextToken_2 24 rfl
theorem dX6_nextToken_212 : decode cX6_nextToken 212 = .ok (.aload_n 0, 1) := dcO tk_X6_nextToken_2 25 rfl
theorem dX6_nextToken_213 : decode cX6_nextToken 213 = .ok (.getfield 199, 3) := dcO tk_X6_nextToken_2 26 rfl
theorem dX6_nextToken_216 : decode cX6_nextToken 216 = .ok (.iaload, 1) := dcO tk_X6_nextToken_2 27 rfl
theorem dX6_nextToken_217 : decode cX6_nextToken 217 = .ok (.invokestatic 221, 3) := dcO tk_X6_nextToken_2 28 rfl
theorem dX6_nextToken_220 : decode cX6_nextToken 220 = .ok (.ifCond .eq 61, 3) := dcO tk_X6_nextToken_2 29 rfl
theorem dX6_nextToken_223 : decode cX6_nextToken 223 = .ok (.aload_n 0, 1) := dcO tk_X6_nextToken_2 30 rfl
theorem dX6_nextToken_224 : decode cX6_nextToken 224 = .ok (.aload_n 0, 1) := dcO tk_X6_nextToken_2 31 rfl
theorem dX6_nextToken_225 : decode cX6_nextToken 225 = .ok (.getfield 205, 3) := dcO tk_X6_nextToken_2 32 rfl
theorem dX6_nextToken_228 : decode cX6_nextToken 228 = .ok (.ldc2_w 224, 3) := dcO tk_X6_nextToken_2 33 rfl
theorem dX6_nextToken_231 : decode cX6_nextToken 231 = .ok (.lcmp, 1) := dcO tk_X6_nextToken_2 34 rfl
theorem dX6_nextToken_232 : decode cX6_nextToken 232 = .ok (.ifCond .le 10, 3) := dcO tk_X6_nextToken_2 35 rfl
theorem dX6_nextToken_235 : decode cX6_nextToken 235 = .ok (.aload_n 0, 1) := dcO tk_X6_nextToken_2 36 rfl
theorem dX6_nextToken_236 : decode cX6_nextToken 236 = .ok (.getfield 205, 3) := dcO tk_X6_nextToken_2 37 rfl
theorem dX6_nextToken_239 : decode cX6_nextToken 239 = .ok (.goto 26, 3) := dcO tk_X6_nextToken_2 38 rfl
theorem dX6_nextToken_242 : decode cX6_nextToken 242 = .ok (.aload_n 0, 1) := dcO tk_X6_nextToken_2 39 rfl
abbrev tb_X6_nextToken_3 : List (Nat × Instr × Nat) := [(243, .getfield 205, 3), (246, .ldc2_w 226, 3), (249, .lmul, 1), (250, .aload_n 0, 1), (251, .getfield 35, 3), (254, .aload_n 0, 1), (255, .getfield 199, 3), (258, .iaload, 1), (259, .i2l, 1), (260, .ladd, 1), (261, .ldc2_w 228, 3), (264, .lsub, 1), (265, .putfield 205, 3), (268, .aload_n 0, 1), (269, .dup, 1), (270, .getfield 199, 3), (273, .iconst 1, 1), (274, .iadd, 1), (275, .putfield 199, 3), (278, .goto (-81), 3), (281, .aload_n 0, 1), (282, .aload_n 0, 1), (283, .getfield 205, 3), (286, .ldc2_w 224, 3), (289, .lcmp, 1), (290, .ifCond .le 7, 3), (293, .iconst 4, 1), (294, .goto 4, 3), (297, .iconst 2, 1), (298, .putfield 209, 3), (301, .goto 36, 3), (304, .aload_n 0, 1), (305, .aload_n 0, 1), (306, .getfield 35, 3), (309, .aload_n 0, 1), (310, .getfield 202, 3), (313, .iaload, 1), (314, .bipush 59, 2), (316, .if_icmp .ne 7, 3), (319, .iconst 3, 1)]
theorem tk_X6_nextToken_3 : dcA cX6_nextToken tb_X6_nextToken_3 = true := by decide +kernel
theorem dX6_nextToken_243 : decode cX6_nextToken 243 = .ok (.getfield 205, 3) := dcO tk_X6_nextToken_3 0 rfl
theorem dX6_nextToken_246 : decode cX6_nextToken 246 = .ok (.ldc2_w 226, 3) := dcO tk_X6_nextToken_3 1 rfl
theorem dX6_nextToken_249 : decode cX6_nextToken 249 = .ok (.lmul, 1) := dcO tk_X6_nextToken_3 2 rfl
theorem dX6_nextToken_250 : decode cX6_nextToken 250 = .ok (.aload_n 0, 1) := dcO tk_X6_nextToken_3 3 rfl
theorem dX6_nextToken_251 : decode cX6_nextToken 251 = .ok (.getfield 35, 3) := dcO tk_X6_nextToken_3 4 rfl
theorem dX6_nextToken_254 : decode cX6_nextToken 254 = .ok (.aload_n 0, 1) := dcO tk_X6_nextToken_3 5 rfl
theorem dX6_nextToken_255 : decode cX6_nextToken 255 = .ok (.getfield 199, 3) := dcO tk_X6_nextToken_3 6 rfl
theorem dX6_nextToken_258 : decode cX6_nextToken 258 = .ok (.iaload, 1) := dcO tk_X6_nextToken_3 7 rfl
theorem dX6_nextToken_259 : decode cX6_nextToken 259 = .ok (.i2l, 1) := dcO tk_X6_nextToken_3 8 rfl
theorem dX6_nextToken_260 : decode cX6_nextToken 260 = .ok (.ladd, 1) := dcO tk_X6_nextToken_3 9 rfl
theorem dX6_nextToken_261 : decode cX6_nextToken 261 = .ok (.ldc2_w 228, 3) := dcO tk_X6_nextToken_3 10 rfl
theorem dX6_nextToken_264 : decode cX6_nextToken 264 = .ok (.lsub, 1) := dcO tk_X6_nextToken_3 11 rfl
theorem dX6_nextToken_265 : decode cX6_nextToken 265 = .ok (.putfield 205, 3) := dcO tk_X6_nextToken_3 12 rfl
theorem dX6_nextToken_268 : decode cX6_nextToken 268 = .ok (.aload_n 0, 1) := dcO tk_X6_nextToken_3 13 rfl
theorem dX6_nextToken_269 : decode cX6_nextToken 269 = .ok (.dup, 1) := dcO tk_X6_nextToken_3 14 rfl
theorem dX6_nextToken_270 : decode cX6_nextToken 270 = .ok (.getfield 199, 3) := dcO tk_X6_nextToken_3 15 rfl
theorem dX6_nextToken_273 : decode cX6_nextToken 273 = .ok (.iconst 1, 1) := dcO tk_X6_nextToken_3 16 rfl
theorem dX6_nextToken_274 : decode cX6_nextToken 274 = .ok (.iadd, 1) := dcO tk_X6_nextToken_3 17 rfl
theorem dX6_nextToken_275 : decode cX6_nextToken 275 = .ok (.putfield 199, 3) := dcO tk_X6_nextToken_3 18 rfl
theorem dX6_nextToken_278 : decode cX6_nextToken 278 = .ok (.goto (-81), 3) := dcO tk_X6_nextToken_3 19 rfl
theorem dX6_nextToken_281 : decode cX6_nextToken 281 = .ok (.aload_n 0, 1) := dcO tk_X6_nextToken_3 20 rfl
theorem dX6_nextToken_282 : decode cX6_nextToken 282 = .ok (.aload_n 0, 1) := dcO tk_X6_nextToken_3 21 rfl
theorem dX6_nextToken_283 : decode cX6_nextToken 283 = .ok (.getfield 205, 3) := dcO tk_X6_nextToken_3 22 rfl
theorem dX6_nextToken_286 : decode cX6_nextToken 286 = .ok (.ldc2_w 224, 3) := dcO tk_X6_nextToken_3 23 rfl
theorem dX6_nextToken_289 : decode cX6_nextToken 289 = .ok (.lcmp, 1) := dcO tk_X6_nextToken_3 24 rfl
theorem dX6_nextToken_290 : decode cX6_nextToken 290 = .ok (.ifCond .le 7, 3) := dcO tk_X6_nextToken_3 25 rfl
theorem dX6_nextToken_293 : decode cX6_nextToken 293 = .ok (.iconst 4, 1) := dcO tk_X6_nextToken_3 26 rfl
theorem dX6_nextToken_294 : decode cX6_nextToken 294 = .ok (.goto 4, 3) := dcO tk_X6_nextToken_3 27 rfl
theorem dX6_nextToken_297 : decode cX6_nextToken 297 = .ok (.iconst 2, 1) := dcO tk_X6_nextToken_3 28 rfl
theorem dX6_nextToken_298 : decode cX6_nextToken 298 = .ok (.putfield 209, 3) := dcO tk_X6_nextToken_3 29 rfl
theorem dX6_nextToken_301 : decode cX6_nextToken 301 = .ok (.goto 36, 3) := dcO tk_X6_nextToken_3 30 rfl
theorem dX6_nextToken_304 : decode cX6_nextToken 304 = .ok (.aload_n 0, 1) := dcO tk_X6_nextToken_3 31 rfl
theorem dX6_nextToken_305 : decode cX6_nextToken 305 = .ok (.aload_n 0, 1) := dcO tk_X6_nextToken_3 32 rfl
theorem dX6_nextToken_306 : decode cX6_nextToken 306 = .ok (.getfield 35, 3) := dcO tk_X6_nextToken_3 33 rfl
theorem dX6_nextToken_309 : decode cX6_nextToken 309 = .ok (.aload_n 0, 1) := dcO tk_X6_nextToken_3 34 rfl
theorem dX6_nextToken_310 : decode cX6_nextToken 310 = .ok (.getfield 202, 3) := dcO tk_X6_nextToken_3 35 rfl
theorem dX6_nextToken_313 : decode cX6_nextToken 313 = .ok (.iaload, 1) := dcO tk_X6_nextToken_3 36 rfl
theorem dX6_nextToken_314 : decode cX6_nextToken 314 = .ok (.bipush 59, 2) := dcO tk_X6_nextToken_3 37 rfl
theorem dX6_nextToken_316 : decode cX6_nextToken 316 = .ok (.if_icmp .ne 7, 3) := dcO tk_X6_nextToken_3 38 rfl
theorem dX6_nextToken_319 : decode cX6_nextToken 319 = .ok (.iconst 3, 1) := dcO tk_X6_nextToken_3 39 rfl
abbrev tb_X6_nextToken_4 : List (Nat × Instr × Nat) := [(320, .goto 4, 3), (323, .iconst 4, 1), (324, .putfield 209, 3), (327, .aload_n 0, 1), (328, .dup, 1), (329, .getfield 199, 3), (332, .iconst 1, 1), (333, .iadd, 1), (334, .putfield 199, 3), (337, .return_, 1)]
theorem tk_X6_nextToken_4 : dcA cX6_nextToken tb_X6_nextToken_4 = true := by decide +kernel
theorem dX6_nextToken_320 : decode cX6_nextToken 320 = .ok (.goto 4, 3) := dcO tk_X6_nextToken_4 0 rfl
theorem dX6_nextToken_323 : decode cX6_nextToken 323 = .ok (.iconst 4, 1) := dcO tk_X6_nextToken_4 1 rfl
theorem dX6_nextToken_324 : decode cX6_nextToken 324 = .ok (.putfield 209, 3) := dcO tk_X6_nextToken_4 2 rfl
theorem dX6_nextToken_327 : decode cX6_nextToken 327 = .ok (.aload_n 0, 1) := dcO tk_X6_nextToken_4 3 rfl
theorem dX6_nextToken_328 : decode cX6_nextToken 328 = .ok (.dup, 1) := dcO tk_X6_nextToken_4 4 rfl
theorem dX6_nextToken_329 : decode cX6_nextToken 329 = .ok (.getfield 199, 3) := dcO tk_X6_nextToken_4 5 rfl
theorem dX6_nextToken_332 : decode cX6_nextToken 332 = .ok (.iconst 1, 1) := dcO tk_X6_nextToken_4 6 rfl
theorem dX6_nextToken_333 : decode cX6_nextToken 333 = .ok (.iadd, 1) := dcO tk_X6_nextToken_4 7 rfl
theorem dX6_nextToken_334 : decode cX6_nextToken 334 = .ok (.putfield 199, 3) := dcO tk_X6_nextToken_4 8 rfl
theorem dX6_nextToken_337 : decode cX6_nextToken 337 = .ok (.return_, 1) := dcO tk_X6_nextToken_4 9 rfl
abbrev tb_X6_wordOf_0 : List (Nat × Instr × Nat) := [(0, .iconst (-1), 1), (1, .istore_n 2, 1), (2, .iconst 0, 1), (3, .istore_n 3, 1), (4, .iload_n 3, 1), (5, .aload_n 1, 1), (6, .arraylength, 1), (7, .bipush 8, 2), (9, .idiv, 1), (10, .if_icmp .ge 94, 3), (13, .aload_n 0, 1), (14, .getfield 209, 3), (17, .iconst 1, 1), (18, .if_icmp .ne 86, 3), (21, .lconst 0, 1), (22, .lstore 4, 2), (24, .iconst 0, 1), (25, .istore 6, 2), (27, .iload 6, 2), (29, .bipush 8, 2), (31, .if_icmp .ge 51, 3), (34, .aload_n 1, 1), (35, .bipush 8, 2), (37, .iload_n 3, 1), (38, .imul, 1), (39, .iload 6, 2), (41, .iadd, 1), (42, .caload, 1), (43, .bipush 32, 2), (45, .if_icmp .ne 8, 3), (48, .lload 4, 2), (50, .goto 24, 3), (53, .lload 4, 2), (55, .ldc2_w 217, 3), (58, .lmul, 1), (59, .aload_n 1, 1), (60, .bipush 8, 2), (62, .iload_n 3, 1), (63, .imul, 1), (64, .iload 6, 2)]
theorem tk_X6_wordOf_0 : dcA cX6_wordOf tb_X6_wordOf_0 = true := by decide +kernel
theorem dX6_wordOf_0 : decode cX6_wordOf 0 = .ok (.iconst (-1), 1) := dcO tk_X6_wordOf_0 0 rfl
theorem dX6_wordOf_1 : decode cX6_wordOf 1 = .ok (.istore_n 2, 1) := dcO tk_X6_wordOf_0 1 rfl
theorem dX6_wordOf_2 : decode cX6_wordOf 2 = .ok (.iconst 0, 1) := dcO tk_X6_wordOf_0 2 rfl
theorem dX6_wordOf_3 : decode cX6_wordOf 3 = .ok (.istore_n 3, 1) := dcO tk_X6_wordOf_0 3 rfl
theorem dX6_wordOf_4 : decode cX6_wordOf 4 = .ok (.iload_n 3, 1) := dcO tk_X6_wordOf_0 4 rfl
theorem dX6_wordOf_5 : decode cX6_wordOf 5 = .ok (.aload_n 1, 1) := dcO tk_X6_wordOf_0 5 rfl
theorem dX6_wordOf_6 : decode cX6_wordOf 6 = .ok (.arraylength, 1) := dcO tk_X6_wordOf_0 6 rfl
theorem dX6_wordOf_7 : decode cX6_wordOf 7 = .ok (.bipush 8, 2) := dcO tk_X6_wordOf_0 7 rfl
theorem dX6_wordOf_9 : decode cX6_wordOf 9 = .ok (.idiv, 1) := dcO tk_X6_wordOf_0 8 rfl
theorem dX6_wordOf_10 : decode cX6_wordOf 10 = .ok (.if_icmp .ge 94, 3) := dcO tk_X6_wordOf_0 9 rfl
theorem dX6_wordOf_13 : decode cX6_wordOf 13 = .ok (.aload_n 0, 1) := dcO tk_X6_wordOf_0 10 rfl
theorem dX6_wordOf_14 : decode cX6_wordOf 14 = .ok (.getfield 209, 3) := dcO tk_X6_wordOf_0 11 rfl
theorem dX6_wordOf_17 : decode cX6_wordOf 17 = .ok (.iconst 1, 1) := dcO tk_X6_wordOf_0 12 rfl
theorem dX6_wordOf_18 : decode cX6_wordOf 18 = .ok (.if_icmp .ne 86, 3) := dcO tk_X6_wordOf_0 13 rfl
theorem dX6_wordOf_21 : decode cX6_wordOf 21 = .ok (.lconst 0, 1) := dcO tk_X6_wordOf_0 14 rfl
theorem dX6_wordOf_22 : decode cX6_wordOf 22 = .ok (.lstore 4, 2) := dcO tk_X6_wordOf_0 15 rfl
theorem dX6_wordOf_24 : decode cX6_wordOf 24 = .ok (.iconst 0, 1) := dcO tk_X6_wordOf_0 16 rfl
theorem dX6_wordOf_25 : decode cX6_wordOf 25 = .ok (.istore 6, 2) := dcO tk_X6_wordOf_0 17 rfl
theorem dX6_wordOf_27 : decode cX6_wordOf 27 = .ok (.iload 6, 2) := dcO tk_X6_wordOf_0 18 rfl
theorem dX6_wordOf_29 : decode cX6_wordOf 29 = .ok (.bipush 8, 2) := dcO tk_X6_wordOf_0 19 rfl
theorem dX6_wordOf_31 : decode cX6_wordOf 31 = .ok (.if_icmp .ge 51, 3) := dcO tk_X6_wordOf_0 20 rfl
theorem dX6_wordOf_34 : decode cX6_wordOf 34 = .ok (.aload_n 1, 1) := dcO tk_X6_wordOf_0 21 rfl
theorem dX6_wordOf_35 : decode cX6_wordOf 35 = .ok (.bipush 8, 2) := dcO tk_X6_wordOf_0 22 rfl
theorem dX6_wordOf_37 : decode cX6_wordOf 37 = .ok (.iload_n 3, 1) := dcO tk_X6_wordOf_0 23 rfl
theorem dX6_wordOf_38 : decode cX6_wordOf 38 = .ok (.imul, 1) := dcO tk_X6_wordOf_0 24 rfl
theorem dX6_wordOf_39 : decode cX6_wordOf 39 = .ok (.iload 6, 2) := dcO tk_X6_wordOf_0 25 rfl
theorem dX6_wordOf_41 : decode cX6_wordOf 41 = .ok (.iadd, 1) := dcO tk_X6_wordOf_0 26 rfl
theorem dX6_wordOf_42 : decode cX6_wordOf 42 = .ok (.caload, 1) := dcO tk_X6_wordOf_0 27 rfl
theorem dX6_wordOf_43 : decode cX6_wordOf 43 = .ok (.bipush 32, 2) := dcO tk_X6_wordOf_0 28 rfl
theorem dX6_wordOf_45 : decode cX6_wordOf 45 = .ok (.if_icmp .ne 8, 3) := dcO tk_X6_wordOf_0 29 rfl
theorem dX6_wordOf_48 : decode cX6_wordOf 48 = .ok (.lload 4, 2) := dcO tk_X6_wordOf_0 30 rfl
theorem dX6_wordOf_50 : decode cX6_wordOf 50 = .ok (.goto 24, 3) := dcO tk_X6_wordOf_0 31 rfl
theorem dX6_wordOf_53 : decode cX6_wordOf 53 = .ok (.lload 4, 2) := dcO tk_X6_wordOf_0 32 rfl
theorem dX6_wordOf_55 : decode cX6_wordOf 55 = .ok (.ldc2_w 217, 3) := dcO tk_X6_wordOf_0 33 rfl
theorem dX6_wordOf_58 : decode cX6_wordOf 58 = .ok (.lmul, 1) := dcO tk_X6_wordOf_0 34 rfl
theorem dX6_wordOf_59 : decode cX6_wordOf 59 = .ok (.aload_n 1, 1) := dcO tk_X6_wordOf_0 35 rfl
theorem dX6_wordOf_60 : decode cX6_wordOf 60 = .ok (.bipush 8, 2) := dcO tk_X6_wordOf_0 36 rfl
theorem dX6_wordOf_62 : decode cX6_wordOf 62 = .ok (.iload_n 3, 1) := dcO tk_X6_wordOf_0 37 rfl
theorem dX6_wordOf_63 : decode cX6_wordOf 63 = .ok (.imul, 1) := dcO tk_X6_wordOf_0 38 rfl
theorem dX6_wordOf_64 : decode cX6_wordOf 64 = .ok (.iload 6, 2) := dcO tk_X6_wordOf_0 39 rfl
abbrev tb_X6_wordOf_1 : List (Nat × Instr × Nat) := [(66, .iadd, 1), (67, .caload, 1), (68, .i2l, 1), (69, .ladd, 1), (70, .ldc2_w 219, 3), (73, .lsub, 1), (74, .lstore 4, 2), (76, .iinc 6 1, 3), (79, .goto (-52), 3), (82, .lload 4, 2), (84, .aload_n 0, 1), (85, .getfield 205, 3), (88, .lcmp, 1), (89, .ifCond .ne 7, 3), (92, .iload_n 3, 1), (93, .goto 4, 3), (96, .iload_n 2, 1), (97, .istore_n 2, 1), (98, .iinc 3 1, 3), (101, .goto (-97), 3), (104, .iload_n 2, 1), (105, .ireturn, 1)]
theorem tk_X6_wordOf_1 : dcA cX6_wordOf tb_X6_wordOf_1 = true := by decide +kernel
theorem dX6_wordOf_66 : decode cX6_wordOf 66 = .ok (.iadd, 1) := dcO tk_X6_wordOf_1 0 rfl
theorem dX6_wordOf_67 : decode cX6_wordOf 67 = .ok (.caload, 1) := dcO tk_X6_wordOf_1 1 rfl
theorem dX6_wordOf_68 : decode cX6_wordOf 68 = .ok (.i2l, 1) := dcO tk_X6_wordOf_1 2 rfl
theorem dX6_wordOf_69 : decode cX6_wordOf 69 = .ok (.ladd, 1) := dcO tk_X6_wordOf_1 3 rfl
theorem dX6_wordOf_70 : decode cX6_wordOf 70 = .ok (.ldc2_w 219, 3) := dcO tk_X6_wordOf_1 4 rfl
theorem dX6_wordOf_73 : decode cX6_wordOf 73 = .ok (.lsub, 1) := dcO tk_X6_wordOf_1 5 rfl
theorem dX6_wordOf_74 : decode cX6_wordOf 74 = .ok (.lstore 4, 2) := dcO tk_X6_wordOf_1 6 rfl
theorem dX6_wordOf_76 : decode cX6_wordOf 76 = .ok (.iinc 6 1, 3) := dcO tk_X6_wordOf_1 7 rfl
theorem dX6_wordOf_79 : decode cX6_wordOf 79 = .ok (.goto (-52), 3) := dcO tk_X6_wordOf_1 8 rfl
theorem dX6_wordOf_82 : decode cX6_wordOf 82 = .ok (.lload 4, 2) := dcO tk_X6_wordOf_1 9 rfl
theorem dX6_wordOf_84 : decode cX6_wordOf 84 = .ok (.aload_n 0, 1) := dcO tk_X6_wordOf_1 10 rfl
theorem dX6_wordOf_85 : decode cX6_wordOf 85 = .ok (.getfield 205, 3) := dcO tk_X6_wordOf_1 11 rfl
theorem dX6_wordOf_88 : decode cX6_wordOf 88 = .ok (.lcmp, 1) := dcO tk_X6_wordOf_1 12 rfl
theorem dX6_wordOf_89 : decode cX6_wordOf 89 = .ok (.ifCond .ne 7, 3) := dcO tk_X6_wordOf_1 13 rfl
theorem dX6_wordOf_92 : decode cX6_wordOf 92 = .ok (.iload_n 3, 1) := dcO tk_X6_wordOf_1 14 rfl
theorem dX6_wordOf_93 : decode cX6_wordOf 93 = .ok (.goto 4, 3) := dcO tk_X6_wordOf_1 15 rfl
theorem dX6_wordOf_96 : decode cX6_wordOf 96 = .ok (.iload_n 2, 1) := dcO tk_X6_wordOf_1 16 rfl
theorem dX6_wordOf_97 : decode cX6_wordOf 97 = .ok (.istore_n 2, 1) := dcO tk_X6_wordOf_1 17 rfl
theorem dX6_wordOf_98 : decode cX6_wordOf 98 = .ok (.iinc 3 1, 3) := dcO tk_X6_wordOf_1 18 rfl
theorem dX6_wordOf_101 : decode cX6_wordOf 101 = .ok (.goto (-97), 3) := dcO tk_X6_wordOf_1 19 rfl
theorem dX6_wordOf_104 : decode cX6_wordOf 104 = .ok (.iload_n 2, 1) := dcO tk_X6_wordOf_1 20 rfl
theorem dX6_wordOf_105 : decode cX6_wordOf 105 = .ok (.ireturn, 1) := dcO tk_X6_wordOf_1 21 rfl
abbrev tb_X6_takesNumber_0 : List (Nat × Instr × Nat) := [(0, .aload_n 0, 1), (1, .getfield 209, 3), (4, .iconst 2, 1), (5, .if_icmp .ne 24, 3), (8, .aload_n 0, 1), (9, .getfield 205, 3), (12, .l2i, 1), (13, .iload_n 1, 1), (14, .iload_n 2, 1), (15, .invokestatic 61, 3), (18, .ifCond .eq 11, 3), (21, .aload_n 0, 1), (22, .getfield 205, 3), (25, .l2i, 1), (26, .goto 4, 3), (29, .iconst (-1), 1), (30, .istore_n 3, 1), (31, .iload_n 3, 1), (32, .ifCond .lt 7, 3), (35, .aload_n 0, 1), (36, .invokevirtual 230, 3), (39, .iload_n 3, 1), (40, .ireturn, 1)]
theorem tk_X6_takesNumber_0 : dcA cX6_takesNumber tb_X6_takesNumber_0 = true := by decide +kernel
theorem dX6_takesNumber_0 : decode cX6_takesNumber 0 = .ok (.aload_n 0, 1) := dcO tk_X6_takesNumber_0 0 rfl
theorem dX6_takesNumber_1 : decode cX6_takesNumber 1 = .ok (.getfield 209, 3) := dcO tk_X6_takesNumber_0 1 rfl
theorem dX6_takesNumber_4 : decode cX6_takesNumber 4 = .ok (.iconst 2, 1) := dcO tk_X6_takesNumber_0 2 rfl
theorem dX6_takesNumber_5 : decode cX6_takesNumber 5 = .ok (.if_icmp .ne 24, 3) := dcO tk_X6_takesNumber_0 3 rfl
theorem dX6_takesNumber_8 : decode cX6_takesNumber 8 = .ok (.aload_n 0, 1) := dcO tk_X6_takesNumber_0 4 rfl
theorem dX6_takesNumber_9 : decode cX6_takesNumber 9 = .ok (.getfield 205, 3) := dcO tk_X6_takesNumber_0 5 rfl
theorem dX6_takesNumber_12 : decode cX6_takesNumber 12 = .ok (.l2i, 1) := dcO tk_X6_takesNumber_0 6 rfl
theorem dX6_takesNumber_13 : decode cX6_takesNumber 13 = .ok (.iload_n 1, 1) := dcO tk_X6_takesNumber_0 7 rfl
theorem dX6_takesNumber_14 : decode cX6_takesNumber 14 = .ok (.iload_n 2, 1) := dcO tk_X6_takesNumber_0 8 rfl
theorem dX6_takesNumber_15 : decode cX6_takesNumber 15 = .ok (.invokestatic 61, 3) := dcO tk_X6_takesNumber_0 9 rfl
theorem dX6_takesNumber_18 : decode cX6_takesNumber 18 = .ok (.ifCond .eq 11, 3) := dcO tk_X6_takesNumber_0 10 rfl
theorem dX6_takesNumber_21 : decode cX6_takesNumber 21 = .ok (.aload_n 0, 1) := dcO tk_X6_takesNumber_0 11 rfl
theorem dX6_takesNumber_22 : decode cX6_takesNumber 22 = .ok (.getfield 205, 3) := dcO tk_X6_takesNumber_0 12 rfl
theorem dX6_takesNumber_25 : decode cX6_takesNumber 25 = .ok (.l2i, 1) := dcO tk_X6_takesNumber_0 13 rfl
theorem dX6_takesNumber_26 : decode cX6_takesNumber 26 = .ok (.goto 4, 3) := dcO tk_X6_takesNumber_0 14 rfl
theorem dX6_takesNumber_29 : decode cX6_takesNumber 29 = .ok (.iconst (-1), 1) := dcO tk_X6_takesNumber_0 15 rfl
theorem dX6_takesNumber_30 : decode cX6_takesNumber 30 = .ok (.istore_n 3, 1) := dcO tk_X6_takesNumber_0 16 rfl
theorem dX6_takesNumber_31 : decode cX6_takesNumber 31 = .ok (.iload_n 3, 1) := dcO tk_X6_takesNumber_0 17 rfl
theorem dX6_takesNumber_32 : decode cX6_takesNumber 32 = .ok (.ifCond .lt 7, 3) := dcO tk_X6_takesNumber_0 18 rfl
theorem dX6_takesNumber_35 : decode cX6_takesNumber 35 = .ok (.aload_n 0, 1) := dcO tk_X6_takesNumber_0 19 rfl
theorem dX6_takesNumber_36 : decode cX6_takesNumber 36 = .ok (.invokevirtual 230, 3) := dcO tk_X6_takesNumber_0 20 rfl
theorem dX6_takesNumber_39 : decode cX6_takesNumber 39 = .ok (.iload_n 3, 1) := dcO tk_X6_takesNumber_0 21 rfl
theorem dX6_takesNumber_40 : decode cX6_takesNumber 40 = .ok (.ireturn, 1) := dcO tk_X6_takesNumber_0 22 rfl
abbrev tb_X6_readsSnail_0 : List (Nat × Instr × Nat) := [(0, .aload_n 0, 1), (1, .getfield 9, 3), (4, .iconst 2, 1), (5, .iaload, 1), (6, .bipush 8, 2), (8, .if_icmp .ne 5, 3), (11, .iconst 0, 1), (12, .ireturn, 1), (13, .aload_n 0, 1), (14, .getfield 9, 3), (17, .iconst 2, 1), (18, .iaload, 1), (19, .istore_n 2, 1), (20, .aload_n 0, 1), (21, .iload_n 1, 1), (22, .iconst 0, 1), (23, .invokevirtual 128, 3), (26, .aload_n 0, 1), (27, .invokevirtual 230, 3), (30, .iconst 0, 1), (31, .istore_n 3, 1), (32, .iload_n 3, 1), (33, .iconst 4, 1), (34, .if_icmp .ge 71, 3), (37, .aload_n 0, 1), (38, .aload_n 0, 1), (39, .getfield 42, 3), (42, .invokevirtual 233, 3), (45, .iload_n 3, 1), (46, .if_icmp .ne 53, 3), (49, .aload_n 0, 1), (50, .invokevirtual 230, 3), (53, .aload_n 0, 1), (54, .iconst 0, 1), (55, .iload_n 3, 1), (56, .iconst 1, 1), (57, .if_icmp .ne 8, 3), (60, .bipush 7, 2), (62, .goto 15, 3), (65, .iload_n 3, 1)]
theorem tk_X6_readsSnail_0 : dcA cX6_readsSnail tb_X6_readsSnail_0 = true := by decide +kernel
theorem dX6_readsSnail_0 : decode cX6_readsSnail 0 = .ok (.aload_n 0, 1) := dcO tk_X6_readsSnail_0 0 rfl
theorem dX6_readsSnail_1 : decode cX6_readsSnail 1 = .ok (.getfield 9, 3) := dcO tk_X6_readsSnail_0 1 rfl
theorem dX6_readsSnail_4 : decode cX6_readsSnail 4 = .ok (.iconst 2, 1) := dcO tk_X6_readsSnail_0 2 rfl
theorem dX6_readsSnail_5 : decode cX6_readsSnail 5 = .ok (.iaload, 1) := dcO tk_X6_readsSnail_0 3 rfl
theorem dX6_readsSnail_6 : decode cX6_readsSnail 6 = .ok (.bipush 8, 2) := dcO tk_X6_readsSnail_0 4 rfl
theorem dX6_readsSnail_8 : decode cX6_readsSnail 8 = .ok (.if_icmp .ne 5, 3) := dcO tk_X6_readsSnail_0 5 rfl
theorem dX6_readsSnail_11 : decode cX6_readsSnail 11 = .ok (.iconst 0, 1) := dcO tk_X6_readsSnail_0 6 rfl
theorem dX6_readsSnail_12 : decode cX6_readsSnail 12 = .ok (.ireturn, 1) := dcO tk_X6_readsSnail_0 7 rfl
theorem dX6_readsSnail_13 : decode cX6_readsSnail 13 = .ok (.aload_n 0, 1) := dcO tk_X6_readsSnail_0 8 rfl
theorem dX6_readsSnail_14 : decode cX6_readsSnail 14 = .ok (.getfield 9, 3) := dcO tk_X6_readsSnail_0 9 rfl
theorem dX6_readsSnail_17 : decode cX6_readsSnail 17 = .ok (.iconst 2, 1) := dcO tk_X6_readsSnail_0 10 rfl
theorem dX6_readsSnail_18 : decode cX6_readsSnail 18 = .ok (.iaload, 1) := dcO tk_X6_readsSnail_0 11 rfl
theorem dX6_readsSnail_19 : decode cX6_readsSnail 19 = .ok (.istore_n 2, 1) := dcO tk_X6_readsSnail_0 12 rfl
theorem dX6_readsSnail_20 : decode cX6_readsSnail 20 = .ok (.aload_n 0, 1) := dcO tk_X6_readsSnail_0 13 rfl
theorem dX6_readsSnail_21 : decode cX6_readsSnail 21 = .ok (.iload_n 1, 1) := dcO tk_X6_readsSnail_0 14 rfl
theorem dX6_readsSnail_22 : decode cX6_readsSnail 22 = .ok (.iconst 0, 1) := dcO tk_X6_readsSnail_0 15 rfl
theorem dX6_readsSnail_23 : decode cX6_readsSnail 23 = .ok (.invokevirtual 128, 3) := dcO tk_X6_readsSnail_0 16 rfl
theorem dX6_readsSnail_26 : decode cX6_readsSnail 26 = .ok (.aload_n 0, 1) := dcO tk_X6_readsSnail_0 17 rfl
theorem dX6_readsSnail_27 : decode cX6_readsSnail 27 = .ok (.invokevirtual 230, 3) := dcO tk_X6_readsSnail_0 18 rfl
theorem dX6_readsSnail_30 : decode cX6_readsSnail 30 = .ok (.iconst 0, 1) := dcO tk_X6_readsSnail_0 19 rfl
theorem dX6_readsSnail_31 : decode cX6_readsSnail 31 = .ok (.istore_n 3, 1) := dcO tk_X6_readsSnail_0 20 rfl
theorem dX6_readsSnail_32 : decode cX6_readsSnail 32 = .ok (.iload_n 3, 1) := dcO tk_X6_readsSnail_0 21 rfl
theorem dX6_readsSnail_33 : decode cX6_readsSnail 33 = .ok (.iconst 4, 1) := dcO tk_X6_readsSnail_0 22 rfl
theorem dX6_readsSnail_34 : decode cX6_readsSnail 34 = .ok (.if_icmp .ge 71, 3) := dcO tk_X6_readsSnail_0 23 rfl
theorem dX6_readsSnail_37 : decode cX6_readsSnail 37 = .ok (.aload_n 0, 1) := dcO tk_X6_readsSnail_0 24 rfl
theorem dX6_readsSnail_38 : decode cX6_readsSnail 38 = .ok (.aload_n 0, 1) := dcO tk_X6_readsSnail_0 25 rfl
theorem dX6_readsSnail_39 : decode cX6_readsSnail 39 = .ok (.getfield 42, 3) := dcO tk_X6_readsSnail_0 26 rfl
theorem dX6_readsSnail_42 : decode cX6_readsSnail 42 = .ok (.invokevirtual 233, 3) := dcO tk_X6_readsSnail_0 27 rfl
theorem dX6_readsSnail_45 : decode cX6_readsSnail 45 = .ok (.iload_n 3, 1) := dcO tk_X6_readsSnail_0 28 rfl
theorem dX6_readsSnail_46 : decode cX6_readsSnail 46 = .ok (.if_icmp .ne 53, 3) := dcO tk_X6_readsSnail_0 29 rfl
theorem dX6_readsSnail_49 : decode cX6_readsSnail 49 = .ok (.aload_n 0, 1) := dcO tk_X6_readsSnail_0 30 rfl
theorem dX6_readsSnail_50 : decode cX6_readsSnail 50 = .ok (.invokevirtual 230, 3) := dcO tk_X6_readsSnail_0 31 rfl
theorem dX6_readsSnail_53 : decode cX6_readsSnail 53 = .ok (.aload_n 0, 1) := dcO tk_X6_readsSnail_0 32 rfl
theorem dX6_readsSnail_54 : decode cX6_readsSnail 54 = .ok (.iconst 0, 1) := dcO tk_X6_readsSnail_0 33 rfl
theorem dX6_readsSnail_55 : decode cX6_readsSnail 55 = .ok (.iload_n 3, 1) := dcO tk_X6_readsSnail_0 34 rfl
theorem dX6_readsSnail_56 : decode cX6_readsSnail 56 = .ok (.iconst 1, 1) := dcO tk_X6_readsSnail_0 35 rfl
theorem dX6_readsSnail_57 : decode cX6_readsSnail 57 = .ok (.if_icmp .ne 8, 3) := dcO tk_X6_readsSnail_0 36 rfl
theorem dX6_readsSnail_60 : decode cX6_readsSnail 60 = .ok (.bipush 7, 2) := dcO tk_X6_readsSnail_0 37 rfl
theorem dX6_readsSnail_62 : decode cX6_readsSnail 62 = .ok (.goto 15, 3) := dcO tk_X6_readsSnail_0 38 rfl
theorem dX6_readsSnail_65 : decode cX6_readsSnail 65 = .ok (.iload_n 3, 1) := dcO tk_X6_readsSnail_0 39 rfl
abbrev tb_X6_readsSnail_1 : List (Nat × Instr × Nat) := [(66, .iconst 3, 1), (67, .if_icmp .ne 8, 3), (70, .bipush 99, 2), (72, .goto 5, 3), (75, .bipush 80, 2), (77, .invokevirtual 237, 3), (80, .istore 4, 2), (82, .iload 4, 2), (84, .ifCond .ge 5, 3), (87, .iconst 0, 1), (88, .ireturn, 1), (89, .aload_n 0, 1), (90, .iload_n 2, 1), (91, .iconst 1, 1), (92, .iload_n 3, 1), (93, .iadd, 1), (94, .iload 4, 2), (96, .invokevirtual 97, 3), (99, .iinc 3 1, 3), (102, .goto (-70), 3), (105, .iconst 1, 1), (106, .ireturn, 1)]
theorem tk_X6_readsSnail_1 : dcA cX6_readsSnail tb_X6_readsSnail_1 = true := by decide +kernel
theorem dX6_readsSnail_66 : decode cX6_readsSnail 66 = .ok (.iconst 3, 1) := dcO tk_X6_readsSnail_1 0 rfl
theorem dX6_readsSnail_67 : decode cX6_readsSnail 67 = .ok (.if_icmp .ne 8, 3) := dcO tk_X6_readsSnail_1 1 rfl
theorem dX6_readsSnail_70 : decode cX6_readsSnail 70 = .ok (.bipush 99, 2) := dcO tk_X6_readsSnail_1 2 rfl
theorem dX6_readsSnail_72 : decode cX6_readsSnail 72 = .ok (.goto 5, 3) := dcO tk_X6_readsSnail_1 3 rfl
theorem dX6_readsSnail_75 : decode cX6_readsSnail 75 = .ok (.bipush 80, 2) := dcO tk_X6_readsSnail_1 4 rfl
theorem dX6_readsSnail_77 : decode cX6_readsSnail 77 = .ok (.invokevirtual 237, 3) := dcO tk_X6_readsSnail_1 5 rfl
theorem dX6_readsSnail_80 : decode cX6_readsSnail 80 = .ok (.istore 4, 2) := dcO tk_X6_readsSnail_1 6 rfl
theorem dX6_readsSnail_82 : decode cX6_readsSnail 82 = .ok (.iload 4, 2) := dcO tk_X6_readsSnail_1 7 rfl
theorem dX6_readsSnail_84 : decode cX6_readsSnail 84 = .ok (.ifCond .ge 5, 3) := dcO tk_X6_readsSnail_1 8 rfl
theorem dX6_readsSnail_87 : decode cX6_readsSnail 87 = .ok (.iconst 0, 1) := dcO tk_X6_readsSnail_1 9 rfl
theorem dX6_readsSnail_88 : decode cX6_readsSnail 88 = .ok (.ireturn, 1) := dcO tk_X6_readsSnail_1 10 rfl
theorem dX6_readsSnail_89 : decode cX6_readsSnail 89 = .ok (.aload_n 0, 1) := dcO tk_X6_readsSnail_1 11 rfl
theorem dX6_readsSnail_90 : decode cX6_readsSnail 90 = .ok (.iload_n 2, 1) := dcO tk_X6_readsSnail_1 12 rfl
theorem dX6_readsSnail_91 : decode cX6_readsSnail 91 = .ok (.iconst 1, 1) := dcO tk_X6_readsSnail_1 13 rfl
theorem dX6_readsSnail_92 : decode cX6_readsSnail 92 = .ok (.iload_n 3, 1) := dcO tk_X6_readsSnail_1 14 rfl
theorem dX6_readsSnail_93 : decode cX6_readsSnail 93 = .ok (.iadd, 1) := dcO tk_X6_readsSnail_1 15 rfl
theorem dX6_readsSnail_94 : decode cX6_readsSnail 94 = .ok (.iload 4, 2) := dcO tk_X6_readsSnail_1 16 rfl
theorem dX6_readsSnail_96 : decode cX6_readsSnail 96 = .ok (.invokevirtual 97, 3) := dcO tk_X6_readsSnail_1 17 rfl
theorem dX6_readsSnail_99 : decode cX6_readsSnail 99 = .ok (.iinc 3 1, 3) := dcO tk_X6_readsSnail_1 18 rfl
theorem dX6_readsSnail_102 : decode cX6_readsSnail 102 = .ok (.goto (-70), 3) := dcO tk_X6_readsSnail_1 19 rfl
theorem dX6_readsSnail_105 : decode cX6_readsSnail 105 = .ok (.iconst 1, 1) := dcO tk_X6_readsSnail_1 20 rfl
theorem dX6_readsSnail_106 : decode cX6_readsSnail 106 = .ok (.ireturn, 1) := dcO tk_X6_readsSnail_1 21 rfl
abbrev tb_X6_readsItem_0 : List (Nat × Instr × Nat) := [(0, .aload_n 0, 1), (1, .aload_n 0, 1), (2, .getfield 38, 3), (5, .invokevirtual 233, 3), (8, .istore_n 1, 1), (9, .iload_n 1, 1), (10, .ifCond .lt 9, 3), (13, .aload_n 0, 1), (14, .iload_n 1, 1), (15, .invokevirtual 240, 3), (18, .ireturn, 1), (19, .aload_n 0, 1), (20, .aload_n 0, 1), (21, .getfield 45, 3), (24, .invokevirtual 233, 3), (27, .istore_n 2, 1), (28, .iload_n 2, 1), (29, .ifCond .ge 5, 3), (32, .iconst 0, 1), (33, .ireturn, 1), (34, .aload_n 0, 1), (35, .invokevirtual 230, 3), (38, .aload_n 0, 1), (39, .iconst 0, 1), (40, .iload_n 2, 1), (41, .iconst 2, 1), (42, .if_icmp .ge 8, 3), (45, .bipush 80, 2), (47, .goto 25, 3), (50, .iload_n 2, 1), (51, .iconst 2, 1), (52, .if_icmp .ne 8, 3), (55, .bipush 7, 2), (57, .goto 15, 3), (60, .iload_n 2, 1), (61, .iconst 3, 1), (62, .if_icmp .ne 8, 3), (65, .bipush 9, 2), (67, .goto 5, 3), (70, .bipush 20, 2)]
theorem tk_X6_readsItem_0 : dcA cX6_readsItem tb_X6_readsItem_0 = true := by decide +kernel
theorem dX6_readsItem_0 : decode cX6_readsItem 0 = .ok (.aload_n 0, 1) := dcO tk_X6_readsItem_0 0 rfl
theorem dX6_readsItem_1 : decode cX6_readsItem 1 = .ok (.aload_n 0, 1) := dcO tk_X6_readsItem_0 1 rfl
theorem dX6_readsItem_2 : decode cX6_readsItem 2 = .ok (.getfield 38, 3) := dcO tk_X6_readsItem_0 2 rfl
theorem dX6_readsItem_5 : decode cX6_readsItem 5 = .ok (.invokevirtual 233, 3) := dcO tk_X6_readsItem_0 3 rfl
theorem dX6_readsItem_8 : decode cX6_readsItem 8 = .ok (.istore_n 1, 1) := dcO tk_X6_readsItem_0 4 rfl
theorem dX6_readsItem_9 : decode cX6_readsItem 9 = .ok (.iload_n 1, 1) := dcO tk_X6_readsItem_0 5 rfl
theorem dX6_readsItem_10 : decode cX6_readsItem 10 = .ok (.ifCond .lt 9, 3) := dcO tk_X6_readsItem_0 6 rfl
theorem dX6_readsItem_13 : decode cX6_readsItem 13 = .ok (.aload_n 0, 1) := dcO tk_X6_readsItem_0 7 rfl
theorem dX6_readsItem_14 : decode cX6_readsItem 14 = .ok (.iload_n 1, 1) := dcO tk_X6_readsItem_0 8 rfl
theorem dX6_readsItem_15 : decode cX6_readsItem 15 = .ok (.invokevirtual 240, 3) := dcO tk_X6_readsItem_0 9 rfl
theorem dX6_readsItem_18 : decode cX6_readsItem 18 = .ok (.ireturn, 1) := dcO tk_X6_readsItem_0 10 rfl
theorem dX6_readsItem_19 : decode cX6_readsItem 19 = .ok (.aload_n 0, 1) := dcO tk_X6_readsItem_0 11 rfl
theorem dX6_readsItem_20 : decode cX6_readsItem 20 = .ok (.aload_n 0, 1) := dcO tk_X6_readsItem_0 12 rfl
theorem dX6_readsItem_21 : decode cX6_readsItem 21 = .ok (.getfield 45, 3) := dcO tk_X6_readsItem_0 13 rfl
theorem dX6_readsItem_24 : decode cX6_readsItem 24 = .ok (.invokevirtual 233, 3) := dcO tk_X6_readsItem_0 14 rfl
theorem dX6_readsItem_27 : decode cX6_readsItem 27 = .ok (.istore_n 2, 1) := dcO tk_X6_readsItem_0 15 rfl
theorem dX6_readsItem_28 : decode cX6_readsItem 28 = .ok (.iload_n 2, 1) := dcO tk_X6_readsItem_0 16 rfl
theorem dX6_readsItem_29 : decode cX6_readsItem 29 = .ok (.ifCond .ge 5, 3) := dcO tk_X6_readsItem_0 17 rfl
theorem dX6_readsItem_32 : decode cX6_readsItem 32 = .ok (.iconst 0, 1) := dcO tk_X6_readsItem_0 18 rfl
theorem dX6_readsItem_33 : decode cX6_readsItem 33 = .ok (.ireturn, 1) := dcO tk_X6_readsItem_0 19 rfl
theorem dX6_readsItem_34 : decode cX6_readsItem 34 = .ok (.aload_n 0, 1) := dcO tk_X6_readsItem_0 20 rfl
theorem dX6_readsItem_35 : decode cX6_readsItem 35 = .ok (.invokevirtual 230, 3) := dcO tk_X6_readsItem_0 21 rfl
theorem dX6_readsItem_38 : decode cX6_readsItem 38 = .ok (.aload_n 0, 1) := dcO tk_X6_readsItem_0 22 rfl
theorem dX6_readsItem_39 : decode cX6_readsItem 39 = .ok (.iconst 0, 1) := dcO tk_X6_readsItem_0 23 rfl
theorem dX6_readsItem_40 : decode cX6_readsItem 40 = .ok (.iload_n 2, 1) := dcO tk_X6_readsItem_0 24 rfl
theorem dX6_readsItem_41 : decode cX6_readsItem 41 = .ok (.iconst 2, 1) := dcO tk_X6_readsItem_0 25 rfl
theorem dX6_readsItem_42 : decode cX6_readsItem 42 = .ok (.if_icmp .ge 8, 3) := dcO tk_X6_readsItem_0 26 rfl
theorem dX6_readsItem_45 : decode cX6_readsItem 45 = .ok (.bipush 80, 2) := dcO tk_X6_readsItem_0 27 rfl
theorem dX6_readsItem_47 : decode cX6_readsItem 47 = .ok (.goto 25, 3) := dcO tk_X6_readsItem_0 28 rfl
theorem dX6_readsItem_50 : decode cX6_readsItem 50 = .ok (.iload_n 2, 1) := dcO tk_X6_readsItem_0 29 rfl
theorem dX6_readsItem_51 : decode cX6_readsItem 51 = .ok (.iconst 2, 1) := dcO tk_X6_readsItem_0 30 rfl
theorem dX6_readsItem_52 : decode cX6_readsItem 52 = .ok (.if_icmp .ne 8, 3) := dcO tk_X6_readsItem_0 31 rfl
theorem dX6_readsItem_55 : decode cX6_readsItem 55 = .ok (.bipush 7, 2) := dcO tk_X6_readsItem_0 32 rfl
theorem dX6_readsItem_57 : decode cX6_readsItem 57 = .ok (.goto 15, 3) := dcO tk_X6_readsItem_0 33 rfl
theorem dX6_readsItem_60 : decode cX6_readsItem 60 = .ok (.iload_n 2, 1) := dcO tk_X6_readsItem_0 34 rfl
theorem dX6_readsItem_61 : decode cX6_readsItem 61 = .ok (.iconst 3, 1) := dcO tk_X6_readsItem_0 35 rfl
theorem dX6_readsItem_62 : decode cX6_readsItem 62 = .ok (.if_icmp .ne 8, 3) := dcO tk_X6_readsItem_0 36 rfl
theorem dX6_readsItem_65 : decode cX6_readsItem 65 = .ok (.bipush 9, 2) := dcO tk_X6_readsItem_0 37 rfl
theorem dX6_readsItem_67 : decode cX6_readsItem 67 = .ok (.goto 5, 3) := dcO tk_X6_readsItem_0 38 rfl
theorem dX6_readsItem_70 : decode cX6_readsItem 70 = .ok (.bipush 20, 2) := dcO tk_X6_readsItem_0 39 rfl
abbrev tb_X6_readsItem_1 : List (Nat × Instr × Nat) := [(72, .invokevirtual 237, 3), (75, .istore_n 3, 1), (76, .iload_n 3, 1), (77, .ifCond .ge 5, 3), (80, .iconst 0, 1), (81, .ireturn, 1), (82, .iload_n 2, 1), (83, .iconst 1, 1), (84, .if_icmp .eq 8, 3), (87, .iload_n 2, 1), (88, .iconst 2, 1), (89, .if_icmp .ne 24, 3), (92, .aload_n 0, 1), (93, .iconst 0, 1), (94, .iload_n 2, 1), (95, .iconst 1, 1), (96, .if_icmp .ne 8, 3), (99, .bipush 9, 2), (101, .goto 6, 3), (104, .sipush 255, 3), (107, .invokevirtual 237, 3), (110, .goto 4, 3), (113, .iconst 1, 1), (114, .istore 4, 2), (116, .iload 4, 2), (118, .ifCond .ge 5, 3), (121, .iconst 0, 1), (122, .ireturn, 1), (123, .iload_n 2, 1), (124, .ifCond .ne 10, 3), (127, .bipush 14, 2), (129, .iload_n 3, 1), (130, .iadd, 1), (131, .goto 37, 3), (134, .iload_n 2, 1), (135, .iconst 1, 1), (136, .if_icmp .ne 10, 3), (139, .bipush 95, 2), (141, .iload_n 3, 1), (142, .iadd, 1)]
theorem tk_X6_readsItem_1 : dcA cX6_readsItem tb_X6_readsItem_1 = true := by decide +kernel
theorem dX6_readsItem_72 : decode cX6_readsItem 72 = .ok (.invokevirtual 237, 3) := dcO tk_X6_readsItem_1 0 rfl
theorem dX6_readsItem_75 : decode cX6_readsItem 75 = .ok (.istore_n 3, 1) := dcO tk_X6_readsItem_1 1 rfl
theorem dX6_readsItem_76 : decode cX6_readsItem 76 = .ok (.iload_n 3, 1) := dcO tk_X6_readsItem_1 2 rfl
theorem dX6_readsItem_77 : decode cX6_readsItem 77 = .ok (.ifCond .ge 5, 3) := dcO tk_X6_readsItem_1 3 rfl
theorem dX6_readsItem_80 : decode cX6_readsItem 80 = .ok (.iconst 0, 1) := dcO tk_X6_readsItem_1 4 rfl
theorem dX6_readsItem_81 : decode cX6_readsItem 81 = .ok (.ireturn, 1) := dcO tk_X6_readsItem_1 5 rfl
theorem dX6_readsItem_82 : decode cX6_readsItem 82 = .ok (.iload_n 2, 1) := dcO tk_X6_readsItem_1 6 rfl
theorem dX6_readsItem_83 : decode cX6_readsItem 83 = .ok (.iconst 1, 1) := dcO tk_X6_readsItem_1 7 rfl
theorem dX6_readsItem_84 : decode cX6_readsItem 84 = .ok (.if_icmp .eq 8, 3) := dcO tk_X6_readsItem_1 8 rfl
theorem dX6_readsItem_87 : decode cX6_readsItem 87 = .ok (.iload_n 2, 1) := dcO tk_X6_readsItem_1 9 rfl
theorem dX6_readsItem_88 : decode cX6_readsItem 88 = .ok (.iconst 2, 1) := dcO tk_X6_readsItem_1 10 rfl
theorem dX6_readsItem_89 : decode cX6_readsItem 89 = .ok (.if_icmp .ne 24, 3) := dcO tk_X6_readsItem_1 11 rfl
theorem dX6_readsItem_92 : decode cX6_readsItem 92 = .ok (.aload_n 0, 1) := dcO tk_X6_readsItem_1 12 rfl
theorem dX6_readsItem_93 : decode cX6_readsItem 93 = .ok (.iconst 0, 1) := dcO tk_X6_readsItem_1 13 rfl
theorem dX6_readsItem_94 : decode cX6_readsItem 94 = .ok (.iload_n 2, 1) := dcO tk_X6_readsItem_1 14 rfl
theorem dX6_readsItem_95 : decode cX6_readsItem 95 = .ok (.iconst 1, 1) := dcO tk_X6_readsItem_1 15 rfl
theorem dX6_readsItem_96 : decode cX6_readsItem 96 = .ok (.if_icmp .ne 8, 3) := dcO tk_X6_readsItem_1 16 rfl
theorem dX6_readsItem_99 : decode cX6_readsItem 99 = .ok (.bipush 9, 2) := dcO tk_X6_readsItem_1 17 rfl
theorem dX6_readsItem_101 : decode cX6_readsItem 101 = .ok (.goto 6, 3) := dcO tk_X6_readsItem_1 18 rfl
theorem dX6_readsItem_104 : decode cX6_readsItem 104 = .ok (.sipush 255, 3) := dcO tk_X6_readsItem_1 19 rfl
theorem dX6_readsItem_107 : decode cX6_readsItem 107 = .ok (.invokevirtual 237, 3) := dcO tk_X6_readsItem_1 20 rfl
theorem dX6_readsItem_110 : decode cX6_readsItem 110 = .ok (.goto 4, 3) := dcO tk_X6_readsItem_1 21 rfl
theorem dX6_readsItem_113 : decode cX6_readsItem 113 = .ok (.iconst 1, 1) := dcO tk_X6_readsItem_1 22 rfl
theorem dX6_readsItem_114 : decode cX6_readsItem 114 = .ok (.istore 4, 2) := dcO tk_X6_readsItem_1 23 rfl
theorem dX6_readsItem_116 : decode cX6_readsItem 116 = .ok (.iload 4, 2) := dcO tk_X6_readsItem_1 24 rfl
theorem dX6_readsItem_118 : decode cX6_readsItem 118 = .ok (.ifCond .ge 5, 3) := dcO tk_X6_readsItem_1 25 rfl
theorem dX6_readsItem_121 : decode cX6_readsItem 121 = .ok (.iconst 0, 1) := dcO tk_X6_readsItem_1 26 rfl
theorem dX6_readsItem_122 : decode cX6_readsItem 122 = .ok (.ireturn, 1) := dcO tk_X6_readsItem_1 27 rfl
theorem dX6_readsItem_123 : decode cX6_readsItem 123 = .ok (.iload_n 2, 1) := dcO tk_X6_readsItem_1 28 rfl
theorem dX6_readsItem_124 : decode cX6_readsItem 124 = .ok (.ifCond .ne 10, 3) := dcO tk_X6_readsItem_1 29 rfl
theorem dX6_readsItem_127 : decode cX6_readsItem 127 = .ok (.bipush 14, 2) := dcO tk_X6_readsItem_1 30 rfl
theorem dX6_readsItem_129 : decode cX6_readsItem 129 = .ok (.iload_n 3, 1) := dcO tk_X6_readsItem_1 31 rfl
theorem dX6_readsItem_130 : decode cX6_readsItem 130 = .ok (.iadd, 1) := dcO tk_X6_readsItem_1 32 rfl
theorem dX6_readsItem_131 : decode cX6_readsItem 131 = .ok (.goto 37, 3) := dcO tk_X6_readsItem_1 33 rfl
theorem dX6_readsItem_134 : decode cX6_readsItem 134 = .ok (.iload_n 2, 1) := dcO tk_X6_readsItem_1 34 rfl
theorem dX6_readsItem_135 : decode cX6_readsItem 135 = .ok (.iconst 1, 1) := dcO tk_X6_readsItem_1 35 rfl
theorem dX6_readsItem_136 : decode cX6_readsItem 136 = .ok (.if_icmp .ne 10, 3) := dcO tk_X6_readsItem_1 36 rfl
theorem dX6_readsItem_139 : decode cX6_readsItem 139 = .ok (.bipush 95, 2) := dcO tk_X6_readsItem_1 37 rfl
theorem dX6_readsItem_141 : decode cX6_readsItem 141 = .ok (.iload_n 3, 1) := dcO tk_X6_readsItem_1 38 rfl
theorem dX6_readsItem_142 : decode cX6_readsItem 142 = .ok (.iadd, 1) := dcO tk_X6_readsItem_1 39 rfl
abbrev tb_X6_readsItem_2 : List (Nat × Instr × Nat) := [(143, .goto 25, 3), (146, .iload_n 2, 1), (147, .iconst 2, 1), (148, .if_icmp .ne 10, 3), (151, .bipush 6, 2), (153, .iload_n 3, 1), (154, .iadd, 1), (155, .goto 13, 3), (158, .iload_n 2, 1), (159, .iconst 3, 1), (160, .if_icmp .ne 7, 3), (163, .iconst 4, 1), (164, .goto 4, 3), (167, .iconst 5, 1), (168, .istore 5, 2), (170, .aload_n 0, 1), (171, .getfield 9, 3), (174, .iload 5, 2), (176, .iload_n 2, 1), (177, .iconst 3, 1), (178, .if_icmp .ge 8, 3), (181, .iload 4, 2), (183, .goto 4, 3), (186, .iload_n 3, 1), (187, .iastore, 1), (188, .iconst 1, 1), (189, .ireturn, 1)]
theorem tk_X6_readsItem_2 : dcA cX6_readsItem tb_X6_readsItem_2 = true := by decide +kernel
theorem dX6_readsItem_143 : decode cX6_readsItem 143 = .ok (.goto 25, 3) := dcO tk_X6_readsItem_2 0 rfl
theorem dX6_readsItem_146 : decode cX6_readsItem 146 = .ok (.iload_n 2, 1) := dcO tk_X6_readsItem_2 1 rfl
theorem dX6_readsItem_147 : decode cX6_readsItem 147 = .ok (.iconst 2, 1) := dcO tk_X6_readsItem_2 2 rfl
theorem dX6_readsItem_148 : decode cX6_readsItem 148 = .ok (.if_icmp .ne 10, 3) := dcO tk_X6_readsItem_2 3 rfl
theorem dX6_readsItem_151 : decode cX6_readsItem 151 = .ok (.bipush 6, 2) := dcO tk_X6_readsItem_2 4 rfl
theorem dX6_readsItem_153 : decode cX6_readsItem 153 = .ok (.iload_n 3, 1) := dcO tk_X6_readsItem_2 5 rfl
theorem dX6_readsItem_154 : decode cX6_readsItem 154 = .ok (.iadd, 1) := dcO tk_X6_readsItem_2 6 rfl
theorem dX6_readsItem_155 : decode cX6_readsItem 155 = .ok (.goto 13, 3) := dcO tk_X6_readsItem_2 7 rfl
theorem dX6_readsItem_158 : decode cX6_readsItem 158 = .ok (.iload_n 2, 1) := dcO tk_X6_readsItem_2 8 rfl
theorem dX6_readsItem_159 : decode cX6_readsItem 159 = .ok (.iconst 3, 1) := dcO tk_X6_readsItem_2 9 rfl
theorem dX6_readsItem_160 : decode cX6_readsItem 160 = .ok (.if_icmp .ne 7, 3) := dcO tk_X6_readsItem_2 10 rfl
theorem dX6_readsItem_163 : decode cX6_readsItem 163 = .ok (.iconst 4, 1) := dcO tk_X6_readsItem_2 11 rfl
theorem dX6_readsItem_164 : decode cX6_readsItem 164 = .ok (.goto 4, 3) := dcO tk_X6_readsItem_2 12 rfl
theorem dX6_readsItem_167 : decode cX6_readsItem 167 = .ok (.iconst 5, 1) := dcO tk_X6_readsItem_2 13 rfl
theorem dX6_readsItem_168 : decode cX6_readsItem 168 = .ok (.istore 5, 2) := dcO tk_X6_readsItem_2 14 rfl
theorem dX6_readsItem_170 : decode cX6_readsItem 170 = .ok (.aload_n 0, 1) := dcO tk_X6_readsItem_2 15 rfl
theorem dX6_readsItem_171 : decode cX6_readsItem 171 = .ok (.getfield 9, 3) := dcO tk_X6_readsItem_2 16 rfl
theorem dX6_readsItem_174 : decode cX6_readsItem 174 = .ok (.iload 5, 2) := dcO tk_X6_readsItem_2 17 rfl
theorem dX6_readsItem_176 : decode cX6_readsItem 176 = .ok (.iload_n 2, 1) := dcO tk_X6_readsItem_2 18 rfl
theorem dX6_readsItem_177 : decode cX6_readsItem 177 = .ok (.iconst 3, 1) := dcO tk_X6_readsItem_2 19 rfl
theorem dX6_readsItem_178 : decode cX6_readsItem 178 = .ok (.if_icmp .ge 8, 3) := dcO tk_X6_readsItem_2 20 rfl
theorem dX6_readsItem_181 : decode cX6_readsItem 181 = .ok (.iload 4, 2) := dcO tk_X6_readsItem_2 21 rfl
theorem dX6_readsItem_183 : decode cX6_readsItem 183 = .ok (.goto 4, 3) := dcO tk_X6_readsItem_2 22 rfl
theorem dX6_readsItem_186 : decode cX6_readsItem 186 = .ok (.iload_n 3, 1) := dcO tk_X6_readsItem_2 23 rfl
theorem dX6_readsItem_187 : decode cX6_readsItem 187 = .ok (.iastore, 1) := dcO tk_X6_readsItem_2 24 rfl
theorem dX6_readsItem_188 : decode cX6_readsItem 188 = .ok (.iconst 1, 1) := dcO tk_X6_readsItem_2 25 rfl
theorem dX6_readsItem_189 : decode cX6_readsItem 189 = .ok (.ireturn, 1) := dcO tk_X6_readsItem_2 26 rfl
abbrev tb_X6_text_0 : List (Nat × Instr × Nat) := [(0, .aload_n 0, 1), (1, .invokevirtual 155, 3), (4, .aload_n 0, 1), (5, .iconst 0, 1), (6, .putfield 199, 3), (9, .aload_n 0, 1), (10, .invokevirtual 230, 3), (13, .iconst 1, 1), (14, .istore_n 1, 1), (15, .aload_n 0, 1), (16, .invokevirtual 243, 3), (19, .istore_n 2, 1), (20, .iload_n 2, 1), (21, .ifCond .eq 26, 3), (24, .aload_n 0, 1), (25, .getfield 209, 3), (28, .iconst 3, 1), (29, .if_icmp .ne 18, 3), (32, .aload_n 0, 1), (33, .invokevirtual 230, 3), (36, .aload_n 0, 1), (37, .invokevirtual 243, 3), (40, .istore_n 2, 1), (41, .iinc 1 1, 3), (44, .goto (-24), 3), (47, .iload_n 2, 1), (48, .ifCond .eq 14, 3), (51, .aload_n 0, 1), (52, .getfield 209, 3), (55, .ifCond .ne 7, 3), (58, .iconst 1, 1), (59, .goto 4, 3), (62, .iconst 0, 1), (63, .istore_n 2, 1), (64, .aload_n 0, 1), (65, .iconst 0, 1), (66, .putfield 195, 3), (69, .iload_n 2, 1), (70, .ifCond .ne 14, 3), (73, .aload_n 0, 1)]
theorem tk_X6_text_0 : dcA cX6_text tb_X6_text_0 = true := by decide +kernel
theorem dX6_text_0 : decode cX6_text 0 = .ok (.aload_n 0, 1) := dcO tk_X6_text_0 0 rfl
theorem dX6_text_1 : decode cX6_text 1 = .ok (.invokevirtual 155, 3) := dcO tk_X6_text_0 1 rfl
theorem dX6_text_4 : decode cX6_text 4 = .ok (.aload_n 0, 1) := dcO tk_X6_text_0 2 rfl
theorem dX6_text_5 : decode cX6_text 5 = .ok (.iconst 0, 1) := dcO tk_X6_text_0 3 rfl
theorem dX6_text_6 : decode cX6_text 6 = .ok (.putfield 199, 3) := dcO tk_X6_text_0 4 rfl
theorem dX6_text_9 : decode cX6_text 9 = .ok (.aload_n 0, 1) := dcO tk_X6_text_0 5 rfl
theorem dX6_text_10 : decode cX6_text 10 = .ok (.invokevirtual 230, 3) := dcO tk_X6_text_0 6 rfl
theorem dX6_text_13 : decode cX6_text 13 = .ok (.iconst 1, 1) := dcO tk_X6_text_0 7 rfl
theorem dX6_text_14 : decode cX6_text 14 = .ok (.istore_n 1, 1) := dcO tk_X6_text_0 8 rfl
theorem dX6_text_15 : decode cX6_text 15 = .ok (.aload_n 0, 1) := dcO tk_X6_text_0 9 rfl
theorem dX6_text_16 : decode cX6_text 16 = .ok (.invokevirtual 243, 3) := dcO tk_X6_text_0 10 rfl
theorem dX6_text_19 : decode cX6_text 19 = .ok (.istore_n 2, 1) := dcO tk_X6_text_0 11 rfl
theorem dX6_text_20 : decode cX6_text 20 = .ok (.iload_n 2, 1) := dcO tk_X6_text_0 12 rfl
theorem dX6_text_21 : decode cX6_text 21 = .ok (.ifCond .eq 26, 3) := dcO tk_X6_text_0 13 rfl
theorem dX6_text_24 : decode cX6_text 24 = .ok (.aload_n 0, 1) := dcO tk_X6_text_0 14 rfl
theorem dX6_text_25 : decode cX6_text 25 = .ok (.getfield 209, 3) := dcO tk_X6_text_0 15 rfl
theorem dX6_text_28 : decode cX6_text 28 = .ok (.iconst 3, 1) := dcO tk_X6_text_0 16 rfl
theorem dX6_text_29 : decode cX6_text 29 = .ok (.if_icmp .ne 18, 3) := dcO tk_X6_text_0 17 rfl
theorem dX6_text_32 : decode cX6_text 32 = .ok (.aload_n 0, 1) := dcO tk_X6_text_0 18 rfl
theorem dX6_text_33 : decode cX6_text 33 = .ok (.invokevirtual 230, 3) := dcO tk_X6_text_0 19 rfl
theorem dX6_text_36 : decode cX6_text 36 = .ok (.aload_n 0, 1) := dcO tk_X6_text_0 20 rfl
theorem dX6_text_37 : decode cX6_text 37 = .ok (.invokevirtual 243, 3) := dcO tk_X6_text_0 21 rfl
theorem dX6_text_40 : decode cX6_text 40 = .ok (.istore_n 2, 1) := dcO tk_X6_text_0 22 rfl
theorem dX6_text_41 : decode cX6_text 41 = .ok (.iinc 1 1, 3) := dcO tk_X6_text_0 23 rfl
theorem dX6_text_44 : decode cX6_text 44 = .ok (.goto (-24), 3) := dcO tk_X6_text_0 24 rfl
theorem dX6_text_47 : decode cX6_text 47 = .ok (.iload_n 2, 1) := dcO tk_X6_text_0 25 rfl
theorem dX6_text_48 : decode cX6_text 48 = .ok (.ifCond .eq 14, 3) := dcO tk_X6_text_0 26 rfl
theorem dX6_text_51 : decode cX6_text 51 = .ok (.aload_n 0, 1) := dcO tk_X6_text_0 27 rfl
theorem dX6_text_52 : decode cX6_text 52 = .ok (.getfield 209, 3) := dcO tk_X6_text_0 28 rfl
theorem dX6_text_55 : decode cX6_text 55 = .ok (.ifCond .ne 7, 3) := dcO tk_X6_text_0 29 rfl
theorem dX6_text_58 : decode cX6_text 58 = .ok (.iconst 1, 1) := dcO tk_X6_text_0 30 rfl
theorem dX6_text_59 : decode cX6_text 59 = .ok (.goto 4, 3) := dcO tk_X6_text_0 31 rfl
theorem dX6_text_62 : decode cX6_text 62 = .ok (.iconst 0, 1) := dcO tk_X6_text_0 32 rfl
theorem dX6_text_63 : decode cX6_text 63 = .ok (.istore_n 2, 1) := dcO tk_X6_text_0 33 rfl
theorem dX6_text_64 : decode cX6_text 64 = .ok (.aload_n 0, 1) := dcO tk_X6_text_0 34 rfl
theorem dX6_text_65 : decode cX6_text 65 = .ok (.iconst 0, 1) := dcO tk_X6_text_0 35 rfl
theorem dX6_text_66 : decode cX6_text 66 = .ok (.putfield 195, 3) := dcO tk_X6_text_0 36 rfl
theorem dX6_text_69 : decode cX6_text 69 = .ok (.iload_n 2, 1) := dcO tk_X6_text_0 37 rfl
theorem dX6_text_70 : decode cX6_text 70 = .ok (.ifCond .ne 14, 3) := dcO tk_X6_text_0 38 rfl
theorem dX6_text_73 : decode cX6_text 73 = .ok (.aload_n 0, 1) := dcO tk_X6_text_0 39 rfl
abbrev tb_X6_text_1 : List (Nat × Instr × Nat) := [(74, .invokevirtual 158, 3), (77, .iconst (-1), 1), (78, .aload_n 0, 1), (79, .getfield 202, 3), (82, .isub, 1), (83, .ireturn, 1), (84, .iload_n 1, 1), (85, .ireturn, 1)]
theorem tk_X6_text_1 : dcA cX6_text tb_X6_text_1 = true := by decide +kernel
theorem dX6_text_74 : decode cX6_text 74 = .ok (.invokevirtual 158, 3) := dcO tk_X6_text_1 0 rfl
theorem dX6_text_77 : decode cX6_text 77 = .ok (.iconst (-1), 1) := dcO tk_X6_text_1 1 rfl
theorem dX6_text_78 : decode cX6_text 78 = .ok (.aload_n 0, 1) := dcO tk_X6_text_1 2 rfl
theorem dX6_text_79 : decode cX6_text 79 = .ok (.getfield 202, 3) := dcO tk_X6_text_1 3 rfl
theorem dX6_text_82 : decode cX6_text 82 = .ok (.isub, 1) := dcO tk_X6_text_1 4 rfl
theorem dX6_text_83 : decode cX6_text 83 = .ok (.ireturn, 1) := dcO tk_X6_text_1 5 rfl
theorem dX6_text_84 : decode cX6_text 84 = .ok (.iload_n 1, 1) := dcO tk_X6_text_1 6 rfl
theorem dX6_text_85 : decode cX6_text 85 = .ok (.ireturn, 1) := dcO tk_X6_text_1 7 rfl
abbrev tb_X6_isSpot_0 : List (Nat × Instr × Nat) := [(0, .iload_n 0, 1), (1, .iconst 0, 1), (2, .bipush 9, 2), (4, .invokestatic 61, 3), (7, .ireturn, 1)]
theorem tk_X6_isSpot_0 : dcA cX6_isSpot tb_X6_isSpot_0 = true := by decide +kernel
theorem dX6_isSpot_0 : decode cX6_isSpot 0 = .ok (.iload_n 0, 1) := dcO tk_X6_isSpot_0 0 rfl
theorem dX6_isSpot_1 : decode cX6_isSpot 1 = .ok (.iconst 0, 1) := dcO tk_X6_isSpot_0 1 rfl
theorem dX6_isSpot_2 : decode cX6_isSpot 2 = .ok (.bipush 9, 2) := dcO tk_X6_isSpot_0 2 rfl
theorem dX6_isSpot_4 : decode cX6_isSpot 4 = .ok (.invokestatic 61, 3) := dcO tk_X6_isSpot_0 3 rfl
theorem dX6_isSpot_7 : decode cX6_isSpot 7 = .ok (.ireturn, 1) := dcO tk_X6_isSpot_0 4 rfl
abbrev tb_X6_hold_0 : List (Nat × Instr × Nat) := [(0, .iload_n 1, 1), (1, .invokestatic 247, 3), (4, .ifCond .eq 16, 3), (7, .iload_n 2, 1), (8, .iconst (-1), 1), (9, .if_icmp .eq 17, 3), (12, .aload_n 0, 1), (13, .iload_n 2, 1), (14, .invokevirtual 131, 3), (17, .ifCond .ne 9, 3), (20, .aload_n 0, 1), (21, .iconst 0, 1), (22, .invokevirtual 125, 3), (25, .ireturn, 1), (26, .aload_n 0, 1), (27, .getfield 9, 3), (30, .sipush 297, 3), (33, .iload_n 1, 1), (34, .iadd, 1), (35, .iload_n 2, 1), (36, .iastore, 1), (37, .iconst 1, 1), (38, .ireturn, 1)]
theorem tk_X6_hold_0 : dcA cX6_hold tb_X6_hold_0 = true := by decide +kernel
theorem dX6_hold_0 : decode cX6_hold 0 = .ok (.iload_n 1, 1) := dcO tk_X6_hold_0 0 rfl
theorem dX6_hold_1 : decode cX6_hold 1 = .ok (.invokestatic 247, 3) := dcO tk_X6_hold_0 1 rfl
theorem dX6_hold_4 : decode cX6_hold 4 = .ok (.ifCond .eq 16, 3) := dcO tk_X6_hold_0 2 rfl
theorem dX6_hold_7 : decode cX6_hold 7 = .ok (.iload_n 2, 1) := dcO tk_X6_hold_0 3 rfl
theorem dX6_hold_8 : decode cX6_hold 8 = .ok (.iconst (-1), 1) := dcO tk_X6_hold_0 4 rfl
theorem dX6_hold_9 : decode cX6_hold 9 = .ok (.if_icmp .eq 17, 3) := dcO tk_X6_hold_0 5 rfl
theorem dX6_hold_12 : decode cX6_hold 12 = .ok (.aload_n 0, 1) := dcO tk_X6_hold_0 6 rfl
theorem dX6_hold_13 : decode cX6_hold 13 = .ok (.iload_n 2, 1) := dcO tk_X6_hold_0 7 rfl
theorem dX6_hold_14 : decode cX6_hold 14 = .ok (.invokevirtual 131, 3) := dcO tk_X6_hold_0 8 rfl
theorem dX6_hold_17 : decode cX6_hold 17 = .ok (.ifCond .ne 9, 3) := dcO tk_X6_hold_0 9 rfl
theorem dX6_hold_20 : decode cX6_hold 20 = .ok (.aload_n 0, 1) := dcO tk_X6_hold_0 10 rfl
theorem dX6_hold_21 : decode cX6_hold 21 = .ok (.iconst 0, 1) := dcO tk_X6_hold_0 11 rfl
theorem dX6_hold_22 : decode cX6_hold 22 = .ok (.invokevirtual 125, 3) := dcO tk_X6_hold_0 12 rfl
theorem dX6_hold_25 : decode cX6_hold 25 = .ok (.ireturn, 1) := dcO tk_X6_hold_0 13 rfl
theorem dX6_hold_26 : decode cX6_hold 26 = .ok (.aload_n 0, 1) := dcO tk_X6_hold_0 14 rfl
theorem dX6_hold_27 : decode cX6_hold 27 = .ok (.getfield 9, 3) := dcO tk_X6_hold_0 15 rfl
theorem dX6_hold_30 : decode cX6_hold 30 = .ok (.sipush 297, 3) := dcO tk_X6_hold_0 16 rfl
theorem dX6_hold_33 : decode cX6_hold 33 = .ok (.iload_n 1, 1) := dcO tk_X6_hold_0 17 rfl
theorem dX6_hold_34 : decode cX6_hold 34 = .ok (.iadd, 1) := dcO tk_X6_hold_0 18 rfl
theorem dX6_hold_35 : decode cX6_hold 35 = .ok (.iload_n 2, 1) := dcO tk_X6_hold_0 19 rfl
theorem dX6_hold_36 : decode cX6_hold 36 = .ok (.iastore, 1) := dcO tk_X6_hold_0 20 rfl
theorem dX6_hold_37 : decode cX6_hold 37 = .ok (.iconst 1, 1) := dcO tk_X6_hold_0 21 rfl
theorem dX6_hold_38 : decode cX6_hold 38 = .ok (.ireturn, 1) := dcO tk_X6_hold_0 22 rfl
abbrev tb_X6_above_0 : List (Nat × Instr × Nat) := [(0, .iload_n 0, 1), (1, .iconst 3, 1), (2, .if_icmp .ne 7, 3), (5, .iconst 2, 1), (6, .goto 23, 3), (9, .iload_n 0, 1), (10, .iconst 4, 1), (11, .if_icmp .ne 7, 3), (14, .iconst 3, 1), (15, .goto 14, 3), (18, .iload_n 0, 1), (19, .bipush 6, 2), (21, .if_icmp .ne 7, 3), (24, .iconst 1, 1), (25, .goto 4, 3), (28, .iconst 0, 1), (29, .ireturn, 1)]
theorem tk_X6_above_0 : dcA cX6_above tb_X6_above_0 = true := by decide +kernel
theorem dX6_above_0 : decode cX6_above 0 = .ok (.iload_n 0, 1) := dcO tk_X6_above_0 0 rfl
theorem dX6_above_1 : decode cX6_above 1 = .ok (.iconst 3, 1) := dcO tk_X6_above_0 1 rfl
theorem dX6_above_2 : decode cX6_above 2 = .ok (.if_icmp .ne 7, 3) := dcO tk_X6_above_0 2 rfl
theorem dX6_above_5 : decode cX6_above 5 = .ok (.iconst 2, 1) := dcO tk_X6_above_0 3 rfl
theorem dX6_above_6 : decode cX6_above 6 = .ok (.goto 23, 3) := dcO tk_X6_above_0 4 rfl
theorem dX6_above_9 : decode cX6_above 9 = .ok (.iload_n 0, 1) := dcO tk_X6_above_0 5 rfl
theorem dX6_above_10 : decode cX6_above 10 = .ok (.iconst 4, 1) := dcO tk_X6_above_0 6 rfl
theorem dX6_above_11 : decode cX6_above 11 = .ok (.if_icmp .ne 7, 3) := dcO tk_X6_above_0 7 rfl
theorem dX6_above_14 : decode cX6_above 14 = .ok (.iconst 3, 1) := dcO tk_X6_above_0 8 rfl
theorem dX6_above_15 : decode cX6_above 15 = .ok (.goto 14, 3) := dcO tk_X6_above_0 9 rfl
theorem dX6_above_18 : decode cX6_above 18 = .ok (.iload_n 0, 1) := dcO tk_X6_above_0 10 rfl
theorem dX6_above_19 : decode cX6_above 19 = .ok (.bipush 6, 2) := dcO tk_X6_above_0 11 rfl
theorem dX6_above_21 : decode cX6_above 21 = .ok (.if_icmp .ne 7, 3) := dcO tk_X6_above_0 12 rfl
theorem dX6_above_24 : decode cX6_above 24 = .ok (.iconst 1, 1) := dcO tk_X6_above_0 13 rfl
theorem dX6_above_25 : decode cX6_above 25 = .ok (.goto 4, 3) := dcO tk_X6_above_0 14 rfl
theorem dX6_above_28 : decode cX6_above 28 = .ok (.iconst 0, 1) := dcO tk_X6_above_0 15 rfl
theorem dX6_above_29 : decode cX6_above 29 = .ok (.ireturn, 1) := dcO tk_X6_above_0 16 rfl
abbrev tb_X6_as_0 : List (Nat × Instr × Nat) := [(0, .iload_n 1, 1), (1, .invokestatic 247, 3), (4, .ifCond .eq 13, 3), (7, .iload_n 2, 1), (8, .iconst 0, 1), (9, .bipush 6, 2), (11, .invokestatic 61, 3), (14, .ifCond .ne 9, 3), (17, .aload_n 0, 1), (18, .iconst 0, 1), (19, .invokevirtual 125, 3), (22, .ireturn, 1), (23, .aload_n 0, 1), (24, .getfield 9, 3), (27, .sipush 297, 3), (30, .iload_n 1, 1), (31, .iadd, 1), (32, .iaload, 1), (33, .istore_n 3, 1), (34, .iload_n 3, 1), (35, .ifCond .ge 9, 3), (38, .aload_n 0, 1), (39, .iconst 5, 1), (40, .invokevirtual 125, 3), (43, .ireturn, 1), (44, .aload_n 0, 1), (45, .iload_n 3, 1), (46, .iconst 0, 1), (47, .invokevirtual 76, 3), (50, .istore 4, 2), (52, .iload 4, 2), (54, .iload_n 2, 1), (55, .if_icmp .eq 18, 3), (58, .iload 4, 2), (60, .ifCond .eq 13, 3), (63, .iload 4, 2), (65, .invokestatic 250, 3), (68, .istore 4, 2), (70, .goto (-18), 3), (73, .iload 4, 2)]
theorem tk_X6_as_0 : dcA cX6_as tb_X6_as_0 = true := by decide +kernel
theorem dX6_as_0 : decode cX6_as 0 = .ok (.iload_n 1, 1) := dcO tk_X6_as_0 0 rfl
theorem dX6_as_1 : decode cX6_as 1 = .ok (.invokestatic 247, 3) := dcO tk_X6_as_0 1 rfl
theorem dX6_as_4 : decode cX6_as 4 = .ok (.ifCond .eq 13, 3) := dcO tk_X6_as_0 2 rfl
theorem dX6_as_7 : decode cX6_as 7 = .ok (.iload_n 2, 1) := dcO tk_X6_as_0 3 rfl
theorem dX6_as_8 : decode cX6_as 8 = .ok (.iconst 0, 1) := dcO tk_X6_as_0 4 rfl
theorem dX6_as_9 : decode cX6_as 9 = .ok (.bipush 6, 2) := dcO tk_X6_as_0 5 rfl
theorem dX6_as_11 : decode cX6_as 11 = .ok (.invokestatic 61, 3) := dcO tk_X6_as_0 6 rfl
theorem dX6_as_14 : decode cX6_as 14 = .ok (.ifCond .ne 9, 3) := dcO tk_X6_as_0 7 rfl
theorem dX6_as_17 : decode cX6_as 17 = .ok (.aload_n 0, 1) := dcO tk_X6_as_0 8 rfl
theorem dX6_as_18 : decode cX6_as 18 = .ok (.iconst 0, 1) := dcO tk_X6_as_0 9 rfl
theorem dX6_as_19 : decode cX6_as 19 = .ok (.invokevirtual 125, 3) := dcO tk_X6_as_0 10 rfl
theorem dX6_as_22 : decode cX6_as 22 = .ok (.ireturn, 1) := dcO tk_X6_as_0 11 rfl
theorem dX6_as_23 : decode cX6_as 23 = .ok (.aload_n 0, 1) := dcO tk_X6_as_0 12 rfl
theorem dX6_as_24 : decode cX6_as 24 = .ok (.getfield 9, 3) := dcO tk_X6_as_0 13 rfl
theorem dX6_as_27 : decode cX6_as 27 = .ok (.sipush 297, 3) := dcO tk_X6_as_0 14 rfl
theorem dX6_as_30 : decode cX6_as 30 = .ok (.iload_n 1, 1) := dcO tk_X6_as_0 15 rfl
theorem dX6_as_31 : decode cX6_as 31 = .ok (.iadd, 1) := dcO tk_X6_as_0 16 rfl
theorem dX6_as_32 : decode cX6_as 32 = .ok (.iaload, 1) := dcO tk_X6_as_0 17 rfl
theorem dX6_as_33 : decode cX6_as 33 = .ok (.istore_n 3, 1) := dcO tk_X6_as_0 18 rfl
theorem dX6_as_34 : decode cX6_as 34 = .ok (.iload_n 3, 1) := dcO tk_X6_as_0 19 rfl
theorem dX6_as_35 : decode cX6_as 35 = .ok (.ifCond .ge 9, 3) := dcO tk_X6_as_0 20 rfl
theorem dX6_as_38 : decode cX6_as 38 = .ok (.aload_n 0, 1) := dcO tk_X6_as_0 21 rfl
theorem dX6_as_39 : decode cX6_as 39 = .ok (.iconst 5, 1) := dcO tk_X6_as_0 22 rfl
theorem dX6_as_40 : decode cX6_as 40 = .ok (.invokevirtual 125, 3) := dcO tk_X6_as_0 23 rfl
theorem dX6_as_43 : decode cX6_as 43 = .ok (.ireturn, 1) := dcO tk_X6_as_0 24 rfl
theorem dX6_as_44 : decode cX6_as 44 = .ok (.aload_n 0, 1) := dcO tk_X6_as_0 25 rfl
theorem dX6_as_45 : decode cX6_as 45 = .ok (.iload_n 3, 1) := dcO tk_X6_as_0 26 rfl
theorem dX6_as_46 : decode cX6_as 46 = .ok (.iconst 0, 1) := dcO tk_X6_as_0 27 rfl
theorem dX6_as_47 : decode cX6_as 47 = .ok (.invokevirtual 76, 3) := dcO tk_X6_as_0 28 rfl
theorem dX6_as_50 : decode cX6_as 50 = .ok (.istore 4, 2) := dcO tk_X6_as_0 29 rfl
theorem dX6_as_52 : decode cX6_as 52 = .ok (.iload 4, 2) := dcO tk_X6_as_0 30 rfl
theorem dX6_as_54 : decode cX6_as 54 = .ok (.iload_n 2, 1) := dcO tk_X6_as_0 31 rfl
theorem dX6_as_55 : decode cX6_as 55 = .ok (.if_icmp .eq 18, 3) := dcO tk_X6_as_0 32 rfl
theorem dX6_as_58 : decode cX6_as 58 = .ok (.iload 4, 2) := dcO tk_X6_as_0 33 rfl
theorem dX6_as_60 : decode cX6_as 60 = .ok (.ifCond .eq 13, 3) := dcO tk_X6_as_0 34 rfl
theorem dX6_as_63 : decode cX6_as 63 = .ok (.iload 4, 2) := dcO tk_X6_as_0 35 rfl
theorem dX6_as_65 : decode cX6_as 65 = .ok (.invokestatic 250, 3) := dcO tk_X6_as_0 36 rfl
theorem dX6_as_68 : decode cX6_as 68 = .ok (.istore 4, 2) := dcO tk_X6_as_0 37 rfl
theorem dX6_as_70 : decode cX6_as 70 = .ok (.goto (-18), 3) := dcO tk_X6_as_0 38 rfl
theorem dX6_as_73 : decode cX6_as 73 = .ok (.iload 4, 2) := dcO tk_X6_as_0 39 rfl
abbrev tb_X6_as_1 : List (Nat × Instr × Nat) := [(75, .iload_n 2, 1), (76, .if_icmp .ne 7, 3), (79, .iload_n 3, 1), (80, .goto 8, 3), (83, .aload_n 0, 1), (84, .iconst 2, 1), (85, .invokevirtual 125, 3), (88, .ireturn, 1)]
theorem tk_X6_as_1 : dcA cX6_as tb_X6_as_1 = true := by decide +kernel
theorem dX6_as_75 : decode cX6_as 75 = .ok (.iload_n 2, 1) := dcO tk_X6_as_1 0 rfl
theorem dX6_as_76 : decode cX6_as 76 = .ok (.if_icmp .ne 7, 3) := dcO tk_X6_as_1 1 rfl
theorem dX6_as_79 : decode cX6_as 79 = .ok (.iload_n 3, 1) := dcO tk_X6_as_1 2 rfl
theorem dX6_as_80 : decode cX6_as 80 = .ok (.goto 8, 3) := dcO tk_X6_as_1 3 rfl
theorem dX6_as_83 : decode cX6_as 83 = .ok (.aload_n 0, 1) := dcO tk_X6_as_1 4 rfl
theorem dX6_as_84 : decode cX6_as 84 = .ok (.iconst 2, 1) := dcO tk_X6_as_1 5 rfl
theorem dX6_as_85 : decode cX6_as 85 = .ok (.invokevirtual 125, 3) := dcO tk_X6_as_1 6 rfl
theorem dX6_as_88 : decode cX6_as 88 = .ok (.ireturn, 1) := dcO tk_X6_as_1 7 rfl
abbrev tb_X6_sheet_0 : List (Nat × Instr × Nat) := [(0, .iload_n 1, 1), (1, .invokestatic 177, 3), (4, .ifCond .eq 25, 3), (7, .iload_n 2, 1), (8, .ifCond .eq 27, 3), (11, .iload_n 2, 1), (12, .bipush 8, 2), (14, .if_icmp .eq 21, 3), (17, .iload_n 2, 1), (18, .bipush 16, 2), (20, .if_icmp .eq 15, 3), (23, .iload_n 2, 1), (24, .bipush 32, 2), (26, .if_icmp .eq 9, 3), (29, .aload_n 0, 1), (30, .iconst 0, 1), (31, .invokevirtual 125, 3), (34, .ireturn, 1), (35, .iload_n 3, 1), (36, .ifCond .ge 10, 3), (39, .aload_n 0, 1), (40, .bipush 6, 2), (42, .invokevirtual 125, 3), (45, .ireturn, 1), (46, .iload_n 3, 1), (47, .bipush 40, 2), (49, .if_icmp .le 9, 3), (52, .aload_n 0, 1), (53, .iconst 0, 1), (54, .invokevirtual 125, 3), (57, .ireturn, 1), (58, .aload_n 0, 1), (59, .getfield 48, 3), (62, .iload_n 1, 1), (63, .iload_n 2, 1), (64, .iastore, 1), (65, .aload_n 0, 1), (66, .getfield 51, 3), (69, .iload_n 1, 1), (70, .iload_n 2, 1)]
theorem tk_X6_sheet_0 : dcA cX6_sheet tb_X6_sheet_0 = true := by decide +kernel
theorem dX6_sheet_0 : decode cX6_sheet 0 = .ok (.iload_n 1, 1) := dcO tk_X6_sheet_0 0 rfl
theorem dX6_sheet_1 : decode cX6_sheet 1 = .ok (.invokestatic 177, 3) := dcO tk_X6_sheet_0 1 rfl
theorem dX6_sheet_4 : decode cX6_sheet 4 = .ok (.ifCond .eq 25, 3) := dcO tk_X6_sheet_0 2 rfl
theorem dX6_sheet_7 : decode cX6_sheet 7 = .ok (.iload_n 2, 1) := dcO tk_X6_sheet_0 3 rfl
theorem dX6_sheet_8 : decode cX6_sheet 8 = .ok (.ifCond .eq 27, 3) := dcO tk_X6_sheet_0 4 rfl
theorem dX6_sheet_11 : decode cX6_sheet 11 = .ok (.iload_n 2, 1) := dcO tk_X6_sheet_0 5 rfl
theorem dX6_sheet_12 : decode cX6_sheet 12 = .ok (.bipush 8, 2) := dcO tk_X6_sheet_0 6 rfl
theorem dX6_sheet_14 : decode cX6_sheet 14 = .ok (.if_icmp .eq 21, 3) := dcO tk_X6_sheet_0 7 rfl
theorem dX6_sheet_17 : decode cX6_sheet 17 = .ok (.iload_n 2, 1) := dcO tk_X6_sheet_0 8 rfl
theorem dX6_sheet_18 : decode cX6_sheet 18 = .ok (.bipush 16, 2) := dcO tk_X6_sheet_0 9 rfl
theorem dX6_sheet_20 : decode cX6_sheet 20 = .ok (.if_icmp .eq 15, 3) := dcO tk_X6_sheet_0 10 rfl
theorem dX6_sheet_23 : decode cX6_sheet 23 = .ok (.iload_n 2, 1) := dcO tk_X6_sheet_0 11 rfl
theorem dX6_sheet_24 : decode cX6_sheet 24 = .ok (.bipush 32, 2) := dcO tk_X6_sheet_0 12 rfl
theorem dX6_sheet_26 : decode cX6_sheet 26 = .ok (.if_icmp .eq 9, 3) := dcO tk_X6_sheet_0 13 rfl
theorem dX6_sheet_29 : decode cX6_sheet 29 = .ok (.aload_n 0, 1) := dcO tk_X6_sheet_0 14 rfl
theorem dX6_sheet_30 : decode cX6_sheet 30 = .ok (.iconst 0, 1) := dcO tk_X6_sheet_0 15 rfl
theorem dX6_sheet_31 : decode cX6_sheet 31 = .ok (.invokevirtual 125, 3) := dcO tk_X6_sheet_0 16 rfl
theorem dX6_sheet_34 : decode cX6_sheet 34 = .ok (.ireturn, 1) := dcO tk_X6_sheet_0 17 rfl
theorem dX6_sheet_35 : decode cX6_sheet 35 = .ok (.iload_n 3, 1) := dcO tk_X6_sheet_0 18 rfl
theorem dX6_sheet_36 : decode cX6_sheet 36 = .ok (.ifCond .ge 10, 3) := dcO tk_X6_sheet_0 19 rfl
theorem dX6_sheet_39 : decode cX6_sheet 39 = .ok (.aload_n 0, 1) := dcO tk_X6_sheet_0 20 rfl
theorem dX6_sheet_40 : decode cX6_sheet 40 = .ok (.bipush 6, 2) := dcO tk_X6_sheet_0 21 rfl
theorem dX6_sheet_42 : decode cX6_sheet 42 = .ok (.invokevirtual 125, 3) := dcO tk_X6_sheet_0 22 rfl
theorem dX6_sheet_45 : decode cX6_sheet 45 = .ok (.ireturn, 1) := dcO tk_X6_sheet_0 23 rfl
theorem dX6_sheet_46 : decode cX6_sheet 46 = .ok (.iload_n 3, 1) := dcO tk_X6_sheet_0 24 rfl
theorem dX6_sheet_47 : decode cX6_sheet 47 = .ok (.bipush 40, 2) := dcO tk_X6_sheet_0 25 rfl
theorem dX6_sheet_49 : decode cX6_sheet 49 = .ok (.if_icmp .le 9, 3) := dcO tk_X6_sheet_0 26 rfl
theorem dX6_sheet_52 : decode cX6_sheet 52 = .ok (.aload_n 0, 1) := dcO tk_X6_sheet_0 27 rfl
theorem dX6_sheet_53 : decode cX6_sheet 53 = .ok (.iconst 0, 1) := dcO tk_X6_sheet_0 28 rfl
theorem dX6_sheet_54 : decode cX6_sheet 54 = .ok (.invokevirtual 125, 3) := dcO tk_X6_sheet_0 29 rfl
theorem dX6_sheet_57 : decode cX6_sheet 57 = .ok (.ireturn, 1) := dcO tk_X6_sheet_0 30 rfl
theorem dX6_sheet_58 : decode cX6_sheet 58 = .ok (.aload_n 0, 1) := dcO tk_X6_sheet_0 31 rfl
theorem dX6_sheet_59 : decode cX6_sheet 59 = .ok (.getfield 48, 3) := dcO tk_X6_sheet_0 32 rfl
theorem dX6_sheet_62 : decode cX6_sheet 62 = .ok (.iload_n 1, 1) := dcO tk_X6_sheet_0 33 rfl
theorem dX6_sheet_63 : decode cX6_sheet 63 = .ok (.iload_n 2, 1) := dcO tk_X6_sheet_0 34 rfl
theorem dX6_sheet_64 : decode cX6_sheet 64 = .ok (.iastore, 1) := dcO tk_X6_sheet_0 35 rfl
theorem dX6_sheet_65 : decode cX6_sheet 65 = .ok (.aload_n 0, 1) := dcO tk_X6_sheet_0 36 rfl
theorem dX6_sheet_66 : decode cX6_sheet 66 = .ok (.getfield 51, 3) := dcO tk_X6_sheet_0 37 rfl
theorem dX6_sheet_69 : decode cX6_sheet 69 = .ok (.iload_n 1, 1) := dcO tk_X6_sheet_0 38 rfl
theorem dX6_sheet_70 : decode cX6_sheet 70 = .ok (.iload_n 2, 1) := dcO tk_X6_sheet_0 39 rfl
abbrev tb_X6_sheet_1 : List (Nat × Instr × Nat) := [(71, .ifCond .ne 7, 3), (74, .iconst 0, 1), (75, .goto 4, 3), (78, .iload_n 3, 1), (79, .iastore, 1), (80, .iconst 0, 1), (81, .istore 4, 2), (83, .iload 4, 2), (85, .bipush 40, 2), (87, .if_icmp .ge 22, 3), (90, .aload_n 0, 1), (91, .getfield 54, 3), (94, .bipush 40, 2), (96, .iload_n 1, 1), (97, .imul, 1), (98, .iload 4, 2), (100, .iadd, 1), (101, .iconst 0, 1), (102, .iastore, 1), (103, .iinc 4 1, 3), (106, .goto (-23), 3), (109, .aload_n 0, 1), (110, .getfield 51, 3), (113, .iload_n 1, 1), (114, .iaload, 1), (115, .ireturn, 1)]
theorem tk_X6_sheet_1 : dcA cX6_sheet tb_X6_sheet_1 = true := by decide +kernel
theorem dX6_sheet_71 : decode cX6_sheet 71 = .ok (.ifCond .ne 7, 3) := dcO tk_X6_sheet_1 0 rfl
theorem dX6_sheet_74 : decode cX6_sheet 74 = .ok (.iconst 0, 1) := dcO tk_X6_sheet_1 1 rfl
theorem dX6_sheet_75 : decode cX6_sheet 75 = .ok (.goto 4, 3) := dcO tk_X6_sheet_1 2 rfl
theorem dX6_sheet_78 : decode cX6_sheet 78 = .ok (.iload_n 3, 1) := dcO tk_X6_sheet_1 3 rfl
theorem dX6_sheet_79 : decode cX6_sheet 79 = .ok (.iastore, 1) := dcO tk_X6_sheet_1 4 rfl
theorem dX6_sheet_80 : decode cX6_sheet 80 = .ok (.iconst 0, 1) := dcO tk_X6_sheet_1 5 rfl
theorem dX6_sheet_81 : decode cX6_sheet 81 = .ok (.istore 4, 2) := dcO tk_X6_sheet_1 6 rfl
theorem dX6_sheet_83 : decode cX6_sheet 83 = .ok (.iload 4, 2) := dcO tk_X6_sheet_1 7 rfl
theorem dX6_sheet_85 : decode cX6_sheet 85 = .ok (.bipush 40, 2) := dcO tk_X6_sheet_1 8 rfl
theorem dX6_sheet_87 : decode cX6_sheet 87 = .ok (.if_icmp .ge 22, 3) := dcO tk_X6_sheet_1 9 rfl
theorem dX6_sheet_90 : decode cX6_sheet 90 = .ok (.aload_n 0, 1) := dcO tk_X6_sheet_1 10 rfl
theorem dX6_sheet_91 : decode cX6_sheet 91 = .ok (.getfield 54, 3) := dcO tk_X6_sheet_1 11 rfl
theorem dX6_sheet_94 : decode cX6_sheet 94 = .ok (.bipush 40, 2) := dcO tk_X6_sheet_1 12 rfl
theorem dX6_sheet_96 : decode cX6_sheet 96 = .ok (.iload_n 1, 1) := dcO tk_X6_sheet_1 13 rfl
theorem dX6_sheet_97 : decode cX6_sheet 97 = .ok (.imul, 1) := dcO tk_X6_sheet_1 14 rfl
theorem dX6_sheet_98 : decode cX6_sheet 98 = .ok (.iload 4, 2) := dcO tk_X6_sheet_1 15 rfl
theorem dX6_sheet_100 : decode cX6_sheet 100 = .ok (.iadd, 1) := dcO tk_X6_sheet_1 16 rfl
theorem dX6_sheet_101 : decode cX6_sheet 101 = .ok (.iconst 0, 1) := dcO tk_X6_sheet_1 17 rfl
theorem dX6_sheet_102 : decode cX6_sheet 102 = .ok (.iastore, 1) := dcO tk_X6_sheet_1 18 rfl
theorem dX6_sheet_103 : decode cX6_sheet 103 = .ok (.iinc 4 1, 3) := dcO tk_X6_sheet_1 19 rfl
theorem dX6_sheet_106 : decode cX6_sheet 106 = .ok (.goto (-23), 3) := dcO tk_X6_sheet_1 20 rfl
theorem dX6_sheet_109 : decode cX6_sheet 109 = .ok (.aload_n 0, 1) := dcO tk_X6_sheet_1 21 rfl
theorem dX6_sheet_110 : decode cX6_sheet 110 = .ok (.getfield 51, 3) := dcO tk_X6_sheet_1 22 rfl
theorem dX6_sheet_113 : decode cX6_sheet 113 = .ok (.iload_n 1, 1) := dcO tk_X6_sheet_1 23 rfl
theorem dX6_sheet_114 : decode cX6_sheet 114 = .ok (.iaload, 1) := dcO tk_X6_sheet_1 24 rfl
theorem dX6_sheet_115 : decode cX6_sheet 115 = .ok (.ireturn, 1) := dcO tk_X6_sheet_1 25 rfl
abbrev tb_X6_write_0 : List (Nat × Instr × Nat) := [(0, .aload_n 0, 1), (1, .iload_n 1, 1), (2, .invokevirtual 180, 3), (5, .istore 4, 2), (7, .iload 4, 2), (9, .ifCond .ge 22, 3), (12, .iload_n 2, 1), (13, .iconst 0, 1), (14, .aload_n 0, 1), (15, .getfield 51, 3), (18, .iload_n 1, 1), (19, .iaload, 1), (20, .iconst 1, 1), (21, .isub, 1), (22, .invokestatic 61, 3), (25, .ifCond .ne 6, 3), (28, .iconst 0, 1), (29, .istore 4, 2), (31, .iload 4, 2), (33, .ifCond .lt 10, 3), (36, .aload_n 0, 1), (37, .iload 4, 2), (39, .invokevirtual 125, 3), (42, .ireturn, 1), (43, .aload_n 0, 1), (44, .getfield 54, 3), (47, .bipush 40, 2), (49, .iload_n 1, 1), (50, .imul, 1), (51, .iload_n 2, 1), (52, .iadd, 1), (53, .aload_n 0, 1), (54, .getfield 48, 3), (57, .iload_n 1, 1), (58, .iaload, 1), (59, .bipush 8, 2), (61, .if_icmp .ne 8, 3), (64, .iload_n 3, 1), (65, .i2b, 1), (66, .goto 20, 3)]
theorem tk_X6_write_0 : dcA cX6_write tb_X6_write_0 = true := by decide +kernel
theorem dX6_write_0 : decode cX6_write 0 = .ok (.aload_n 0, 1) := dcO tk_X6_write_0 0 rfl
theorem dX6_write_1 : decode cX6_write 1 = .ok (.iload_n 1, 1) := dcO tk_X6_write_0 1 rfl
theorem dX6_write_2 : decode cX6_write 2 = .ok (.invokevirtual 180, 3) := dcO tk_X6_write_0 2 rfl
theorem dX6_write_5 : decode cX6_write 5 = .ok (.istore 4, 2) := dcO tk_X6_write_0 3 rfl
theorem dX6_write_7 : decode cX6_write 7 = .ok (.iload 4, 2) := dcO tk_X6_write_0 4 rfl
theorem dX6_write_9 : decode cX6_write 9 = .ok (.ifCond .ge 22, 3) := dcO tk_X6_write_0 5 rfl
theorem dX6_write_12 : decode cX6_write 12 = .ok (.iload_n 2, 1) := dcO tk_X6_write_0 6 rfl
theorem dX6_write_13 : decode cX6_write 13 = .ok (.iconst 0, 1) := dcO tk_X6_write_0 7 rfl
theorem dX6_write_14 : decode cX6_write 14 = .ok (.aload_n 0, 1) := dcO tk_X6_write_0 8 rfl
theorem dX6_write_15 : decode cX6_write 15 = .ok (.getfield 51, 3) := dcO tk_X6_write_0 9 rfl
theorem dX6_write_18 : decode cX6_write 18 = .ok (.iload_n 1, 1) := dcO tk_X6_write_0 10 rfl
theorem dX6_write_19 : decode cX6_write 19 = .ok (.iaload, 1) := dcO tk_X6_write_0 11 rfl
theorem dX6_write_20 : decode cX6_write 20 = .ok (.iconst 1, 1) := dcO tk_X6_write_0 12 rfl
theorem dX6_write_21 : decode cX6_write 21 = .ok (.isub, 1) := dcO tk_X6_write_0 13 rfl
theorem dX6_write_22 : decode cX6_write 22 = .ok (.invokestatic 61, 3) := dcO tk_X6_write_0 14 rfl
theorem dX6_write_25 : decode cX6_write 25 = .ok (.ifCond .ne 6, 3) := dcO tk_X6_write_0 15 rfl
theorem dX6_write_28 : decode cX6_write 28 = .ok (.iconst 0, 1) := dcO tk_X6_write_0 16 rfl
theorem dX6_write_29 : decode cX6_write 29 = .ok (.istore 4, 2) := dcO tk_X6_write_0 17 rfl
theorem dX6_write_31 : decode cX6_write 31 = .ok (.iload 4, 2) := dcO tk_X6_write_0 18 rfl
theorem dX6_write_33 : decode cX6_write 33 = .ok (.ifCond .lt 10, 3) := dcO tk_X6_write_0 19 rfl
theorem dX6_write_36 : decode cX6_write 36 = .ok (.aload_n 0, 1) := dcO tk_X6_write_0 20 rfl
theorem dX6_write_37 : decode cX6_write 37 = .ok (.iload 4, 2) := dcO tk_X6_write_0 21 rfl
theorem dX6_write_39 : decode cX6_write 39 = .ok (.invokevirtual 125, 3) := dcO tk_X6_write_0 22 rfl
theorem dX6_write_42 : decode cX6_write 42 = .ok (.ireturn, 1) := dcO tk_X6_write_0 23 rfl
theorem dX6_write_43 : decode cX6_write 43 = .ok (.aload_n 0, 1) := dcO tk_X6_write_0 24 rfl
theorem dX6_write_44 : decode cX6_write 44 = .ok (.getfield 54, 3) := dcO tk_X6_write_0 25 rfl
theorem dX6_write_47 : decode cX6_write 47 = .ok (.bipush 40, 2) := dcO tk_X6_write_0 26 rfl
theorem dX6_write_49 : decode cX6_write 49 = .ok (.iload_n 1, 1) := dcO tk_X6_write_0 27 rfl
theorem dX6_write_50 : decode cX6_write 50 = .ok (.imul, 1) := dcO tk_X6_write_0 28 rfl
theorem dX6_write_51 : decode cX6_write 51 = .ok (.iload_n 2, 1) := dcO tk_X6_write_0 29 rfl
theorem dX6_write_52 : decode cX6_write 52 = .ok (.iadd, 1) := dcO tk_X6_write_0 30 rfl
theorem dX6_write_53 : decode cX6_write 53 = .ok (.aload_n 0, 1) := dcO tk_X6_write_0 31 rfl
theorem dX6_write_54 : decode cX6_write 54 = .ok (.getfield 48, 3) := dcO tk_X6_write_0 32 rfl
theorem dX6_write_57 : decode cX6_write 57 = .ok (.iload_n 1, 1) := dcO tk_X6_write_0 33 rfl
theorem dX6_write_58 : decode cX6_write 58 = .ok (.iaload, 1) := dcO tk_X6_write_0 34 rfl
theorem dX6_write_59 : decode cX6_write 59 = .ok (.bipush 8, 2) := dcO tk_X6_write_0 35 rfl
theorem dX6_write_61 : decode cX6_write 61 = .ok (.if_icmp .ne 8, 3) := dcO tk_X6_write_0 36 rfl
theorem dX6_write_64 : decode cX6_write 64 = .ok (.iload_n 3, 1) := dcO tk_X6_write_0 37 rfl
theorem dX6_write_65 : decode cX6_write 65 = .ok (.i2b, 1) := dcO tk_X6_write_0 38 rfl
theorem dX6_write_66 : decode cX6_write 66 = .ok (.goto 20, 3) := dcO tk_X6_write_0 39 rfl
abbrev tb_X6_write_1 : List (Nat × Instr × Nat) := [(69, .aload_n 0, 1), (70, .getfield 48, 3), (73, .iload_n 1, 1), (74, .iaload, 1), (75, .bipush 16, 2), (77, .if_icmp .ne 8, 3), (80, .iload_n 3, 1), (81, .i2s, 1), (82, .goto 4, 3), (85, .iload_n 3, 1), (86, .iastore, 1), (87, .iconst 1, 1), (88, .ireturn, 1)]
theorem tk_X6_write_1 : dcA cX6_write tb_X6_write_1 = true := by decide +kernel
theorem dX6_write_69 : decode cX6_write 69 = .ok (.aload_n 0, 1) := dcO tk_X6_write_1 0 rfl
theorem dX6_write_70 : decode cX6_write 70 = .ok (.getfield 48, 3) := dcO tk_X6_write_1 1 rfl
theorem dX6_write_73 : decode cX6_write 73 = .ok (.iload_n 1, 1) := dcO tk_X6_write_1 2 rfl
theorem dX6_write_74 : decode cX6_write 74 = .ok (.iaload, 1) := dcO tk_X6_write_1 3 rfl
theorem dX6_write_75 : decode cX6_write 75 = .ok (.bipush 16, 2) := dcO tk_X6_write_1 4 rfl
theorem dX6_write_77 : decode cX6_write 77 = .ok (.if_icmp .ne 8, 3) := dcO tk_X6_write_1 5 rfl
theorem dX6_write_80 : decode cX6_write 80 = .ok (.iload_n 3, 1) := dcO tk_X6_write_1 6 rfl
theorem dX6_write_81 : decode cX6_write 81 = .ok (.i2s, 1) := dcO tk_X6_write_1 7 rfl
theorem dX6_write_82 : decode cX6_write 82 = .ok (.goto 4, 3) := dcO tk_X6_write_1 8 rfl
theorem dX6_write_85 : decode cX6_write 85 = .ok (.iload_n 3, 1) := dcO tk_X6_write_1 9 rfl
theorem dX6_write_86 : decode cX6_write 86 = .ok (.iastore, 1) := dcO tk_X6_write_1 10 rfl
theorem dX6_write_87 : decode cX6_write 87 = .ok (.iconst 1, 1) := dcO tk_X6_write_1 11 rfl
theorem dX6_write_88 : decode cX6_write 88 = .ok (.ireturn, 1) := dcO tk_X6_write_1 12 rfl
abbrev tb_X6_copy_0 : List (Nat × Instr × Nat) := [(0, .iload_n 1, 1), (1, .invokestatic 177, 3), (4, .ifCond .eq 10, 3), (7, .iload_n 3, 1), (8, .invokestatic 177, 3), (11, .ifCond .ne 9, 3), (14, .aload_n 0, 1), (15, .iconst 0, 1), (16, .invokevirtual 125, 3), (19, .ireturn, 1), (20, .aload_n 0, 1), (21, .getfield 48, 3), (24, .iload_n 1, 1), (25, .iaload, 1), (26, .ifCond .eq 12, 3), (29, .aload_n 0, 1), (30, .getfield 48, 3), (33, .iload_n 3, 1), (34, .iaload, 1), (35, .ifCond .ne 9, 3), (38, .aload_n 0, 1), (39, .iconst 5, 1), (40, .invokevirtual 125, 3), (43, .ireturn, 1), (44, .aload_n 0, 1), (45, .getfield 48, 3), (48, .iload_n 1, 1), (49, .iaload, 1), (50, .aload_n 0, 1), (51, .getfield 48, 3), (54, .iload_n 3, 1), (55, .iaload, 1), (56, .if_icmp .eq 9, 3), (59, .aload_n 0, 1), (60, .iconst 2, 1), (61, .invokevirtual 125, 3), (64, .ireturn, 1), (65, .iload 5, 2), (67, .ifCond .lt 39, 3), (70, .iload_n 2, 1)]
theorem tk_X6_copy_0 : dcA cX6_copy tb_X6_copy_0 = true := by decide +kernel
theorem dX6_copy_0 : decode cX6_copy 0 = .ok (.iload_n 1, 1) := dcO tk_X6_copy_0 0 rfl
theorem dX6_copy_1 : decode cX6_copy 1 = .ok (.invokestatic 177, 3) := dcO tk_X6_copy_0 1 rfl
theorem dX6_copy_4 : decode cX6_copy 4 = .ok (.ifCond .eq 10, 3) := dcO tk_X6_copy_0 2 rfl
theorem dX6_copy_7 : decode cX6_copy 7 = .ok (.iload_n 3, 1) := dcO tk_X6_copy_0 3 rfl
theorem dX6_copy_8 : decode cX6_copy 8 = .ok (.invokestatic 177, 3) := dcO tk_X6_copy_0 4 rfl
theorem dX6_copy_11 : decode cX6_copy 11 = .ok (.ifCond .ne 9, 3) := dcO tk_X6_copy_0 5 rfl
theorem dX6_copy_14 : decode cX6_copy 14 = .ok (.aload_n 0, 1) := dcO tk_X6_copy_0 6 rfl
theorem dX6_copy_15 : decode cX6_copy 15 = .ok (.iconst 0, 1) := dcO tk_X6_copy_0 7 rfl
theorem dX6_copy_16 : decode cX6_copy 16 = .ok (.invokevirtual 125, 3) := dcO tk_X6_copy_0 8 rfl
theorem dX6_copy_19 : decode cX6_copy 19 = .ok (.ireturn, 1) := dcO tk_X6_copy_0 9 rfl
theorem dX6_copy_20 : decode cX6_copy 20 = .ok (.aload_n 0, 1) := dcO tk_X6_copy_0 10 rfl
theorem dX6_copy_21 : decode cX6_copy 21 = .ok (.getfield 48, 3) := dcO tk_X6_copy_0 11 rfl
theorem dX6_copy_24 : decode cX6_copy 24 = .ok (.iload_n 1, 1) := dcO tk_X6_copy_0 12 rfl
theorem dX6_copy_25 : decode cX6_copy 25 = .ok (.iaload, 1) := dcO tk_X6_copy_0 13 rfl
theorem dX6_copy_26 : decode cX6_copy 26 = .ok (.ifCond .eq 12, 3) := dcO tk_X6_copy_0 14 rfl
theorem dX6_copy_29 : decode cX6_copy 29 = .ok (.aload_n 0, 1) := dcO tk_X6_copy_0 15 rfl
theorem dX6_copy_30 : decode cX6_copy 30 = .ok (.getfield 48, 3) := dcO tk_X6_copy_0 16 rfl
theorem dX6_copy_33 : decode cX6_copy 33 = .ok (.iload_n 3, 1) := dcO tk_X6_copy_0 17 rfl
theorem dX6_copy_34 : decode cX6_copy 34 = .ok (.iaload, 1) := dcO tk_X6_copy_0 18 rfl
theorem dX6_copy_35 : decode cX6_copy 35 = .ok (.ifCond .ne 9, 3) := dcO tk_X6_copy_0 19 rfl
theorem dX6_copy_38 : decode cX6_copy 38 = .ok (.aload_n 0, 1) := dcO tk_X6_copy_0 20 rfl
theorem dX6_copy_39 : decode cX6_copy 39 = .ok (.iconst 5, 1) := dcO tk_X6_copy_0 21 rfl
theorem dX6_copy_40 : decode cX6_copy 40 = .ok (.invokevirtual 125, 3) := dcO tk_X6_copy_0 22 rfl
theorem dX6_copy_43 : decode cX6_copy 43 = .ok (.ireturn, 1) := dcO tk_X6_copy_0 23 rfl
theorem dX6_copy_44 : decode cX6_copy 44 = .ok (.aload_n 0, 1) := dcO tk_X6_copy_0 24 rfl
theorem dX6_copy_45 : decode cX6_copy 45 = .ok (.getfield 48, 3) := dcO tk_X6_copy_0 25 rfl
theorem dX6_copy_48 : decode cX6_copy 48 = .ok (.iload_n 1, 1) := dcO tk_X6_copy_0 26 rfl
theorem dX6_copy_49 : decode cX6_copy 49 = .ok (.iaload, 1) := dcO tk_X6_copy_0 27 rfl
theorem dX6_copy_50 : decode cX6_copy 50 = .ok (.aload_n 0, 1) := dcO tk_X6_copy_0 28 rfl
theorem dX6_copy_51 : decode cX6_copy 51 = .ok (.getfield 48, 3) := dcO tk_X6_copy_0 29 rfl
theorem dX6_copy_54 : decode cX6_copy 54 = .ok (.iload_n 3, 1) := dcO tk_X6_copy_0 30 rfl
theorem dX6_copy_55 : decode cX6_copy 55 = .ok (.iaload, 1) := dcO tk_X6_copy_0 31 rfl
theorem dX6_copy_56 : decode cX6_copy 56 = .ok (.if_icmp .eq 9, 3) := dcO tk_X6_copy_0 32 rfl
theorem dX6_copy_59 : decode cX6_copy 59 = .ok (.aload_n 0, 1) := dcO tk_X6_copy_0 33 rfl
theorem dX6_copy_60 : decode cX6_copy 60 = .ok (.iconst 2, 1) := dcO tk_X6_copy_0 34 rfl
theorem dX6_copy_61 : decode cX6_copy 61 = .ok (.invokevirtual 125, 3) := dcO tk_X6_copy_0 35 rfl
theorem dX6_copy_64 : decode cX6_copy 64 = .ok (.ireturn, 1) := dcO tk_X6_copy_0 36 rfl
theorem dX6_copy_65 : decode cX6_copy 65 = .ok (.iload 5, 2) := dcO tk_X6_copy_0 37 rfl
theorem dX6_copy_67 : decode cX6_copy 67 = .ok (.ifCond .lt 39, 3) := dcO tk_X6_copy_0 38 rfl
theorem dX6_copy_70 : decode cX6_copy 70 = .ok (.iload_n 2, 1) := dcO tk_X6_copy_0 39 rfl
abbrev tb_X6_copy_1 : List (Nat × Instr × Nat) := [(71, .ifCond .lt 35, 3), (74, .iload 4, 2), (76, .ifCond .lt 30, 3), (79, .iload_n 2, 1), (80, .aload_n 0, 1), (81, .getfield 51, 3), (84, .iload_n 1, 1), (85, .iaload, 1), (86, .iload 5, 2), (88, .isub, 1), (89, .if_icmp .gt 17, 3), (92, .iload 4, 2), (94, .aload_n 0, 1), (95, .getfield 51, 3), (98, .iload_n 3, 1), (99, .iaload, 1), (100, .iload 5, 2), (102, .isub, 1), (103, .if_icmp .le 9, 3), (106, .aload_n 0, 1), (107, .iconst 0, 1), (108, .invokevirtual 125, 3), (111, .ireturn, 1), (112, .iconst 0, 1), (113, .istore 6, 2), (115, .iload 6, 2), (117, .iload 5, 2), (119, .if_icmp .ge 30, 3), (122, .aload_n 0, 1), (123, .getfield 57, 3), (126, .iload 6, 2), (128, .aload_n 0, 1), (129, .getfield 54, 3), (132, .bipush 40, 2), (134, .iload_n 1, 1), (135, .imul, 1), (136, .iload_n 2, 1), (137, .iadd, 1), (138, .iload 6, 2), (140, .iadd, 1)]
theorem tk_X6_copy_1 : dcA cX6_copy tb_X6_copy_1 = true := by decide +kernel
theorem dX6_copy_71 : decode cX6_copy 71 = .ok (.ifCond .lt 35, 3) := dcO tk_X6_copy_1 0 rfl
theorem dX6_copy_74 : decode cX6_copy 74 = .ok (.iload 4, 2) := dcO tk_X6_copy_1 1 rfl
theorem dX6_copy_76 : decode cX6_copy 76 = .ok (.ifCond .lt 30, 3) := dcO tk_X6_copy_1 2 rfl
theorem dX6_copy_79 : decode cX6_copy 79 = .ok (.iload_n 2, 1) := dcO tk_X6_copy_1 3 rfl
theorem dX6_copy_80 : decode cX6_copy 80 = .ok (.aload_n 0, 1) := dcO tk_X6_copy_1 4 rfl
theorem dX6_copy_81 : decode cX6_copy 81 = .ok (.getfield 51, 3) := dcO tk_X6_copy_1 5 rfl
theorem dX6_copy_84 : decode cX6_copy 84 = .ok (.iload_n 1, 1) := dcO tk_X6_copy_1 6 rfl
theorem dX6_copy_85 : decode cX6_copy 85 = .ok (.iaload, 1) := dcO tk_X6_copy_1 7 rfl
theorem dX6_copy_86 : decode cX6_copy 86 = .ok (.iload 5, 2) := dcO tk_X6_copy_1 8 rfl
theorem dX6_copy_88 : decode cX6_copy 88 = .ok (.isub, 1) := dcO tk_X6_copy_1 9 rfl
theorem dX6_copy_89 : decode cX6_copy 89 = .ok (.if_icmp .gt 17, 3) := dcO tk_X6_copy_1 10 rfl
theorem dX6_copy_92 : decode cX6_copy 92 = .ok (.iload 4, 2) := dcO tk_X6_copy_1 11 rfl
theorem dX6_copy_94 : decode cX6_copy 94 = .ok (.aload_n 0, 1) := dcO tk_X6_copy_1 12 rfl
theorem dX6_copy_95 : decode cX6_copy 95 = .ok (.getfield 51, 3) := dcO tk_X6_copy_1 13 rfl
theorem dX6_copy_98 : decode cX6_copy 98 = .ok (.iload_n 3, 1) := dcO tk_X6_copy_1 14 rfl
theorem dX6_copy_99 : decode cX6_copy 99 = .ok (.iaload, 1) := dcO tk_X6_copy_1 15 rfl
theorem dX6_copy_100 : decode cX6_copy 100 = .ok (.iload 5, 2) := dcO tk_X6_copy_1 16 rfl
theorem dX6_copy_102 : decode cX6_copy 102 = .ok (.isub, 1) := dcO tk_X6_copy_1 17 rfl
theorem dX6_copy_103 : decode cX6_copy 103 = .ok (.if_icmp .le 9, 3) := dcO tk_X6_copy_1 18 rfl
theorem dX6_copy_106 : decode cX6_copy 106 = .ok (.aload_n 0, 1) := dcO tk_X6_copy_1 19 rfl
theorem dX6_copy_107 : decode cX6_copy 107 = .ok (.iconst 0, 1) := dcO tk_X6_copy_1 20 rfl
theorem dX6_copy_108 : decode cX6_copy 108 = .ok (.invokevirtual 125, 3) := dcO tk_X6_copy_1 21 rfl
theorem dX6_copy_111 : decode cX6_copy 111 = .ok (.ireturn, 1) := dcO tk_X6_copy_1 22 rfl
theorem dX6_copy_112 : decode cX6_copy 112 = .ok (.iconst 0, 1) := dcO tk_X6_copy_1 23 rfl
theorem dX6_copy_113 : decode cX6_copy 113 = .ok (.istore 6, 2) := dcO tk_X6_copy_1 24 rfl
theorem dX6_copy_115 : decode cX6_copy 115 = .ok (.iload 6, 2) := dcO tk_X6_copy_1 25 rfl
theorem dX6_copy_117 : decode cX6_copy 117 = .ok (.iload 5, 2) := dcO tk_X6_copy_1 26 rfl
theorem dX6_copy_119 : decode cX6_copy 119 = .ok (.if_icmp .ge 30, 3) := dcO tk_X6_copy_1 27 rfl
theorem dX6_copy_122 : decode cX6_copy 122 = .ok (.aload_n 0, 1) := dcO tk_X6_copy_1 28 rfl
theorem dX6_copy_123 : decode cX6_copy 123 = .ok (.getfield 57, 3) := dcO tk_X6_copy_1 29 rfl
theorem dX6_copy_126 : decode cX6_copy 126 = .ok (.iload 6, 2) := dcO tk_X6_copy_1 30 rfl
theorem dX6_copy_128 : decode cX6_copy 128 = .ok (.aload_n 0, 1) := dcO tk_X6_copy_1 31 rfl
theorem dX6_copy_129 : decode cX6_copy 129 = .ok (.getfield 54, 3) := dcO tk_X6_copy_1 32 rfl
theorem dX6_copy_132 : decode cX6_copy 132 = .ok (.bipush 40, 2) := dcO tk_X6_copy_1 33 rfl
theorem dX6_copy_134 : decode cX6_copy 134 = .ok (.iload_n 1, 1) := dcO tk_X6_copy_1 34 rfl
theorem dX6_copy_135 : decode cX6_copy 135 = .ok (.imul, 1) := dcO tk_X6_copy_1 35 rfl
theorem dX6_copy_136 : decode cX6_copy 136 = .ok (.iload_n 2, 1) := dcO tk_X6_copy_1 36 rfl
theorem dX6_copy_137 : decode cX6_copy 137 = .ok (.iadd, 1) := dcO tk_X6_copy_1 37 rfl
theorem dX6_copy_138 : decode cX6_copy 138 = .ok (.iload 6, 2) := dcO tk_X6_copy_1 38 rfl
theorem dX6_copy_140 : decode cX6_copy 140 = .ok (.iadd, 1) := dcO tk_X6_copy_1 39 rfl
abbrev tb_X6_copy_2 : List (Nat × Instr × Nat) := [(141, .iaload, 1), (142, .iastore, 1), (143, .iinc 6 1, 3), (146, .goto (-31), 3), (149, .iconst 0, 1), (150, .istore 6, 2), (152, .iload 6, 2), (154, .iload 5, 2), (156, .if_icmp .ge 31, 3), (159, .aload_n 0, 1), (160, .getfield 54, 3), (163, .bipush 40, 2), (165, .iload_n 3, 1), (166, .imul, 1), (167, .iload 4, 2), (169, .iadd, 1), (170, .iload 6, 2), (172, .iadd, 1), (173, .aload_n 0, 1), (174, .getfield 57, 3), (177, .iload 6, 2), (179, .iaload, 1), (180, .iastore, 1), (181, .iinc 6 1, 3), (184, .goto (-32), 3), (187, .iload 5, 2), (189, .ireturn, 1)]
theorem tk_X6_copy_2 : dcA cX6_copy tb_X6_copy_2 = true := by decide +kernel
theorem dX6_copy_141 : decode cX6_copy 141 = .ok (.iaload, 1) := dcO tk_X6_copy_2 0 rfl
theorem dX6_copy_142 : decode cX6_copy 142 = .ok (.iastore, 1) := dcO tk_X6_copy_2 1 rfl
theorem dX6_copy_143 : decode cX6_copy 143 = .ok (.iinc 6 1, 3) := dcO tk_X6_copy_2 2 rfl
theorem dX6_copy_146 : decode cX6_copy 146 = .ok (.goto (-31), 3) := dcO tk_X6_copy_2 3 rfl
theorem dX6_copy_149 : decode cX6_copy 149 = .ok (.iconst 0, 1) := dcO tk_X6_copy_2 4 rfl
theorem dX6_copy_150 : decode cX6_copy 150 = .ok (.istore 6, 2) := dcO tk_X6_copy_2 5 rfl
theorem dX6_copy_152 : decode cX6_copy 152 = .ok (.iload 6, 2) := dcO tk_X6_copy_2 6 rfl
theorem dX6_copy_154 : decode cX6_copy 154 = .ok (.iload 5, 2) := dcO tk_X6_copy_2 7 rfl
theorem dX6_copy_156 : decode cX6_copy 156 = .ok (.if_icmp .ge 31, 3) := dcO tk_X6_copy_2 8 rfl
theorem dX6_copy_159 : decode cX6_copy 159 = .ok (.aload_n 0, 1) := dcO tk_X6_copy_2 9 rfl
theorem dX6_copy_160 : decode cX6_copy 160 = .ok (.getfield 54, 3) := dcO tk_X6_copy_2 10 rfl
theorem dX6_copy_163 : decode cX6_copy 163 = .ok (.bipush 40, 2) := dcO tk_X6_copy_2 11 rfl
theorem dX6_copy_165 : decode cX6_copy 165 = .ok (.iload_n 3, 1) := dcO tk_X6_copy_2 12 rfl
theorem dX6_copy_166 : decode cX6_copy 166 = .ok (.imul, 1) := dcO tk_X6_copy_2 13 rfl
theorem dX6_copy_167 : decode cX6_copy 167 = .ok (.iload 4, 2) := dcO tk_X6_copy_2 14 rfl
theorem dX6_copy_169 : decode cX6_copy 169 = .ok (.iadd, 1) := dcO tk_X6_copy_2 15 rfl
theorem dX6_copy_170 : decode cX6_copy 170 = .ok (.iload 6, 2) := dcO tk_X6_copy_2 16 rfl
theorem dX6_copy_172 : decode cX6_copy 172 = .ok (.iadd, 1) := dcO tk_X6_copy_2 17 rfl
theorem dX6_copy_173 : decode cX6_copy 173 = .ok (.aload_n 0, 1) := dcO tk_X6_copy_2 18 rfl
theorem dX6_copy_174 : decode cX6_copy 174 = .ok (.getfield 57, 3) := dcO tk_X6_copy_2 19 rfl
theorem dX6_copy_177 : decode cX6_copy 177 = .ok (.iload 6, 2) := dcO tk_X6_copy_2 20 rfl
theorem dX6_copy_179 : decode cX6_copy 179 = .ok (.iaload, 1) := dcO tk_X6_copy_2 21 rfl
theorem dX6_copy_180 : decode cX6_copy 180 = .ok (.iastore, 1) := dcO tk_X6_copy_2 22 rfl
theorem dX6_copy_181 : decode cX6_copy 181 = .ok (.iinc 6 1, 3) := dcO tk_X6_copy_2 23 rfl
theorem dX6_copy_184 : decode cX6_copy 184 = .ok (.goto (-32), 3) := dcO tk_X6_copy_2 24 rfl
theorem dX6_copy_187 : decode cX6_copy 187 = .ok (.iload 5, 2) := dcO tk_X6_copy_2 25 rfl
theorem dX6_copy_189 : decode cX6_copy 189 = .ok (.ireturn, 1) := dcO tk_X6_copy_2 26 rfl
abbrev tb_X6_load_0 : List (Nat × Instr × Nat) := [(0, .aload_n 0, 1), (1, .iload_n 1, 1), (2, .invokevirtual 180, 3), (5, .istore_n 2, 1), (6, .iload_n 2, 1), (7, .ifCond .lt 9, 3), (10, .aload_n 0, 1), (11, .iload_n 2, 1), (12, .invokevirtual 125, 3), (15, .ireturn, 1), (16, .iconst 0, 1), (17, .istore_n 3, 1), (18, .iload_n 3, 1), (19, .aload_n 0, 1), (20, .getfield 51, 3), (23, .iload_n 1, 1), (24, .iaload, 1), (25, .if_icmp .ge 49, 3), (28, .aload_n 0, 1), (29, .getfield 54, 3), (32, .bipush 40, 2), (34, .iload_n 1, 1), (35, .imul, 1), (36, .iload_n 3, 1), (37, .iadd, 1), (38, .iaload, 1), (39, .iconst 0, 1), (40, .bipush 9, 2), (42, .invokestatic 61, 3), (45, .ifCond .eq 29, 3), (48, .aload_n 0, 1), (49, .getfield 9, 3), (52, .bipush 95, 2), (54, .iload_n 3, 1), (55, .iadd, 1), (56, .aload_n 0, 1), (57, .getfield 54, 3), (60, .bipush 40, 2), (62, .iload_n 1, 1), (63, .imul, 1)]
theorem tk_X6_load_0 : dcA cX6_load tb_X6_load_0 = true := by decide +kernel
theorem dX6_load_0 : decode cX6_load 0 = .ok (.aload_n 0, 1) := dcO tk_X6_load_0 0 rfl
theorem dX6_load_1 : decode cX6_load 1 = .ok (.iload_n 1, 1) := dcO tk_X6_load_0 1 rfl
theorem dX6_load_2 : decode cX6_load 2 = .ok (.invokevirtual 180, 3) := dcO tk_X6_load_0 2 rfl
theorem dX6_load_5 : decode cX6_load 5 = .ok (.istore_n 2, 1) := dcO tk_X6_load_0 3 rfl
theorem dX6_load_6 : decode cX6_load 6 = .ok (.iload_n 2, 1) := dcO tk_X6_load_0 4 rfl
theorem dX6_load_7 : decode cX6_load 7 = .ok (.ifCond .lt 9, 3) := dcO tk_X6_load_0 5 rfl
theorem dX6_load_10 : decode cX6_load 10 = .ok (.aload_n 0, 1) := dcO tk_X6_load_0 6 rfl
theorem dX6_load_11 : decode cX6_load 11 = .ok (.iload_n 2, 1) := dcO tk_X6_load_0 7 rfl
theorem dX6_load_12 : decode cX6_load 12 = .ok (.invokevirtual 125, 3) := dcO tk_X6_load_0 8 rfl
theorem dX6_load_15 : decode cX6_load 15 = .ok (.ireturn, 1) := dcO tk_X6_load_0 9 rfl
theorem dX6_load_16 : decode cX6_load 16 = .ok (.iconst 0, 1) := dcO tk_X6_load_0 10 rfl
theorem dX6_load_17 : decode cX6_load 17 = .ok (.istore_n 3, 1) := dcO tk_X6_load_0 11 rfl
theorem dX6_load_18 : decode cX6_load 18 = .ok (.iload_n 3, 1) := dcO tk_X6_load_0 12 rfl
theorem dX6_load_19 : decode cX6_load 19 = .ok (.aload_n 0, 1) := dcO tk_X6_load_0 13 rfl
theorem dX6_load_20 : decode cX6_load 20 = .ok (.getfield 51, 3) := dcO tk_X6_load_0 14 rfl
theorem dX6_load_23 : decode cX6_load 23 = .ok (.iload_n 1, 1) := dcO tk_X6_load_0 15 rfl
theorem dX6_load_24 : decode cX6_load 24 = .ok (.iaload, 1) := dcO tk_X6_load_0 16 rfl
theorem dX6_load_25 : decode cX6_load 25 = .ok (.if_icmp .ge 49, 3) := dcO tk_X6_load_0 17 rfl
theorem dX6_load_28 : decode cX6_load 28 = .ok (.aload_n 0, 1) := dcO tk_X6_load_0 18 rfl
theorem dX6_load_29 : decode cX6_load 29 = .ok (.getfield 54, 3) := dcO tk_X6_load_0 19 rfl
theorem dX6_load_32 : decode cX6_load 32 = .ok (.bipush 40, 2) := dcO tk_X6_load_0 20 rfl
theorem dX6_load_34 : decode cX6_load 34 = .ok (.iload_n 1, 1) := dcO tk_X6_load_0 21 rfl
theorem dX6_load_35 : decode cX6_load 35 = .ok (.imul, 1) := dcO tk_X6_load_0 22 rfl
theorem dX6_load_36 : decode cX6_load 36 = .ok (.iload_n 3, 1) := dcO tk_X6_load_0 23 rfl
theorem dX6_load_37 : decode cX6_load 37 = .ok (.iadd, 1) := dcO tk_X6_load_0 24 rfl
theorem dX6_load_38 : decode cX6_load 38 = .ok (.iaload, 1) := dcO tk_X6_load_0 25 rfl
theorem dX6_load_39 : decode cX6_load 39 = .ok (.iconst 0, 1) := dcO tk_X6_load_0 26 rfl
theorem dX6_load_40 : decode cX6_load 40 = .ok (.bipush 9, 2) := dcO tk_X6_load_0 27 rfl
theorem dX6_load_42 : decode cX6_load 42 = .ok (.invokestatic 61, 3) := dcO tk_X6_load_0 28 rfl
theorem dX6_load_45 : decode cX6_load 45 = .ok (.ifCond .eq 29, 3) := dcO tk_X6_load_0 29 rfl
theorem dX6_load_48 : decode cX6_load 48 = .ok (.aload_n 0, 1) := dcO tk_X6_load_0 30 rfl
theorem dX6_load_49 : decode cX6_load 49 = .ok (.getfield 9, 3) := dcO tk_X6_load_0 31 rfl
theorem dX6_load_52 : decode cX6_load 52 = .ok (.bipush 95, 2) := dcO tk_X6_load_0 32 rfl
theorem dX6_load_54 : decode cX6_load 54 = .ok (.iload_n 3, 1) := dcO tk_X6_load_0 33 rfl
theorem dX6_load_55 : decode cX6_load 55 = .ok (.iadd, 1) := dcO tk_X6_load_0 34 rfl
theorem dX6_load_56 : decode cX6_load 56 = .ok (.aload_n 0, 1) := dcO tk_X6_load_0 35 rfl
theorem dX6_load_57 : decode cX6_load 57 = .ok (.getfield 54, 3) := dcO tk_X6_load_0 36 rfl
theorem dX6_load_60 : decode cX6_load 60 = .ok (.bipush 40, 2) := dcO tk_X6_load_0 37 rfl
theorem dX6_load_62 : decode cX6_load 62 = .ok (.iload_n 1, 1) := dcO tk_X6_load_0 38 rfl
theorem dX6_load_63 : decode cX6_load 63 = .ok (.imul, 1) := dcO tk_X6_load_0 39 rfl
abbrev tb_X6_load_1 : List (Nat × Instr × Nat) := [(64, .iload_n 3, 1), (65, .iadd, 1), (66, .iaload, 1), (67, .iastore, 1), (68, .iinc 3 1, 3), (71, .goto (-53), 3), (74, .iload_n 3, 1), (75, .ireturn, 1)]
theorem tk_X6_load_1 : dcA cX6_load tb_X6_load_1 = true := by decide +kernel
theorem dX6_load_64 : decode cX6_load 64 = .ok (.iload_n 3, 1) := dcO tk_X6_load_1 0 rfl
theorem dX6_load_65 : decode cX6_load 65 = .ok (.iadd, 1) := dcO tk_X6_load_1 1 rfl
theorem dX6_load_66 : decode cX6_load 66 = .ok (.iaload, 1) := dcO tk_X6_load_1 2 rfl
theorem dX6_load_67 : decode cX6_load 67 = .ok (.iastore, 1) := dcO tk_X6_load_1 3 rfl
theorem dX6_load_68 : decode cX6_load 68 = .ok (.iinc 3 1, 3) := dcO tk_X6_load_1 4 rfl
theorem dX6_load_71 : decode cX6_load 71 = .ok (.goto (-53), 3) := dcO tk_X6_load_1 5 rfl
theorem dX6_load_74 : decode cX6_load 74 = .ok (.iload_n 3, 1) := dcO tk_X6_load_1 6 rfl
theorem dX6_load_75 : decode cX6_load 75 = .ok (.ireturn, 1) := dcO tk_X6_load_1 7 rfl
abbrev tb_X6_judge_0 : List (Nat × Instr × Nat) := [(0, .aload_n 0, 1), (1, .iload_n 1, 1), (2, .invokevirtual 180, 3), (5, .istore_n 2, 1), (6, .iload_n 2, 1), (7, .ifCond .lt 9, 3), (10, .aload_n 0, 1), (11, .iload_n 2, 1), (12, .invokevirtual 125, 3), (15, .ireturn, 1), (16, .iconst 0, 1), (17, .istore_n 3, 1), (18, .iload_n 3, 1), (19, .aload_n 0, 1), (20, .getfield 51, 3), (23, .iload_n 1, 1), (24, .iaload, 1), (25, .if_icmp .ge 33, 3), (28, .aload_n 0, 1), (29, .getfield 54, 3), (32, .bipush 40, 2), (34, .iload_n 1, 1), (35, .imul, 1), (36, .iload_n 3, 1), (37, .iadd, 1), (38, .iaload, 1), (39, .aload_n 0, 1), (40, .getfield 9, 3), (43, .sipush 176, 3), (46, .iload_n 3, 1), (47, .iadd, 1), (48, .iaload, 1), (49, .if_icmp .ne 9, 3), (52, .iinc 3 1, 3), (55, .goto (-37), 3), (58, .iload_n 3, 1), (59, .aload_n 0, 1), (60, .getfield 51, 3), (63, .iload_n 1, 1), (64, .iaload, 1)]
theorem tk_X6_judge_0 : dcA cX6_judge tb_X6_judge_0 = true := by decide +kernel
theorem dX6_judge_0 : decode cX6_judge 0 = .ok (.aload_n 0, 1) := dcO tk_X6_judge_0 0 rfl
theorem dX6_judge_1 : decode cX6_judge 1 = .ok (.iload_n 1, 1) := dcO tk_X6_judge_0 1 rfl
theorem dX6_judge_2 : decode cX6_judge 2 = .ok (.invokevirtual 180, 3) := dcO tk_X6_judge_0 2 rfl
theorem dX6_judge_5 : decode cX6_judge 5 = .ok (.istore_n 2, 1) := dcO tk_X6_judge_0 3 rfl
theorem dX6_judge_6 : decode cX6_judge 6 = .ok (.iload_n 2, 1) := dcO tk_X6_judge_0 4 rfl
theorem dX6_judge_7 : decode cX6_judge 7 = .ok (.ifCond .lt 9, 3) := dcO tk_X6_judge_0 5 rfl
theorem dX6_judge_10 : decode cX6_judge 10 = .ok (.aload_n 0, 1) := dcO tk_X6_judge_0 6 rfl
theorem dX6_judge_11 : decode cX6_judge 11 = .ok (.iload_n 2, 1) := dcO tk_X6_judge_0 7 rfl
theorem dX6_judge_12 : decode cX6_judge 12 = .ok (.invokevirtual 125, 3) := dcO tk_X6_judge_0 8 rfl
theorem dX6_judge_15 : decode cX6_judge 15 = .ok (.ireturn, 1) := dcO tk_X6_judge_0 9 rfl
theorem dX6_judge_16 : decode cX6_judge 16 = .ok (.iconst 0, 1) := dcO tk_X6_judge_0 10 rfl
theorem dX6_judge_17 : decode cX6_judge 17 = .ok (.istore_n 3, 1) := dcO tk_X6_judge_0 11 rfl
theorem dX6_judge_18 : decode cX6_judge 18 = .ok (.iload_n 3, 1) := dcO tk_X6_judge_0 12 rfl
theorem dX6_judge_19 : decode cX6_judge 19 = .ok (.aload_n 0, 1) := dcO tk_X6_judge_0 13 rfl
theorem dX6_judge_20 : decode cX6_judge 20 = .ok (.getfield 51, 3) := dcO tk_X6_judge_0 14 rfl
theorem dX6_judge_23 : decode cX6_judge 23 = .ok (.iload_n 1, 1) := dcO tk_X6_judge_0 15 rfl
theorem dX6_judge_24 : decode cX6_judge 24 = .ok (.iaload, 1) := dcO tk_X6_judge_0 16 rfl
theorem dX6_judge_25 : decode cX6_judge 25 = .ok (.if_icmp .ge 33, 3) := dcO tk_X6_judge_0 17 rfl
theorem dX6_judge_28 : decode cX6_judge 28 = .ok (.aload_n 0, 1) := dcO tk_X6_judge_0 18 rfl
theorem dX6_judge_29 : decode cX6_judge 29 = .ok (.getfield 54, 3) := dcO tk_X6_judge_0 19 rfl
theorem dX6_judge_32 : decode cX6_judge 32 = .ok (.bipush 40, 2) := dcO tk_X6_judge_0 20 rfl
theorem dX6_judge_34 : decode cX6_judge 34 = .ok (.iload_n 1, 1) := dcO tk_X6_judge_0 21 rfl
theorem dX6_judge_35 : decode cX6_judge 35 = .ok (.imul, 1) := dcO tk_X6_judge_0 22 rfl
theorem dX6_judge_36 : decode cX6_judge 36 = .ok (.iload_n 3, 1) := dcO tk_X6_judge_0 23 rfl
theorem dX6_judge_37 : decode cX6_judge 37 = .ok (.iadd, 1) := dcO tk_X6_judge_0 24 rfl
theorem dX6_judge_38 : decode cX6_judge 38 = .ok (.iaload, 1) := dcO tk_X6_judge_0 25 rfl
theorem dX6_judge_39 : decode cX6_judge 39 = .ok (.aload_n 0, 1) := dcO tk_X6_judge_0 26 rfl
theorem dX6_judge_40 : decode cX6_judge 40 = .ok (.getfield 9, 3) := dcO tk_X6_judge_0 27 rfl
theorem dX6_judge_43 : decode cX6_judge 43 = .ok (.sipush 176, 3) := dcO tk_X6_judge_0 28 rfl
theorem dX6_judge_46 : decode cX6_judge 46 = .ok (.iload_n 3, 1) := dcO tk_X6_judge_0 29 rfl
theorem dX6_judge_47 : decode cX6_judge 47 = .ok (.iadd, 1) := dcO tk_X6_judge_0 30 rfl
theorem dX6_judge_48 : decode cX6_judge 48 = .ok (.iaload, 1) := dcO tk_X6_judge_0 31 rfl
theorem dX6_judge_49 : decode cX6_judge 49 = .ok (.if_icmp .ne 9, 3) := dcO tk_X6_judge_0 32 rfl
theorem dX6_judge_52 : decode cX6_judge 52 = .ok (.iinc 3 1, 3) := dcO tk_X6_judge_0 33 rfl
theorem dX6_judge_55 : decode cX6_judge 55 = .ok (.goto (-37), 3) := dcO tk_X6_judge_0 34 rfl
theorem dX6_judge_58 : decode cX6_judge 58 = .ok (.iload_n 3, 1) := dcO tk_X6_judge_0 35 rfl
theorem dX6_judge_59 : decode cX6_judge 59 = .ok (.aload_n 0, 1) := dcO tk_X6_judge_0 36 rfl
theorem dX6_judge_60 : decode cX6_judge 60 = .ok (.getfield 51, 3) := dcO tk_X6_judge_0 37 rfl
theorem dX6_judge_63 : decode cX6_judge 63 = .ok (.iload_n 1, 1) := dcO tk_X6_judge_0 38 rfl
theorem dX6_judge_64 : decode cX6_judge 64 = .ok (.iaload, 1) := dcO tk_X6_judge_0 39 rfl
abbrev tb_X6_judge_1 : List (Nat × Instr × Nat) := [(65, .if_icmp .ne 7, 3), (68, .iconst 0, 1), (69, .goto 6, 3), (72, .iconst 1, 1), (73, .iload_n 3, 1), (74, .iadd, 1), (75, .ireturn, 1)]
theorem tk_X6_judge_1 : dcA cX6_judge tb_X6_judge_1 = true := by decide +kernel
theorem dX6_judge_65 : decode cX6_judge 65 = .ok (.if_icmp .ne 7, 3) := dcO tk_X6_judge_1 0 rfl
theorem dX6_judge_68 : decode cX6_judge 68 = .ok (.iconst 0, 1) := dcO tk_X6_judge_1 1 rfl
theorem dX6_judge_69 : decode cX6_judge 69 = .ok (.goto 6, 3) := dcO tk_X6_judge_1 2 rfl
theorem dX6_judge_72 : decode cX6_judge 72 = .ok (.iconst 1, 1) := dcO tk_X6_judge_1 3 rfl
theorem dX6_judge_73 : decode cX6_judge 73 = .ok (.iload_n 3, 1) := dcO tk_X6_judge_1 4 rfl
theorem dX6_judge_74 : decode cX6_judge 74 = .ok (.iadd, 1) := dcO tk_X6_judge_1 5 rfl
theorem dX6_judge_75 : decode cX6_judge 75 = .ok (.ireturn, 1) := dcO tk_X6_judge_1 6 rfl
abbrev tb_X6_image_0 : List (Nat × Instr × Nat) := [(0, .iconst 0, 1), (1, .istore_n 1, 1), (2, .iload_n 1, 1), (3, .sipush 307, 3), (6, .if_icmp .ge 21, 3), (9, .aload_n 0, 1), (10, .getfield 13, 3), (13, .iload_n 1, 1), (14, .aload_n 0, 1), (15, .getfield 9, 3), (18, .iload_n 1, 1), (19, .iaload, 1), (20, .iastore, 1), (21, .iinc 1 1, 3), (24, .goto (-22), 3), (27, .aload_n 0, 1), (28, .iconst 1, 1), (29, .putfield 253, 3), (32, .iconst 1, 1), (33, .ireturn, 1)]
theorem tk_X6_image_0 : dcA cX6_image tb_X6_image_0 = true := by decide +kernel
theorem dX6_image_0 : decode cX6_image 0 = .ok (.iconst 0, 1) := dcO tk_X6_image_0 0 rfl
theorem dX6_image_1 : decode cX6_image 1 = .ok (.istore_n 1, 1) := dcO tk_X6_image_0 1 rfl
theorem dX6_image_2 : decode cX6_image 2 = .ok (.iload_n 1, 1) := dcO tk_X6_image_0 2 rfl
theorem dX6_image_3 : decode cX6_image 3 = .ok (.sipush 307, 3) := dcO tk_X6_image_0 3 rfl
theorem dX6_image_6 : decode cX6_image 6 = .ok (.if_icmp .ge 21, 3) := dcO tk_X6_image_0 4 rfl
theorem dX6_image_9 : decode cX6_image 9 = .ok (.aload_n 0, 1) := dcO tk_X6_image_0 5 rfl
theorem dX6_image_10 : decode cX6_image 10 = .ok (.getfield 13, 3) := dcO tk_X6_image_0 6 rfl
theorem dX6_image_13 : decode cX6_image 13 = .ok (.iload_n 1, 1) := dcO tk_X6_image_0 7 rfl
theorem dX6_image_14 : decode cX6_image 14 = .ok (.aload_n 0, 1) := dcO tk_X6_image_0 8 rfl
theorem dX6_image_15 : decode cX6_image 15 = .ok (.getfield 9, 3) := dcO tk_X6_image_0 9 rfl
theorem dX6_image_18 : decode cX6_image 18 = .ok (.iload_n 1, 1) := dcO tk_X6_image_0 10 rfl
theorem dX6_image_19 : decode cX6_image 19 = .ok (.iaload, 1) := dcO tk_X6_image_0 11 rfl
theorem dX6_image_20 : decode cX6_image 20 = .ok (.iastore, 1) := dcO tk_X6_image_0 12 rfl
theorem dX6_image_21 : decode cX6_image 21 = .ok (.iinc 1 1, 3) := dcO tk_X6_image_0 13 rfl
theorem dX6_image_24 : decode cX6_image 24 = .ok (.goto (-22), 3) := dcO tk_X6_image_0 14 rfl
theorem dX6_image_27 : decode cX6_image 27 = .ok (.aload_n 0, 1) := dcO tk_X6_image_0 15 rfl
theorem dX6_image_28 : decode cX6_image 28 = .ok (.iconst 1, 1) := dcO tk_X6_image_0 16 rfl
theorem dX6_image_29 : decode cX6_image 29 = .ok (.putfield 253, 3) := dcO tk_X6_image_0 17 rfl
theorem dX6_image_32 : decode cX6_image 32 = .ok (.iconst 1, 1) := dcO tk_X6_image_0 18 rfl
theorem dX6_image_33 : decode cX6_image 33 = .ok (.ireturn, 1) := dcO tk_X6_image_0 19 rfl
abbrev tb_X6_undo_0 : List (Nat × Instr × Nat) := [(0, .aload_n 0, 1), (1, .getfield 253, 3), (4, .ifCond .ne 9, 3), (7, .aload_n 0, 1), (8, .iconst 3, 1), (9, .invokevirtual 125, 3), (12, .ireturn, 1), (13, .iconst 0, 1), (14, .istore_n 1, 1), (15, .iload_n 1, 1), (16, .sipush 307, 3), (19, .if_icmp .ge 21, 3), (22, .aload_n 0, 1), (23, .getfield 9, 3), (26, .iload_n 1, 1), (27, .aload_n 0, 1), (28, .getfield 13, 3), (31, .iload_n 1, 1), (32, .iaload, 1), (33, .iastore, 1), (34, .iinc 1 1, 3), (37, .goto (-22), 3), (40, .aload_n 0, 1), (41, .getfield 9, 3), (44, .iconst 0, 1), (45, .iaload, 1), (46, .ireturn, 1)]
theorem tk_X6_undo_0 : dcA cX6_undo tb_X6_undo_0 = true := by decide +kernel
theorem dX6_undo_0 : decode cX6_undo 0 = .ok (.aload_n 0, 1) := dcO tk_X6_undo_0 0 rfl
theorem dX6_undo_1 : decode cX6_undo 1 = .ok (.getfield 253, 3) := dcO tk_X6_undo_0 1 rfl
theorem dX6_undo_4 : decode cX6_undo 4 = .ok (.ifCond .ne 9, 3) := dcO tk_X6_undo_0 2 rfl
theorem dX6_undo_7 : decode cX6_undo 7 = .ok (.aload_n 0, 1) := dcO tk_X6_undo_0 3 rfl
theorem dX6_undo_8 : decode cX6_undo 8 = .ok (.iconst 3, 1) := dcO tk_X6_undo_0 4 rfl
theorem dX6_undo_9 : decode cX6_undo 9 = .ok (.invokevirtual 125, 3) := dcO tk_X6_undo_0 5 rfl
theorem dX6_undo_12 : decode cX6_undo 12 = .ok (.ireturn, 1) := dcO tk_X6_undo_0 6 rfl
theorem dX6_undo_13 : decode cX6_undo 13 = .ok (.iconst 0, 1) := dcO tk_X6_undo_0 7 rfl
theorem dX6_undo_14 : decode cX6_undo 14 = .ok (.istore_n 1, 1) := dcO tk_X6_undo_0 8 rfl
theorem dX6_undo_15 : decode cX6_undo 15 = .ok (.iload_n 1, 1) := dcO tk_X6_undo_0 9 rfl
theorem dX6_undo_16 : decode cX6_undo 16 = .ok (.sipush 307, 3) := dcO tk_X6_undo_0 10 rfl
theorem dX6_undo_19 : decode cX6_undo 19 = .ok (.if_icmp .ge 21, 3) := dcO tk_X6_undo_0 11 rfl
theorem dX6_undo_22 : decode cX6_undo 22 = .ok (.aload_n 0, 1) := dcO tk_X6_undo_0 12 rfl
theorem dX6_undo_23 : decode cX6_undo 23 = .ok (.getfield 9, 3) := dcO tk_X6_undo_0 13 rfl
theorem dX6_undo_26 : decode cX6_undo 26 = .ok (.iload_n 1, 1) := dcO tk_X6_undo_0 14 rfl
theorem dX6_undo_27 : decode cX6_undo 27 = .ok (.aload_n 0, 1) := dcO tk_X6_undo_0 15 rfl
theorem dX6_undo_28 : decode cX6_undo 28 = .ok (.getfield 13, 3) := dcO tk_X6_undo_0 16 rfl
theorem dX6_undo_31 : decode cX6_undo 31 = .ok (.iload_n 1, 1) := dcO tk_X6_undo_0 17 rfl
theorem dX6_undo_32 : decode cX6_undo 32 = .ok (.iaload, 1) := dcO tk_X6_undo_0 18 rfl
theorem dX6_undo_33 : decode cX6_undo 33 = .ok (.iastore, 1) := dcO tk_X6_undo_0 19 rfl
theorem dX6_undo_34 : decode cX6_undo 34 = .ok (.iinc 1 1, 3) := dcO tk_X6_undo_0 20 rfl
theorem dX6_undo_37 : decode cX6_undo 37 = .ok (.goto (-22), 3) := dcO tk_X6_undo_0 21 rfl
theorem dX6_undo_40 : decode cX6_undo 40 = .ok (.aload_n 0, 1) := dcO tk_X6_undo_0 22 rfl
theorem dX6_undo_41 : decode cX6_undo 41 = .ok (.getfield 9, 3) := dcO tk_X6_undo_0 23 rfl
theorem dX6_undo_44 : decode cX6_undo 44 = .ok (.iconst 0, 1) := dcO tk_X6_undo_0 24 rfl
theorem dX6_undo_45 : decode cX6_undo 45 = .ok (.iaload, 1) := dcO tk_X6_undo_0 25 rfl
theorem dX6_undo_46 : decode cX6_undo 46 = .ok (.ireturn, 1) := dcO tk_X6_undo_0 26 rfl
abbrev tb_X6_tear_0 : List (Nat × Instr × Nat) := [(0, .aload_n 0, 1), (1, .getfield 253, 3), (4, .ifCond .eq 7, 3), (7, .iconst 1, 1), (8, .goto 4, 3), (11, .iconst 0, 1), (12, .istore_n 1, 1), (13, .aload_n 0, 1), (14, .iconst 0, 1), (15, .putfield 253, 3), (18, .iload_n 1, 1), (19, .ireturn, 1)]
theorem tk_X6_tear_0 : dcA cX6_tear tb_X6_tear_0 = true := by decide +kernel
theorem dX6_tear_0 : decode cX6_tear 0 = .ok (.aload_n 0, 1) := dcO tk_X6_tear_0 0 rfl
theorem dX6_tear_1 : decode cX6_tear 1 = .ok (.getfield 253, 3) := dcO tk_X6_tear_0 1 rfl
theorem dX6_tear_4 : decode cX6_tear 4 = .ok (.ifCond .eq 7, 3) := dcO tk_X6_tear_0 2 rfl
theorem dX6_tear_7 : decode cX6_tear 7 = .ok (.iconst 1, 1) := dcO tk_X6_tear_0 3 rfl
theorem dX6_tear_8 : decode cX6_tear 8 = .ok (.goto 4, 3) := dcO tk_X6_tear_0 4 rfl
theorem dX6_tear_11 : decode cX6_tear 11 = .ok (.iconst 0, 1) := dcO tk_X6_tear_0 5 rfl
theorem dX6_tear_12 : decode cX6_tear 12 = .ok (.istore_n 1, 1) := dcO tk_X6_tear_0 6 rfl
theorem dX6_tear_13 : decode cX6_tear 13 = .ok (.aload_n 0, 1) := dcO tk_X6_tear_0 7 rfl
theorem dX6_tear_14 : decode cX6_tear 14 = .ok (.iconst 0, 1) := dcO tk_X6_tear_0 8 rfl
theorem dX6_tear_15 : decode cX6_tear 15 = .ok (.putfield 253, 3) := dcO tk_X6_tear_0 9 rfl
theorem dX6_tear_18 : decode cX6_tear 18 = .ok (.iload_n 1, 1) := dcO tk_X6_tear_0 10 rfl
theorem dX6_tear_19 : decode cX6_tear 19 = .ok (.ireturn, 1) := dcO tk_X6_tear_0 11 rfl
abbrev tb_X6_count_0 : List (Nat × Instr × Nat) := [(0, .iconst 0, 1), (1, .istore_n 2, 1), (2, .iload_n 1, 1), (3, .tableswitch 148 0 7 #[45, 52, 59, 87, 94, 99, 104, 111], 45), (48, .aload_n 0, 1), (49, .getfield 9, 3), (52, .iconst 0, 1), (53, .iaload, 1), (54, .ireturn, 1), (55, .aload_n 0, 1), (56, .getfield 9, 3), (59, .iconst 2, 1), (60, .iaload, 1), (61, .ireturn, 1), (62, .iconst 0, 1), (63, .istore_n 3, 1), (64, .iload_n 3, 1), (65, .bipush 81, 2), (67, .if_icmp .ge 21, 3), (70, .iload_n 2, 1), (71, .aload_n 0, 1), (72, .getfield 9, 3), (75, .bipush 14, 2), (77, .iload_n 3, 1), (78, .iadd, 1), (79, .iaload, 1), (80, .iadd, 1), (81, .istore_n 2, 1), (82, .iinc 3 1, 3), (85, .goto (-21), 3), (88, .iload_n 2, 1), (89, .ireturn, 1), (90, .aload_n 0, 1), (91, .getfield 9, 3), (94, .iconst 1, 1), (95, .iaload, 1), (96, .ireturn, 1), (97, .aload_n 0, 1), (98, .invokevirtual 140, 3), (101, .ireturn, 1)]
theorem tk_X6_count_0 : dcA cX6_count tb_X6_count_0 = true := by decide +kernel
theorem dX6_count_0 : decode cX6_count 0 = .ok (.iconst 0, 1) := dcO tk_X6_count_0 0 rfl
theorem dX6_count_1 : decode cX6_count 1 = .ok (.istore_n 2, 1) := dcO tk_X6_count_0 1 rfl
theorem dX6_count_2 : decode cX6_count 2 = .ok (.iload_n 1, 1) := dcO tk_X6_count_0 2 rfl
theorem dX6_count_3 : decode cX6_count 3 = .ok (.tableswitch 148 0 7 #[45, 52, 59, 87, 94, 99, 104, 111], 45) := dcO tk_X6_count_0 3 rfl
theorem dX6_count_48 : decode cX6_count 48 = .ok (.aload_n 0, 1) := dcO tk_X6_count_0 4 rfl
theorem dX6_count_49 : decode cX6_count 49 = .ok (.getfield 9, 3) := dcO tk_X6_count_0 5 rfl
theorem dX6_count_52 : decode cX6_count 52 = .ok (.iconst 0, 1) := dcO tk_X6_count_0 6 rfl
theorem dX6_count_53 : decode cX6_count 53 = .ok (.iaload, 1) := dcO tk_X6_count_0 7 rfl
theorem dX6_count_54 : decode cX6_count 54 = .ok (.ireturn, 1) := dcO tk_X6_count_0 8 rfl
theorem dX6_count_55 : decode cX6_count 55 = .ok (.aload_n 0, 1) := dcO tk_X6_count_0 9 rfl
theorem dX6_count_56 : decode cX6_count 56 = .ok (.getfield 9, 3) := dcO tk_X6_count_0 10 rfl
theorem dX6_count_59 : decode cX6_count 59 = .ok (.iconst 2, 1) := dcO tk_X6_count_0 11 rfl
theorem dX6_count_60 : decode cX6_count 60 = .ok (.iaload, 1) := dcO tk_X6_count_0 12 rfl
theorem dX6_count_61 : decode cX6_count 61 = .ok (.ireturn, 1) := dcO tk_X6_count_0 13 rfl
theorem dX6_count_62 : decode cX6_count 62 = .ok (.iconst 0, 1) := dcO tk_X6_count_0 14 rfl
theorem dX6_count_63 : decode cX6_count 63 = .ok (.istore_n 3, 1) := dcO tk_X6_count_0 15 rfl
theorem dX6_count_64 : decode cX6_count 64 = .ok (.iload_n 3, 1) := dcO tk_X6_count_0 16 rfl
theorem dX6_count_65 : decode cX6_count 65 = .ok (.bipush 81, 2) := dcO tk_X6_count_0 17 rfl
theorem dX6_count_67 : decode cX6_count 67 = .ok (.if_icmp .ge 21, 3) := dcO tk_X6_count_0 18 rfl
theorem dX6_count_70 : decode cX6_count 70 = .ok (.iload_n 2, 1) := dcO tk_X6_count_0 19 rfl
theorem dX6_count_71 : decode cX6_count 71 = .ok (.aload_n 0, 1) := dcO tk_X6_count_0 20 rfl
theorem dX6_count_72 : decode cX6_count 72 = .ok (.getfield 9, 3) := dcO tk_X6_count_0 21 rfl
theorem dX6_count_75 : decode cX6_count 75 = .ok (.bipush 14, 2) := dcO tk_X6_count_0 22 rfl
theorem dX6_count_77 : decode cX6_count 77 = .ok (.iload_n 3, 1) := dcO tk_X6_count_0 23 rfl
theorem dX6_count_78 : decode cX6_count 78 = .ok (.iadd, 1) := dcO tk_X6_count_0 24 rfl
theorem dX6_count_79 : decode cX6_count 79 = .ok (.iaload, 1) := dcO tk_X6_count_0 25 rfl
theorem dX6_count_80 : decode cX6_count 80 = .ok (.iadd, 1) := dcO tk_X6_count_0 26 rfl
theorem dX6_count_81 : decode cX6_count 81 = .ok (.istore_n 2, 1) := dcO tk_X6_count_0 27 rfl
theorem dX6_count_82 : decode cX6_count 82 = .ok (.iinc 3 1, 3) := dcO tk_X6_count_0 28 rfl
theorem dX6_count_85 : decode cX6_count 85 = .ok (.goto (-21), 3) := dcO tk_X6_count_0 29 rfl
theorem dX6_count_88 : decode cX6_count 88 = .ok (.iload_n 2, 1) := dcO tk_X6_count_0 30 rfl
theorem dX6_count_89 : decode cX6_count 89 = .ok (.ireturn, 1) := dcO tk_X6_count_0 31 rfl
theorem dX6_count_90 : decode cX6_count 90 = .ok (.aload_n 0, 1) := dcO tk_X6_count_0 32 rfl
theorem dX6_count_91 : decode cX6_count 91 = .ok (.getfield 9, 3) := dcO tk_X6_count_0 33 rfl
theorem dX6_count_94 : decode cX6_count 94 = .ok (.iconst 1, 1) := dcO tk_X6_count_0 34 rfl
theorem dX6_count_95 : decode cX6_count 95 = .ok (.iaload, 1) := dcO tk_X6_count_0 35 rfl
theorem dX6_count_96 : decode cX6_count 96 = .ok (.ireturn, 1) := dcO tk_X6_count_0 36 rfl
theorem dX6_count_97 : decode cX6_count 97 = .ok (.aload_n 0, 1) := dcO tk_X6_count_0 37 rfl
theorem dX6_count_98 : decode cX6_count 98 = .ok (.invokevirtual 140, 3) := dcO tk_X6_count_0 38 rfl
theorem dX6_count_101 : decode cX6_count 101 = .ok (.ireturn, 1) := dcO tk_X6_count_0 39 rfl
abbrev tb_X6_count_1 : List (Nat × Instr × Nat) := [(102, .aload_n 0, 1), (103, .getfield 195, 3), (106, .ireturn, 1), (107, .aload_n 0, 1), (108, .getfield 9, 3), (111, .iconst 3, 1), (112, .iaload, 1), (113, .ireturn, 1), (114, .iconst 0, 1), (115, .istore_n 3, 1), (116, .iload_n 3, 1), (117, .bipush 10, 2), (119, .if_icmp .ge 30, 3), (122, .iload_n 2, 1), (123, .aload_n 0, 1), (124, .getfield 9, 3), (127, .sipush 297, 3), (130, .iload_n 3, 1), (131, .iadd, 1), (132, .iaload, 1), (133, .ifCond .lt 7, 3), (136, .iconst 1, 1), (137, .goto 4, 3), (140, .iconst 0, 1), (141, .iadd, 1), (142, .istore_n 2, 1), (143, .iinc 3 1, 3), (146, .goto (-30), 3), (149, .iload_n 2, 1), (150, .ireturn, 1), (151, .aload_n 0, 1), (152, .iconst 0, 1), (153, .invokevirtual 125, 3), (156, .ireturn, 1)]
theorem tk_X6_count_1 : dcA cX6_count tb_X6_count_1 = true := by decide +kernel
theorem dX6_count_102 : decode cX6_count 102 = .ok (.aload_n 0, 1) := dcO tk_X6_count_1 0 rfl
theorem dX6_count_103 : decode cX6_count 103 = .ok (.getfield 195, 3) := dcO tk_X6_count_1 1 rfl
theorem dX6_count_106 : decode cX6_count 106 = .ok (.ireturn, 1) := dcO tk_X6_count_1 2 rfl
theorem dX6_count_107 : decode cX6_count 107 = .ok (.aload_n 0, 1) := dcO tk_X6_count_1 3 rfl
theorem dX6_count_108 : decode cX6_count 108 = .ok (.getfield 9, 3) := dcO tk_X6_count_1 4 rfl
theorem dX6_count_111 : decode cX6_count 111 = .ok (.iconst 3, 1) := dcO tk_X6_count_1 5 rfl
theorem dX6_count_112 : decode cX6_count 112 = .ok (.iaload, 1) := dcO tk_X6_count_1 6 rfl
theorem dX6_count_113 : decode cX6_count 113 = .ok (.ireturn, 1) := dcO tk_X6_count_1 7 rfl
theorem dX6_count_114 : decode cX6_count 114 = .ok (.iconst 0, 1) := dcO tk_X6_count_1 8 rfl
theorem dX6_count_115 : decode cX6_count 115 = .ok (.istore_n 3, 1) := dcO tk_X6_count_1 9 rfl
theorem dX6_count_116 : decode cX6_count 116 = .ok (.iload_n 3, 1) := dcO tk_X6_count_1 10 rfl
theorem dX6_count_117 : decode cX6_count 117 = .ok (.bipush 10, 2) := dcO tk_X6_count_1 11 rfl
theorem dX6_count_119 : decode cX6_count 119 = .ok (.if_icmp .ge 30, 3) := dcO tk_X6_count_1 12 rfl
theorem dX6_count_122 : decode cX6_count 122 = .ok (.iload_n 2, 1) := dcO tk_X6_count_1 13 rfl
theorem dX6_count_123 : decode cX6_count 123 = .ok (.aload_n 0, 1) := dcO tk_X6_count_1 14 rfl
theorem dX6_count_124 : decode cX6_count 124 = .ok (.getfield 9, 3) := dcO tk_X6_count_1 15 rfl
theorem dX6_count_127 : decode cX6_count 127 = .ok (.sipush 297, 3) := dcO tk_X6_count_1 16 rfl
theorem dX6_count_130 : decode cX6_count 130 = .ok (.iload_n 3, 1) := dcO tk_X6_count_1 17 rfl
theorem dX6_count_131 : decode cX6_count 131 = .ok (.iadd, 1) := dcO tk_X6_count_1 18 rfl
theorem dX6_count_132 : decode cX6_count 132 = .ok (.iaload, 1) := dcO tk_X6_count_1 19 rfl
theorem dX6_count_133 : decode cX6_count 133 = .ok (.ifCond .lt 7, 3) := dcO tk_X6_count_1 20 rfl
theorem dX6_count_136 : decode cX6_count 136 = .ok (.iconst 1, 1) := dcO tk_X6_count_1 21 rfl
theorem dX6_count_137 : decode cX6_count 137 = .ok (.goto 4, 3) := dcO tk_X6_count_1 22 rfl
theorem dX6_count_140 : decode cX6_count 140 = .ok (.iconst 0, 1) := dcO tk_X6_count_1 23 rfl
theorem dX6_count_141 : decode cX6_count 141 = .ok (.iadd, 1) := dcO tk_X6_count_1 24 rfl
theorem dX6_count_142 : decode cX6_count 142 = .ok (.istore_n 2, 1) := dcO tk_X6_count_1 25 rfl
theorem dX6_count_143 : decode cX6_count 143 = .ok (.iinc 3 1, 3) := dcO tk_X6_count_1 26 rfl
theorem dX6_count_146 : decode cX6_count 146 = .ok (.goto (-30), 3) := dcO tk_X6_count_1 27 rfl
theorem dX6_count_149 : decode cX6_count 149 = .ok (.iload_n 2, 1) := dcO tk_X6_count_1 28 rfl
theorem dX6_count_150 : decode cX6_count 150 = .ok (.ireturn, 1) := dcO tk_X6_count_1 29 rfl
theorem dX6_count_151 : decode cX6_count 151 = .ok (.aload_n 0, 1) := dcO tk_X6_count_1 30 rfl
theorem dX6_count_152 : decode cX6_count 152 = .ok (.iconst 0, 1) := dcO tk_X6_count_1 31 rfl
theorem dX6_count_153 : decode cX6_count 153 = .ok (.invokevirtual 125, 3) := dcO tk_X6_count_1 32 rfl
theorem dX6_count_156 : decode cX6_count 156 = .ok (.ireturn, 1) := dcO tk_X6_count_1 33 rfl
abbrev tb_X6_status_0 : List (Nat × Instr × Nat) := [(0, .iload_n 1, 1), (1, .iconst (-1), 1), (2, .bipush 6, 2), (4, .invokestatic 61, 3), (7, .ifCond .ne 9, 3), (10, .aload_n 0, 1), (11, .iconst 0, 1), (12, .invokevirtual 125, 3), (15, .ireturn, 1), (16, .iconst 0, 1), (17, .istore_n 2, 1), (18, .iconst 0, 1), (19, .istore_n 3, 1), (20, .iload_n 3, 1), (21, .bipush 7, 2), (23, .if_icmp .ge 32, 3), (26, .iload_n 2, 1), (27, .iload_n 1, 1), (28, .iconst (-1), 1), (29, .if_icmp .eq 8, 3), (32, .iload_n 1, 1), (33, .iload_n 3, 1), (34, .if_icmp .ne 12, 3), (37, .aload_n 0, 1), (38, .getfield 19, 3), (41, .iload_n 3, 1), (42, .iaload, 1), (43, .goto 4, 3), (46, .iconst 0, 1), (47, .iadd, 1), (48, .istore_n 2, 1), (49, .iinc 3 1, 3), (52, .goto (-32), 3), (55, .iload_n 2, 1), (56, .ireturn, 1)]
theorem tk_X6_status_0 : dcA cX6_status tb_X6_status_0 = true := by decide +kernel
theorem dX6_status_0 : decode cX6_status 0 = .ok (.iload_n 1, 1) := dcO tk_X6_status_0 0 rfl
theorem dX6_status_1 : decode cX6_status 1 = .ok (.iconst (-1), 1) := dcO tk_X6_status_0 1 rfl
theorem dX6_status_2 : decode cX6_status 2 = .ok (.bipush 6, 2) := dcO tk_X6_status_0 2 rfl
theorem dX6_status_4 : decode cX6_status 4 = .ok (.invokestatic 61, 3) := dcO tk_X6_status_0 3 rfl
theorem dX6_status_7 : decode cX6_status 7 = .ok (.ifCond .ne 9, 3) := dcO tk_X6_status_0 4 rfl
theorem dX6_status_10 : decode cX6_status 10 = .ok (.aload_n 0, 1) := dcO tk_X6_status_0 5 rfl
theorem dX6_status_11 : decode cX6_status 11 = .ok (.iconst 0, 1) := dcO tk_X6_status_0 6 rfl
theorem dX6_status_12 : decode cX6_status 12 = .ok (.invokevirtual 125, 3) := dcO tk_X6_status_0 7 rfl
theorem dX6_status_15 : decode cX6_status 15 = .ok (.ireturn, 1) := dcO tk_X6_status_0 8 rfl
theorem dX6_status_16 : decode cX6_status 16 = .ok (.iconst 0, 1) := dcO tk_X6_status_0 9 rfl
theorem dX6_status_17 : decode cX6_status 17 = .ok (.istore_n 2, 1) := dcO tk_X6_status_0 10 rfl
theorem dX6_status_18 : decode cX6_status 18 = .ok (.iconst 0, 1) := dcO tk_X6_status_0 11 rfl
theorem dX6_status_19 : decode cX6_status 19 = .ok (.istore_n 3, 1) := dcO tk_X6_status_0 12 rfl
theorem dX6_status_20 : decode cX6_status 20 = .ok (.iload_n 3, 1) := dcO tk_X6_status_0 13 rfl
theorem dX6_status_21 : decode cX6_status 21 = .ok (.bipush 7, 2) := dcO tk_X6_status_0 14 rfl
theorem dX6_status_23 : decode cX6_status 23 = .ok (.if_icmp .ge 32, 3) := dcO tk_X6_status_0 15 rfl
theorem dX6_status_26 : decode cX6_status 26 = .ok (.iload_n 2, 1) := dcO tk_X6_status_0 16 rfl
theorem dX6_status_27 : decode cX6_status 27 = .ok (.iload_n 1, 1) := dcO tk_X6_status_0 17 rfl
theorem dX6_status_28 : decode cX6_status 28 = .ok (.iconst (-1), 1) := dcO tk_X6_status_0 18 rfl
theorem dX6_status_29 : decode cX6_status 29 = .ok (.if_icmp .eq 8, 3) := dcO tk_X6_status_0 19 rfl
theorem dX6_status_32 : decode cX6_status 32 = .ok (.iload_n 1, 1) := dcO tk_X6_status_0 20 rfl
theorem dX6_status_33 : decode cX6_status 33 = .ok (.iload_n 3, 1) := dcO tk_X6_status_0 21 rfl
theorem dX6_status_34 : decode cX6_status 34 = .ok (.if_icmp .ne 12, 3) := dcO tk_X6_status_0 22 rfl
theorem dX6_status_37 : decode cX6_status 37 = .ok (.aload_n 0, 1) := dcO tk_X6_status_0 23 rfl
theorem dX6_status_38 : decode cX6_status 38 = .ok (.getfield 19, 3) := dcO tk_X6_status_0 24 rfl
theorem dX6_status_41 : decode cX6_status 41 = .ok (.iload_n 3, 1) := dcO tk_X6_status_0 25 rfl
theorem dX6_status_42 : decode cX6_status 42 = .ok (.iaload, 1) := dcO tk_X6_status_0 26 rfl
theorem dX6_status_43 : decode cX6_status 43 = .ok (.goto 4, 3) := dcO tk_X6_status_0 27 rfl
theorem dX6_status_46 : decode cX6_status 46 = .ok (.iconst 0, 1) := dcO tk_X6_status_0 28 rfl
theorem dX6_status_47 : decode cX6_status 47 = .ok (.iadd, 1) := dcO tk_X6_status_0 29 rfl
theorem dX6_status_48 : decode cX6_status 48 = .ok (.istore_n 2, 1) := dcO tk_X6_status_0 30 rfl
theorem dX6_status_49 : decode cX6_status 49 = .ok (.iinc 3 1, 3) := dcO tk_X6_status_0 31 rfl
theorem dX6_status_52 : decode cX6_status 52 = .ok (.goto (-32), 3) := dcO tk_X6_status_0 32 rfl
theorem dX6_status_55 : decode cX6_status 55 = .ok (.iload_n 2, 1) := dcO tk_X6_status_0 33 rfl
theorem dX6_status_56 : decode cX6_status 56 = .ok (.ireturn, 1) := dcO tk_X6_status_0 34 rfl
abbrev tb_J9_min_7cf53_0 : List (Nat × Instr × Nat) := [(0, .iload_n 0, 1), (1, .iload_n 1, 1), (2, .if_icmp .gt 7, 3), (5, .iload_n 0, 1), (6, .goto 4, 3), (9, .iload_n 1, 1), (10, .ireturn, 1)]
theorem tk_J9_min_7cf53_0 : dcA cJ9_min_7cf53 tb_J9_min_7cf53_0 = true := by decide +kernel
theorem dJ9_min_7cf53_0 : decode cJ9_min_7cf53 0 = .ok (.iload_n 0, 1) := dcO tk_J9_min_7cf53_0 0 rfl
theorem dJ9_min_7cf53_1 : decode cJ9_min_7cf53 1 = .ok (.iload_n 1, 1) := dcO tk_J9_min_7cf53_0 1 rfl
theorem dJ9_min_7cf53_2 : decode cJ9_min_7cf53 2 = .ok (.if_icmp .gt 7, 3) := dcO tk_J9_min_7cf53_0 2 rfl
theorem dJ9_min_7cf53_5 : decode cJ9_min_7cf53 5 = .ok (.iload_n 0, 1) := dcO tk_J9_min_7cf53_0 3 rfl
theorem dJ9_min_7cf53_6 : decode cJ9_min_7cf53 6 = .ok (.goto 4, 3) := dcO tk_J9_min_7cf53_0 4 rfl
theorem dJ9_min_7cf53_9 : decode cJ9_min_7cf53 9 = .ok (.iload_n 1, 1) := dcO tk_J9_min_7cf53_0 5 rfl
theorem dJ9_min_7cf53_10 : decode cJ9_min_7cf53 10 = .ok (.ireturn, 1) := dcO tk_J9_min_7cf53_0 6 rfl
abbrev tb_J0_length_8abf5_0 : List (Nat × Instr × Nat) := [(0, .aload_n 0, 1), (1, .getfield 9, 3), (4, .arraylength, 1), (5, .aload_n 0, 1), (6, .invokevirtual 335, 3), (9, .ishr, 1), (10, .ireturn, 1)]
theorem tk_J0_length_8abf5_0 : dcA cJ0_length_8abf5 tb_J0_length_8abf5_0 = true := by decide +kernel
theorem dJ0_length_8abf5_0 : decode cJ0_length_8abf5 0 = .ok (.aload_n 0, 1) := dcO tk_J0_length_8abf5_0 0 rfl
theorem dJ0_length_8abf5_1 : decode cJ0_length_8abf5 1 = .ok (.getfield 9, 3) := dcO tk_J0_length_8abf5_0 1 rfl
theorem dJ0_length_8abf5_4 : decode cJ0_length_8abf5 4 = .ok (.arraylength, 1) := dcO tk_J0_length_8abf5_0 2 rfl
theorem dJ0_length_8abf5_5 : decode cJ0_length_8abf5 5 = .ok (.aload_n 0, 1) := dcO tk_J0_length_8abf5_0 3 rfl
theorem dJ0_length_8abf5_6 : decode cJ0_length_8abf5 6 = .ok (.invokevirtual 335, 3) := dcO tk_J0_length_8abf5_0 4 rfl
theorem dJ0_length_8abf5_9 : decode cJ0_length_8abf5 9 = .ok (.ishr, 1) := dcO tk_J0_length_8abf5_0 5 rfl
theorem dJ0_length_8abf5_10 : decode cJ0_length_8abf5 10 = .ok (.ireturn, 1) := dcO tk_J0_length_8abf5_0 6 rfl
abbrev tb_J0_charAt_5068e_0 : List (Nat × Instr × Nat) := [(0, .aload_n 0, 1), (1, .invokevirtual 492, 3), (4, .ifCond .eq 12, 3), (7, .aload_n 0, 1), (8, .getfield 9, 3), (11, .iload_n 1, 1), (12, .invokestatic 495, 3), (15, .ireturn, 1), (16, .aload_n 0, 1), (17, .getfield 9, 3), (20, .iload_n 1, 1), (21, .invokestatic 498, 3), (24, .ireturn, 1)]
theorem tk_J0_charAt_5068e_0 : dcA cJ0_charAt_5068e tb_J0_charAt_5068e_0 = true := by decide +kernel
theorem dJ0_charAt_5068e_0 : decode cJ0_charAt_5068e 0 = .ok (.aload_n 0, 1) := dcO tk_J0_charAt_5068e_0 0 rfl
theorem dJ0_charAt_5068e_1 : decode cJ0_charAt_5068e 1 = .ok (.invokevirtual 492, 3) := dcO tk_J0_charAt_5068e_0 1 rfl
theorem dJ0_charAt_5068e_4 : decode cJ0_charAt_5068e 4 = .ok (.ifCond .eq 12, 3) := dcO tk_J0_charAt_5068e_0 2 rfl
theorem dJ0_charAt_5068e_7 : decode cJ0_charAt_5068e 7 = .ok (.aload_n 0, 1) := dcO tk_J0_charAt_5068e_0 3 rfl
theorem dJ0_charAt_5068e_8 : decode cJ0_charAt_5068e 8 = .ok (.getfield 9, 3) := dcO tk_J0_charAt_5068e_0 4 rfl
theorem dJ0_charAt_5068e_11 : decode cJ0_charAt_5068e 11 = .ok (.iload_n 1, 1) := dcO tk_J0_charAt_5068e_0 5 rfl
theorem dJ0_charAt_5068e_12 : decode cJ0_charAt_5068e 12 = .ok (.invokestatic 495, 3) := dcO tk_J0_charAt_5068e_0 6 rfl
theorem dJ0_charAt_5068e_15 : decode cJ0_charAt_5068e 15 = .ok (.ireturn, 1) := dcO tk_J0_charAt_5068e_0 7 rfl
theorem dJ0_charAt_5068e_16 : decode cJ0_charAt_5068e 16 = .ok (.aload_n 0, 1) := dcO tk_J0_charAt_5068e_0 8 rfl
theorem dJ0_charAt_5068e_17 : decode cJ0_charAt_5068e 17 = .ok (.getfield 9, 3) := dcO tk_J0_charAt_5068e_0 9 rfl
theorem dJ0_charAt_5068e_20 : decode cJ0_charAt_5068e 20 = .ok (.iload_n 1, 1) := dcO tk_J0_charAt_5068e_0 10 rfl
theorem dJ0_charAt_5068e_21 : decode cJ0_charAt_5068e 21 = .ok (.invokestatic 498, 3) := dcO tk_J0_charAt_5068e_0 11 rfl
theorem dJ0_charAt_5068e_24 : decode cJ0_charAt_5068e 24 = .ok (.ireturn, 1) := dcO tk_J0_charAt_5068e_0 12 rfl
abbrev tb_J0_coder_7d493_0 : List (Nat × Instr × Nat) := [(0, .getstatic 38, 3), (3, .ifCond .eq 10, 3), (6, .aload_n 0, 1), (7, .getfield 15, 3), (10, .goto 4, 3), (13, .iconst 1, 1), (14, .ireturn, 1)]
theorem tk_J0_coder_7d493_0 : dcA cJ0_coder_7d493 tb_J0_coder_7d493_0 = true := by decide +kernel
theorem dJ0_coder_7d493_0 : decode cJ0_coder_7d493 0 = .ok (.getstatic 38, 3) := dcO tk_J0_coder_7d493_0 0 rfl
theorem dJ0_coder_7d493_3 : decode cJ0_coder_7d493 3 = .ok (.ifCond .eq 10, 3) := dcO tk_J0_coder_7d493_0 1 rfl
theorem dJ0_coder_7d493_6 : decode cJ0_coder_7d493 6 = .ok (.aload_n 0, 1) := dcO tk_J0_coder_7d493_0 2 rfl
theorem dJ0_coder_7d493_7 : decode cJ0_coder_7d493 7 = .ok (.getfield 15, 3) := dcO tk_J0_coder_7d493_0 3 rfl
theorem dJ0_coder_7d493_10 : decode cJ0_coder_7d493 10 = .ok (.goto 4, 3) := dcO tk_J0_coder_7d493_0 4 rfl
theorem dJ0_coder_7d493_13 : decode cJ0_coder_7d493 13 = .ok (.iconst 1, 1) := dcO tk_J0_coder_7d493_0 5 rfl
theorem dJ0_coder_7d493_14 : decode cJ0_coder_7d493 14 = .ok (.ireturn, 1) := dcO tk_J0_coder_7d493_0 6 rfl
abbrev tb_J0_isLatin1_aae02_0 : List (Nat × Instr × Nat) := [(0, .getstatic 38, 3), (3, .ifCond .eq 14, 3), (6, .aload_n 0, 1), (7, .getfield 15, 3), (10, .ifCond .ne 7, 3), (13, .iconst 1, 1), (14, .goto 4, 3), (17, .iconst 0, 1), (18, .ireturn, 1)]
theorem tk_J0_isLatin1_aae02_0 : dcA cJ0_isLatin1_aae02 tb_J0_isLatin1_aae02_0 = true := by decide +kernel
theorem dJ0_isLatin1_aae02_0 : decode cJ0_isLatin1_aae02 0 = .ok (.getstatic 38, 3) := dcO tk_J0_isLatin1_aae02_0 0 rfl
theorem dJ0_isLatin1_aae02_3 : decode cJ0_isLatin1_aae02 3 = .ok (.ifCond .eq 14, 3) := dcO tk_J0_isLatin1_aae02_0 1 rfl
theorem dJ0_isLatin1_aae02_6 : decode cJ0_isLatin1_aae02 6 = .ok (.aload_n 0, 1) := dcO tk_J0_isLatin1_aae02_0 2 rfl
theorem dJ0_isLatin1_aae02_7 : decode cJ0_isLatin1_aae02 7 = .ok (.getfield 15, 3) := dcO tk_J0_isLatin1_aae02_0 3 rfl
theorem dJ0_isLatin1_aae02_10 : decode cJ0_isLatin1_aae02 10 = .ok (.ifCond .ne 7, 3) := dcO tk_J0_isLatin1_aae02_0 4 rfl
theorem dJ0_isLatin1_aae02_13 : decode cJ0_isLatin1_aae02 13 = .ok (.iconst 1, 1) := dcO tk_J0_isLatin1_aae02_0 5 rfl
theorem dJ0_isLatin1_aae02_14 : decode cJ0_isLatin1_aae02 14 = .ok (.goto 4, 3) := dcO tk_J0_isLatin1_aae02_0 6 rfl
theorem dJ0_isLatin1_aae02_17 : decode cJ0_isLatin1_aae02 17 = .ok (.iconst 0, 1) := dcO tk_J0_isLatin1_aae02_0 7 rfl
theorem dJ0_isLatin1_aae02_18 : decode cJ0_isLatin1_aae02 18 = .ok (.ireturn, 1) := dcO tk_J0_isLatin1_aae02_0 8 rfl
abbrev tb_J0_checkIndex_df160_0 : List (Nat × Instr × Nat) := [(0, .iload_n 0, 1), (1, .iload_n 1, 1), (2, .getstatic 1053, 3), (5, .invokestatic 1059, 3), (8, .pop, 1), (9, .return_, 1)]
theorem tk_J0_checkIndex_df160_0 : dcA cJ0_checkIndex_df160 tb_J0_checkIndex_df160_0 = true := by decide +kernel
theorem dJ0_checkIndex_df160_0 : decode cJ0_checkIndex_df160 0 = .ok (.iload_n 0, 1) := dcO tk_J0_checkIndex_df160_0 0 rfl
theorem dJ0_checkIndex_df160_1 : decode cJ0_checkIndex_df160 1 = .ok (.iload_n 1, 1) := dcO tk_J0_checkIndex_df160_0 1 rfl
theorem dJ0_checkIndex_df160_2 : decode cJ0_checkIndex_df160 2 = .ok (.getstatic 1053, 3) := dcO tk_J0_checkIndex_df160_0 2 rfl
theorem dJ0_checkIndex_df160_5 : decode cJ0_checkIndex_df160 5 = .ok (.invokestatic 1059, 3) := dcO tk_J0_checkIndex_df160_0 3 rfl
theorem dJ0_checkIndex_df160_8 : decode cJ0_checkIndex_df160 8 = .ok (.pop, 1) := dcO tk_J0_checkIndex_df160_0 4 rfl
theorem dJ0_checkIndex_df160_9 : decode cJ0_checkIndex_df160 9 = .ok (.return_, 1) := dcO tk_J0_checkIndex_df160_0 5 rfl
abbrev tb_J1_charAt_3b067_0 : List (Nat × Instr × Nat) := [(0, .iload_n 1, 1), (1, .aload_n 0, 1), (2, .arraylength, 1), (3, .invokestatic 9, 3), (6, .aload_n 0, 1), (7, .iload_n 1, 1), (8, .baload, 1), (9, .sipush 255, 3), (12, .iand, 1), (13, .i2c, 1), (14, .ireturn, 1)]
theorem tk_J1_charAt_3b067_0 : dcA cJ1_charAt_3b067 tb_J1_charAt_3b067_0 = true := by decide +kernel
theorem dJ1_charAt_3b067_0 : decode cJ1_charAt_3b067 0 = .ok (.iload_n 1, 1) := dcO tk_J1_charAt_3b067_0 0 rfl
theorem dJ1_charAt_3b067_1 : decode cJ1_charAt_3b067 1 = .ok (.aload_n 0, 1) := dcO tk_J1_charAt_3b067_0 1 rfl
theorem dJ1_charAt_3b067_2 : decode cJ1_charAt_3b067 2 = .ok (.arraylength, 1) := dcO tk_J1_charAt_3b067_0 2 rfl
theorem dJ1_charAt_3b067_3 : decode cJ1_charAt_3b067 3 = .ok (.invokestatic 9, 3) := dcO tk_J1_charAt_3b067_0 3 rfl
theorem dJ1_charAt_3b067_6 : decode cJ1_charAt_3b067 6 = .ok (.aload_n 0, 1) := dcO tk_J1_charAt_3b067_0 4 rfl
theorem dJ1_charAt_3b067_7 : decode cJ1_charAt_3b067 7 = .ok (.iload_n 1, 1) := dcO tk_J1_charAt_3b067_0 5 rfl
theorem dJ1_charAt_3b067_8 : decode cJ1_charAt_3b067 8 = .ok (.baload, 1) := dcO tk_J1_charAt_3b067_0 6 rfl
theorem dJ1_charAt_3b067_9 : decode cJ1_charAt_3b067 9 = .ok (.sipush 255, 3) := dcO tk_J1_charAt_3b067_0 7 rfl
theorem dJ1_charAt_3b067_12 : decode cJ1_charAt_3b067 12 = .ok (.iand, 1) := dcO tk_J1_charAt_3b067_0 8 rfl
theorem dJ1_charAt_3b067_13 : decode cJ1_charAt_3b067 13 = .ok (.i2c, 1) := dcO tk_J1_charAt_3b067_0 9 rfl
theorem dJ1_charAt_3b067_14 : decode cJ1_charAt_3b067 14 = .ok (.ireturn, 1) := dcO tk_J1_charAt_3b067_0 10 rfl
abbrev tb_J2_getChar_3b067_0 : List (Nat × Instr × Nat) := [(0, .getstatic 44, 3), (3, .ifCond .ne 25, 3), (6, .iload_n 1, 1), (7, .ifCond .lt 11, 3), (10, .iload_n 1, 1), (11, .aload_n 0, 1), (12, .invokestatic 48, 3), (15, .if_icmp .lt 13, 3), (18, .new 52, 3), (21, .dup, 1), (22, .ldc 54, 2), (24, .invokespecial 56, 3), (27, .athrow, 1), (28, .iload_n 1, 1), (29, .iconst 1, 1), (30, .ishl, 1), (31, .istore_n 1, 1), (32, .aload_n 0, 1), (33, .iload_n 1, 1), (34, .iinc 1 1, 3), (37, .baload, 1), (38, .sipush 255, 3), (41, .iand, 1), (42, .getstatic 59, 3), (45, .ishl, 1), (46, .aload_n 0, 1), (47, .iload_n 1, 1), (48, .baload, 1), (49, .sipush 255, 3), (52, .iand, 1), (53, .getstatic 63, 3), (56, .ishl, 1), (57, .ior, 1), (58, .i2c, 1), (59, .ireturn, 1)]
theorem tk_J2_getChar_3b067_0 : dcA cJ2_getChar_3b067 tb_J2_getChar_3b067_0 = true := by decide +kernel
theorem dJ2_getChar_3b067_0 : decode cJ2_getChar_3b067 0 = .ok (.getstatic 44, 3) := dcO tk_J2_getChar_3b067_0 0 rfl
theorem dJ2_getChar_3b067_3 : decode cJ2_getChar_3b067 3 = .ok (.ifCond .ne 25, 3) := dcO tk_J2_getChar_3b067_0 1 rfl
theorem dJ2_getChar_3b067_6 : decode cJ2_getChar_3b067 6 = .ok (.iload_n 1, 1) := dcO tk_J2_getChar_3b067_0 2 rfl
theorem dJ2_getChar_3b067_7 : decode cJ2_getChar_3b067 7 = .ok (.ifCond .lt 11, 3) := dcO tk_J2_getChar_3b067_0 3 rfl
theorem dJ2_getChar_3b067_10 : decode cJ2_getChar_3b067 10 = .ok (.iload_n 1, 1) := dcO tk_J2_getChar_3b067_0 4 rfl
theorem dJ2_getChar_3b067_11 : decode cJ2_getChar_3b067 11 = .ok (.aload_n 0, 1) := dcO tk_J2_getChar_3b067_0 5 rfl
theorem dJ2_getChar_3b067_12 : decode cJ2_getChar_3b067 12 = .ok (.invokestatic 48, 3) := dcO tk_J2_getChar_3b067_0 6 rfl
theorem dJ2_getChar_3b067_15 : decode cJ2_getChar_3b067 15 = .ok (.if_icmp .lt 13, 3) := dcO tk_J2_getChar_3b067_0 7 rfl
theorem dJ2_getChar_3b067_18 : decode cJ2_getChar_3b067 18 = .ok (.new 52, 3) := dcO tk_J2_getChar_3b067_0 8 rfl
theorem dJ2_getChar_3b067_21 : decode cJ2_getChar_3b067 21 = .ok (.dup, 1) := dcO tk_J2_getChar_3b067_0 9 rfl
theorem dJ2_getChar_3b067_22 : decode cJ2_getChar_3b067 22 = .ok (.ldc 54, 2) := dcO tk_J2_getChar_3b067_0 10 rfl
theorem dJ2_getChar_3b067_24 : decode cJ2_getChar_3b067 24 = .ok (.invokespecial 56, 3) := dcO tk_J2_getChar_3b067_0 11 rfl
theorem dJ2_getChar_3b067_27 : decode cJ2_getChar_3b067 27 = .ok (.athrow, 1) := dcO tk_J2_getChar_3b067_0 12 rfl
theorem dJ2_getChar_3b067_28 : decode cJ2_getChar_3b067 28 = .ok (.iload_n 1, 1) := dcO tk_J2_getChar_3b067_0 13 rfl
theorem dJ2_getChar_3b067_29 : decode cJ2_getChar_3b067 29 = .ok (.iconst 1, 1) := dcO tk_J2_getChar_3b067_0 14 rfl
theorem dJ2_getChar_3b067_30 : decode cJ2_getChar_3b067 30 = .ok (.ishl, 1) := dcO tk_J2_getChar_3b067_0 15 rfl
theorem dJ2_getChar_3b067_31 : decode cJ2_getChar_3b067 31 = .ok (.istore_n 1, 1) := dcO tk_J2_getChar_3b067_0 16 rfl
theorem dJ2_getChar_3b067_32 : decode cJ2_getChar_3b067 32 = .ok (.aload_n 0, 1) := dcO tk_J2_getChar_3b067_0 17 rfl
theorem dJ2_getChar_3b067_33 : decode cJ2_getChar_3b067 33 = .ok (.iload_n 1, 1) := dcO tk_J2_getChar_3b067_0 18 rfl
theorem dJ2_getChar_3b067_34 : decode cJ2_getChar_3b067 34 = .ok (.iinc 1 1, 3) := dcO tk_J2_getChar_3b067_0 19 rfl
theorem dJ2_getChar_3b067_37 : decode cJ2_getChar_3b067 37 = .ok (.baload, 1) := dcO tk_J2_getChar_3b067_0 20 rfl
theorem dJ2_getChar_3b067_38 : decode cJ2_getChar_3b067 38 = .ok (.sipush 255, 3) := dcO tk_J2_getChar_3b067_0 21 rfl
theorem dJ2_getChar_3b067_41 : decode cJ2_getChar_3b067 41 = .ok (.iand, 1) := dcO tk_J2_getChar_3b067_0 22 rfl
theorem dJ2_getChar_3b067_42 : decode cJ2_getChar_3b067 42 = .ok (.getstatic 59, 3) := dcO tk_J2_getChar_3b067_0 23 rfl
theorem dJ2_getChar_3b067_45 : decode cJ2_getChar_3b067 45 = .ok (.ishl, 1) := dcO tk_J2_getChar_3b067_0 24 rfl
theorem dJ2_getChar_3b067_46 : decode cJ2_getChar_3b067 46 = .ok (.aload_n 0, 1) := dcO tk_J2_getChar_3b067_0 25 rfl
theorem dJ2_getChar_3b067_47 : decode cJ2_getChar_3b067 47 = .ok (.iload_n 1, 1) := dcO tk_J2_getChar_3b067_0 26 rfl
theorem dJ2_getChar_3b067_48 : decode cJ2_getChar_3b067 48 = .ok (.baload, 1) := dcO tk_J2_getChar_3b067_0 27 rfl
theorem dJ2_getChar_3b067_49 : decode cJ2_getChar_3b067 49 = .ok (.sipush 255, 3) := dcO tk_J2_getChar_3b067_0 28 rfl
theorem dJ2_getChar_3b067_52 : decode cJ2_getChar_3b067 52 = .ok (.iand, 1) := dcO tk_J2_getChar_3b067_0 29 rfl
theorem dJ2_getChar_3b067_53 : decode cJ2_getChar_3b067 53 = .ok (.getstatic 63, 3) := dcO tk_J2_getChar_3b067_0 30 rfl
theorem dJ2_getChar_3b067_56 : decode cJ2_getChar_3b067 56 = .ok (.ishl, 1) := dcO tk_J2_getChar_3b067_0 31 rfl
theorem dJ2_getChar_3b067_57 : decode cJ2_getChar_3b067 57 = .ok (.ior, 1) := dcO tk_J2_getChar_3b067_0 32 rfl
theorem dJ2_getChar_3b067_58 : decode cJ2_getChar_3b067 58 = .ok (.i2c, 1) := dcO tk_J2_getChar_3b067_0 33 rfl
theorem dJ2_getChar_3b067_59 : decode cJ2_getChar_3b067 59 = .ok (.ireturn, 1) := dcO tk_J2_getChar_3b067_0 34 rfl
abbrev tb_J2_length_9d52b_0 : List (Nat × Instr × Nat) := [(0, .aload_n 0, 1), (1, .arraylength, 1), (2, .iconst 1, 1), (3, .ishr, 1), (4, .ireturn, 1)]
theorem tk_J2_length_9d52b_0 : dcA cJ2_length_9d52b tb_J2_length_9d52b_0 = true := by decide +kernel
theorem dJ2_length_9d52b_0 : decode cJ2_length_9d52b 0 = .ok (.aload_n 0, 1) := dcO tk_J2_length_9d52b_0 0 rfl
theorem dJ2_length_9d52b_1 : decode cJ2_length_9d52b 1 = .ok (.arraylength, 1) := dcO tk_J2_length_9d52b_0 1 rfl
theorem dJ2_length_9d52b_2 : decode cJ2_length_9d52b 2 = .ok (.iconst 1, 1) := dcO tk_J2_length_9d52b_0 2 rfl
theorem dJ2_length_9d52b_3 : decode cJ2_length_9d52b 3 = .ok (.ishr, 1) := dcO tk_J2_length_9d52b_0 3 rfl
theorem dJ2_length_9d52b_4 : decode cJ2_length_9d52b 4 = .ok (.ireturn, 1) := dcO tk_J2_length_9d52b_0 4 rfl
abbrev tb_J2_charAt_3b067_0 : List (Nat × Instr × Nat) := [(0, .iload_n 1, 1), (1, .aload_n 0, 1), (2, .invokestatic 67, 3), (5, .aload_n 0, 1), (6, .iload_n 1, 1), (7, .invokestatic 71, 3), (10, .ireturn, 1)]
theorem tk_J2_charAt_3b067_0 : dcA cJ2_charAt_3b067 tb_J2_charAt_3b067_0 = true := by decide +kernel
theorem dJ2_charAt_3b067_0 : decode cJ2_charAt_3b067 0 = .ok (.iload_n 1, 1) := dcO tk_J2_charAt_3b067_0 0 rfl
theorem dJ2_charAt_3b067_1 : decode cJ2_charAt_3b067 1 = .ok (.aload_n 0, 1) := dcO tk_J2_charAt_3b067_0 1 rfl
theorem dJ2_charAt_3b067_2 : decode cJ2_charAt_3b067 2 = .ok (.invokestatic 67, 3) := dcO tk_J2_charAt_3b067_0 2 rfl
theorem dJ2_charAt_3b067_5 : decode cJ2_charAt_3b067 5 = .ok (.aload_n 0, 1) := dcO tk_J2_charAt_3b067_0 3 rfl
theorem dJ2_charAt_3b067_6 : decode cJ2_charAt_3b067 6 = .ok (.iload_n 1, 1) := dcO tk_J2_charAt_3b067_0 4 rfl
theorem dJ2_charAt_3b067_7 : decode cJ2_charAt_3b067 7 = .ok (.invokestatic 71, 3) := dcO tk_J2_charAt_3b067_0 5 rfl
theorem dJ2_charAt_3b067_10 : decode cJ2_charAt_3b067 10 = .ok (.ireturn, 1) := dcO tk_J2_charAt_3b067_0 6 rfl
abbrev tb_J2_checkIndex_2214a_0 : List (Nat × Instr × Nat) := [(0, .iload_n 0, 1), (1, .aload_n 1, 1), (2, .invokestatic 48, 3), (5, .invokestatic 414, 3), (8, .return_, 1)]
theorem tk_J2_checkIndex_2214a_0 : dcA cJ2_checkIndex_2214a tb_J2_checkIndex_2214a_0 = true := by decide +kernel
theorem dJ2_checkIndex_2214a_0 : decode cJ2_checkIndex_2214a 0 = .ok (.iload_n 0, 1) := dcO tk_J2_checkIndex_2214a_0 0 rfl
theorem dJ2_checkIndex_2214a_1 : decode cJ2_checkIndex_2214a 1 = .ok (.aload_n 1, 1) := dcO tk_J2_checkIndex_2214a_0 1 rfl
theorem dJ2_checkIndex_2214a_2 : decode cJ2_checkIndex_2214a 2 = .ok (.invokestatic 48, 3) := dcO tk_J2_checkIndex_2214a_0 2 rfl
theorem dJ2_checkIndex_2214a_5 : decode cJ2_checkIndex_2214a 5 = .ok (.invokestatic 414, 3) := dcO tk_J2_checkIndex_2214a_0 3 rfl
theorem dJ2_checkIndex_2214a_8 : decode cJ2_checkIndex_2214a 8 = .ok (.return_, 1) := dcO tk_J2_checkIndex_2214a_0 4 rfl
abbrev tb_J7_fill_53178_0 : List (Nat × Instr × Nat) := [(0, .iconst 0, 1), (1, .istore_n 2, 1), (2, .aload_n 0, 1), (3, .arraylength, 1), (4, .istore_n 3, 1), (5, .iload_n 2, 1), (6, .iload_n 3, 1), (7, .if_icmp .ge 13, 3), (10, .aload_n 0, 1), (11, .iload_n 2, 1), (12, .iload_n 1, 1), (13, .iastore, 1), (14, .iinc 2 1, 3), (17, .goto (-12), 3), (20, .return_, 1)]
theorem tk_J7_fill_53178_0 : dcA cJ7_fill_53178 tb_J7_fill_53178_0 = true := by decide +kernel
theorem dJ7_fill_53178_0 : decode cJ7_fill_53178 0 = .ok (.iconst 0, 1) := dcO tk_J7_fill_53178_0 0 rfl
theorem dJ7_fill_53178_1 : decode cJ7_fill_53178 1 = .ok (.istore_n 2, 1) := dcO tk_J7_fill_53178_0 1 rfl
theorem dJ7_fill_53178_2 : decode cJ7_fill_53178 2 = .ok (.aload_n 0, 1) := dcO tk_J7_fill_53178_0 2 rfl
theorem dJ7_fill_53178_3 : decode cJ7_fill_53178 3 = .ok (.arraylength, 1) := dcO tk_J7_fill_53178_0 3 rfl
theorem dJ7_fill_53178_4 : decode cJ7_fill_53178 4 = .ok (.istore_n 3, 1) := dcO tk_J7_fill_53178_0 4 rfl
theorem dJ7_fill_53178_5 : decode cJ7_fill_53178 5 = .ok (.iload_n 2, 1) := dcO tk_J7_fill_53178_0 5 rfl
theorem dJ7_fill_53178_6 : decode cJ7_fill_53178 6 = .ok (.iload_n 3, 1) := dcO tk_J7_fill_53178_0 6 rfl
theorem dJ7_fill_53178_7 : decode cJ7_fill_53178 7 = .ok (.if_icmp .ge 13, 3) := dcO tk_J7_fill_53178_0 7 rfl
theorem dJ7_fill_53178_10 : decode cJ7_fill_53178 10 = .ok (.aload_n 0, 1) := dcO tk_J7_fill_53178_0 8 rfl
theorem dJ7_fill_53178_11 : decode cJ7_fill_53178 11 = .ok (.iload_n 2, 1) := dcO tk_J7_fill_53178_0 9 rfl
theorem dJ7_fill_53178_12 : decode cJ7_fill_53178 12 = .ok (.iload_n 1, 1) := dcO tk_J7_fill_53178_0 10 rfl
theorem dJ7_fill_53178_13 : decode cJ7_fill_53178 13 = .ok (.iastore, 1) := dcO tk_J7_fill_53178_0 11 rfl
theorem dJ7_fill_53178_14 : decode cJ7_fill_53178 14 = .ok (.iinc 2 1, 3) := dcO tk_J7_fill_53178_0 12 rfl
theorem dJ7_fill_53178_17 : decode cJ7_fill_53178 17 = .ok (.goto (-12), 3) := dcO tk_J7_fill_53178_0 13 rfl
theorem dJ7_fill_53178_20 : decode cJ7_fill_53178 20 = .ok (.return_, 1) := dcO tk_J7_fill_53178_0 14 rfl
abbrev tb_J3_checkIndex_8e157_0 : List (Nat × Instr × Nat) := [(0, .iload_n 0, 1), (1, .ifCond .lt 8, 3), (4, .iload_n 0, 1), (5, .iload_n 1, 1), (6, .if_icmp .lt 10, 3), (9, .aload_n 2, 1), (10, .iload_n 0, 1), (11, .iload_n 1, 1), (12, .invokestatic 95, 3), (15, .athrow, 1), (16, .iload_n 0, 1), (17, .ireturn, 1)]
theorem tk_J3_checkIndex_8e157_0 : dcA cJ3_checkIndex_8e157 tb_J3_checkIndex_8e157_0 = true := by decide +kernel
theorem dJ3_checkIndex_8e157_0 : decode cJ3_checkIndex_8e157 0 = .ok (.iload_n 0, 1) := dcO tk_J3_checkIndex_8e157_0 0 rfl
theorem dJ3_checkIndex_8e157_1 : decode cJ3_checkIndex_8e157 1 = .ok (.ifCond .lt 8, 3) := dcO tk_J3_checkIndex_8e157_0 1 rfl
theorem dJ3_checkIndex_8e157_4 : decode cJ3_checkIndex_8e157 4 = .ok (.iload_n 0, 1) := dcO tk_J3_checkIndex_8e157_0 2 rfl
theorem dJ3_checkIndex_8e157_5 : decode cJ3_checkIndex_8e157 5 = .ok (.iload_n 1, 1) := dcO tk_J3_checkIndex_8e157_0 3 rfl
theorem dJ3_checkIndex_8e157_6 : decode cJ3_checkIndex_8e157 6 = .ok (.if_icmp .lt 10, 3) := dcO tk_J3_checkIndex_8e157_0 4 rfl
theorem dJ3_checkIndex_8e157_9 : decode cJ3_checkIndex_8e157 9 = .ok (.aload_n 2, 1) := dcO tk_J3_checkIndex_8e157_0 5 rfl
theorem dJ3_checkIndex_8e157_10 : decode cJ3_checkIndex_8e157 10 = .ok (.iload_n 0, 1) := dcO tk_J3_checkIndex_8e157_0 6 rfl
theorem dJ3_checkIndex_8e157_11 : decode cJ3_checkIndex_8e157 11 = .ok (.iload_n 1, 1) := dcO tk_J3_checkIndex_8e157_0 7 rfl
theorem dJ3_checkIndex_8e157_12 : decode cJ3_checkIndex_8e157 12 = .ok (.invokestatic 95, 3) := dcO tk_J3_checkIndex_8e157_0 8 rfl
theorem dJ3_checkIndex_8e157_15 : decode cJ3_checkIndex_8e157 15 = .ok (.athrow, 1) := dcO tk_J3_checkIndex_8e157_0 9 rfl
theorem dJ3_checkIndex_8e157_16 : decode cJ3_checkIndex_8e157 16 = .ok (.iload_n 0, 1) := dcO tk_J3_checkIndex_8e157_0 10 rfl
theorem dJ3_checkIndex_8e157_17 : decode cJ3_checkIndex_8e157 17 = .ok (.ireturn, 1) := dcO tk_J3_checkIndex_8e157_0 11 rfl
abbrev tb_L_law_0 : List (Nat × Instr × Nat) := [(0, .new 7, 3), (3, .dup, 1), (4, .invokespecial 9, 3), (7, .astore_n 1, 1), (8, .new 10, 3), (11, .dup, 1), (12, .invokespecial 12, 3), (15, .astore_n 2, 1), (16, .iconst 0, 1), (17, .istore_n 3, 1), (18, .iload_n 3, 1), (19, .aload_n 0, 1), (20, .arraylength, 1), (21, .bipush 6, 2), (23, .isub, 1), (24, .if_icmp .gt 1674, 3), (27, .aload_n 0, 1), (28, .iload_n 3, 1), (29, .iaload, 1), (30, .bipush 63, 2), (32, .iand, 1), (33, .tableswitch 1659 0 48 #[211, 244, 277, 310, 343, 376, 409, 452, 485, 518, 541, 564, 587, 600, 633, 656, 699, 712, 745, 778, 811, 844, 867, 890, 923, 966, 989, 1032, 1075, 1108, 1141, 1174, 1197, 1231, 1254, 1287, 1300, 1313, 1346, 1379, 1422, 1465, 1528, 1551, 1574, 1587, 1600, 1613, 1636], 211), (244, .aload_n 1, 1), (245, .aload_n 0, 1), (246, .iload_n 3, 1), (247, .iconst 1, 1), (248, .iadd, 1), (249, .iaload, 1), (250, .aload_n 0, 1), (251, .iload_n 3, 1), (252, .iconst 2, 1), (253, .iadd, 1), (254, .iaload, 1), (255, .invokevirtual 13, 3), (258, .aload_n 2, 1), (259, .aload_n 0, 1), (260, .iload_n 3, 1), (261, .iconst 1, 1), (262, .iadd, 1), (263, .iaload, 1)]
theorem tk_L_law_0 : dcA cL_law tb_L_law_0 = true := by decide +kernel
theorem dL_law_0 : decode cL_law 0 = .ok (.new 7, 3) := dcO tk_L_law_0 0 rfl
theorem dL_law_3 : decode cL_law 3 = .ok (.dup, 1) := dcO tk_L_law_0 1 rfl
theorem dL_law_4 : decode cL_law 4 = .ok (.invokespecial 9, 3) := dcO tk_L_law_0 2 rfl
theorem dL_law_7 : decode cL_law 7 = .ok (.astore_n 1, 1) := dcO tk_L_law_0 3 rfl
theorem dL_law_8 : decode cL_law 8 = .ok (.new 10, 3) := dcO tk_L_law_0 4 rfl
theorem dL_law_11 : decode cL_law 11 = .ok (.dup, 1) := dcO tk_L_law_0 5 rfl
theorem dL_law_12 : decode cL_law 12 = .ok (.invokespecial 12, 3) := dcO tk_L_law_0 6 rfl
theorem dL_law_15 : decode cL_law 15 = .ok (.astore_n 2, 1) := dcO tk_L_law_0 7 rfl
theorem dL_law_16 : decode cL_law 16 = .ok (.iconst 0, 1) := dcO tk_L_law_0 8 rfl
theorem dL_law_17 : decode cL_law 17 = .ok (.istore_n 3, 1) := dcO tk_L_law_0 9 rfl
theorem dL_law_18 : decode cL_law 18 = .ok (.iload_n 3, 1) := dcO tk_L_law_0 10 rfl
theorem dL_law_19 : decode cL_law 19 = .ok (.aload_n 0, 1) := dcO tk_L_law_0 11 rfl
theorem dL_law_20 : decode cL_law 20 = .ok (.arraylength, 1) := dcO tk_L_law_0 12 rfl
theorem dL_law_21 : decode cL_law 21 = .ok (.bipush 6, 2) := dcO tk_L_law_0 13 rfl
theorem dL_law_23 : decode cL_law 23 = .ok (.isub, 1) := dcO tk_L_law_0 14 rfl
theorem dL_law_24 : decode cL_law 24 = .ok (.if_icmp .gt 1674, 3) := dcO tk_L_law_0 15 rfl
theorem dL_law_27 : decode cL_law 27 = .ok (.aload_n 0, 1) := dcO tk_L_law_0 16 rfl
theorem dL_law_28 : decode cL_law 28 = .ok (.iload_n 3, 1) := dcO tk_L_law_0 17 rfl
theorem dL_law_29 : decode cL_law 29 = .ok (.iaload, 1) := dcO tk_L_law_0 18 rfl
theorem dL_law_30 : decode cL_law 30 = .ok (.bipush 63, 2) := dcO tk_L_law_0 19 rfl
theorem dL_law_32 : decode cL_law 32 = .ok (.iand, 1) := dcO tk_L_law_0 20 rfl
theorem dL_law_33 : decode cL_law 33 = .ok (.tableswitch 1659 0 48 #[211, 244, 277, 310, 343, 376, 409, 452, 485, 518, 541, 564, 587, 600, 633, 656, 699, 712, 745, 778, 811, 844, 867, 890, 923, 966, 989, 1032, 1075, 1108, 1141, 1174, 1197, 1231, 1254, 1287, 1300, 1313, 1346, 1379, 1422, 1465, 1528, 1551, 1574, 1587, 1600, 1613, 1636], 211) := dcO tk_L_law_0 21 rfl
theorem dL_law_244 : decode cL_law 244 = .ok (.aload_n 1, 1) := dcO tk_L_law_0 22 rfl
theorem dL_law_245 : decode cL_law 245 = .ok (.aload_n 0, 1) := dcO tk_L_law_0 23 rfl
theorem dL_law_246 : decode cL_law 246 = .ok (.iload_n 3, 1) := dcO tk_L_law_0 24 rfl
theorem dL_law_247 : decode cL_law 247 = .ok (.iconst 1, 1) := dcO tk_L_law_0 25 rfl
theorem dL_law_248 : decode cL_law 248 = .ok (.iadd, 1) := dcO tk_L_law_0 26 rfl
theorem dL_law_249 : decode cL_law 249 = .ok (.iaload, 1) := dcO tk_L_law_0 27 rfl
theorem dL_law_250 : decode cL_law 250 = .ok (.aload_n 0, 1) := dcO tk_L_law_0 28 rfl
theorem dL_law_251 : decode cL_law 251 = .ok (.iload_n 3, 1) := dcO tk_L_law_0 29 rfl
theorem dL_law_252 : decode cL_law 252 = .ok (.iconst 2, 1) := dcO tk_L_law_0 30 rfl
theorem dL_law_253 : decode cL_law 253 = .ok (.iadd, 1) := dcO tk_L_law_0 31 rfl
theorem dL_law_254 : decode cL_law 254 = .ok (.iaload, 1) := dcO tk_L_law_0 32 rfl
theorem dL_law_255 : decode cL_law 255 = .ok (.invokevirtual 13, 3) := dcO tk_L_law_0 33 rfl
theorem dL_law_258 : decode cL_law 258 = .ok (.aload_n 2, 1) := dcO tk_L_law_0 34 rfl
theorem dL_law_259 : decode cL_law 259 = .ok (.aload_n 0, 1) := dcO tk_L_law_0 35 rfl
theorem dL_law_260 : decode cL_law 260 = .ok (.iload_n 3, 1) := dcO tk_L_law_0 36 rfl
theorem dL_law_261 : decode cL_law 261 = .ok (.iconst 1, 1) := dcO tk_L_law_0 37 rfl
theorem dL_law_262 : decode cL_law 262 = .ok (.iadd, 1) := dcO tk_L_law_0 38 rfl
theorem dL_law_263 : decode cL_law 263 = .ok (.iaload, 1) := dcO tk_L_law_0 39 rfl
abbrev tb_L_law_1 : List (Nat × Instr × Nat) := [(264, .aload_n 0, 1), (265, .iload_n 3, 1), (266, .iconst 2, 1), (267, .iadd, 1), (268, .iaload, 1), (269, .invokevirtual 17, 3), (272, .if_icmp .eq 1420, 3), (275, .iconst 0, 1), (276, .ireturn, 1), (277, .aload_n 1, 1), (278, .aload_n 0, 1), (279, .iload_n 3, 1), (280, .iconst 1, 1), (281, .iadd, 1), (282, .iaload, 1), (283, .aload_n 0, 1), (284, .iload_n 3, 1), (285, .iconst 2, 1), (286, .iadd, 1), (287, .iaload, 1), (288, .invokevirtual 18, 3), (291, .aload_n 2, 1), (292, .aload_n 0, 1), (293, .iload_n 3, 1), (294, .iconst 1, 1), (295, .iadd, 1), (296, .iaload, 1), (297, .aload_n 0, 1), (298, .iload_n 3, 1), (299, .iconst 2, 1), (300, .iadd, 1), (301, .iaload, 1), (302, .invokevirtual 21, 3), (305, .if_icmp .eq 1387, 3), (308, .iconst 0, 1), (309, .ireturn, 1), (310, .aload_n 1, 1), (311, .aload_n 0, 1), (312, .iload_n 3, 1), (313, .iconst 1, 1)]
theorem tk_L_law_1 : dcA cL_law tb_L_law_1 = true := by decide +kernel
theorem dL_law_264 : decode cL_law 264 = .ok (.aload_n 0, 1) := dcO tk_L_law_1 0 rfl
theorem dL_law_265 : decode cL_law 265 = .ok (.iload_n 3, 1) := dcO tk_L_law_1 1 rfl
theorem dL_law_266 : decode cL_law 266 = .ok (.iconst 2, 1) := dcO tk_L_law_1 2 rfl
theorem dL_law_267 : decode cL_law 267 = .ok (.iadd, 1) := dcO tk_L_law_1 3 rfl
theorem dL_law_268 : decode cL_law 268 = .ok (.iaload, 1) := dcO tk_L_law_1 4 rfl
theorem dL_law_269 : decode cL_law 269 = .ok (.invokevirtual 17, 3) := dcO tk_L_law_1 5 rfl
theorem dL_law_272 : decode cL_law 272 = .ok (.if_icmp .eq 1420, 3) := dcO tk_L_law_1 6 rfl
theorem dL_law_275 : decode cL_law 275 = .ok (.iconst 0, 1) := dcO tk_L_law_1 7 rfl
theorem dL_law_276 : decode cL_law 276 = .ok (.ireturn, 1) := dcO tk_L_law_1 8 rfl
theorem dL_law_277 : decode cL_law 277 = .ok (.aload_n 1, 1) := dcO tk_L_law_1 9 rfl
theorem dL_law_278 : decode cL_law 278 = .ok (.aload_n 0, 1) := dcO tk_L_law_1 10 rfl
theorem dL_law_279 : decode cL_law 279 = .ok (.iload_n 3, 1) := dcO tk_L_law_1 11 rfl
theorem dL_law_280 : decode cL_law 280 = .ok (.iconst 1, 1) := dcO tk_L_law_1 12 rfl
theorem dL_law_281 : decode cL_law 281 = .ok (.iadd, 1) := dcO tk_L_law_1 13 rfl
theorem dL_law_282 : decode cL_law 282 = .ok (.iaload, 1) := dcO tk_L_law_1 14 rfl
theorem dL_law_283 : decode cL_law 283 = .ok (.aload_n 0, 1) := dcO tk_L_law_1 15 rfl
theorem dL_law_284 : decode cL_law 284 = .ok (.iload_n 3, 1) := dcO tk_L_law_1 16 rfl
theorem dL_law_285 : decode cL_law 285 = .ok (.iconst 2, 1) := dcO tk_L_law_1 17 rfl
theorem dL_law_286 : decode cL_law 286 = .ok (.iadd, 1) := dcO tk_L_law_1 18 rfl
theorem dL_law_287 : decode cL_law 287 = .ok (.iaload, 1) := dcO tk_L_law_1 19 rfl
theorem dL_law_288 : decode cL_law 288 = .ok (.invokevirtual 18, 3) := dcO tk_L_law_1 20 rfl
theorem dL_law_291 : decode cL_law 291 = .ok (.aload_n 2, 1) := dcO tk_L_law_1 21 rfl
theorem dL_law_292 : decode cL_law 292 = .ok (.aload_n 0, 1) := dcO tk_L_law_1 22 rfl
theorem dL_law_293 : decode cL_law 293 = .ok (.iload_n 3, 1) := dcO tk_L_law_1 23 rfl
theorem dL_law_294 : decode cL_law 294 = .ok (.iconst 1, 1) := dcO tk_L_law_1 24 rfl
theorem dL_law_295 : decode cL_law 295 = .ok (.iadd, 1) := dcO tk_L_law_1 25 rfl
theorem dL_law_296 : decode cL_law 296 = .ok (.iaload, 1) := dcO tk_L_law_1 26 rfl
theorem dL_law_297 : decode cL_law 297 = .ok (.aload_n 0, 1) := dcO tk_L_law_1 27 rfl
theorem dL_law_298 : decode cL_law 298 = .ok (.iload_n 3, 1) := dcO tk_L_law_1 28 rfl
theorem dL_law_299 : decode cL_law 299 = .ok (.iconst 2, 1) := dcO tk_L_law_1 29 rfl
theorem dL_law_300 : decode cL_law 300 = .ok (.iadd, 1) := dcO tk_L_law_1 30 rfl
theorem dL_law_301 : decode cL_law 301 = .ok (.iaload, 1) := dcO tk_L_law_1 31 rfl
theorem dL_law_302 : decode cL_law 302 = .ok (.invokevirtual 21, 3) := dcO tk_L_law_1 32 rfl
theorem dL_law_305 : decode cL_law 305 = .ok (.if_icmp .eq 1387, 3) := dcO tk_L_law_1 33 rfl
theorem dL_law_308 : decode cL_law 308 = .ok (.iconst 0, 1) := dcO tk_L_law_1 34 rfl
theorem dL_law_309 : decode cL_law 309 = .ok (.ireturn, 1) := dcO tk_L_law_1 35 rfl
theorem dL_law_310 : decode cL_law 310 = .ok (.aload_n 1, 1) := dcO tk_L_law_1 36 rfl
theorem dL_law_311 : decode cL_law 311 = .ok (.aload_n 0, 1) := dcO tk_L_law_1 37 rfl
theorem dL_law_312 : decode cL_law 312 = .ok (.iload_n 3, 1) := dcO tk_L_law_1 38 rfl
theorem dL_law_313 : decode cL_law 313 = .ok (.iconst 1, 1) := dcO tk_L_law_1 39 rfl
abbrev tb_L_law_2 : List (Nat × Instr × Nat) := [(314, .iadd, 1), (315, .iaload, 1), (316, .aload_n 0, 1), (317, .iload_n 3, 1), (318, .iconst 2, 1), (319, .iadd, 1), (320, .iaload, 1), (321, .invokevirtual 22, 3), (324, .aload_n 2, 1), (325, .aload_n 0, 1), (326, .iload_n 3, 1), (327, .iconst 1, 1), (328, .iadd, 1), (329, .iaload, 1), (330, .aload_n 0, 1), (331, .iload_n 3, 1), (332, .iconst 2, 1), (333, .iadd, 1), (334, .iaload, 1), (335, .invokevirtual 25, 3), (338, .if_icmp .eq 1354, 3), (341, .iconst 0, 1), (342, .ireturn, 1), (343, .aload_n 1, 1), (344, .aload_n 0, 1), (345, .iload_n 3, 1), (346, .iconst 1, 1), (347, .iadd, 1), (348, .iaload, 1), (349, .aload_n 0, 1), (350, .iload_n 3, 1), (351, .iconst 2, 1), (352, .iadd, 1), (353, .iaload, 1), (354, .invokevirtual 26, 3), (357, .aload_n 2, 1), (358, .aload_n 0, 1), (359, .iload_n 3, 1), (360, .iconst 1, 1), (361, .iadd, 1)]
theorem tk_L_law_2 : dcA cL_law tb_L_law_2 = true := by decide +kernel
theorem dL_law_314 : decode cL_law 314 = .ok (.iadd, 1) := dcO tk_L_law_2 0 rfl
theorem dL_law_315 : decode cL_law 315 = .ok (.iaload, 1) := dcO tk_L_law_2 1 rfl
theorem dL_law_316 : decode cL_law 316 = .ok (.aload_n 0, 1) := dcO tk_L_law_2 2 rfl
theorem dL_law_317 : decode cL_law 317 = .ok (.iload_n 3, 1) := dcO tk_L_law_2 3 rfl
theorem dL_law_318 : decode cL_law 318 = .ok (.iconst 2, 1) := dcO tk_L_law_2 4 rfl
theorem dL_law_319 : decode cL_law 319 = .ok (.iadd, 1) := dcO tk_L_law_2 5 rfl
theorem dL_law_320 : decode cL_law 320 = .ok (.iaload, 1) := dcO tk_L_law_2 6 rfl
theorem dL_law_321 : decode cL_law 321 = .ok (.invokevirtual 22, 3) := dcO tk_L_law_2 7 rfl
theorem dL_law_324 : decode cL_law 324 = .ok (.aload_n 2, 1) := dcO tk_L_law_2 8 rfl
theorem dL_law_325 : decode cL_law 325 = .ok (.aload_n 0, 1) := dcO tk_L_law_2 9 rfl
theorem dL_law_326 : decode cL_law 326 = .ok (.iload_n 3, 1) := dcO tk_L_law_2 10 rfl
theorem dL_law_327 : decode cL_law 327 = .ok (.iconst 1, 1) := dcO tk_L_law_2 11 rfl
theorem dL_law_328 : decode cL_law 328 = .ok (.iadd, 1) := dcO tk_L_law_2 12 rfl
theorem dL_law_329 : decode cL_law 329 = .ok (.iaload, 1) := dcO tk_L_law_2 13 rfl
theorem dL_law_330 : decode cL_law 330 = .ok (.aload_n 0, 1) := dcO tk_L_law_2 14 rfl
theorem dL_law_331 : decode cL_law 331 = .ok (.iload_n 3, 1) := dcO tk_L_law_2 15 rfl
theorem dL_law_332 : decode cL_law 332 = .ok (.iconst 2, 1) := dcO tk_L_law_2 16 rfl
theorem dL_law_333 : decode cL_law 333 = .ok (.iadd, 1) := dcO tk_L_law_2 17 rfl
theorem dL_law_334 : decode cL_law 334 = .ok (.iaload, 1) := dcO tk_L_law_2 18 rfl
theorem dL_law_335 : decode cL_law 335 = .ok (.invokevirtual 25, 3) := dcO tk_L_law_2 19 rfl
theorem dL_law_338 : decode cL_law 338 = .ok (.if_icmp .eq 1354, 3) := dcO tk_L_law_2 20 rfl
theorem dL_law_341 : decode cL_law 341 = .ok (.iconst 0, 1) := dcO tk_L_law_2 21 rfl
theorem dL_law_342 : decode cL_law 342 = .ok (.ireturn, 1) := dcO tk_L_law_2 22 rfl
theorem dL_law_343 : decode cL_law 343 = .ok (.aload_n 1, 1) := dcO tk_L_law_2 23 rfl
theorem dL_law_344 : decode cL_law 344 = .ok (.aload_n 0, 1) := dcO tk_L_law_2 24 rfl
theorem dL_law_345 : decode cL_law 345 = .ok (.iload_n 3, 1) := dcO tk_L_law_2 25 rfl
theorem dL_law_346 : decode cL_law 346 = .ok (.iconst 1, 1) := dcO tk_L_law_2 26 rfl
theorem dL_law_347 : decode cL_law 347 = .ok (.iadd, 1) := dcO tk_L_law_2 27 rfl
theorem dL_law_348 : decode cL_law 348 = .ok (.iaload, 1) := dcO tk_L_law_2 28 rfl
theorem dL_law_349 : decode cL_law 349 = .ok (.aload_n 0, 1) := dcO tk_L_law_2 29 rfl
theorem dL_law_350 : decode cL_law 350 = .ok (.iload_n 3, 1) := dcO tk_L_law_2 30 rfl
theorem dL_law_351 : decode cL_law 351 = .ok (.iconst 2, 1) := dcO tk_L_law_2 31 rfl
theorem dL_law_352 : decode cL_law 352 = .ok (.iadd, 1) := dcO tk_L_law_2 32 rfl
theorem dL_law_353 : decode cL_law 353 = .ok (.iaload, 1) := dcO tk_L_law_2 33 rfl
theorem dL_law_354 : decode cL_law 354 = .ok (.invokevirtual 26, 3) := dcO tk_L_law_2 34 rfl
theorem dL_law_357 : decode cL_law 357 = .ok (.aload_n 2, 1) := dcO tk_L_law_2 35 rfl
theorem dL_law_358 : decode cL_law 358 = .ok (.aload_n 0, 1) := dcO tk_L_law_2 36 rfl
theorem dL_law_359 : decode cL_law 359 = .ok (.iload_n 3, 1) := dcO tk_L_law_2 37 rfl
theorem dL_law_360 : decode cL_law 360 = .ok (.iconst 1, 1) := dcO tk_L_law_2 38 rfl
theorem dL_law_361 : decode cL_law 361 = .ok (.iadd, 1) := dcO tk_L_law_2 39 rfl
abbrev tb_L_law_3 : List (Nat × Instr × Nat) := [(362, .iaload, 1), (363, .aload_n 0, 1), (364, .iload_n 3, 1), (365, .iconst 2, 1), (366, .iadd, 1), (367, .iaload, 1), (368, .invokevirtual 29, 3), (371, .if_icmp .eq 1321, 3), (374, .iconst 0, 1), (375, .ireturn, 1), (376, .aload_n 1, 1), (377, .aload_n 0, 1), (378, .iload_n 3, 1), (379, .iconst 1, 1), (380, .iadd, 1), (381, .iaload, 1), (382, .aload_n 0, 1), (383, .iload_n 3, 1), (384, .iconst 2, 1), (385, .iadd, 1), (386, .iaload, 1), (387, .invokevirtual 30, 3), (390, .aload_n 2, 1), (391, .aload_n 0, 1), (392, .iload_n 3, 1), (393, .iconst 1, 1), (394, .iadd, 1), (395, .iaload, 1), (396, .aload_n 0, 1), (397, .iload_n 3, 1), (398, .iconst 2, 1), (399, .iadd, 1), (400, .iaload, 1), (401, .invokevirtual 33, 3), (404, .if_icmp .eq 1288, 3), (407, .iconst 0, 1), (408, .ireturn, 1), (409, .aload_n 1, 1), (410, .aload_n 0, 1), (411, .iload_n 3, 1)]
theorem tk_L_law_3 : dcA cL_law tb_L_law_3 = true := by decide +kernel
theorem dL_law_362 : decode cL_law 362 = .ok (.iaload, 1) := dcO tk_L_law_3 0 rfl
theorem dL_law_363 : decode cL_law 363 = .ok (.aload_n 0, 1) := dcO tk_L_law_3 1 rfl
theorem dL_law_364 : decode cL_law 364 = .ok (.iload_n 3, 1) := dcO tk_L_law_3 2 rfl
theorem dL_law_365 : decode cL_law 365 = .ok (.iconst 2, 1) := dcO tk_L_law_3 3 rfl
theorem dL_law_366 : decode cL_law 366 = .ok (.iadd, 1) := dcO tk_L_law_3 4 rfl
theorem dL_law_367 : decode cL_law 367 = .ok (.iaload, 1) := dcO tk_L_law_3 5 rfl
theorem dL_law_368 : decode cL_law 368 = .ok (.invokevirtual 29, 3) := dcO tk_L_law_3 6 rfl
theorem dL_law_371 : decode cL_law 371 = .ok (.if_icmp .eq 1321, 3) := dcO tk_L_law_3 7 rfl
theorem dL_law_374 : decode cL_law 374 = .ok (.iconst 0, 1) := dcO tk_L_law_3 8 rfl
theorem dL_law_375 : decode cL_law 375 = .ok (.ireturn, 1) := dcO tk_L_law_3 9 rfl
theorem dL_law_376 : decode cL_law 376 = .ok (.aload_n 1, 1) := dcO tk_L_law_3 10 rfl
theorem dL_law_377 : decode cL_law 377 = .ok (.aload_n 0, 1) := dcO tk_L_law_3 11 rfl
theorem dL_law_378 : decode cL_law 378 = .ok (.iload_n 3, 1) := dcO tk_L_law_3 12 rfl
theorem dL_law_379 : decode cL_law 379 = .ok (.iconst 1, 1) := dcO tk_L_law_3 13 rfl
theorem dL_law_380 : decode cL_law 380 = .ok (.iadd, 1) := dcO tk_L_law_3 14 rfl
theorem dL_law_381 : decode cL_law 381 = .ok (.iaload, 1) := dcO tk_L_law_3 15 rfl
theorem dL_law_382 : decode cL_law 382 = .ok (.aload_n 0, 1) := dcO tk_L_law_3 16 rfl
theorem dL_law_383 : decode cL_law 383 = .ok (.iload_n 3, 1) := dcO tk_L_law_3 17 rfl
theorem dL_law_384 : decode cL_law 384 = .ok (.iconst 2, 1) := dcO tk_L_law_3 18 rfl
theorem dL_law_385 : decode cL_law 385 = .ok (.iadd, 1) := dcO tk_L_law_3 19 rfl
theorem dL_law_386 : decode cL_law 386 = .ok (.iaload, 1) := dcO tk_L_law_3 20 rfl
theorem dL_law_387 : decode cL_law 387 = .ok (.invokevirtual 30, 3) := dcO tk_L_law_3 21 rfl
theorem dL_law_390 : decode cL_law 390 = .ok (.aload_n 2, 1) := dcO tk_L_law_3 22 rfl
theorem dL_law_391 : decode cL_law 391 = .ok (.aload_n 0, 1) := dcO tk_L_law_3 23 rfl
theorem dL_law_392 : decode cL_law 392 = .ok (.iload_n 3, 1) := dcO tk_L_law_3 24 rfl
theorem dL_law_393 : decode cL_law 393 = .ok (.iconst 1, 1) := dcO tk_L_law_3 25 rfl
theorem dL_law_394 : decode cL_law 394 = .ok (.iadd, 1) := dcO tk_L_law_3 26 rfl
theorem dL_law_395 : decode cL_law 395 = .ok (.iaload, 1) := dcO tk_L_law_3 27 rfl
theorem dL_law_396 : decode cL_law 396 = .ok (.aload_n 0, 1) := dcO tk_L_law_3 28 rfl
theorem dL_law_397 : decode cL_law 397 = .ok (.iload_n 3, 1) := dcO tk_L_law_3 29 rfl
theorem dL_law_398 : decode cL_law 398 = .ok (.iconst 2, 1) := dcO tk_L_law_3 30 rfl
theorem dL_law_399 : decode cL_law 399 = .ok (.iadd, 1) := dcO tk_L_law_3 31 rfl
theorem dL_law_400 : decode cL_law 400 = .ok (.iaload, 1) := dcO tk_L_law_3 32 rfl
theorem dL_law_401 : decode cL_law 401 = .ok (.invokevirtual 33, 3) := dcO tk_L_law_3 33 rfl
theorem dL_law_404 : decode cL_law 404 = .ok (.if_icmp .eq 1288, 3) := dcO tk_L_law_3 34 rfl
theorem dL_law_407 : decode cL_law 407 = .ok (.iconst 0, 1) := dcO tk_L_law_3 35 rfl
theorem dL_law_408 : decode cL_law 408 = .ok (.ireturn, 1) := dcO tk_L_law_3 36 rfl
theorem dL_law_409 : decode cL_law 409 = .ok (.aload_n 1, 1) := dcO tk_L_law_3 37 rfl
theorem dL_law_410 : decode cL_law 410 = .ok (.aload_n 0, 1) := dcO tk_L_law_3 38 rfl
theorem dL_law_411 : decode cL_law 411 = .ok (.iload_n 3, 1) := dcO tk_L_law_3 39 rfl
abbrev tb_L_law_4 : List (Nat × Instr × Nat) := [(412, .iconst 1, 1), (413, .iadd, 1), (414, .iaload, 1), (415, .aload_n 0, 1), (416, .iload_n 3, 1), (417, .iconst 2, 1), (418, .iadd, 1), (419, .iaload, 1), (420, .invokevirtual 34, 3), (423, .aload_n 2, 1), (424, .aload_n 0, 1), (425, .iload_n 3, 1), (426, .iconst 1, 1), (427, .iadd, 1), (428, .iaload, 1), (429, .aload_n 0, 1), (430, .iload_n 3, 1), (431, .iconst 2, 1), (432, .iadd, 1), (433, .iaload, 1), (434, .invokevirtual 37, 3), (437, .if_icmp .eq 1255, 3), (440, .iconst 0, 1), (441, .ireturn, 1), (442, .aload_n 1, 1), (443, .aload_n 0, 1), (444, .iload_n 3, 1), (445, .iconst 1, 1), (446, .iadd, 1), (447, .iaload, 1), (448, .aload_n 0, 1), (449, .iload_n 3, 1), (450, .iconst 2, 1), (451, .iadd, 1), (452, .iaload, 1), (453, .aload_n 0, 1), (454, .iload_n 3, 1), (455, .iconst 3, 1), (456, .iadd, 1), (457, .iaload, 1)]
theorem tk_L_law_4 : dcA cL_law tb_L_law_4 = true := by decide +kernel
theorem dL_law_412 : decode cL_law 412 = .ok (.iconst 1, 1) := dcO tk_L_law_4 0 rfl
theorem dL_law_413 : decode cL_law 413 = .ok (.iadd, 1) := dcO tk_L_law_4 1 rfl
theorem dL_law_414 : decode cL_law 414 = .ok (.iaload, 1) := dcO tk_L_law_4 2 rfl
theorem dL_law_415 : decode cL_law 415 = .ok (.aload_n 0, 1) := dcO tk_L_law_4 3 rfl
theorem dL_law_416 : decode cL_law 416 = .ok (.iload_n 3, 1) := dcO tk_L_law_4 4 rfl
theorem dL_law_417 : decode cL_law 417 = .ok (.iconst 2, 1) := dcO tk_L_law_4 5 rfl
theorem dL_law_418 : decode cL_law 418 = .ok (.iadd, 1) := dcO tk_L_law_4 6 rfl
theorem dL_law_419 : decode cL_law 419 = .ok (.iaload, 1) := dcO tk_L_law_4 7 rfl
theorem dL_law_420 : decode cL_law 420 = .ok (.invokevirtual 34, 3) := dcO tk_L_law_4 8 rfl
theorem dL_law_423 : decode cL_law 423 = .ok (.aload_n 2, 1) := dcO tk_L_law_4 9 rfl
theorem dL_law_424 : decode cL_law 424 = .ok (.aload_n 0, 1) := dcO tk_L_law_4 10 rfl
theorem dL_law_425 : decode cL_law 425 = .ok (.iload_n 3, 1) := dcO tk_L_law_4 11 rfl
theorem dL_law_426 : decode cL_law 426 = .ok (.iconst 1, 1) := dcO tk_L_law_4 12 rfl
theorem dL_law_427 : decode cL_law 427 = .ok (.iadd, 1) := dcO tk_L_law_4 13 rfl
theorem dL_law_428 : decode cL_law 428 = .ok (.iaload, 1) := dcO tk_L_law_4 14 rfl
theorem dL_law_429 : decode cL_law 429 = .ok (.aload_n 0, 1) := dcO tk_L_law_4 15 rfl
theorem dL_law_430 : decode cL_law 430 = .ok (.iload_n 3, 1) := dcO tk_L_law_4 16 rfl
theorem dL_law_431 : decode cL_law 431 = .ok (.iconst 2, 1) := dcO tk_L_law_4 17 rfl
theorem dL_law_432 : decode cL_law 432 = .ok (.iadd, 1) := dcO tk_L_law_4 18 rfl
theorem dL_law_433 : decode cL_law 433 = .ok (.iaload, 1) := dcO tk_L_law_4 19 rfl
theorem dL_law_434 : decode cL_law 434 = .ok (.invokevirtual 37, 3) := dcO tk_L_law_4 20 rfl
theorem dL_law_437 : decode cL_law 437 = .ok (.if_icmp .eq 1255, 3) := dcO tk_L_law_4 21 rfl
theorem dL_law_440 : decode cL_law 440 = .ok (.iconst 0, 1) := dcO tk_L_law_4 22 rfl
theorem dL_law_441 : decode cL_law 441 = .ok (.ireturn, 1) := dcO tk_L_law_4 23 rfl
theorem dL_law_442 : decode cL_law 442 = .ok (.aload_n 1, 1) := dcO tk_L_law_4 24 rfl
theorem dL_law_443 : decode cL_law 443 = .ok (.aload_n 0, 1) := dcO tk_L_law_4 25 rfl
theorem dL_law_444 : decode cL_law 444 = .ok (.iload_n 3, 1) := dcO tk_L_law_4 26 rfl
theorem dL_law_445 : decode cL_law 445 = .ok (.iconst 1, 1) := dcO tk_L_law_4 27 rfl
theorem dL_law_446 : decode cL_law 446 = .ok (.iadd, 1) := dcO tk_L_law_4 28 rfl
theorem dL_law_447 : decode cL_law 447 = .ok (.iaload, 1) := dcO tk_L_law_4 29 rfl
theorem dL_law_448 : decode cL_law 448 = .ok (.aload_n 0, 1) := dcO tk_L_law_4 30 rfl
theorem dL_law_449 : decode cL_law 449 = .ok (.iload_n 3, 1) := dcO tk_L_law_4 31 rfl
theorem dL_law_450 : decode cL_law 450 = .ok (.iconst 2, 1) := dcO tk_L_law_4 32 rfl
theorem dL_law_451 : decode cL_law 451 = .ok (.iadd, 1) := dcO tk_L_law_4 33 rfl
theorem dL_law_452 : decode cL_law 452 = .ok (.iaload, 1) := dcO tk_L_law_4 34 rfl
theorem dL_law_453 : decode cL_law 453 = .ok (.aload_n 0, 1) := dcO tk_L_law_4 35 rfl
theorem dL_law_454 : decode cL_law 454 = .ok (.iload_n 3, 1) := dcO tk_L_law_4 36 rfl
theorem dL_law_455 : decode cL_law 455 = .ok (.iconst 3, 1) := dcO tk_L_law_4 37 rfl
theorem dL_law_456 : decode cL_law 456 = .ok (.iadd, 1) := dcO tk_L_law_4 38 rfl
theorem dL_law_457 : decode cL_law 457 = .ok (.iaload, 1) := dcO tk_L_law_4 39 rfl
abbrev tb_L_law_5 : List (Nat × Instr × Nat) := [(458, .invokevirtual 38, 3), (461, .aload_n 2, 1), (462, .aload_n 0, 1), (463, .iload_n 3, 1), (464, .iconst 1, 1), (465, .iadd, 1), (466, .iaload, 1), (467, .aload_n 0, 1), (468, .iload_n 3, 1), (469, .iconst 2, 1), (470, .iadd, 1), (471, .iaload, 1), (472, .aload_n 0, 1), (473, .iload_n 3, 1), (474, .iconst 3, 1), (475, .iadd, 1), (476, .iaload, 1), (477, .invokevirtual 42, 3), (480, .if_icmp .eq 1212, 3), (483, .iconst 0, 1), (484, .ireturn, 1), (485, .aload_n 1, 1), (486, .aload_n 0, 1), (487, .iload_n 3, 1), (488, .iconst 1, 1), (489, .iadd, 1), (490, .iaload, 1), (491, .aload_n 0, 1), (492, .iload_n 3, 1), (493, .iconst 2, 1), (494, .iadd, 1), (495, .iaload, 1), (496, .invokevirtual 43, 3), (499, .aload_n 2, 1), (500, .aload_n 0, 1), (501, .iload_n 3, 1), (502, .iconst 1, 1), (503, .iadd, 1), (504, .iaload, 1), (505, .aload_n 0, 1)]
theorem tk_L_law_5 : dcA cL_law tb_L_law_5 = true := by decide +kernel
theorem dL_law_458 : decode cL_law 458 = .ok (.invokevirtual 38, 3) := dcO tk_L_law_5 0 rfl
theorem dL_law_461 : decode cL_law 461 = .ok (.aload_n 2, 1) := dcO tk_L_law_5 1 rfl
theorem dL_law_462 : decode cL_law 462 = .ok (.aload_n 0, 1) := dcO tk_L_law_5 2 rfl
theorem dL_law_463 : decode cL_law 463 = .ok (.iload_n 3, 1) := dcO tk_L_law_5 3 rfl
theorem dL_law_464 : decode cL_law 464 = .ok (.iconst 1, 1) := dcO tk_L_law_5 4 rfl
theorem dL_law_465 : decode cL_law 465 = .ok (.iadd, 1) := dcO tk_L_law_5 5 rfl
theorem dL_law_466 : decode cL_law 466 = .ok (.iaload, 1) := dcO tk_L_law_5 6 rfl
theorem dL_law_467 : decode cL_law 467 = .ok (.aload_n 0, 1) := dcO tk_L_law_5 7 rfl
theorem dL_law_468 : decode cL_law 468 = .ok (.iload_n 3, 1) := dcO tk_L_law_5 8 rfl
theorem dL_law_469 : decode cL_law 469 = .ok (.iconst 2, 1) := dcO tk_L_law_5 9 rfl
theorem dL_law_470 : decode cL_law 470 = .ok (.iadd, 1) := dcO tk_L_law_5 10 rfl
theorem dL_law_471 : decode cL_law 471 = .ok (.iaload, 1) := dcO tk_L_law_5 11 rfl
theorem dL_law_472 : decode cL_law 472 = .ok (.aload_n 0, 1) := dcO tk_L_law_5 12 rfl
theorem dL_law_473 : decode cL_law 473 = .ok (.iload_n 3, 1) := dcO tk_L_law_5 13 rfl
theorem dL_law_474 : decode cL_law 474 = .ok (.iconst 3, 1) := dcO tk_L_law_5 14 rfl
theorem dL_law_475 : decode cL_law 475 = .ok (.iadd, 1) := dcO tk_L_law_5 15 rfl
theorem dL_law_476 : decode cL_law 476 = .ok (.iaload, 1) := dcO tk_L_law_5 16 rfl
theorem dL_law_477 : decode cL_law 477 = .ok (.invokevirtual 42, 3) := dcO tk_L_law_5 17 rfl
theorem dL_law_480 : decode cL_law 480 = .ok (.if_icmp .eq 1212, 3) := dcO tk_L_law_5 18 rfl
theorem dL_law_483 : decode cL_law 483 = .ok (.iconst 0, 1) := dcO tk_L_law_5 19 rfl
theorem dL_law_484 : decode cL_law 484 = .ok (.ireturn, 1) := dcO tk_L_law_5 20 rfl
theorem dL_law_485 : decode cL_law 485 = .ok (.aload_n 1, 1) := dcO tk_L_law_5 21 rfl
theorem dL_law_486 : decode cL_law 486 = .ok (.aload_n 0, 1) := dcO tk_L_law_5 22 rfl
theorem dL_law_487 : decode cL_law 487 = .ok (.iload_n 3, 1) := dcO tk_L_law_5 23 rfl
theorem dL_law_488 : decode cL_law 488 = .ok (.iconst 1, 1) := dcO tk_L_law_5 24 rfl
theorem dL_law_489 : decode cL_law 489 = .ok (.iadd, 1) := dcO tk_L_law_5 25 rfl
theorem dL_law_490 : decode cL_law 490 = .ok (.iaload, 1) := dcO tk_L_law_5 26 rfl
theorem dL_law_491 : decode cL_law 491 = .ok (.aload_n 0, 1) := dcO tk_L_law_5 27 rfl
theorem dL_law_492 : decode cL_law 492 = .ok (.iload_n 3, 1) := dcO tk_L_law_5 28 rfl
theorem dL_law_493 : decode cL_law 493 = .ok (.iconst 2, 1) := dcO tk_L_law_5 29 rfl
theorem dL_law_494 : decode cL_law 494 = .ok (.iadd, 1) := dcO tk_L_law_5 30 rfl
theorem dL_law_495 : decode cL_law 495 = .ok (.iaload, 1) := dcO tk_L_law_5 31 rfl
theorem dL_law_496 : decode cL_law 496 = .ok (.invokevirtual 43, 3) := dcO tk_L_law_5 32 rfl
theorem dL_law_499 : decode cL_law 499 = .ok (.aload_n 2, 1) := dcO tk_L_law_5 33 rfl
theorem dL_law_500 : decode cL_law 500 = .ok (.aload_n 0, 1) := dcO tk_L_law_5 34 rfl
theorem dL_law_501 : decode cL_law 501 = .ok (.iload_n 3, 1) := dcO tk_L_law_5 35 rfl
theorem dL_law_502 : decode cL_law 502 = .ok (.iconst 1, 1) := dcO tk_L_law_5 36 rfl
theorem dL_law_503 : decode cL_law 503 = .ok (.iadd, 1) := dcO tk_L_law_5 37 rfl
theorem dL_law_504 : decode cL_law 504 = .ok (.iaload, 1) := dcO tk_L_law_5 38 rfl
theorem dL_law_505 : decode cL_law 505 = .ok (.aload_n 0, 1) := dcO tk_L_law_5 39 rfl
abbrev tb_L_law_6 : List (Nat × Instr × Nat) := [(506, .iload_n 3, 1), (507, .iconst 2, 1), (508, .iadd, 1), (509, .iaload, 1), (510, .invokevirtual 46, 3), (513, .if_icmp .eq 1179, 3), (516, .iconst 0, 1), (517, .ireturn, 1), (518, .aload_n 1, 1), (519, .aload_n 0, 1), (520, .iload_n 3, 1), (521, .iconst 1, 1), (522, .iadd, 1), (523, .iaload, 1), (524, .aload_n 0, 1), (525, .iload_n 3, 1), (526, .iconst 2, 1), (527, .iadd, 1), (528, .iaload, 1), (529, .invokevirtual 47, 3), (532, .aload_n 2, 1), (533, .aload_n 0, 1), (534, .iload_n 3, 1), (535, .iconst 1, 1), (536, .iadd, 1), (537, .iaload, 1), (538, .aload_n 0, 1), (539, .iload_n 3, 1), (540, .iconst 2, 1), (541, .iadd, 1), (542, .iaload, 1), (543, .invokevirtual 50, 3), (546, .if_icmp .eq 1146, 3), (549, .iconst 0, 1), (550, .ireturn, 1), (551, .aload_n 1, 1), (552, .aload_n 0, 1), (553, .iload_n 3, 1), (554, .iconst 1, 1), (555, .iadd, 1)]
theorem tk_L_law_6 : dcA cL_law tb_L_law_6 = true := by decide +kernel
theorem dL_law_506 : decode cL_law 506 = .ok (.iload_n 3, 1) := dcO tk_L_law_6 0 rfl
theorem dL_law_507 : decode cL_law 507 = .ok (.iconst 2, 1) := dcO tk_L_law_6 1 rfl
theorem dL_law_508 : decode cL_law 508 = .ok (.iadd, 1) := dcO tk_L_law_6 2 rfl
theorem dL_law_509 : decode cL_law 509 = .ok (.iaload, 1) := dcO tk_L_law_6 3 rfl
theorem dL_law_510 : decode cL_law 510 = .ok (.invokevirtual 46, 3) := dcO tk_L_law_6 4 rfl
theorem dL_law_513 : decode cL_law 513 = .ok (.if_icmp .eq 1179, 3) := dcO tk_L_law_6 5 rfl
theorem dL_law_516 : decode cL_law 516 = .ok (.iconst 0, 1) := dcO tk_L_law_6 6 rfl
theorem dL_law_517 : decode cL_law 517 = .ok (.ireturn, 1) := dcO tk_L_law_6 7 rfl
theorem dL_law_518 : decode cL_law 518 = .ok (.aload_n 1, 1) := dcO tk_L_law_6 8 rfl
theorem dL_law_519 : decode cL_law 519 = .ok (.aload_n 0, 1) := dcO tk_L_law_6 9 rfl
theorem dL_law_520 : decode cL_law 520 = .ok (.iload_n 3, 1) := dcO tk_L_law_6 10 rfl
theorem dL_law_521 : decode cL_law 521 = .ok (.iconst 1, 1) := dcO tk_L_law_6 11 rfl
theorem dL_law_522 : decode cL_law 522 = .ok (.iadd, 1) := dcO tk_L_law_6 12 rfl
theorem dL_law_523 : decode cL_law 523 = .ok (.iaload, 1) := dcO tk_L_law_6 13 rfl
theorem dL_law_524 : decode cL_law 524 = .ok (.aload_n 0, 1) := dcO tk_L_law_6 14 rfl
theorem dL_law_525 : decode cL_law 525 = .ok (.iload_n 3, 1) := dcO tk_L_law_6 15 rfl
theorem dL_law_526 : decode cL_law 526 = .ok (.iconst 2, 1) := dcO tk_L_law_6 16 rfl
theorem dL_law_527 : decode cL_law 527 = .ok (.iadd, 1) := dcO tk_L_law_6 17 rfl
theorem dL_law_528 : decode cL_law 528 = .ok (.iaload, 1) := dcO tk_L_law_6 18 rfl
theorem dL_law_529 : decode cL_law 529 = .ok (.invokevirtual 47, 3) := dcO tk_L_law_6 19 rfl
theorem dL_law_532 : decode cL_law 532 = .ok (.aload_n 2, 1) := dcO tk_L_law_6 20 rfl
theorem dL_law_533 : decode cL_law 533 = .ok (.aload_n 0, 1) := dcO tk_L_law_6 21 rfl
theorem dL_law_534 : decode cL_law 534 = .ok (.iload_n 3, 1) := dcO tk_L_law_6 22 rfl
theorem dL_law_535 : decode cL_law 535 = .ok (.iconst 1, 1) := dcO tk_L_law_6 23 rfl
theorem dL_law_536 : decode cL_law 536 = .ok (.iadd, 1) := dcO tk_L_law_6 24 rfl
theorem dL_law_537 : decode cL_law 537 = .ok (.iaload, 1) := dcO tk_L_law_6 25 rfl
theorem dL_law_538 : decode cL_law 538 = .ok (.aload_n 0, 1) := dcO tk_L_law_6 26 rfl
theorem dL_law_539 : decode cL_law 539 = .ok (.iload_n 3, 1) := dcO tk_L_law_6 27 rfl
theorem dL_law_540 : decode cL_law 540 = .ok (.iconst 2, 1) := dcO tk_L_law_6 28 rfl
theorem dL_law_541 : decode cL_law 541 = .ok (.iadd, 1) := dcO tk_L_law_6 29 rfl
theorem dL_law_542 : decode cL_law 542 = .ok (.iaload, 1) := dcO tk_L_law_6 30 rfl
theorem dL_law_543 : decode cL_law 543 = .ok (.invokevirtual 50, 3) := dcO tk_L_law_6 31 rfl
theorem dL_law_546 : decode cL_law 546 = .ok (.if_icmp .eq 1146, 3) := dcO tk_L_law_6 32 rfl
theorem dL_law_549 : decode cL_law 549 = .ok (.iconst 0, 1) := dcO tk_L_law_6 33 rfl
theorem dL_law_550 : decode cL_law 550 = .ok (.ireturn, 1) := dcO tk_L_law_6 34 rfl
theorem dL_law_551 : decode cL_law 551 = .ok (.aload_n 1, 1) := dcO tk_L_law_6 35 rfl
theorem dL_law_552 : decode cL_law 552 = .ok (.aload_n 0, 1) := dcO tk_L_law_6 36 rfl
theorem dL_law_553 : decode cL_law 553 = .ok (.iload_n 3, 1) := dcO tk_L_law_6 37 rfl
theorem dL_law_554 : decode cL_law 554 = .ok (.iconst 1, 1) := dcO tk_L_law_6 38 rfl
theorem dL_law_555 : decode cL_law 555 = .ok (.iadd, 1) := dcO tk_L_law_6 39 rfl
abbrev tb_L_law_7 : List (Nat × Instr × Nat) := [(556, .iaload, 1), (557, .invokevirtual 51, 3), (560, .aload_n 2, 1), (561, .aload_n 0, 1), (562, .iload_n 3, 1), (563, .iconst 1, 1), (564, .iadd, 1), (565, .iaload, 1), (566, .invokevirtual 55, 3), (569, .if_icmp .eq 1123, 3), (572, .iconst 0, 1), (573, .ireturn, 1), (574, .aload_n 1, 1), (575, .aload_n 0, 1), (576, .iload_n 3, 1), (577, .iconst 1, 1), (578, .iadd, 1), (579, .iaload, 1), (580, .invokevirtual 56, 3), (583, .aload_n 2, 1), (584, .aload_n 0, 1), (585, .iload_n 3, 1), (586, .iconst 1, 1), (587, .iadd, 1), (588, .iaload, 1), (589, .invokevirtual 59, 3), (592, .if_icmp .eq 1100, 3), (595, .iconst 0, 1), (596, .ireturn, 1), (597, .aload_n 1, 1), (598, .aload_n 0, 1), (599, .iload_n 3, 1), (600, .iconst 1, 1), (601, .iadd, 1), (602, .iaload, 1), (603, .invokevirtual 60, 3), (606, .aload_n 2, 1), (607, .aload_n 0, 1), (608, .iload_n 3, 1), (609, .iconst 1, 1)]
theorem tk_L_law_7 : dcA cL_law tb_L_law_7 = true := by decide +kernel
theorem dL_law_556 : decode cL_law 556 = .ok (.iaload, 1) := dcO tk_L_law_7 0 rfl
theorem dL_law_557 : decode cL_law 557 = .ok (.invokevirtual 51, 3) := dcO tk_L_law_7 1 rfl
theorem dL_law_560 : decode cL_law 560 = .ok (.aload_n 2, 1) := dcO tk_L_law_7 2 rfl
theorem dL_law_561 : decode cL_law 561 = .ok (.aload_n 0, 1) := dcO tk_L_law_7 3 rfl
theorem dL_law_562 : decode cL_law 562 = .ok (.iload_n 3, 1) := dcO tk_L_law_7 4 rfl
theorem dL_law_563 : decode cL_law 563 = .ok (.iconst 1, 1) := dcO tk_L_law_7 5 rfl
theorem dL_law_564 : decode cL_law 564 = .ok (.iadd, 1) := dcO tk_L_law_7 6 rfl
theorem dL_law_565 : decode cL_law 565 = .ok (.iaload, 1) := dcO tk_L_law_7 7 rfl
theorem dL_law_566 : decode cL_law 566 = .ok (.invokevirtual 55, 3) := dcO tk_L_law_7 8 rfl
theorem dL_law_569 : decode cL_law 569 = .ok (.if_icmp .eq 1123, 3) := dcO tk_L_law_7 9 rfl
theorem dL_law_572 : decode cL_law 572 = .ok (.iconst 0, 1) := dcO tk_L_law_7 10 rfl
theorem dL_law_573 : decode cL_law 573 = .ok (.ireturn, 1) := dcO tk_L_law_7 11 rfl
theorem dL_law_574 : decode cL_law 574 = .ok (.aload_n 1, 1) := dcO tk_L_law_7 12 rfl
theorem dL_law_575 : decode cL_law 575 = .ok (.aload_n 0, 1) := dcO tk_L_law_7 13 rfl
theorem dL_law_576 : decode cL_law 576 = .ok (.iload_n 3, 1) := dcO tk_L_law_7 14 rfl
theorem dL_law_577 : decode cL_law 577 = .ok (.iconst 1, 1) := dcO tk_L_law_7 15 rfl
theorem dL_law_578 : decode cL_law 578 = .ok (.iadd, 1) := dcO tk_L_law_7 16 rfl
theorem dL_law_579 : decode cL_law 579 = .ok (.iaload, 1) := dcO tk_L_law_7 17 rfl
theorem dL_law_580 : decode cL_law 580 = .ok (.invokevirtual 56, 3) := dcO tk_L_law_7 18 rfl
theorem dL_law_583 : decode cL_law 583 = .ok (.aload_n 2, 1) := dcO tk_L_law_7 19 rfl
theorem dL_law_584 : decode cL_law 584 = .ok (.aload_n 0, 1) := dcO tk_L_law_7 20 rfl
theorem dL_law_585 : decode cL_law 585 = .ok (.iload_n 3, 1) := dcO tk_L_law_7 21 rfl
theorem dL_law_586 : decode cL_law 586 = .ok (.iconst 1, 1) := dcO tk_L_law_7 22 rfl
theorem dL_law_587 : decode cL_law 587 = .ok (.iadd, 1) := dcO tk_L_law_7 23 rfl
theorem dL_law_588 : decode cL_law 588 = .ok (.iaload, 1) := dcO tk_L_law_7 24 rfl
theorem dL_law_589 : decode cL_law 589 = .ok (.invokevirtual 59, 3) := dcO tk_L_law_7 25 rfl
theorem dL_law_592 : decode cL_law 592 = .ok (.if_icmp .eq 1100, 3) := dcO tk_L_law_7 26 rfl
theorem dL_law_595 : decode cL_law 595 = .ok (.iconst 0, 1) := dcO tk_L_law_7 27 rfl
theorem dL_law_596 : decode cL_law 596 = .ok (.ireturn, 1) := dcO tk_L_law_7 28 rfl
theorem dL_law_597 : decode cL_law 597 = .ok (.aload_n 1, 1) := dcO tk_L_law_7 29 rfl
theorem dL_law_598 : decode cL_law 598 = .ok (.aload_n 0, 1) := dcO tk_L_law_7 30 rfl
theorem dL_law_599 : decode cL_law 599 = .ok (.iload_n 3, 1) := dcO tk_L_law_7 31 rfl
theorem dL_law_600 : decode cL_law 600 = .ok (.iconst 1, 1) := dcO tk_L_law_7 32 rfl
theorem dL_law_601 : decode cL_law 601 = .ok (.iadd, 1) := dcO tk_L_law_7 33 rfl
theorem dL_law_602 : decode cL_law 602 = .ok (.iaload, 1) := dcO tk_L_law_7 34 rfl
theorem dL_law_603 : decode cL_law 603 = .ok (.invokevirtual 60, 3) := dcO tk_L_law_7 35 rfl
theorem dL_law_606 : decode cL_law 606 = .ok (.aload_n 2, 1) := dcO tk_L_law_7 36 rfl
theorem dL_law_607 : decode cL_law 607 = .ok (.aload_n 0, 1) := dcO tk_L_law_7 37 rfl
theorem dL_law_608 : decode cL_law 608 = .ok (.iload_n 3, 1) := dcO tk_L_law_7 38 rfl
theorem dL_law_609 : decode cL_law 609 = .ok (.iconst 1, 1) := dcO tk_L_law_7 39 rfl
abbrev tb_L_law_8 : List (Nat × Instr × Nat) := [(610, .iadd, 1), (611, .iaload, 1), (612, .invokevirtual 63, 3), (615, .if_icmp .eq 1077, 3), (618, .iconst 0, 1), (619, .ireturn, 1), (620, .aload_n 1, 1), (621, .invokevirtual 64, 3), (624, .aload_n 2, 1), (625, .invokevirtual 68, 3), (628, .if_icmp .eq 1064, 3), (631, .iconst 0, 1), (632, .ireturn, 1), (633, .aload_n 1, 1), (634, .aload_n 0, 1), (635, .iload_n 3, 1), (636, .iconst 1, 1), (637, .iadd, 1), (638, .iaload, 1), (639, .aload_n 0, 1), (640, .iload_n 3, 1), (641, .iconst 2, 1), (642, .iadd, 1), (643, .iaload, 1), (644, .invokevirtual 69, 3), (647, .aload_n 2, 1), (648, .aload_n 0, 1), (649, .iload_n 3, 1), (650, .iconst 1, 1), (651, .iadd, 1), (652, .iaload, 1), (653, .aload_n 0, 1), (654, .iload_n 3, 1), (655, .iconst 2, 1), (656, .iadd, 1), (657, .iaload, 1), (658, .invokevirtual 72, 3), (661, .if_icmp .eq 1031, 3), (664, .iconst 0, 1), (665, .ireturn, 1)]
theorem tk_L_law_8 : dcA cL_law tb_L_law_8 = true := by decide +kernel
theorem dL_law_610 : decode cL_law 610 = .ok (.iadd, 1) := dcO tk_L_law_8 0 rfl
theorem dL_law_611 : decode cL_law 611 = .ok (.iaload, 1) := dcO tk_L_law_8 1 rfl
theorem dL_law_612 : decode cL_law 612 = .ok (.invokevirtual 63, 3) := dcO tk_L_law_8 2 rfl
theorem dL_law_615 : decode cL_law 615 = .ok (.if_icmp .eq 1077, 3) := dcO tk_L_law_8 3 rfl
theorem dL_law_618 : decode cL_law 618 = .ok (.iconst 0, 1) := dcO tk_L_law_8 4 rfl
theorem dL_law_619 : decode cL_law 619 = .ok (.ireturn, 1) := dcO tk_L_law_8 5 rfl
theorem dL_law_620 : decode cL_law 620 = .ok (.aload_n 1, 1) := dcO tk_L_law_8 6 rfl
theorem dL_law_621 : decode cL_law 621 = .ok (.invokevirtual 64, 3) := dcO tk_L_law_8 7 rfl
theorem dL_law_624 : decode cL_law 624 = .ok (.aload_n 2, 1) := dcO tk_L_law_8 8 rfl
theorem dL_law_625 : decode cL_law 625 = .ok (.invokevirtual 68, 3) := dcO tk_L_law_8 9 rfl
theorem dL_law_628 : decode cL_law 628 = .ok (.if_icmp .eq 1064, 3) := dcO tk_L_law_8 10 rfl
theorem dL_law_631 : decode cL_law 631 = .ok (.iconst 0, 1) := dcO tk_L_law_8 11 rfl
theorem dL_law_632 : decode cL_law 632 = .ok (.ireturn, 1) := dcO tk_L_law_8 12 rfl
theorem dL_law_633 : decode cL_law 633 = .ok (.aload_n 1, 1) := dcO tk_L_law_8 13 rfl
theorem dL_law_634 : decode cL_law 634 = .ok (.aload_n 0, 1) := dcO tk_L_law_8 14 rfl
theorem dL_law_635 : decode cL_law 635 = .ok (.iload_n 3, 1) := dcO tk_L_law_8 15 rfl
theorem dL_law_636 : decode cL_law 636 = .ok (.iconst 1, 1) := dcO tk_L_law_8 16 rfl
theorem dL_law_637 : decode cL_law 637 = .ok (.iadd, 1) := dcO tk_L_law_8 17 rfl
theorem dL_law_638 : decode cL_law 638 = .ok (.iaload, 1) := dcO tk_L_law_8 18 rfl
theorem dL_law_639 : decode cL_law 639 = .ok (.aload_n 0, 1) := dcO tk_L_law_8 19 rfl
theorem dL_law_640 : decode cL_law 640 = .ok (.iload_n 3, 1) := dcO tk_L_law_8 20 rfl
theorem dL_law_641 : decode cL_law 641 = .ok (.iconst 2, 1) := dcO tk_L_law_8 21 rfl
theorem dL_law_642 : decode cL_law 642 = .ok (.iadd, 1) := dcO tk_L_law_8 22 rfl
theorem dL_law_643 : decode cL_law 643 = .ok (.iaload, 1) := dcO tk_L_law_8 23 rfl
theorem dL_law_644 : decode cL_law 644 = .ok (.invokevirtual 69, 3) := dcO tk_L_law_8 24 rfl
theorem dL_law_647 : decode cL_law 647 = .ok (.aload_n 2, 1) := dcO tk_L_law_8 25 rfl
theorem dL_law_648 : decode cL_law 648 = .ok (.aload_n 0, 1) := dcO tk_L_law_8 26 rfl
theorem dL_law_649 : decode cL_law 649 = .ok (.iload_n 3, 1) := dcO tk_L_law_8 27 rfl
theorem dL_law_650 : decode cL_law 650 = .ok (.iconst 1, 1) := dcO tk_L_law_8 28 rfl
theorem dL_law_651 : decode cL_law 651 = .ok (.iadd, 1) := dcO tk_L_law_8 29 rfl
theorem dL_law_652 : decode cL_law 652 = .ok (.iaload, 1) := dcO tk_L_law_8 30 rfl
theorem dL_law_653 : decode cL_law 653 = .ok (.aload_n 0, 1) := dcO tk_L_law_8 31 rfl
theorem dL_law_654 : decode cL_law 654 = .ok (.iload_n 3, 1) := dcO tk_L_law_8 32 rfl
theorem dL_law_655 : decode cL_law 655 = .ok (.iconst 2, 1) := dcO tk_L_law_8 33 rfl
theorem dL_law_656 : decode cL_law 656 = .ok (.iadd, 1) := dcO tk_L_law_8 34 rfl
theorem dL_law_657 : decode cL_law 657 = .ok (.iaload, 1) := dcO tk_L_law_8 35 rfl
theorem dL_law_658 : decode cL_law 658 = .ok (.invokevirtual 72, 3) := dcO tk_L_law_8 36 rfl
theorem dL_law_661 : decode cL_law 661 = .ok (.if_icmp .eq 1031, 3) := dcO tk_L_law_8 37 rfl
theorem dL_law_664 : decode cL_law 664 = .ok (.iconst 0, 1) := dcO tk_L_law_8 38 rfl
theorem dL_law_665 : decode cL_law 665 = .ok (.ireturn, 1) := dcO tk_L_law_8 39 rfl
abbrev tb_L_law_9 : List (Nat × Instr × Nat) := [(666, .aload_n 1, 1), (667, .aload_n 0, 1), (668, .iload_n 3, 1), (669, .iconst 1, 1), (670, .iadd, 1), (671, .iaload, 1), (672, .invokevirtual 73, 3), (675, .aload_n 2, 1), (676, .aload_n 0, 1), (677, .iload_n 3, 1), (678, .iconst 1, 1), (679, .iadd, 1), (680, .iaload, 1), (681, .invokevirtual 76, 3), (684, .if_icmp .eq 1008, 3), (687, .iconst 0, 1), (688, .ireturn, 1), (689, .aload_n 1, 1), (690, .aload_n 0, 1), (691, .iload_n 3, 1), (692, .iconst 1, 1), (693, .iadd, 1), (694, .iaload, 1), (695, .aload_n 0, 1), (696, .iload_n 3, 1), (697, .iconst 2, 1), (698, .iadd, 1), (699, .iaload, 1), (700, .aload_n 0, 1), (701, .iload_n 3, 1), (702, .iconst 3, 1), (703, .iadd, 1), (704, .iaload, 1), (705, .invokevirtual 77, 3), (708, .aload_n 2, 1), (709, .aload_n 0, 1), (710, .iload_n 3, 1), (711, .iconst 1, 1), (712, .iadd, 1), (713, .iaload, 1)]
theorem tk_L_law_9 : dcA cL_law tb_L_law_9 = true := by decide +kernel
theorem dL_law_666 : decode cL_law 666 = .ok (.aload_n 1, 1) := dcO tk_L_law_9 0 rfl
theorem dL_law_667 : decode cL_law 667 = .ok (.aload_n 0, 1) := dcO tk_L_law_9 1 rfl
theorem dL_law_668 : decode cL_law 668 = .ok (.iload_n 3, 1) := dcO tk_L_law_9 2 rfl
theorem dL_law_669 : decode cL_law 669 = .ok (.iconst 1, 1) := dcO tk_L_law_9 3 rfl
theorem dL_law_670 : decode cL_law 670 = .ok (.iadd, 1) := dcO tk_L_law_9 4 rfl
theorem dL_law_671 : decode cL_law 671 = .ok (.iaload, 1) := dcO tk_L_law_9 5 rfl
theorem dL_law_672 : decode cL_law 672 = .ok (.invokevirtual 73, 3) := dcO tk_L_law_9 6 rfl
theorem dL_law_675 : decode cL_law 675 = .ok (.aload_n 2, 1) := dcO tk_L_law_9 7 rfl
theorem dL_law_676 : decode cL_law 676 = .ok (.aload_n 0, 1) := dcO tk_L_law_9 8 rfl
theorem dL_law_677 : decode cL_law 677 = .ok (.iload_n 3, 1) := dcO tk_L_law_9 9 rfl
theorem dL_law_678 : decode cL_law 678 = .ok (.iconst 1, 1) := dcO tk_L_law_9 10 rfl
theorem dL_law_679 : decode cL_law 679 = .ok (.iadd, 1) := dcO tk_L_law_9 11 rfl
theorem dL_law_680 : decode cL_law 680 = .ok (.iaload, 1) := dcO tk_L_law_9 12 rfl
theorem dL_law_681 : decode cL_law 681 = .ok (.invokevirtual 76, 3) := dcO tk_L_law_9 13 rfl
theorem dL_law_684 : decode cL_law 684 = .ok (.if_icmp .eq 1008, 3) := dcO tk_L_law_9 14 rfl
theorem dL_law_687 : decode cL_law 687 = .ok (.iconst 0, 1) := dcO tk_L_law_9 15 rfl
theorem dL_law_688 : decode cL_law 688 = .ok (.ireturn, 1) := dcO tk_L_law_9 16 rfl
theorem dL_law_689 : decode cL_law 689 = .ok (.aload_n 1, 1) := dcO tk_L_law_9 17 rfl
theorem dL_law_690 : decode cL_law 690 = .ok (.aload_n 0, 1) := dcO tk_L_law_9 18 rfl
theorem dL_law_691 : decode cL_law 691 = .ok (.iload_n 3, 1) := dcO tk_L_law_9 19 rfl
theorem dL_law_692 : decode cL_law 692 = .ok (.iconst 1, 1) := dcO tk_L_law_9 20 rfl
theorem dL_law_693 : decode cL_law 693 = .ok (.iadd, 1) := dcO tk_L_law_9 21 rfl
theorem dL_law_694 : decode cL_law 694 = .ok (.iaload, 1) := dcO tk_L_law_9 22 rfl
theorem dL_law_695 : decode cL_law 695 = .ok (.aload_n 0, 1) := dcO tk_L_law_9 23 rfl
theorem dL_law_696 : decode cL_law 696 = .ok (.iload_n 3, 1) := dcO tk_L_law_9 24 rfl
theorem dL_law_697 : decode cL_law 697 = .ok (.iconst 2, 1) := dcO tk_L_law_9 25 rfl
theorem dL_law_698 : decode cL_law 698 = .ok (.iadd, 1) := dcO tk_L_law_9 26 rfl
theorem dL_law_699 : decode cL_law 699 = .ok (.iaload, 1) := dcO tk_L_law_9 27 rfl
theorem dL_law_700 : decode cL_law 700 = .ok (.aload_n 0, 1) := dcO tk_L_law_9 28 rfl
theorem dL_law_701 : decode cL_law 701 = .ok (.iload_n 3, 1) := dcO tk_L_law_9 29 rfl
theorem dL_law_702 : decode cL_law 702 = .ok (.iconst 3, 1) := dcO tk_L_law_9 30 rfl
theorem dL_law_703 : decode cL_law 703 = .ok (.iadd, 1) := dcO tk_L_law_9 31 rfl
theorem dL_law_704 : decode cL_law 704 = .ok (.iaload, 1) := dcO tk_L_law_9 32 rfl
theorem dL_law_705 : decode cL_law 705 = .ok (.invokevirtual 77, 3) := dcO tk_L_law_9 33 rfl
theorem dL_law_708 : decode cL_law 708 = .ok (.aload_n 2, 1) := dcO tk_L_law_9 34 rfl
theorem dL_law_709 : decode cL_law 709 = .ok (.aload_n 0, 1) := dcO tk_L_law_9 35 rfl
theorem dL_law_710 : decode cL_law 710 = .ok (.iload_n 3, 1) := dcO tk_L_law_9 36 rfl
theorem dL_law_711 : decode cL_law 711 = .ok (.iconst 1, 1) := dcO tk_L_law_9 37 rfl
theorem dL_law_712 : decode cL_law 712 = .ok (.iadd, 1) := dcO tk_L_law_9 38 rfl
theorem dL_law_713 : decode cL_law 713 = .ok (.iaload, 1) := dcO tk_L_law_9 39 rfl
abbrev tb_L_law_10 : List (Nat × Instr × Nat) := [(714, .aload_n 0, 1), (715, .iload_n 3, 1), (716, .iconst 2, 1), (717, .iadd, 1), (718, .iaload, 1), (719, .aload_n 0, 1), (720, .iload_n 3, 1), (721, .iconst 3, 1), (722, .iadd, 1), (723, .iaload, 1), (724, .invokevirtual 80, 3), (727, .if_icmp .eq 965, 3), (730, .iconst 0, 1), (731, .ireturn, 1), (732, .aload_n 1, 1), (733, .invokevirtual 81, 3), (736, .aload_n 2, 1), (737, .invokevirtual 84, 3), (740, .if_icmp .eq 952, 3), (743, .iconst 0, 1), (744, .ireturn, 1), (745, .aload_n 1, 1), (746, .aload_n 0, 1), (747, .iload_n 3, 1), (748, .iconst 1, 1), (749, .iadd, 1), (750, .iaload, 1), (751, .aload_n 0, 1), (752, .iload_n 3, 1), (753, .iconst 2, 1), (754, .iadd, 1), (755, .iaload, 1), (756, .invokevirtual 85, 3), (759, .aload_n 2, 1), (760, .aload_n 0, 1), (761, .iload_n 3, 1), (762, .iconst 1, 1), (763, .iadd, 1), (764, .iaload, 1), (765, .aload_n 0, 1)]
theorem tk_L_law_10 : dcA cL_law tb_L_law_10 = true := by decide +kernel
theorem dL_law_714 : decode cL_law 714 = .ok (.aload_n 0, 1) := dcO tk_L_law_10 0 rfl
theorem dL_law_715 : decode cL_law 715 = .ok (.iload_n 3, 1) := dcO tk_L_law_10 1 rfl
theorem dL_law_716 : decode cL_law 716 = .ok (.iconst 2, 1) := dcO tk_L_law_10 2 rfl
theorem dL_law_717 : decode cL_law 717 = .ok (.iadd, 1) := dcO tk_L_law_10 3 rfl
theorem dL_law_718 : decode cL_law 718 = .ok (.iaload, 1) := dcO tk_L_law_10 4 rfl
theorem dL_law_719 : decode cL_law 719 = .ok (.aload_n 0, 1) := dcO tk_L_law_10 5 rfl
theorem dL_law_720 : decode cL_law 720 = .ok (.iload_n 3, 1) := dcO tk_L_law_10 6 rfl
theorem dL_law_721 : decode cL_law 721 = .ok (.iconst 3, 1) := dcO tk_L_law_10 7 rfl
theorem dL_law_722 : decode cL_law 722 = .ok (.iadd, 1) := dcO tk_L_law_10 8 rfl
theorem dL_law_723 : decode cL_law 723 = .ok (.iaload, 1) := dcO tk_L_law_10 9 rfl
theorem dL_law_724 : decode cL_law 724 = .ok (.invokevirtual 80, 3) := dcO tk_L_law_10 10 rfl
theorem dL_law_727 : decode cL_law 727 = .ok (.if_icmp .eq 965, 3) := dcO tk_L_law_10 11 rfl
theorem dL_law_730 : decode cL_law 730 = .ok (.iconst 0, 1) := dcO tk_L_law_10 12 rfl
theorem dL_law_731 : decode cL_law 731 = .ok (.ireturn, 1) := dcO tk_L_law_10 13 rfl
theorem dL_law_732 : decode cL_law 732 = .ok (.aload_n 1, 1) := dcO tk_L_law_10 14 rfl
theorem dL_law_733 : decode cL_law 733 = .ok (.invokevirtual 81, 3) := dcO tk_L_law_10 15 rfl
theorem dL_law_736 : decode cL_law 736 = .ok (.aload_n 2, 1) := dcO tk_L_law_10 16 rfl
theorem dL_law_737 : decode cL_law 737 = .ok (.invokevirtual 84, 3) := dcO tk_L_law_10 17 rfl
theorem dL_law_740 : decode cL_law 740 = .ok (.if_icmp .eq 952, 3) := dcO tk_L_law_10 18 rfl
theorem dL_law_743 : decode cL_law 743 = .ok (.iconst 0, 1) := dcO tk_L_law_10 19 rfl
theorem dL_law_744 : decode cL_law 744 = .ok (.ireturn, 1) := dcO tk_L_law_10 20 rfl
theorem dL_law_745 : decode cL_law 745 = .ok (.aload_n 1, 1) := dcO tk_L_law_10 21 rfl
theorem dL_law_746 : decode cL_law 746 = .ok (.aload_n 0, 1) := dcO tk_L_law_10 22 rfl
theorem dL_law_747 : decode cL_law 747 = .ok (.iload_n 3, 1) := dcO tk_L_law_10 23 rfl
theorem dL_law_748 : decode cL_law 748 = .ok (.iconst 1, 1) := dcO tk_L_law_10 24 rfl
theorem dL_law_749 : decode cL_law 749 = .ok (.iadd, 1) := dcO tk_L_law_10 25 rfl
theorem dL_law_750 : decode cL_law 750 = .ok (.iaload, 1) := dcO tk_L_law_10 26 rfl
theorem dL_law_751 : decode cL_law 751 = .ok (.aload_n 0, 1) := dcO tk_L_law_10 27 rfl
theorem dL_law_752 : decode cL_law 752 = .ok (.iload_n 3, 1) := dcO tk_L_law_10 28 rfl
theorem dL_law_753 : decode cL_law 753 = .ok (.iconst 2, 1) := dcO tk_L_law_10 29 rfl
theorem dL_law_754 : decode cL_law 754 = .ok (.iadd, 1) := dcO tk_L_law_10 30 rfl
theorem dL_law_755 : decode cL_law 755 = .ok (.iaload, 1) := dcO tk_L_law_10 31 rfl
theorem dL_law_756 : decode cL_law 756 = .ok (.invokevirtual 85, 3) := dcO tk_L_law_10 32 rfl
theorem dL_law_759 : decode cL_law 759 = .ok (.aload_n 2, 1) := dcO tk_L_law_10 33 rfl
theorem dL_law_760 : decode cL_law 760 = .ok (.aload_n 0, 1) := dcO tk_L_law_10 34 rfl
theorem dL_law_761 : decode cL_law 761 = .ok (.iload_n 3, 1) := dcO tk_L_law_10 35 rfl
theorem dL_law_762 : decode cL_law 762 = .ok (.iconst 1, 1) := dcO tk_L_law_10 36 rfl
theorem dL_law_763 : decode cL_law 763 = .ok (.iadd, 1) := dcO tk_L_law_10 37 rfl
theorem dL_law_764 : decode cL_law 764 = .ok (.iaload, 1) := dcO tk_L_law_10 38 rfl
theorem dL_law_765 : decode cL_law 765 = .ok (.aload_n 0, 1) := dcO tk_L_law_10 39 rfl
abbrev tb_L_law_11 : List (Nat × Instr × Nat) := [(766, .iload_n 3, 1), (767, .iconst 2, 1), (768, .iadd, 1), (769, .iaload, 1), (770, .invokevirtual 88, 3), (773, .if_icmp .eq 919, 3), (776, .iconst 0, 1), (777, .ireturn, 1), (778, .aload_n 1, 1), (779, .aload_n 0, 1), (780, .iload_n 3, 1), (781, .iconst 1, 1), (782, .iadd, 1), (783, .iaload, 1), (784, .aload_n 0, 1), (785, .iload_n 3, 1), (786, .iconst 2, 1), (787, .iadd, 1), (788, .iaload, 1), (789, .invokevirtual 89, 3), (792, .aload_n 2, 1), (793, .aload_n 0, 1), (794, .iload_n 3, 1), (795, .iconst 1, 1), (796, .iadd, 1), (797, .iaload, 1), (798, .aload_n 0, 1), (799, .iload_n 3, 1), (800, .iconst 2, 1), (801, .iadd, 1), (802, .iaload, 1), (803, .invokevirtual 92, 3), (806, .if_icmp .eq 886, 3), (809, .iconst 0, 1), (810, .ireturn, 1), (811, .aload_n 1, 1), (812, .aload_n 0, 1), (813, .iload_n 3, 1), (814, .iconst 1, 1), (815, .iadd, 1)]
theorem tk_L_law_11 : dcA cL_law tb_L_law_11 = true := by decide +kernel
theorem dL_law_766 : decode cL_law 766 = .ok (.iload_n 3, 1) := dcO tk_L_law_11 0 rfl
theorem dL_law_767 : decode cL_law 767 = .ok (.iconst 2, 1) := dcO tk_L_law_11 1 rfl
theorem dL_law_768 : decode cL_law 768 = .ok (.iadd, 1) := dcO tk_L_law_11 2 rfl
theorem dL_law_769 : decode cL_law 769 = .ok (.iaload, 1) := dcO tk_L_law_11 3 rfl
theorem dL_law_770 : decode cL_law 770 = .ok (.invokevirtual 88, 3) := dcO tk_L_law_11 4 rfl
theorem dL_law_773 : decode cL_law 773 = .ok (.if_icmp .eq 919, 3) := dcO tk_L_law_11 5 rfl
theorem dL_law_776 : decode cL_law 776 = .ok (.iconst 0, 1) := dcO tk_L_law_11 6 rfl
theorem dL_law_777 : decode cL_law 777 = .ok (.ireturn, 1) := dcO tk_L_law_11 7 rfl
theorem dL_law_778 : decode cL_law 778 = .ok (.aload_n 1, 1) := dcO tk_L_law_11 8 rfl
theorem dL_law_779 : decode cL_law 779 = .ok (.aload_n 0, 1) := dcO tk_L_law_11 9 rfl
theorem dL_law_780 : decode cL_law 780 = .ok (.iload_n 3, 1) := dcO tk_L_law_11 10 rfl
theorem dL_law_781 : decode cL_law 781 = .ok (.iconst 1, 1) := dcO tk_L_law_11 11 rfl
theorem dL_law_782 : decode cL_law 782 = .ok (.iadd, 1) := dcO tk_L_law_11 12 rfl
theorem dL_law_783 : decode cL_law 783 = .ok (.iaload, 1) := dcO tk_L_law_11 13 rfl
theorem dL_law_784 : decode cL_law 784 = .ok (.aload_n 0, 1) := dcO tk_L_law_11 14 rfl
theorem dL_law_785 : decode cL_law 785 = .ok (.iload_n 3, 1) := dcO tk_L_law_11 15 rfl
theorem dL_law_786 : decode cL_law 786 = .ok (.iconst 2, 1) := dcO tk_L_law_11 16 rfl
theorem dL_law_787 : decode cL_law 787 = .ok (.iadd, 1) := dcO tk_L_law_11 17 rfl
theorem dL_law_788 : decode cL_law 788 = .ok (.iaload, 1) := dcO tk_L_law_11 18 rfl
theorem dL_law_789 : decode cL_law 789 = .ok (.invokevirtual 89, 3) := dcO tk_L_law_11 19 rfl
theorem dL_law_792 : decode cL_law 792 = .ok (.aload_n 2, 1) := dcO tk_L_law_11 20 rfl
theorem dL_law_793 : decode cL_law 793 = .ok (.aload_n 0, 1) := dcO tk_L_law_11 21 rfl
theorem dL_law_794 : decode cL_law 794 = .ok (.iload_n 3, 1) := dcO tk_L_law_11 22 rfl
theorem dL_law_795 : decode cL_law 795 = .ok (.iconst 1, 1) := dcO tk_L_law_11 23 rfl
theorem dL_law_796 : decode cL_law 796 = .ok (.iadd, 1) := dcO tk_L_law_11 24 rfl
theorem dL_law_797 : decode cL_law 797 = .ok (.iaload, 1) := dcO tk_L_law_11 25 rfl
theorem dL_law_798 : decode cL_law 798 = .ok (.aload_n 0, 1) := dcO tk_L_law_11 26 rfl
theorem dL_law_799 : decode cL_law 799 = .ok (.iload_n 3, 1) := dcO tk_L_law_11 27 rfl
theorem dL_law_800 : decode cL_law 800 = .ok (.iconst 2, 1) := dcO tk_L_law_11 28 rfl
theorem dL_law_801 : decode cL_law 801 = .ok (.iadd, 1) := dcO tk_L_law_11 29 rfl
theorem dL_law_802 : decode cL_law 802 = .ok (.iaload, 1) := dcO tk_L_law_11 30 rfl
theorem dL_law_803 : decode cL_law 803 = .ok (.invokevirtual 92, 3) := dcO tk_L_law_11 31 rfl
theorem dL_law_806 : decode cL_law 806 = .ok (.if_icmp .eq 886, 3) := dcO tk_L_law_11 32 rfl
theorem dL_law_809 : decode cL_law 809 = .ok (.iconst 0, 1) := dcO tk_L_law_11 33 rfl
theorem dL_law_810 : decode cL_law 810 = .ok (.ireturn, 1) := dcO tk_L_law_11 34 rfl
theorem dL_law_811 : decode cL_law 811 = .ok (.aload_n 1, 1) := dcO tk_L_law_11 35 rfl
theorem dL_law_812 : decode cL_law 812 = .ok (.aload_n 0, 1) := dcO tk_L_law_11 36 rfl
theorem dL_law_813 : decode cL_law 813 = .ok (.iload_n 3, 1) := dcO tk_L_law_11 37 rfl
theorem dL_law_814 : decode cL_law 814 = .ok (.iconst 1, 1) := dcO tk_L_law_11 38 rfl
theorem dL_law_815 : decode cL_law 815 = .ok (.iadd, 1) := dcO tk_L_law_11 39 rfl
abbrev tb_L_law_12 : List (Nat × Instr × Nat) := [(816, .iaload, 1), (817, .aload_n 0, 1), (818, .iload_n 3, 1), (819, .iconst 2, 1), (820, .iadd, 1), (821, .iaload, 1), (822, .invokevirtual 93, 3), (825, .aload_n 2, 1), (826, .aload_n 0, 1), (827, .iload_n 3, 1), (828, .iconst 1, 1), (829, .iadd, 1), (830, .iaload, 1), (831, .aload_n 0, 1), (832, .iload_n 3, 1), (833, .iconst 2, 1), (834, .iadd, 1), (835, .iaload, 1), (836, .invokevirtual 96, 3), (839, .if_icmp .eq 853, 3), (842, .iconst 0, 1), (843, .ireturn, 1), (844, .aload_n 1, 1), (845, .aload_n 0, 1), (846, .iload_n 3, 1), (847, .iconst 1, 1), (848, .iadd, 1), (849, .iaload, 1), (850, .aload_n 0, 1), (851, .iload_n 3, 1), (852, .iconst 2, 1), (853, .iadd, 1), (854, .iaload, 1), (855, .invokevirtual 97, 3), (858, .aload_n 2, 1), (859, .aload_n 0, 1), (860, .iload_n 3, 1), (861, .iconst 1, 1), (862, .iadd, 1), (863, .iaload, 1)]
theorem tk_L_law_12 : dcA cL_law tb_L_law_12 = true := by decide +kernel
theorem dL_law_816 : decode cL_law 816 = .ok (.iaload, 1) := dcO tk_L_law_12 0 rfl
theorem dL_law_817 : decode cL_law 817 = .ok (.aload_n 0, 1) := dcO tk_L_law_12 1 rfl
theorem dL_law_818 : decode cL_law 818 = .ok (.iload_n 3, 1) := dcO tk_L_law_12 2 rfl
theorem dL_law_819 : decode cL_law 819 = .ok (.iconst 2, 1) := dcO tk_L_law_12 3 rfl
theorem dL_law_820 : decode cL_law 820 = .ok (.iadd, 1) := dcO tk_L_law_12 4 rfl
theorem dL_law_821 : decode cL_law 821 = .ok (.iaload, 1) := dcO tk_L_law_12 5 rfl
theorem dL_law_822 : decode cL_law 822 = .ok (.invokevirtual 93, 3) := dcO tk_L_law_12 6 rfl
theorem dL_law_825 : decode cL_law 825 = .ok (.aload_n 2, 1) := dcO tk_L_law_12 7 rfl
theorem dL_law_826 : decode cL_law 826 = .ok (.aload_n 0, 1) := dcO tk_L_law_12 8 rfl
theorem dL_law_827 : decode cL_law 827 = .ok (.iload_n 3, 1) := dcO tk_L_law_12 9 rfl
theorem dL_law_828 : decode cL_law 828 = .ok (.iconst 1, 1) := dcO tk_L_law_12 10 rfl
theorem dL_law_829 : decode cL_law 829 = .ok (.iadd, 1) := dcO tk_L_law_12 11 rfl
theorem dL_law_830 : decode cL_law 830 = .ok (.iaload, 1) := dcO tk_L_law_12 12 rfl
theorem dL_law_831 : decode cL_law 831 = .ok (.aload_n 0, 1) := dcO tk_L_law_12 13 rfl
theorem dL_law_832 : decode cL_law 832 = .ok (.iload_n 3, 1) := dcO tk_L_law_12 14 rfl
theorem dL_law_833 : decode cL_law 833 = .ok (.iconst 2, 1) := dcO tk_L_law_12 15 rfl
theorem dL_law_834 : decode cL_law 834 = .ok (.iadd, 1) := dcO tk_L_law_12 16 rfl
theorem dL_law_835 : decode cL_law 835 = .ok (.iaload, 1) := dcO tk_L_law_12 17 rfl
theorem dL_law_836 : decode cL_law 836 = .ok (.invokevirtual 96, 3) := dcO tk_L_law_12 18 rfl
theorem dL_law_839 : decode cL_law 839 = .ok (.if_icmp .eq 853, 3) := dcO tk_L_law_12 19 rfl
theorem dL_law_842 : decode cL_law 842 = .ok (.iconst 0, 1) := dcO tk_L_law_12 20 rfl
theorem dL_law_843 : decode cL_law 843 = .ok (.ireturn, 1) := dcO tk_L_law_12 21 rfl
theorem dL_law_844 : decode cL_law 844 = .ok (.aload_n 1, 1) := dcO tk_L_law_12 22 rfl
theorem dL_law_845 : decode cL_law 845 = .ok (.aload_n 0, 1) := dcO tk_L_law_12 23 rfl
theorem dL_law_846 : decode cL_law 846 = .ok (.iload_n 3, 1) := dcO tk_L_law_12 24 rfl
theorem dL_law_847 : decode cL_law 847 = .ok (.iconst 1, 1) := dcO tk_L_law_12 25 rfl
theorem dL_law_848 : decode cL_law 848 = .ok (.iadd, 1) := dcO tk_L_law_12 26 rfl
theorem dL_law_849 : decode cL_law 849 = .ok (.iaload, 1) := dcO tk_L_law_12 27 rfl
theorem dL_law_850 : decode cL_law 850 = .ok (.aload_n 0, 1) := dcO tk_L_law_12 28 rfl
theorem dL_law_851 : decode cL_law 851 = .ok (.iload_n 3, 1) := dcO tk_L_law_12 29 rfl
theorem dL_law_852 : decode cL_law 852 = .ok (.iconst 2, 1) := dcO tk_L_law_12 30 rfl
theorem dL_law_853 : decode cL_law 853 = .ok (.iadd, 1) := dcO tk_L_law_12 31 rfl
theorem dL_law_854 : decode cL_law 854 = .ok (.iaload, 1) := dcO tk_L_law_12 32 rfl
theorem dL_law_855 : decode cL_law 855 = .ok (.invokevirtual 97, 3) := dcO tk_L_law_12 33 rfl
theorem dL_law_858 : decode cL_law 858 = .ok (.aload_n 2, 1) := dcO tk_L_law_12 34 rfl
theorem dL_law_859 : decode cL_law 859 = .ok (.aload_n 0, 1) := dcO tk_L_law_12 35 rfl
theorem dL_law_860 : decode cL_law 860 = .ok (.iload_n 3, 1) := dcO tk_L_law_12 36 rfl
theorem dL_law_861 : decode cL_law 861 = .ok (.iconst 1, 1) := dcO tk_L_law_12 37 rfl
theorem dL_law_862 : decode cL_law 862 = .ok (.iadd, 1) := dcO tk_L_law_12 38 rfl
theorem dL_law_863 : decode cL_law 863 = .ok (.iaload, 1) := dcO tk_L_law_12 39 rfl
abbrev tb_L_law_13 : List (Nat × Instr × Nat) := [(864, .aload_n 0, 1), (865, .iload_n 3, 1), (866, .iconst 2, 1), (867, .iadd, 1), (868, .iaload, 1), (869, .invokevirtual 100, 3), (872, .if_icmp .eq 820, 3), (875, .iconst 0, 1), (876, .ireturn, 1), (877, .aload_n 1, 1), (878, .aload_n 0, 1), (879, .iload_n 3, 1), (880, .iconst 1, 1), (881, .iadd, 1), (882, .iaload, 1), (883, .invokevirtual 101, 3), (886, .aload_n 2, 1), (887, .aload_n 0, 1), (888, .iload_n 3, 1), (889, .iconst 1, 1), (890, .iadd, 1), (891, .iaload, 1), (892, .invokevirtual 104, 3), (895, .if_icmp .eq 797, 3), (898, .iconst 0, 1), (899, .ireturn, 1), (900, .aload_n 1, 1), (901, .aload_n 0, 1), (902, .iload_n 3, 1), (903, .iconst 1, 1), (904, .iadd, 1), (905, .iaload, 1), (906, .invokevirtual 105, 3), (909, .aload_n 2, 1), (910, .aload_n 0, 1), (911, .iload_n 3, 1), (912, .iconst 1, 1), (913, .iadd, 1), (914, .iaload, 1), (915, .invokevirtual 108, 3)]
theorem tk_L_law_13 : dcA cL_law tb_L_law_13 = true := by decide +kernel
theorem dL_law_864 : decode cL_law 864 = .ok (.aload_n 0, 1) := dcO tk_L_law_13 0 rfl
theorem dL_law_865 : decode cL_law 865 = .ok (.iload_n 3, 1) := dcO tk_L_law_13 1 rfl
theorem dL_law_866 : decode cL_law 866 = .ok (.iconst 2, 1) := dcO tk_L_law_13 2 rfl
theorem dL_law_867 : decode cL_law 867 = .ok (.iadd, 1) := dcO tk_L_law_13 3 rfl
theorem dL_law_868 : decode cL_law 868 = .ok (.iaload, 1) := dcO tk_L_law_13 4 rfl
theorem dL_law_869 : decode cL_law 869 = .ok (.invokevirtual 100, 3) := dcO tk_L_law_13 5 rfl
theorem dL_law_872 : decode cL_law 872 = .ok (.if_icmp .eq 820, 3) := dcO tk_L_law_13 6 rfl
theorem dL_law_875 : decode cL_law 875 = .ok (.iconst 0, 1) := dcO tk_L_law_13 7 rfl
theorem dL_law_876 : decode cL_law 876 = .ok (.ireturn, 1) := dcO tk_L_law_13 8 rfl
theorem dL_law_877 : decode cL_law 877 = .ok (.aload_n 1, 1) := dcO tk_L_law_13 9 rfl
theorem dL_law_878 : decode cL_law 878 = .ok (.aload_n 0, 1) := dcO tk_L_law_13 10 rfl
theorem dL_law_879 : decode cL_law 879 = .ok (.iload_n 3, 1) := dcO tk_L_law_13 11 rfl
theorem dL_law_880 : decode cL_law 880 = .ok (.iconst 1, 1) := dcO tk_L_law_13 12 rfl
theorem dL_law_881 : decode cL_law 881 = .ok (.iadd, 1) := dcO tk_L_law_13 13 rfl
theorem dL_law_882 : decode cL_law 882 = .ok (.iaload, 1) := dcO tk_L_law_13 14 rfl
theorem dL_law_883 : decode cL_law 883 = .ok (.invokevirtual 101, 3) := dcO tk_L_law_13 15 rfl
theorem dL_law_886 : decode cL_law 886 = .ok (.aload_n 2, 1) := dcO tk_L_law_13 16 rfl
theorem dL_law_887 : decode cL_law 887 = .ok (.aload_n 0, 1) := dcO tk_L_law_13 17 rfl
theorem dL_law_888 : decode cL_law 888 = .ok (.iload_n 3, 1) := dcO tk_L_law_13 18 rfl
theorem dL_law_889 : decode cL_law 889 = .ok (.iconst 1, 1) := dcO tk_L_law_13 19 rfl
theorem dL_law_890 : decode cL_law 890 = .ok (.iadd, 1) := dcO tk_L_law_13 20 rfl
theorem dL_law_891 : decode cL_law 891 = .ok (.iaload, 1) := dcO tk_L_law_13 21 rfl
theorem dL_law_892 : decode cL_law 892 = .ok (.invokevirtual 104, 3) := dcO tk_L_law_13 22 rfl
theorem dL_law_895 : decode cL_law 895 = .ok (.if_icmp .eq 797, 3) := dcO tk_L_law_13 23 rfl
theorem dL_law_898 : decode cL_law 898 = .ok (.iconst 0, 1) := dcO tk_L_law_13 24 rfl
theorem dL_law_899 : decode cL_law 899 = .ok (.ireturn, 1) := dcO tk_L_law_13 25 rfl
theorem dL_law_900 : decode cL_law 900 = .ok (.aload_n 1, 1) := dcO tk_L_law_13 26 rfl
theorem dL_law_901 : decode cL_law 901 = .ok (.aload_n 0, 1) := dcO tk_L_law_13 27 rfl
theorem dL_law_902 : decode cL_law 902 = .ok (.iload_n 3, 1) := dcO tk_L_law_13 28 rfl
theorem dL_law_903 : decode cL_law 903 = .ok (.iconst 1, 1) := dcO tk_L_law_13 29 rfl
theorem dL_law_904 : decode cL_law 904 = .ok (.iadd, 1) := dcO tk_L_law_13 30 rfl
theorem dL_law_905 : decode cL_law 905 = .ok (.iaload, 1) := dcO tk_L_law_13 31 rfl
theorem dL_law_906 : decode cL_law 906 = .ok (.invokevirtual 105, 3) := dcO tk_L_law_13 32 rfl
theorem dL_law_909 : decode cL_law 909 = .ok (.aload_n 2, 1) := dcO tk_L_law_13 33 rfl
theorem dL_law_910 : decode cL_law 910 = .ok (.aload_n 0, 1) := dcO tk_L_law_13 34 rfl
theorem dL_law_911 : decode cL_law 911 = .ok (.iload_n 3, 1) := dcO tk_L_law_13 35 rfl
theorem dL_law_912 : decode cL_law 912 = .ok (.iconst 1, 1) := dcO tk_L_law_13 36 rfl
theorem dL_law_913 : decode cL_law 913 = .ok (.iadd, 1) := dcO tk_L_law_13 37 rfl
theorem dL_law_914 : decode cL_law 914 = .ok (.iaload, 1) := dcO tk_L_law_13 38 rfl
theorem dL_law_915 : decode cL_law 915 = .ok (.invokevirtual 108, 3) := dcO tk_L_law_13 39 rfl
abbrev tb_L_law_14 : List (Nat × Instr × Nat) := [(918, .if_icmp .eq 774, 3), (921, .iconst 0, 1), (922, .ireturn, 1), (923, .aload_n 1, 1), (924, .aload_n 0, 1), (925, .iload_n 3, 1), (926, .iconst 1, 1), (927, .iadd, 1), (928, .iaload, 1), (929, .aload_n 0, 1), (930, .iload_n 3, 1), (931, .iconst 2, 1), (932, .iadd, 1), (933, .iaload, 1), (934, .invokevirtual 109, 3), (937, .aload_n 2, 1), (938, .aload_n 0, 1), (939, .iload_n 3, 1), (940, .iconst 1, 1), (941, .iadd, 1), (942, .iaload, 1), (943, .aload_n 0, 1), (944, .iload_n 3, 1), (945, .iconst 2, 1), (946, .iadd, 1), (947, .iaload, 1), (948, .invokevirtual 112, 3), (951, .if_icmp .eq 741, 3), (954, .iconst 0, 1), (955, .ireturn, 1), (956, .aload_n 1, 1), (957, .aload_n 0, 1), (958, .iload_n 3, 1), (959, .iconst 1, 1), (960, .iadd, 1), (961, .iaload, 1), (962, .aload_n 0, 1), (963, .iload_n 3, 1), (964, .iconst 2, 1), (965, .iadd, 1)]
theorem tk_L_law_14 : dcA cL_law tb_L_law_14 = true := by decide +kernel
theorem dL_law_918 : decode cL_law 918 = .ok (.if_icmp .eq 774, 3) := dcO tk_L_law_14 0 rfl
theorem dL_law_921 : decode cL_law 921 = .ok (.iconst 0, 1) := dcO tk_L_law_14 1 rfl
theorem dL_law_922 : decode cL_law 922 = .ok (.ireturn, 1) := dcO tk_L_law_14 2 rfl
theorem dL_law_923 : decode cL_law 923 = .ok (.aload_n 1, 1) := dcO tk_L_law_14 3 rfl
theorem dL_law_924 : decode cL_law 924 = .ok (.aload_n 0, 1) := dcO tk_L_law_14 4 rfl
theorem dL_law_925 : decode cL_law 925 = .ok (.iload_n 3, 1) := dcO tk_L_law_14 5 rfl
theorem dL_law_926 : decode cL_law 926 = .ok (.iconst 1, 1) := dcO tk_L_law_14 6 rfl
theorem dL_law_927 : decode cL_law 927 = .ok (.iadd, 1) := dcO tk_L_law_14 7 rfl
theorem dL_law_928 : decode cL_law 928 = .ok (.iaload, 1) := dcO tk_L_law_14 8 rfl
theorem dL_law_929 : decode cL_law 929 = .ok (.aload_n 0, 1) := dcO tk_L_law_14 9 rfl
theorem dL_law_930 : decode cL_law 930 = .ok (.iload_n 3, 1) := dcO tk_L_law_14 10 rfl
theorem dL_law_931 : decode cL_law 931 = .ok (.iconst 2, 1) := dcO tk_L_law_14 11 rfl
theorem dL_law_932 : decode cL_law 932 = .ok (.iadd, 1) := dcO tk_L_law_14 12 rfl
theorem dL_law_933 : decode cL_law 933 = .ok (.iaload, 1) := dcO tk_L_law_14 13 rfl
theorem dL_law_934 : decode cL_law 934 = .ok (.invokevirtual 109, 3) := dcO tk_L_law_14 14 rfl
theorem dL_law_937 : decode cL_law 937 = .ok (.aload_n 2, 1) := dcO tk_L_law_14 15 rfl
theorem dL_law_938 : decode cL_law 938 = .ok (.aload_n 0, 1) := dcO tk_L_law_14 16 rfl
theorem dL_law_939 : decode cL_law 939 = .ok (.iload_n 3, 1) := dcO tk_L_law_14 17 rfl
theorem dL_law_940 : decode cL_law 940 = .ok (.iconst 1, 1) := dcO tk_L_law_14 18 rfl
theorem dL_law_941 : decode cL_law 941 = .ok (.iadd, 1) := dcO tk_L_law_14 19 rfl
theorem dL_law_942 : decode cL_law 942 = .ok (.iaload, 1) := dcO tk_L_law_14 20 rfl
theorem dL_law_943 : decode cL_law 943 = .ok (.aload_n 0, 1) := dcO tk_L_law_14 21 rfl
theorem dL_law_944 : decode cL_law 944 = .ok (.iload_n 3, 1) := dcO tk_L_law_14 22 rfl
theorem dL_law_945 : decode cL_law 945 = .ok (.iconst 2, 1) := dcO tk_L_law_14 23 rfl
theorem dL_law_946 : decode cL_law 946 = .ok (.iadd, 1) := dcO tk_L_law_14 24 rfl
theorem dL_law_947 : decode cL_law 947 = .ok (.iaload, 1) := dcO tk_L_law_14 25 rfl
theorem dL_law_948 : decode cL_law 948 = .ok (.invokevirtual 112, 3) := dcO tk_L_law_14 26 rfl
theorem dL_law_951 : decode cL_law 951 = .ok (.if_icmp .eq 741, 3) := dcO tk_L_law_14 27 rfl
theorem dL_law_954 : decode cL_law 954 = .ok (.iconst 0, 1) := dcO tk_L_law_14 28 rfl
theorem dL_law_955 : decode cL_law 955 = .ok (.ireturn, 1) := dcO tk_L_law_14 29 rfl
theorem dL_law_956 : decode cL_law 956 = .ok (.aload_n 1, 1) := dcO tk_L_law_14 30 rfl
theorem dL_law_957 : decode cL_law 957 = .ok (.aload_n 0, 1) := dcO tk_L_law_14 31 rfl
theorem dL_law_958 : decode cL_law 958 = .ok (.iload_n 3, 1) := dcO tk_L_law_14 32 rfl
theorem dL_law_959 : decode cL_law 959 = .ok (.iconst 1, 1) := dcO tk_L_law_14 33 rfl
theorem dL_law_960 : decode cL_law 960 = .ok (.iadd, 1) := dcO tk_L_law_14 34 rfl
theorem dL_law_961 : decode cL_law 961 = .ok (.iaload, 1) := dcO tk_L_law_14 35 rfl
theorem dL_law_962 : decode cL_law 962 = .ok (.aload_n 0, 1) := dcO tk_L_law_14 36 rfl
theorem dL_law_963 : decode cL_law 963 = .ok (.iload_n 3, 1) := dcO tk_L_law_14 37 rfl
theorem dL_law_964 : decode cL_law 964 = .ok (.iconst 2, 1) := dcO tk_L_law_14 38 rfl
theorem dL_law_965 : decode cL_law 965 = .ok (.iadd, 1) := dcO tk_L_law_14 39 rfl
abbrev tb_L_law_15 : List (Nat × Instr × Nat) := [(966, .iaload, 1), (967, .aload_n 0, 1), (968, .iload_n 3, 1), (969, .iconst 3, 1), (970, .iadd, 1), (971, .iaload, 1), (972, .invokevirtual 113, 3), (975, .aload_n 2, 1), (976, .aload_n 0, 1), (977, .iload_n 3, 1), (978, .iconst 1, 1), (979, .iadd, 1), (980, .iaload, 1), (981, .aload_n 0, 1), (982, .iload_n 3, 1), (983, .iconst 2, 1), (984, .iadd, 1), (985, .iaload, 1), (986, .aload_n 0, 1), (987, .iload_n 3, 1), (988, .iconst 3, 1), (989, .iadd, 1), (990, .iaload, 1), (991, .invokevirtual 116, 3), (994, .if_icmp .eq 698, 3), (997, .iconst 0, 1), (998, .ireturn, 1), (999, .aload_n 1, 1), (1000, .aload_n 0, 1), (1001, .iload_n 3, 1), (1002, .iconst 1, 1), (1003, .iadd, 1), (1004, .iaload, 1), (1005, .invokevirtual 117, 3), (1008, .aload_n 2, 1), (1009, .aload_n 0, 1), (1010, .iload_n 3, 1), (1011, .iconst 1, 1), (1012, .iadd, 1), (1013, .iaload, 1)]
theorem tk_L_law_15 : dcA cL_law tb_L_law_15 = true := by decide +kernel
theorem dL_law_966 : decode cL_law 966 = .ok (.iaload, 1) := dcO tk_L_law_15 0 rfl
theorem dL_law_967 : decode cL_law 967 = .ok (.aload_n 0, 1) := dcO tk_L_law_15 1 rfl
theorem dL_law_968 : decode cL_law 968 = .ok (.iload_n 3, 1) := dcO tk_L_law_15 2 rfl
theorem dL_law_969 : decode cL_law 969 = .ok (.iconst 3, 1) := dcO tk_L_law_15 3 rfl
theorem dL_law_970 : decode cL_law 970 = .ok (.iadd, 1) := dcO tk_L_law_15 4 rfl
theorem dL_law_971 : decode cL_law 971 = .ok (.iaload, 1) := dcO tk_L_law_15 5 rfl
theorem dL_law_972 : decode cL_law 972 = .ok (.invokevirtual 113, 3) := dcO tk_L_law_15 6 rfl
theorem dL_law_975 : decode cL_law 975 = .ok (.aload_n 2, 1) := dcO tk_L_law_15 7 rfl
theorem dL_law_976 : decode cL_law 976 = .ok (.aload_n 0, 1) := dcO tk_L_law_15 8 rfl
theorem dL_law_977 : decode cL_law 977 = .ok (.iload_n 3, 1) := dcO tk_L_law_15 9 rfl
theorem dL_law_978 : decode cL_law 978 = .ok (.iconst 1, 1) := dcO tk_L_law_15 10 rfl
theorem dL_law_979 : decode cL_law 979 = .ok (.iadd, 1) := dcO tk_L_law_15 11 rfl
theorem dL_law_980 : decode cL_law 980 = .ok (.iaload, 1) := dcO tk_L_law_15 12 rfl
theorem dL_law_981 : decode cL_law 981 = .ok (.aload_n 0, 1) := dcO tk_L_law_15 13 rfl
theorem dL_law_982 : decode cL_law 982 = .ok (.iload_n 3, 1) := dcO tk_L_law_15 14 rfl
theorem dL_law_983 : decode cL_law 983 = .ok (.iconst 2, 1) := dcO tk_L_law_15 15 rfl
theorem dL_law_984 : decode cL_law 984 = .ok (.iadd, 1) := dcO tk_L_law_15 16 rfl
theorem dL_law_985 : decode cL_law 985 = .ok (.iaload, 1) := dcO tk_L_law_15 17 rfl
theorem dL_law_986 : decode cL_law 986 = .ok (.aload_n 0, 1) := dcO tk_L_law_15 18 rfl
theorem dL_law_987 : decode cL_law 987 = .ok (.iload_n 3, 1) := dcO tk_L_law_15 19 rfl
theorem dL_law_988 : decode cL_law 988 = .ok (.iconst 3, 1) := dcO tk_L_law_15 20 rfl
theorem dL_law_989 : decode cL_law 989 = .ok (.iadd, 1) := dcO tk_L_law_15 21 rfl
theorem dL_law_990 : decode cL_law 990 = .ok (.iaload, 1) := dcO tk_L_law_15 22 rfl
theorem dL_law_991 : decode cL_law 991 = .ok (.invokevirtual 116, 3) := dcO tk_L_law_15 23 rfl
theorem dL_law_994 : decode cL_law 994 = .ok (.if_icmp .eq 698, 3) := dcO tk_L_law_15 24 rfl
theorem dL_law_997 : decode cL_law 997 = .ok (.iconst 0, 1) := dcO tk_L_law_15 25 rfl
theorem dL_law_998 : decode cL_law 998 = .ok (.ireturn, 1) := dcO tk_L_law_15 26 rfl
theorem dL_law_999 : decode cL_law 999 = .ok (.aload_n 1, 1) := dcO tk_L_law_15 27 rfl
theorem dL_law_1000 : decode cL_law 1000 = .ok (.aload_n 0, 1) := dcO tk_L_law_15 28 rfl
theorem dL_law_1001 : decode cL_law 1001 = .ok (.iload_n 3, 1) := dcO tk_L_law_15 29 rfl
theorem dL_law_1002 : decode cL_law 1002 = .ok (.iconst 1, 1) := dcO tk_L_law_15 30 rfl
theorem dL_law_1003 : decode cL_law 1003 = .ok (.iadd, 1) := dcO tk_L_law_15 31 rfl
theorem dL_law_1004 : decode cL_law 1004 = .ok (.iaload, 1) := dcO tk_L_law_15 32 rfl
theorem dL_law_1005 : decode cL_law 1005 = .ok (.invokevirtual 117, 3) := dcO tk_L_law_15 33 rfl
theorem dL_law_1008 : decode cL_law 1008 = .ok (.aload_n 2, 1) := dcO tk_L_law_15 34 rfl
theorem dL_law_1009 : decode cL_law 1009 = .ok (.aload_n 0, 1) := dcO tk_L_law_15 35 rfl
theorem dL_law_1010 : decode cL_law 1010 = .ok (.iload_n 3, 1) := dcO tk_L_law_15 36 rfl
theorem dL_law_1011 : decode cL_law 1011 = .ok (.iconst 1, 1) := dcO tk_L_law_15 37 rfl
theorem dL_law_1012 : decode cL_law 1012 = .ok (.iadd, 1) := dcO tk_L_law_15 38 rfl
theorem dL_law_1013 : decode cL_law 1013 = .ok (.iaload, 1) := dcO tk_L_law_15 39 rfl
abbrev tb_L_law_16 : List (Nat × Instr × Nat) := [(1014, .invokevirtual 120, 3), (1017, .if_icmp .eq 675, 3), (1020, .iconst 0, 1), (1021, .ireturn, 1), (1022, .aload_n 1, 1), (1023, .aload_n 0, 1), (1024, .iload_n 3, 1), (1025, .iconst 1, 1), (1026, .iadd, 1), (1027, .iaload, 1), (1028, .aload_n 0, 1), (1029, .iload_n 3, 1), (1030, .iconst 2, 1), (1031, .iadd, 1), (1032, .iaload, 1), (1033, .aload_n 0, 1), (1034, .iload_n 3, 1), (1035, .iconst 3, 1), (1036, .iadd, 1), (1037, .iaload, 1), (1038, .invokevirtual 121, 3), (1041, .aload_n 2, 1), (1042, .aload_n 0, 1), (1043, .iload_n 3, 1), (1044, .iconst 1, 1), (1045, .iadd, 1), (1046, .iaload, 1), (1047, .aload_n 0, 1), (1048, .iload_n 3, 1), (1049, .iconst 2, 1), (1050, .iadd, 1), (1051, .iaload, 1), (1052, .aload_n 0, 1), (1053, .iload_n 3, 1), (1054, .iconst 3, 1), (1055, .iadd, 1), (1056, .iaload, 1), (1057, .invokevirtual 124, 3), (1060, .if_icmp .eq 632, 3), (1063, .iconst 0, 1)]
theorem tk_L_law_16 : dcA cL_law tb_L_law_16 = true := by decide +kernel
theorem dL_law_1014 : decode cL_law 1014 = .ok (.invokevirtual 120, 3) := dcO tk_L_law_16 0 rfl
theorem dL_law_1017 : decode cL_law 1017 = .ok (.if_icmp .eq 675, 3) := dcO tk_L_law_16 1 rfl
theorem dL_law_1020 : decode cL_law 1020 = .ok (.iconst 0, 1) := dcO tk_L_law_16 2 rfl
theorem dL_law_1021 : decode cL_law 1021 = .ok (.ireturn, 1) := dcO tk_L_law_16 3 rfl
theorem dL_law_1022 : decode cL_law 1022 = .ok (.aload_n 1, 1) := dcO tk_L_law_16 4 rfl
theorem dL_law_1023 : decode cL_law 1023 = .ok (.aload_n 0, 1) := dcO tk_L_law_16 5 rfl
theorem dL_law_1024 : decode cL_law 1024 = .ok (.iload_n 3, 1) := dcO tk_L_law_16 6 rfl
theorem dL_law_1025 : decode cL_law 1025 = .ok (.iconst 1, 1) := dcO tk_L_law_16 7 rfl
theorem dL_law_1026 : decode cL_law 1026 = .ok (.iadd, 1) := dcO tk_L_law_16 8 rfl
theorem dL_law_1027 : decode cL_law 1027 = .ok (.iaload, 1) := dcO tk_L_law_16 9 rfl
theorem dL_law_1028 : decode cL_law 1028 = .ok (.aload_n 0, 1) := dcO tk_L_law_16 10 rfl
theorem dL_law_1029 : decode cL_law 1029 = .ok (.iload_n 3, 1) := dcO tk_L_law_16 11 rfl
theorem dL_law_1030 : decode cL_law 1030 = .ok (.iconst 2, 1) := dcO tk_L_law_16 12 rfl
theorem dL_law_1031 : decode cL_law 1031 = .ok (.iadd, 1) := dcO tk_L_law_16 13 rfl
theorem dL_law_1032 : decode cL_law 1032 = .ok (.iaload, 1) := dcO tk_L_law_16 14 rfl
theorem dL_law_1033 : decode cL_law 1033 = .ok (.aload_n 0, 1) := dcO tk_L_law_16 15 rfl
theorem dL_law_1034 : decode cL_law 1034 = .ok (.iload_n 3, 1) := dcO tk_L_law_16 16 rfl
theorem dL_law_1035 : decode cL_law 1035 = .ok (.iconst 3, 1) := dcO tk_L_law_16 17 rfl
theorem dL_law_1036 : decode cL_law 1036 = .ok (.iadd, 1) := dcO tk_L_law_16 18 rfl
theorem dL_law_1037 : decode cL_law 1037 = .ok (.iaload, 1) := dcO tk_L_law_16 19 rfl
theorem dL_law_1038 : decode cL_law 1038 = .ok (.invokevirtual 121, 3) := dcO tk_L_law_16 20 rfl
theorem dL_law_1041 : decode cL_law 1041 = .ok (.aload_n 2, 1) := dcO tk_L_law_16 21 rfl
theorem dL_law_1042 : decode cL_law 1042 = .ok (.aload_n 0, 1) := dcO tk_L_law_16 22 rfl
theorem dL_law_1043 : decode cL_law 1043 = .ok (.iload_n 3, 1) := dcO tk_L_law_16 23 rfl
theorem dL_law_1044 : decode cL_law 1044 = .ok (.iconst 1, 1) := dcO tk_L_law_16 24 rfl
theorem dL_law_1045 : decode cL_law 1045 = .ok (.iadd, 1) := dcO tk_L_law_16 25 rfl
theorem dL_law_1046 : decode cL_law 1046 = .ok (.iaload, 1) := dcO tk_L_law_16 26 rfl
theorem dL_law_1047 : decode cL_law 1047 = .ok (.aload_n 0, 1) := dcO tk_L_law_16 27 rfl
theorem dL_law_1048 : decode cL_law 1048 = .ok (.iload_n 3, 1) := dcO tk_L_law_16 28 rfl
theorem dL_law_1049 : decode cL_law 1049 = .ok (.iconst 2, 1) := dcO tk_L_law_16 29 rfl
theorem dL_law_1050 : decode cL_law 1050 = .ok (.iadd, 1) := dcO tk_L_law_16 30 rfl
theorem dL_law_1051 : decode cL_law 1051 = .ok (.iaload, 1) := dcO tk_L_law_16 31 rfl
theorem dL_law_1052 : decode cL_law 1052 = .ok (.aload_n 0, 1) := dcO tk_L_law_16 32 rfl
theorem dL_law_1053 : decode cL_law 1053 = .ok (.iload_n 3, 1) := dcO tk_L_law_16 33 rfl
theorem dL_law_1054 : decode cL_law 1054 = .ok (.iconst 3, 1) := dcO tk_L_law_16 34 rfl
theorem dL_law_1055 : decode cL_law 1055 = .ok (.iadd, 1) := dcO tk_L_law_16 35 rfl
theorem dL_law_1056 : decode cL_law 1056 = .ok (.iaload, 1) := dcO tk_L_law_16 36 rfl
theorem dL_law_1057 : decode cL_law 1057 = .ok (.invokevirtual 124, 3) := dcO tk_L_law_16 37 rfl
theorem dL_law_1060 : decode cL_law 1060 = .ok (.if_icmp .eq 632, 3) := dcO tk_L_law_16 38 rfl
theorem dL_law_1063 : decode cL_law 1063 = .ok (.iconst 0, 1) := dcO tk_L_law_16 39 rfl
abbrev tb_L_law_17 : List (Nat × Instr × Nat) := [(1064, .ireturn, 1), (1065, .aload_n 1, 1), (1066, .aload_n 0, 1), (1067, .iload_n 3, 1), (1068, .iconst 1, 1), (1069, .iadd, 1), (1070, .iaload, 1), (1071, .aload_n 0, 1), (1072, .iload_n 3, 1), (1073, .iconst 2, 1), (1074, .iadd, 1), (1075, .iaload, 1), (1076, .aload_n 0, 1), (1077, .iload_n 3, 1), (1078, .iconst 3, 1), (1079, .iadd, 1), (1080, .iaload, 1), (1081, .invokevirtual 125, 3), (1084, .aload_n 2, 1), (1085, .aload_n 0, 1), (1086, .iload_n 3, 1), (1087, .iconst 1, 1), (1088, .iadd, 1), (1089, .iaload, 1), (1090, .aload_n 0, 1), (1091, .iload_n 3, 1), (1092, .iconst 2, 1), (1093, .iadd, 1), (1094, .iaload, 1), (1095, .aload_n 0, 1), (1096, .iload_n 3, 1), (1097, .iconst 3, 1), (1098, .iadd, 1), (1099, .iaload, 1), (1100, .invokevirtual 128, 3), (1103, .if_icmp .eq 589, 3), (1106, .iconst 0, 1), (1107, .ireturn, 1), (1108, .aload_n 1, 1), (1109, .aload_n 0, 1)]
theorem tk_L_law_17 : dcA cL_law tb_L_law_17 = true := by decide +kernel
theorem dL_law_1064 : decode cL_law 1064 = .ok (.ireturn, 1) := dcO tk_L_law_17 0 rfl
theorem dL_law_1065 : decode cL_law 1065 = .ok (.aload_n 1, 1) := dcO tk_L_law_17 1 rfl
theorem dL_law_1066 : decode cL_law 1066 = .ok (.aload_n 0, 1) := dcO tk_L_law_17 2 rfl
theorem dL_law_1067 : decode cL_law 1067 = .ok (.iload_n 3, 1) := dcO tk_L_law_17 3 rfl
theorem dL_law_1068 : decode cL_law 1068 = .ok (.iconst 1, 1) := dcO tk_L_law_17 4 rfl
theorem dL_law_1069 : decode cL_law 1069 = .ok (.iadd, 1) := dcO tk_L_law_17 5 rfl
theorem dL_law_1070 : decode cL_law 1070 = .ok (.iaload, 1) := dcO tk_L_law_17 6 rfl
theorem dL_law_1071 : decode cL_law 1071 = .ok (.aload_n 0, 1) := dcO tk_L_law_17 7 rfl
theorem dL_law_1072 : decode cL_law 1072 = .ok (.iload_n 3, 1) := dcO tk_L_law_17 8 rfl
theorem dL_law_1073 : decode cL_law 1073 = .ok (.iconst 2, 1) := dcO tk_L_law_17 9 rfl
theorem dL_law_1074 : decode cL_law 1074 = .ok (.iadd, 1) := dcO tk_L_law_17 10 rfl
theorem dL_law_1075 : decode cL_law 1075 = .ok (.iaload, 1) := dcO tk_L_law_17 11 rfl
theorem dL_law_1076 : decode cL_law 1076 = .ok (.aload_n 0, 1) := dcO tk_L_law_17 12 rfl
theorem dL_law_1077 : decode cL_law 1077 = .ok (.iload_n 3, 1) := dcO tk_L_law_17 13 rfl
theorem dL_law_1078 : decode cL_law 1078 = .ok (.iconst 3, 1) := dcO tk_L_law_17 14 rfl
theorem dL_law_1079 : decode cL_law 1079 = .ok (.iadd, 1) := dcO tk_L_law_17 15 rfl
theorem dL_law_1080 : decode cL_law 1080 = .ok (.iaload, 1) := dcO tk_L_law_17 16 rfl
theorem dL_law_1081 : decode cL_law 1081 = .ok (.invokevirtual 125, 3) := dcO tk_L_law_17 17 rfl
theorem dL_law_1084 : decode cL_law 1084 = .ok (.aload_n 2, 1) := dcO tk_L_law_17 18 rfl
theorem dL_law_1085 : decode cL_law 1085 = .ok (.aload_n 0, 1) := dcO tk_L_law_17 19 rfl
theorem dL_law_1086 : decode cL_law 1086 = .ok (.iload_n 3, 1) := dcO tk_L_law_17 20 rfl
theorem dL_law_1087 : decode cL_law 1087 = .ok (.iconst 1, 1) := dcO tk_L_law_17 21 rfl
theorem dL_law_1088 : decode cL_law 1088 = .ok (.iadd, 1) := dcO tk_L_law_17 22 rfl
theorem dL_law_1089 : decode cL_law 1089 = .ok (.iaload, 1) := dcO tk_L_law_17 23 rfl
theorem dL_law_1090 : decode cL_law 1090 = .ok (.aload_n 0, 1) := dcO tk_L_law_17 24 rfl
theorem dL_law_1091 : decode cL_law 1091 = .ok (.iload_n 3, 1) := dcO tk_L_law_17 25 rfl
theorem dL_law_1092 : decode cL_law 1092 = .ok (.iconst 2, 1) := dcO tk_L_law_17 26 rfl
theorem dL_law_1093 : decode cL_law 1093 = .ok (.iadd, 1) := dcO tk_L_law_17 27 rfl
theorem dL_law_1094 : decode cL_law 1094 = .ok (.iaload, 1) := dcO tk_L_law_17 28 rfl
theorem dL_law_1095 : decode cL_law 1095 = .ok (.aload_n 0, 1) := dcO tk_L_law_17 29 rfl
theorem dL_law_1096 : decode cL_law 1096 = .ok (.iload_n 3, 1) := dcO tk_L_law_17 30 rfl
theorem dL_law_1097 : decode cL_law 1097 = .ok (.iconst 3, 1) := dcO tk_L_law_17 31 rfl
theorem dL_law_1098 : decode cL_law 1098 = .ok (.iadd, 1) := dcO tk_L_law_17 32 rfl
theorem dL_law_1099 : decode cL_law 1099 = .ok (.iaload, 1) := dcO tk_L_law_17 33 rfl
theorem dL_law_1100 : decode cL_law 1100 = .ok (.invokevirtual 128, 3) := dcO tk_L_law_17 34 rfl
theorem dL_law_1103 : decode cL_law 1103 = .ok (.if_icmp .eq 589, 3) := dcO tk_L_law_17 35 rfl
theorem dL_law_1106 : decode cL_law 1106 = .ok (.iconst 0, 1) := dcO tk_L_law_17 36 rfl
theorem dL_law_1107 : decode cL_law 1107 = .ok (.ireturn, 1) := dcO tk_L_law_17 37 rfl
theorem dL_law_1108 : decode cL_law 1108 = .ok (.aload_n 1, 1) := dcO tk_L_law_17 38 rfl
theorem dL_law_1109 : decode cL_law 1109 = .ok (.aload_n 0, 1) := dcO tk_L_law_17 39 rfl
abbrev tb_L_law_18 : List (Nat × Instr × Nat) := [(1110, .iload_n 3, 1), (1111, .iconst 1, 1), (1112, .iadd, 1), (1113, .iaload, 1), (1114, .aload_n 0, 1), (1115, .iload_n 3, 1), (1116, .iconst 2, 1), (1117, .iadd, 1), (1118, .iaload, 1), (1119, .invokevirtual 129, 3), (1122, .aload_n 2, 1), (1123, .aload_n 0, 1), (1124, .iload_n 3, 1), (1125, .iconst 1, 1), (1126, .iadd, 1), (1127, .iaload, 1), (1128, .aload_n 0, 1), (1129, .iload_n 3, 1), (1130, .iconst 2, 1), (1131, .iadd, 1), (1132, .iaload, 1), (1133, .invokevirtual 132, 3), (1136, .if_icmp .eq 556, 3), (1139, .iconst 0, 1), (1140, .ireturn, 1), (1141, .aload_n 1, 1), (1142, .aload_n 0, 1), (1143, .iload_n 3, 1), (1144, .iconst 1, 1), (1145, .iadd, 1), (1146, .iaload, 1), (1147, .aload_n 0, 1), (1148, .iload_n 3, 1), (1149, .iconst 2, 1), (1150, .iadd, 1), (1151, .iaload, 1), (1152, .invokevirtual 133, 3), (1155, .aload_n 2, 1), (1156, .aload_n 0, 1), (1157, .iload_n 3, 1)]
theorem tk_L_law_18 : dcA cL_law tb_L_law_18 = true := by decide +kernel
theorem dL_law_1110 : decode cL_law 1110 = .ok (.iload_n 3, 1) := dcO tk_L_law_18 0 rfl
theorem dL_law_1111 : decode cL_law 1111 = .ok (.iconst 1, 1) := dcO tk_L_law_18 1 rfl
theorem dL_law_1112 : decode cL_law 1112 = .ok (.iadd, 1) := dcO tk_L_law_18 2 rfl
theorem dL_law_1113 : decode cL_law 1113 = .ok (.iaload, 1) := dcO tk_L_law_18 3 rfl
theorem dL_law_1114 : decode cL_law 1114 = .ok (.aload_n 0, 1) := dcO tk_L_law_18 4 rfl
theorem dL_law_1115 : decode cL_law 1115 = .ok (.iload_n 3, 1) := dcO tk_L_law_18 5 rfl
theorem dL_law_1116 : decode cL_law 1116 = .ok (.iconst 2, 1) := dcO tk_L_law_18 6 rfl
theorem dL_law_1117 : decode cL_law 1117 = .ok (.iadd, 1) := dcO tk_L_law_18 7 rfl
theorem dL_law_1118 : decode cL_law 1118 = .ok (.iaload, 1) := dcO tk_L_law_18 8 rfl
theorem dL_law_1119 : decode cL_law 1119 = .ok (.invokevirtual 129, 3) := dcO tk_L_law_18 9 rfl
theorem dL_law_1122 : decode cL_law 1122 = .ok (.aload_n 2, 1) := dcO tk_L_law_18 10 rfl
theorem dL_law_1123 : decode cL_law 1123 = .ok (.aload_n 0, 1) := dcO tk_L_law_18 11 rfl
theorem dL_law_1124 : decode cL_law 1124 = .ok (.iload_n 3, 1) := dcO tk_L_law_18 12 rfl
theorem dL_law_1125 : decode cL_law 1125 = .ok (.iconst 1, 1) := dcO tk_L_law_18 13 rfl
theorem dL_law_1126 : decode cL_law 1126 = .ok (.iadd, 1) := dcO tk_L_law_18 14 rfl
theorem dL_law_1127 : decode cL_law 1127 = .ok (.iaload, 1) := dcO tk_L_law_18 15 rfl
theorem dL_law_1128 : decode cL_law 1128 = .ok (.aload_n 0, 1) := dcO tk_L_law_18 16 rfl
theorem dL_law_1129 : decode cL_law 1129 = .ok (.iload_n 3, 1) := dcO tk_L_law_18 17 rfl
theorem dL_law_1130 : decode cL_law 1130 = .ok (.iconst 2, 1) := dcO tk_L_law_18 18 rfl
theorem dL_law_1131 : decode cL_law 1131 = .ok (.iadd, 1) := dcO tk_L_law_18 19 rfl
theorem dL_law_1132 : decode cL_law 1132 = .ok (.iaload, 1) := dcO tk_L_law_18 20 rfl
theorem dL_law_1133 : decode cL_law 1133 = .ok (.invokevirtual 132, 3) := dcO tk_L_law_18 21 rfl
theorem dL_law_1136 : decode cL_law 1136 = .ok (.if_icmp .eq 556, 3) := dcO tk_L_law_18 22 rfl
theorem dL_law_1139 : decode cL_law 1139 = .ok (.iconst 0, 1) := dcO tk_L_law_18 23 rfl
theorem dL_law_1140 : decode cL_law 1140 = .ok (.ireturn, 1) := dcO tk_L_law_18 24 rfl
theorem dL_law_1141 : decode cL_law 1141 = .ok (.aload_n 1, 1) := dcO tk_L_law_18 25 rfl
theorem dL_law_1142 : decode cL_law 1142 = .ok (.aload_n 0, 1) := dcO tk_L_law_18 26 rfl
theorem dL_law_1143 : decode cL_law 1143 = .ok (.iload_n 3, 1) := dcO tk_L_law_18 27 rfl
theorem dL_law_1144 : decode cL_law 1144 = .ok (.iconst 1, 1) := dcO tk_L_law_18 28 rfl
theorem dL_law_1145 : decode cL_law 1145 = .ok (.iadd, 1) := dcO tk_L_law_18 29 rfl
theorem dL_law_1146 : decode cL_law 1146 = .ok (.iaload, 1) := dcO tk_L_law_18 30 rfl
theorem dL_law_1147 : decode cL_law 1147 = .ok (.aload_n 0, 1) := dcO tk_L_law_18 31 rfl
theorem dL_law_1148 : decode cL_law 1148 = .ok (.iload_n 3, 1) := dcO tk_L_law_18 32 rfl
theorem dL_law_1149 : decode cL_law 1149 = .ok (.iconst 2, 1) := dcO tk_L_law_18 33 rfl
theorem dL_law_1150 : decode cL_law 1150 = .ok (.iadd, 1) := dcO tk_L_law_18 34 rfl
theorem dL_law_1151 : decode cL_law 1151 = .ok (.iaload, 1) := dcO tk_L_law_18 35 rfl
theorem dL_law_1152 : decode cL_law 1152 = .ok (.invokevirtual 133, 3) := dcO tk_L_law_18 36 rfl
theorem dL_law_1155 : decode cL_law 1155 = .ok (.aload_n 2, 1) := dcO tk_L_law_18 37 rfl
theorem dL_law_1156 : decode cL_law 1156 = .ok (.aload_n 0, 1) := dcO tk_L_law_18 38 rfl
theorem dL_law_1157 : decode cL_law 1157 = .ok (.iload_n 3, 1) := dcO tk_L_law_18 39 rfl
abbrev tb_L_law_19 : List (Nat × Instr × Nat) := [(1158, .iconst 1, 1), (1159, .iadd, 1), (1160, .iaload, 1), (1161, .aload_n 0, 1), (1162, .iload_n 3, 1), (1163, .iconst 2, 1), (1164, .iadd, 1), (1165, .iaload, 1), (1166, .invokevirtual 136, 3), (1169, .if_icmp .eq 523, 3), (1172, .iconst 0, 1), (1173, .ireturn, 1), (1174, .aload_n 1, 1), (1175, .aload_n 0, 1), (1176, .iload_n 3, 1), (1177, .iconst 1, 1), (1178, .iadd, 1), (1179, .iaload, 1), (1180, .aload_n 0, 1), (1181, .iload_n 3, 1), (1182, .iconst 2, 1), (1183, .iadd, 1), (1184, .iaload, 1), (1185, .invokevirtual 137, 3), (1188, .aload_n 2, 1), (1189, .aload_n 0, 1), (1190, .iload_n 3, 1), (1191, .iconst 1, 1), (1192, .iadd, 1), (1193, .iaload, 1), (1194, .aload_n 0, 1), (1195, .iload_n 3, 1), (1196, .iconst 2, 1), (1197, .iadd, 1), (1198, .iaload, 1), (1199, .invokevirtual 140, 3), (1202, .if_icmp .eq 490, 3), (1205, .iconst 0, 1), (1206, .ireturn, 1), (1207, .aload_n 1, 1)]
theorem tk_L_law_19 : dcA cL_law tb_L_law_19 = true := by decide +kernel
theorem dL_law_1158 : decode cL_law 1158 = .ok (.iconst 1, 1) := dcO tk_L_law_19 0 rfl
theorem dL_law_1159 : decode cL_law 1159 = .ok (.iadd, 1) := dcO tk_L_law_19 1 rfl
theorem dL_law_1160 : decode cL_law 1160 = .ok (.iaload, 1) := dcO tk_L_law_19 2 rfl
theorem dL_law_1161 : decode cL_law 1161 = .ok (.aload_n 0, 1) := dcO tk_L_law_19 3 rfl
theorem dL_law_1162 : decode cL_law 1162 = .ok (.iload_n 3, 1) := dcO tk_L_law_19 4 rfl
theorem dL_law_1163 : decode cL_law 1163 = .ok (.iconst 2, 1) := dcO tk_L_law_19 5 rfl
theorem dL_law_1164 : decode cL_law 1164 = .ok (.iadd, 1) := dcO tk_L_law_19 6 rfl
theorem dL_law_1165 : decode cL_law 1165 = .ok (.iaload, 1) := dcO tk_L_law_19 7 rfl
theorem dL_law_1166 : decode cL_law 1166 = .ok (.invokevirtual 136, 3) := dcO tk_L_law_19 8 rfl
theorem dL_law_1169 : decode cL_law 1169 = .ok (.if_icmp .eq 523, 3) := dcO tk_L_law_19 9 rfl
theorem dL_law_1172 : decode cL_law 1172 = .ok (.iconst 0, 1) := dcO tk_L_law_19 10 rfl
theorem dL_law_1173 : decode cL_law 1173 = .ok (.ireturn, 1) := dcO tk_L_law_19 11 rfl
theorem dL_law_1174 : decode cL_law 1174 = .ok (.aload_n 1, 1) := dcO tk_L_law_19 12 rfl
theorem dL_law_1175 : decode cL_law 1175 = .ok (.aload_n 0, 1) := dcO tk_L_law_19 13 rfl
theorem dL_law_1176 : decode cL_law 1176 = .ok (.iload_n 3, 1) := dcO tk_L_law_19 14 rfl
theorem dL_law_1177 : decode cL_law 1177 = .ok (.iconst 1, 1) := dcO tk_L_law_19 15 rfl
theorem dL_law_1178 : decode cL_law 1178 = .ok (.iadd, 1) := dcO tk_L_law_19 16 rfl
theorem dL_law_1179 : decode cL_law 1179 = .ok (.iaload, 1) := dcO tk_L_law_19 17 rfl
theorem dL_law_1180 : decode cL_law 1180 = .ok (.aload_n 0, 1) := dcO tk_L_law_19 18 rfl
theorem dL_law_1181 : decode cL_law 1181 = .ok (.iload_n 3, 1) := dcO tk_L_law_19 19 rfl
theorem dL_law_1182 : decode cL_law 1182 = .ok (.iconst 2, 1) := dcO tk_L_law_19 20 rfl
theorem dL_law_1183 : decode cL_law 1183 = .ok (.iadd, 1) := dcO tk_L_law_19 21 rfl
theorem dL_law_1184 : decode cL_law 1184 = .ok (.iaload, 1) := dcO tk_L_law_19 22 rfl
theorem dL_law_1185 : decode cL_law 1185 = .ok (.invokevirtual 137, 3) := dcO tk_L_law_19 23 rfl
theorem dL_law_1188 : decode cL_law 1188 = .ok (.aload_n 2, 1) := dcO tk_L_law_19 24 rfl
theorem dL_law_1189 : decode cL_law 1189 = .ok (.aload_n 0, 1) := dcO tk_L_law_19 25 rfl
theorem dL_law_1190 : decode cL_law 1190 = .ok (.iload_n 3, 1) := dcO tk_L_law_19 26 rfl
theorem dL_law_1191 : decode cL_law 1191 = .ok (.iconst 1, 1) := dcO tk_L_law_19 27 rfl
theorem dL_law_1192 : decode cL_law 1192 = .ok (.iadd, 1) := dcO tk_L_law_19 28 rfl
theorem dL_law_1193 : decode cL_law 1193 = .ok (.iaload, 1) := dcO tk_L_law_19 29 rfl
theorem dL_law_1194 : decode cL_law 1194 = .ok (.aload_n 0, 1) := dcO tk_L_law_19 30 rfl
theorem dL_law_1195 : decode cL_law 1195 = .ok (.iload_n 3, 1) := dcO tk_L_law_19 31 rfl
theorem dL_law_1196 : decode cL_law 1196 = .ok (.iconst 2, 1) := dcO tk_L_law_19 32 rfl
theorem dL_law_1197 : decode cL_law 1197 = .ok (.iadd, 1) := dcO tk_L_law_19 33 rfl
theorem dL_law_1198 : decode cL_law 1198 = .ok (.iaload, 1) := dcO tk_L_law_19 34 rfl
theorem dL_law_1199 : decode cL_law 1199 = .ok (.invokevirtual 140, 3) := dcO tk_L_law_19 35 rfl
theorem dL_law_1202 : decode cL_law 1202 = .ok (.if_icmp .eq 490, 3) := dcO tk_L_law_19 36 rfl
theorem dL_law_1205 : decode cL_law 1205 = .ok (.iconst 0, 1) := dcO tk_L_law_19 37 rfl
theorem dL_law_1206 : decode cL_law 1206 = .ok (.ireturn, 1) := dcO tk_L_law_19 38 rfl
theorem dL_law_1207 : decode cL_law 1207 = .ok (.aload_n 1, 1) := dcO tk_L_law_19 39 rfl
abbrev tb_L_law_20 : List (Nat × Instr × Nat) := [(1208, .aload_n 0, 1), (1209, .iload_n 3, 1), (1210, .iconst 1, 1), (1211, .iadd, 1), (1212, .iaload, 1), (1213, .invokevirtual 141, 3), (1216, .aload_n 2, 1), (1217, .aload_n 0, 1), (1218, .iload_n 3, 1), (1219, .iconst 1, 1), (1220, .iadd, 1), (1221, .iaload, 1), (1222, .invokevirtual 144, 3), (1225, .if_icmp .eq 467, 3), (1228, .iconst 0, 1), (1229, .ireturn, 1), (1230, .aload_n 1, 1), (1231, .aload_n 0, 1), (1232, .iload_n 3, 1), (1233, .iconst 1, 1), (1234, .iadd, 1), (1235, .iaload, 1), (1236, .aload_n 0, 1), (1237, .iload_n 3, 1), (1238, .iconst 2, 1), (1239, .iadd, 1), (1240, .iaload, 1), (1241, .invokevirtual 145, 3), (1244, .aload_n 2, 1), (1245, .aload_n 0, 1), (1246, .iload_n 3, 1), (1247, .iconst 1, 1), (1248, .iadd, 1), (1249, .iaload, 1), (1250, .aload_n 0, 1), (1251, .iload_n 3, 1), (1252, .iconst 2, 1), (1253, .iadd, 1), (1254, .iaload, 1), (1255, .invokevirtual 149, 3)]
theorem tk_L_law_20 : dcA cL_law tb_L_law_20 = true := by decide +kernel
theorem dL_law_1208 : decode cL_law 1208 = .ok (.aload_n 0, 1) := dcO tk_L_law_20 0 rfl
theorem dL_law_1209 : decode cL_law 1209 = .ok (.iload_n 3, 1) := dcO tk_L_law_20 1 rfl
theorem dL_law_1210 : decode cL_law 1210 = .ok (.iconst 1, 1) := dcO tk_L_law_20 2 rfl
theorem dL_law_1211 : decode cL_law 1211 = .ok (.iadd, 1) := dcO tk_L_law_20 3 rfl
theorem dL_law_1212 : decode cL_law 1212 = .ok (.iaload, 1) := dcO tk_L_law_20 4 rfl
theorem dL_law_1213 : decode cL_law 1213 = .ok (.invokevirtual 141, 3) := dcO tk_L_law_20 5 rfl
theorem dL_law_1216 : decode cL_law 1216 = .ok (.aload_n 2, 1) := dcO tk_L_law_20 6 rfl
theorem dL_law_1217 : decode cL_law 1217 = .ok (.aload_n 0, 1) := dcO tk_L_law_20 7 rfl
theorem dL_law_1218 : decode cL_law 1218 = .ok (.iload_n 3, 1) := dcO tk_L_law_20 8 rfl
theorem dL_law_1219 : decode cL_law 1219 = .ok (.iconst 1, 1) := dcO tk_L_law_20 9 rfl
theorem dL_law_1220 : decode cL_law 1220 = .ok (.iadd, 1) := dcO tk_L_law_20 10 rfl
theorem dL_law_1221 : decode cL_law 1221 = .ok (.iaload, 1) := dcO tk_L_law_20 11 rfl
theorem dL_law_1222 : decode cL_law 1222 = .ok (.invokevirtual 144, 3) := dcO tk_L_law_20 12 rfl
theorem dL_law_1225 : decode cL_law 1225 = .ok (.if_icmp .eq 467, 3) := dcO tk_L_law_20 13 rfl
theorem dL_law_1228 : decode cL_law 1228 = .ok (.iconst 0, 1) := dcO tk_L_law_20 14 rfl
theorem dL_law_1229 : decode cL_law 1229 = .ok (.ireturn, 1) := dcO tk_L_law_20 15 rfl
theorem dL_law_1230 : decode cL_law 1230 = .ok (.aload_n 1, 1) := dcO tk_L_law_20 16 rfl
theorem dL_law_1231 : decode cL_law 1231 = .ok (.aload_n 0, 1) := dcO tk_L_law_20 17 rfl
theorem dL_law_1232 : decode cL_law 1232 = .ok (.iload_n 3, 1) := dcO tk_L_law_20 18 rfl
theorem dL_law_1233 : decode cL_law 1233 = .ok (.iconst 1, 1) := dcO tk_L_law_20 19 rfl
theorem dL_law_1234 : decode cL_law 1234 = .ok (.iadd, 1) := dcO tk_L_law_20 20 rfl
theorem dL_law_1235 : decode cL_law 1235 = .ok (.iaload, 1) := dcO tk_L_law_20 21 rfl
theorem dL_law_1236 : decode cL_law 1236 = .ok (.aload_n 0, 1) := dcO tk_L_law_20 22 rfl
theorem dL_law_1237 : decode cL_law 1237 = .ok (.iload_n 3, 1) := dcO tk_L_law_20 23 rfl
theorem dL_law_1238 : decode cL_law 1238 = .ok (.iconst 2, 1) := dcO tk_L_law_20 24 rfl
theorem dL_law_1239 : decode cL_law 1239 = .ok (.iadd, 1) := dcO tk_L_law_20 25 rfl
theorem dL_law_1240 : decode cL_law 1240 = .ok (.iaload, 1) := dcO tk_L_law_20 26 rfl
theorem dL_law_1241 : decode cL_law 1241 = .ok (.invokevirtual 145, 3) := dcO tk_L_law_20 27 rfl
theorem dL_law_1244 : decode cL_law 1244 = .ok (.aload_n 2, 1) := dcO tk_L_law_20 28 rfl
theorem dL_law_1245 : decode cL_law 1245 = .ok (.aload_n 0, 1) := dcO tk_L_law_20 29 rfl
theorem dL_law_1246 : decode cL_law 1246 = .ok (.iload_n 3, 1) := dcO tk_L_law_20 30 rfl
theorem dL_law_1247 : decode cL_law 1247 = .ok (.iconst 1, 1) := dcO tk_L_law_20 31 rfl
theorem dL_law_1248 : decode cL_law 1248 = .ok (.iadd, 1) := dcO tk_L_law_20 32 rfl
theorem dL_law_1249 : decode cL_law 1249 = .ok (.iaload, 1) := dcO tk_L_law_20 33 rfl
theorem dL_law_1250 : decode cL_law 1250 = .ok (.aload_n 0, 1) := dcO tk_L_law_20 34 rfl
theorem dL_law_1251 : decode cL_law 1251 = .ok (.iload_n 3, 1) := dcO tk_L_law_20 35 rfl
theorem dL_law_1252 : decode cL_law 1252 = .ok (.iconst 2, 1) := dcO tk_L_law_20 36 rfl
theorem dL_law_1253 : decode cL_law 1253 = .ok (.iadd, 1) := dcO tk_L_law_20 37 rfl
theorem dL_law_1254 : decode cL_law 1254 = .ok (.iaload, 1) := dcO tk_L_law_20 38 rfl
theorem dL_law_1255 : decode cL_law 1255 = .ok (.invokevirtual 149, 3) := dcO tk_L_law_20 39 rfl
abbrev tb_L_law_21 : List (Nat × Instr × Nat) := [(1258, .lcmp, 1), (1259, .ifCond .eq 433, 3), (1262, .iconst 0, 1), (1263, .ireturn, 1), (1264, .aload_n 1, 1), (1265, .aload_n 0, 1), (1266, .iload_n 3, 1), (1267, .iconst 1, 1), (1268, .iadd, 1), (1269, .iaload, 1), (1270, .invokevirtual 150, 3), (1273, .aload_n 2, 1), (1274, .aload_n 0, 1), (1275, .iload_n 3, 1), (1276, .iconst 1, 1), (1277, .iadd, 1), (1278, .iaload, 1), (1279, .invokevirtual 153, 3), (1282, .if_icmp .eq 410, 3), (1285, .iconst 0, 1), (1286, .ireturn, 1), (1287, .aload_n 1, 1), (1288, .aload_n 0, 1), (1289, .iload_n 3, 1), (1290, .iconst 1, 1), (1291, .iadd, 1), (1292, .iaload, 1), (1293, .aload_n 0, 1), (1294, .iload_n 3, 1), (1295, .iconst 2, 1), (1296, .iadd, 1), (1297, .iaload, 1), (1298, .invokevirtual 154, 3), (1301, .aload_n 2, 1), (1302, .aload_n 0, 1), (1303, .iload_n 3, 1), (1304, .iconst 1, 1), (1305, .iadd, 1), (1306, .iaload, 1), (1307, .aload_n 0, 1)]
theorem tk_L_law_21 : dcA cL_law tb_L_law_21 = true := by decide +kernel
theorem dL_law_1258 : decode cL_law 1258 = .ok (.lcmp, 1) := dcO tk_L_law_21 0 rfl
theorem dL_law_1259 : decode cL_law 1259 = .ok (.ifCond .eq 433, 3) := dcO tk_L_law_21 1 rfl
theorem dL_law_1262 : decode cL_law 1262 = .ok (.iconst 0, 1) := dcO tk_L_law_21 2 rfl
theorem dL_law_1263 : decode cL_law 1263 = .ok (.ireturn, 1) := dcO tk_L_law_21 3 rfl
theorem dL_law_1264 : decode cL_law 1264 = .ok (.aload_n 1, 1) := dcO tk_L_law_21 4 rfl
theorem dL_law_1265 : decode cL_law 1265 = .ok (.aload_n 0, 1) := dcO tk_L_law_21 5 rfl
theorem dL_law_1266 : decode cL_law 1266 = .ok (.iload_n 3, 1) := dcO tk_L_law_21 6 rfl
theorem dL_law_1267 : decode cL_law 1267 = .ok (.iconst 1, 1) := dcO tk_L_law_21 7 rfl
theorem dL_law_1268 : decode cL_law 1268 = .ok (.iadd, 1) := dcO tk_L_law_21 8 rfl
theorem dL_law_1269 : decode cL_law 1269 = .ok (.iaload, 1) := dcO tk_L_law_21 9 rfl
theorem dL_law_1270 : decode cL_law 1270 = .ok (.invokevirtual 150, 3) := dcO tk_L_law_21 10 rfl
theorem dL_law_1273 : decode cL_law 1273 = .ok (.aload_n 2, 1) := dcO tk_L_law_21 11 rfl
theorem dL_law_1274 : decode cL_law 1274 = .ok (.aload_n 0, 1) := dcO tk_L_law_21 12 rfl
theorem dL_law_1275 : decode cL_law 1275 = .ok (.iload_n 3, 1) := dcO tk_L_law_21 13 rfl
theorem dL_law_1276 : decode cL_law 1276 = .ok (.iconst 1, 1) := dcO tk_L_law_21 14 rfl
theorem dL_law_1277 : decode cL_law 1277 = .ok (.iadd, 1) := dcO tk_L_law_21 15 rfl
theorem dL_law_1278 : decode cL_law 1278 = .ok (.iaload, 1) := dcO tk_L_law_21 16 rfl
theorem dL_law_1279 : decode cL_law 1279 = .ok (.invokevirtual 153, 3) := dcO tk_L_law_21 17 rfl
theorem dL_law_1282 : decode cL_law 1282 = .ok (.if_icmp .eq 410, 3) := dcO tk_L_law_21 18 rfl
theorem dL_law_1285 : decode cL_law 1285 = .ok (.iconst 0, 1) := dcO tk_L_law_21 19 rfl
theorem dL_law_1286 : decode cL_law 1286 = .ok (.ireturn, 1) := dcO tk_L_law_21 20 rfl
theorem dL_law_1287 : decode cL_law 1287 = .ok (.aload_n 1, 1) := dcO tk_L_law_21 21 rfl
theorem dL_law_1288 : decode cL_law 1288 = .ok (.aload_n 0, 1) := dcO tk_L_law_21 22 rfl
theorem dL_law_1289 : decode cL_law 1289 = .ok (.iload_n 3, 1) := dcO tk_L_law_21 23 rfl
theorem dL_law_1290 : decode cL_law 1290 = .ok (.iconst 1, 1) := dcO tk_L_law_21 24 rfl
theorem dL_law_1291 : decode cL_law 1291 = .ok (.iadd, 1) := dcO tk_L_law_21 25 rfl
theorem dL_law_1292 : decode cL_law 1292 = .ok (.iaload, 1) := dcO tk_L_law_21 26 rfl
theorem dL_law_1293 : decode cL_law 1293 = .ok (.aload_n 0, 1) := dcO tk_L_law_21 27 rfl
theorem dL_law_1294 : decode cL_law 1294 = .ok (.iload_n 3, 1) := dcO tk_L_law_21 28 rfl
theorem dL_law_1295 : decode cL_law 1295 = .ok (.iconst 2, 1) := dcO tk_L_law_21 29 rfl
theorem dL_law_1296 : decode cL_law 1296 = .ok (.iadd, 1) := dcO tk_L_law_21 30 rfl
theorem dL_law_1297 : decode cL_law 1297 = .ok (.iaload, 1) := dcO tk_L_law_21 31 rfl
theorem dL_law_1298 : decode cL_law 1298 = .ok (.invokevirtual 154, 3) := dcO tk_L_law_21 32 rfl
theorem dL_law_1301 : decode cL_law 1301 = .ok (.aload_n 2, 1) := dcO tk_L_law_21 33 rfl
theorem dL_law_1302 : decode cL_law 1302 = .ok (.aload_n 0, 1) := dcO tk_L_law_21 34 rfl
theorem dL_law_1303 : decode cL_law 1303 = .ok (.iload_n 3, 1) := dcO tk_L_law_21 35 rfl
theorem dL_law_1304 : decode cL_law 1304 = .ok (.iconst 1, 1) := dcO tk_L_law_21 36 rfl
theorem dL_law_1305 : decode cL_law 1305 = .ok (.iadd, 1) := dcO tk_L_law_21 37 rfl
theorem dL_law_1306 : decode cL_law 1306 = .ok (.iaload, 1) := dcO tk_L_law_21 38 rfl
theorem dL_law_1307 : decode cL_law 1307 = .ok (.aload_n 0, 1) := dcO tk_L_law_21 39 rfl
abbrev tb_L_law_22 : List (Nat × Instr × Nat) := [(1308, .iload_n 3, 1), (1309, .iconst 2, 1), (1310, .iadd, 1), (1311, .iaload, 1), (1312, .invokevirtual 157, 3), (1315, .if_icmp .eq 377, 3), (1318, .iconst 0, 1), (1319, .ireturn, 1), (1320, .aload_n 1, 1), (1321, .invokevirtual 158, 3), (1324, .aload_n 2, 1), (1325, .invokevirtual 161, 3), (1328, .if_icmp .eq 364, 3), (1331, .iconst 0, 1), (1332, .ireturn, 1), (1333, .aload_n 1, 1), (1334, .invokevirtual 162, 3), (1337, .aload_n 2, 1), (1338, .invokevirtual 165, 3), (1341, .if_icmp .eq 351, 3), (1344, .iconst 0, 1), (1345, .ireturn, 1), (1346, .aload_n 1, 1), (1347, .aload_n 0, 1), (1348, .iload_n 3, 1), (1349, .iconst 1, 1), (1350, .iadd, 1), (1351, .iaload, 1), (1352, .aload_n 0, 1), (1353, .iload_n 3, 1), (1354, .iconst 2, 1), (1355, .iadd, 1), (1356, .iaload, 1), (1357, .invokevirtual 166, 3), (1360, .aload_n 2, 1), (1361, .aload_n 0, 1), (1362, .iload_n 3, 1), (1363, .iconst 1, 1), (1364, .iadd, 1), (1365, .iaload, 1)]
theorem tk_L_law_22 : dcA cL_law tb_L_law_22 = true := by decide +kernel
theorem dL_law_1308 : decode cL_law 1308 = .ok (.iload_n 3, 1) := dcO tk_L_law_22 0 rfl
theorem dL_law_1309 : decode cL_law 1309 = .ok (.iconst 2, 1) := dcO tk_L_law_22 1 rfl
theorem dL_law_1310 : decode cL_law 1310 = .ok (.iadd, 1) := dcO tk_L_law_22 2 rfl
theorem dL_law_1311 : decode cL_law 1311 = .ok (.iaload, 1) := dcO tk_L_law_22 3 rfl
theorem dL_law_1312 : decode cL_law 1312 = .ok (.invokevirtual 157, 3) := dcO tk_L_law_22 4 rfl
theorem dL_law_1315 : decode cL_law 1315 = .ok (.if_icmp .eq 377, 3) := dcO tk_L_law_22 5 rfl
theorem dL_law_1318 : decode cL_law 1318 = .ok (.iconst 0, 1) := dcO tk_L_law_22 6 rfl
theorem dL_law_1319 : decode cL_law 1319 = .ok (.ireturn, 1) := dcO tk_L_law_22 7 rfl
theorem dL_law_1320 : decode cL_law 1320 = .ok (.aload_n 1, 1) := dcO tk_L_law_22 8 rfl
theorem dL_law_1321 : decode cL_law 1321 = .ok (.invokevirtual 158, 3) := dcO tk_L_law_22 9 rfl
theorem dL_law_1324 : decode cL_law 1324 = .ok (.aload_n 2, 1) := dcO tk_L_law_22 10 rfl
theorem dL_law_1325 : decode cL_law 1325 = .ok (.invokevirtual 161, 3) := dcO tk_L_law_22 11 rfl
theorem dL_law_1328 : decode cL_law 1328 = .ok (.if_icmp .eq 364, 3) := dcO tk_L_law_22 12 rfl
theorem dL_law_1331 : decode cL_law 1331 = .ok (.iconst 0, 1) := dcO tk_L_law_22 13 rfl
theorem dL_law_1332 : decode cL_law 1332 = .ok (.ireturn, 1) := dcO tk_L_law_22 14 rfl
theorem dL_law_1333 : decode cL_law 1333 = .ok (.aload_n 1, 1) := dcO tk_L_law_22 15 rfl
theorem dL_law_1334 : decode cL_law 1334 = .ok (.invokevirtual 162, 3) := dcO tk_L_law_22 16 rfl
theorem dL_law_1337 : decode cL_law 1337 = .ok (.aload_n 2, 1) := dcO tk_L_law_22 17 rfl
theorem dL_law_1338 : decode cL_law 1338 = .ok (.invokevirtual 165, 3) := dcO tk_L_law_22 18 rfl
theorem dL_law_1341 : decode cL_law 1341 = .ok (.if_icmp .eq 351, 3) := dcO tk_L_law_22 19 rfl
theorem dL_law_1344 : decode cL_law 1344 = .ok (.iconst 0, 1) := dcO tk_L_law_22 20 rfl
theorem dL_law_1345 : decode cL_law 1345 = .ok (.ireturn, 1) := dcO tk_L_law_22 21 rfl
theorem dL_law_1346 : decode cL_law 1346 = .ok (.aload_n 1, 1) := dcO tk_L_law_22 22 rfl
theorem dL_law_1347 : decode cL_law 1347 = .ok (.aload_n 0, 1) := dcO tk_L_law_22 23 rfl
theorem dL_law_1348 : decode cL_law 1348 = .ok (.iload_n 3, 1) := dcO tk_L_law_22 24 rfl
theorem dL_law_1349 : decode cL_law 1349 = .ok (.iconst 1, 1) := dcO tk_L_law_22 25 rfl
theorem dL_law_1350 : decode cL_law 1350 = .ok (.iadd, 1) := dcO tk_L_law_22 26 rfl
theorem dL_law_1351 : decode cL_law 1351 = .ok (.iaload, 1) := dcO tk_L_law_22 27 rfl
theorem dL_law_1352 : decode cL_law 1352 = .ok (.aload_n 0, 1) := dcO tk_L_law_22 28 rfl
theorem dL_law_1353 : decode cL_law 1353 = .ok (.iload_n 3, 1) := dcO tk_L_law_22 29 rfl
theorem dL_law_1354 : decode cL_law 1354 = .ok (.iconst 2, 1) := dcO tk_L_law_22 30 rfl
theorem dL_law_1355 : decode cL_law 1355 = .ok (.iadd, 1) := dcO tk_L_law_22 31 rfl
theorem dL_law_1356 : decode cL_law 1356 = .ok (.iaload, 1) := dcO tk_L_law_22 32 rfl
theorem dL_law_1357 : decode cL_law 1357 = .ok (.invokevirtual 166, 3) := dcO tk_L_law_22 33 rfl
theorem dL_law_1360 : decode cL_law 1360 = .ok (.aload_n 2, 1) := dcO tk_L_law_22 34 rfl
theorem dL_law_1361 : decode cL_law 1361 = .ok (.aload_n 0, 1) := dcO tk_L_law_22 35 rfl
theorem dL_law_1362 : decode cL_law 1362 = .ok (.iload_n 3, 1) := dcO tk_L_law_22 36 rfl
theorem dL_law_1363 : decode cL_law 1363 = .ok (.iconst 1, 1) := dcO tk_L_law_22 37 rfl
theorem dL_law_1364 : decode cL_law 1364 = .ok (.iadd, 1) := dcO tk_L_law_22 38 rfl
theorem dL_law_1365 : decode cL_law 1365 = .ok (.iaload, 1) := dcO tk_L_law_22 39 rfl
abbrev tb_L_law_23 : List (Nat × Instr × Nat) := [(1366, .aload_n 0, 1), (1367, .iload_n 3, 1), (1368, .iconst 2, 1), (1369, .iadd, 1), (1370, .iaload, 1), (1371, .invokevirtual 169, 3), (1374, .if_icmp .eq 318, 3), (1377, .iconst 0, 1), (1378, .ireturn, 1), (1379, .aload_n 1, 1), (1380, .aload_n 0, 1), (1381, .iload_n 3, 1), (1382, .iconst 1, 1), (1383, .iadd, 1), (1384, .iaload, 1), (1385, .aload_n 0, 1), (1386, .iload_n 3, 1), (1387, .iconst 2, 1), (1388, .iadd, 1), (1389, .iaload, 1), (1390, .invokevirtual 170, 3), (1393, .aload_n 2, 1), (1394, .aload_n 0, 1), (1395, .iload_n 3, 1), (1396, .iconst 1, 1), (1397, .iadd, 1), (1398, .iaload, 1), (1399, .aload_n 0, 1), (1400, .iload_n 3, 1), (1401, .iconst 2, 1), (1402, .iadd, 1), (1403, .iaload, 1), (1404, .invokevirtual 173, 3), (1407, .if_icmp .eq 285, 3), (1410, .iconst 0, 1), (1411, .ireturn, 1), (1412, .aload_n 1, 1), (1413, .aload_n 0, 1), (1414, .iload_n 3, 1), (1415, .iconst 1, 1)]
theorem tk_L_law_23 : dcA cL_law tb_L_law_23 = true := by decide +kernel
theorem dL_law_1366 : decode cL_law 1366 = .ok (.aload_n 0, 1) := dcO tk_L_law_23 0 rfl
theorem dL_law_1367 : decode cL_law 1367 = .ok (.iload_n 3, 1) := dcO tk_L_law_23 1 rfl
theorem dL_law_1368 : decode cL_law 1368 = .ok (.iconst 2, 1) := dcO tk_L_law_23 2 rfl
theorem dL_law_1369 : decode cL_law 1369 = .ok (.iadd, 1) := dcO tk_L_law_23 3 rfl
theorem dL_law_1370 : decode cL_law 1370 = .ok (.iaload, 1) := dcO tk_L_law_23 4 rfl
theorem dL_law_1371 : decode cL_law 1371 = .ok (.invokevirtual 169, 3) := dcO tk_L_law_23 5 rfl
theorem dL_law_1374 : decode cL_law 1374 = .ok (.if_icmp .eq 318, 3) := dcO tk_L_law_23 6 rfl
theorem dL_law_1377 : decode cL_law 1377 = .ok (.iconst 0, 1) := dcO tk_L_law_23 7 rfl
theorem dL_law_1378 : decode cL_law 1378 = .ok (.ireturn, 1) := dcO tk_L_law_23 8 rfl
theorem dL_law_1379 : decode cL_law 1379 = .ok (.aload_n 1, 1) := dcO tk_L_law_23 9 rfl
theorem dL_law_1380 : decode cL_law 1380 = .ok (.aload_n 0, 1) := dcO tk_L_law_23 10 rfl
theorem dL_law_1381 : decode cL_law 1381 = .ok (.iload_n 3, 1) := dcO tk_L_law_23 11 rfl
theorem dL_law_1382 : decode cL_law 1382 = .ok (.iconst 1, 1) := dcO tk_L_law_23 12 rfl
theorem dL_law_1383 : decode cL_law 1383 = .ok (.iadd, 1) := dcO tk_L_law_23 13 rfl
theorem dL_law_1384 : decode cL_law 1384 = .ok (.iaload, 1) := dcO tk_L_law_23 14 rfl
theorem dL_law_1385 : decode cL_law 1385 = .ok (.aload_n 0, 1) := dcO tk_L_law_23 15 rfl
theorem dL_law_1386 : decode cL_law 1386 = .ok (.iload_n 3, 1) := dcO tk_L_law_23 16 rfl
theorem dL_law_1387 : decode cL_law 1387 = .ok (.iconst 2, 1) := dcO tk_L_law_23 17 rfl
theorem dL_law_1388 : decode cL_law 1388 = .ok (.iadd, 1) := dcO tk_L_law_23 18 rfl
theorem dL_law_1389 : decode cL_law 1389 = .ok (.iaload, 1) := dcO tk_L_law_23 19 rfl
theorem dL_law_1390 : decode cL_law 1390 = .ok (.invokevirtual 170, 3) := dcO tk_L_law_23 20 rfl
theorem dL_law_1393 : decode cL_law 1393 = .ok (.aload_n 2, 1) := dcO tk_L_law_23 21 rfl
theorem dL_law_1394 : decode cL_law 1394 = .ok (.aload_n 0, 1) := dcO tk_L_law_23 22 rfl
theorem dL_law_1395 : decode cL_law 1395 = .ok (.iload_n 3, 1) := dcO tk_L_law_23 23 rfl
theorem dL_law_1396 : decode cL_law 1396 = .ok (.iconst 1, 1) := dcO tk_L_law_23 24 rfl
theorem dL_law_1397 : decode cL_law 1397 = .ok (.iadd, 1) := dcO tk_L_law_23 25 rfl
theorem dL_law_1398 : decode cL_law 1398 = .ok (.iaload, 1) := dcO tk_L_law_23 26 rfl
theorem dL_law_1399 : decode cL_law 1399 = .ok (.aload_n 0, 1) := dcO tk_L_law_23 27 rfl
theorem dL_law_1400 : decode cL_law 1400 = .ok (.iload_n 3, 1) := dcO tk_L_law_23 28 rfl
theorem dL_law_1401 : decode cL_law 1401 = .ok (.iconst 2, 1) := dcO tk_L_law_23 29 rfl
theorem dL_law_1402 : decode cL_law 1402 = .ok (.iadd, 1) := dcO tk_L_law_23 30 rfl
theorem dL_law_1403 : decode cL_law 1403 = .ok (.iaload, 1) := dcO tk_L_law_23 31 rfl
theorem dL_law_1404 : decode cL_law 1404 = .ok (.invokevirtual 173, 3) := dcO tk_L_law_23 32 rfl
theorem dL_law_1407 : decode cL_law 1407 = .ok (.if_icmp .eq 285, 3) := dcO tk_L_law_23 33 rfl
theorem dL_law_1410 : decode cL_law 1410 = .ok (.iconst 0, 1) := dcO tk_L_law_23 34 rfl
theorem dL_law_1411 : decode cL_law 1411 = .ok (.ireturn, 1) := dcO tk_L_law_23 35 rfl
theorem dL_law_1412 : decode cL_law 1412 = .ok (.aload_n 1, 1) := dcO tk_L_law_23 36 rfl
theorem dL_law_1413 : decode cL_law 1413 = .ok (.aload_n 0, 1) := dcO tk_L_law_23 37 rfl
theorem dL_law_1414 : decode cL_law 1414 = .ok (.iload_n 3, 1) := dcO tk_L_law_23 38 rfl
theorem dL_law_1415 : decode cL_law 1415 = .ok (.iconst 1, 1) := dcO tk_L_law_23 39 rfl
abbrev tb_L_law_24 : List (Nat × Instr × Nat) := [(1416, .iadd, 1), (1417, .iaload, 1), (1418, .aload_n 0, 1), (1419, .iload_n 3, 1), (1420, .iconst 2, 1), (1421, .iadd, 1), (1422, .iaload, 1), (1423, .aload_n 0, 1), (1424, .iload_n 3, 1), (1425, .iconst 3, 1), (1426, .iadd, 1), (1427, .iaload, 1), (1428, .invokevirtual 174, 3), (1431, .aload_n 2, 1), (1432, .aload_n 0, 1), (1433, .iload_n 3, 1), (1434, .iconst 1, 1), (1435, .iadd, 1), (1436, .iaload, 1), (1437, .aload_n 0, 1), (1438, .iload_n 3, 1), (1439, .iconst 2, 1), (1440, .iadd, 1), (1441, .iaload, 1), (1442, .aload_n 0, 1), (1443, .iload_n 3, 1), (1444, .iconst 3, 1), (1445, .iadd, 1), (1446, .iaload, 1), (1447, .invokevirtual 177, 3), (1450, .if_icmp .eq 242, 3), (1453, .iconst 0, 1), (1454, .ireturn, 1), (1455, .aload_n 1, 1), (1456, .aload_n 0, 1), (1457, .iload_n 3, 1), (1458, .iconst 1, 1), (1459, .iadd, 1), (1460, .iaload, 1), (1461, .aload_n 0, 1)]
theorem tk_L_law_24 : dcA cL_law tb_L_law_24 = true := by decide +kernel
theorem dL_law_1416 : decode cL_law 1416 = .ok (.iadd, 1) := dcO tk_L_law_24 0 rfl
theorem dL_law_1417 : decode cL_law 1417 = .ok (.iaload, 1) := dcO tk_L_law_24 1 rfl
theorem dL_law_1418 : decode cL_law 1418 = .ok (.aload_n 0, 1) := dcO tk_L_law_24 2 rfl
theorem dL_law_1419 : decode cL_law 1419 = .ok (.iload_n 3, 1) := dcO tk_L_law_24 3 rfl
theorem dL_law_1420 : decode cL_law 1420 = .ok (.iconst 2, 1) := dcO tk_L_law_24 4 rfl
theorem dL_law_1421 : decode cL_law 1421 = .ok (.iadd, 1) := dcO tk_L_law_24 5 rfl
theorem dL_law_1422 : decode cL_law 1422 = .ok (.iaload, 1) := dcO tk_L_law_24 6 rfl
theorem dL_law_1423 : decode cL_law 1423 = .ok (.aload_n 0, 1) := dcO tk_L_law_24 7 rfl
theorem dL_law_1424 : decode cL_law 1424 = .ok (.iload_n 3, 1) := dcO tk_L_law_24 8 rfl
theorem dL_law_1425 : decode cL_law 1425 = .ok (.iconst 3, 1) := dcO tk_L_law_24 9 rfl
theorem dL_law_1426 : decode cL_law 1426 = .ok (.iadd, 1) := dcO tk_L_law_24 10 rfl
theorem dL_law_1427 : decode cL_law 1427 = .ok (.iaload, 1) := dcO tk_L_law_24 11 rfl
theorem dL_law_1428 : decode cL_law 1428 = .ok (.invokevirtual 174, 3) := dcO tk_L_law_24 12 rfl
theorem dL_law_1431 : decode cL_law 1431 = .ok (.aload_n 2, 1) := dcO tk_L_law_24 13 rfl
theorem dL_law_1432 : decode cL_law 1432 = .ok (.aload_n 0, 1) := dcO tk_L_law_24 14 rfl
theorem dL_law_1433 : decode cL_law 1433 = .ok (.iload_n 3, 1) := dcO tk_L_law_24 15 rfl
theorem dL_law_1434 : decode cL_law 1434 = .ok (.iconst 1, 1) := dcO tk_L_law_24 16 rfl
theorem dL_law_1435 : decode cL_law 1435 = .ok (.iadd, 1) := dcO tk_L_law_24 17 rfl
theorem dL_law_1436 : decode cL_law 1436 = .ok (.iaload, 1) := dcO tk_L_law_24 18 rfl
theorem dL_law_1437 : decode cL_law 1437 = .ok (.aload_n 0, 1) := dcO tk_L_law_24 19 rfl
theorem dL_law_1438 : decode cL_law 1438 = .ok (.iload_n 3, 1) := dcO tk_L_law_24 20 rfl
theorem dL_law_1439 : decode cL_law 1439 = .ok (.iconst 2, 1) := dcO tk_L_law_24 21 rfl
theorem dL_law_1440 : decode cL_law 1440 = .ok (.iadd, 1) := dcO tk_L_law_24 22 rfl
theorem dL_law_1441 : decode cL_law 1441 = .ok (.iaload, 1) := dcO tk_L_law_24 23 rfl
theorem dL_law_1442 : decode cL_law 1442 = .ok (.aload_n 0, 1) := dcO tk_L_law_24 24 rfl
theorem dL_law_1443 : decode cL_law 1443 = .ok (.iload_n 3, 1) := dcO tk_L_law_24 25 rfl
theorem dL_law_1444 : decode cL_law 1444 = .ok (.iconst 3, 1) := dcO tk_L_law_24 26 rfl
theorem dL_law_1445 : decode cL_law 1445 = .ok (.iadd, 1) := dcO tk_L_law_24 27 rfl
theorem dL_law_1446 : decode cL_law 1446 = .ok (.iaload, 1) := dcO tk_L_law_24 28 rfl
theorem dL_law_1447 : decode cL_law 1447 = .ok (.invokevirtual 177, 3) := dcO tk_L_law_24 29 rfl
theorem dL_law_1450 : decode cL_law 1450 = .ok (.if_icmp .eq 242, 3) := dcO tk_L_law_24 30 rfl
theorem dL_law_1453 : decode cL_law 1453 = .ok (.iconst 0, 1) := dcO tk_L_law_24 31 rfl
theorem dL_law_1454 : decode cL_law 1454 = .ok (.ireturn, 1) := dcO tk_L_law_24 32 rfl
theorem dL_law_1455 : decode cL_law 1455 = .ok (.aload_n 1, 1) := dcO tk_L_law_24 33 rfl
theorem dL_law_1456 : decode cL_law 1456 = .ok (.aload_n 0, 1) := dcO tk_L_law_24 34 rfl
theorem dL_law_1457 : decode cL_law 1457 = .ok (.iload_n 3, 1) := dcO tk_L_law_24 35 rfl
theorem dL_law_1458 : decode cL_law 1458 = .ok (.iconst 1, 1) := dcO tk_L_law_24 36 rfl
theorem dL_law_1459 : decode cL_law 1459 = .ok (.iadd, 1) := dcO tk_L_law_24 37 rfl
theorem dL_law_1460 : decode cL_law 1460 = .ok (.iaload, 1) := dcO tk_L_law_24 38 rfl
theorem dL_law_1461 : decode cL_law 1461 = .ok (.aload_n 0, 1) := dcO tk_L_law_24 39 rfl
abbrev tb_L_law_25 : List (Nat × Instr × Nat) := [(1462, .iload_n 3, 1), (1463, .iconst 2, 1), (1464, .iadd, 1), (1465, .iaload, 1), (1466, .aload_n 0, 1), (1467, .iload_n 3, 1), (1468, .iconst 3, 1), (1469, .iadd, 1), (1470, .iaload, 1), (1471, .invokevirtual 178, 3), (1474, .aload_n 2, 1), (1475, .aload_n 0, 1), (1476, .iload_n 3, 1), (1477, .iconst 1, 1), (1478, .iadd, 1), (1479, .iaload, 1), (1480, .aload_n 0, 1), (1481, .iload_n 3, 1), (1482, .iconst 2, 1), (1483, .iadd, 1), (1484, .iaload, 1), (1485, .aload_n 0, 1), (1486, .iload_n 3, 1), (1487, .iconst 3, 1), (1488, .iadd, 1), (1489, .iaload, 1), (1490, .invokevirtual 181, 3), (1493, .if_icmp .eq 199, 3), (1496, .iconst 0, 1), (1497, .ireturn, 1), (1498, .aload_n 1, 1), (1499, .aload_n 0, 1), (1500, .iload_n 3, 1), (1501, .iconst 1, 1), (1502, .iadd, 1), (1503, .iaload, 1), (1504, .aload_n 0, 1), (1505, .iload_n 3, 1), (1506, .iconst 2, 1), (1507, .iadd, 1)]
theorem tk_L_law_25 : dcA cL_law tb_L_law_25 = true := by decide +kernel
theorem dL_law_1462 : decode cL_law 1462 = .ok (.iload_n 3, 1) := dcO tk_L_law_25 0 rfl
theorem dL_law_1463 : decode cL_law 1463 = .ok (.iconst 2, 1) := dcO tk_L_law_25 1 rfl
theorem dL_law_1464 : decode cL_law 1464 = .ok (.iadd, 1) := dcO tk_L_law_25 2 rfl
theorem dL_law_1465 : decode cL_law 1465 = .ok (.iaload, 1) := dcO tk_L_law_25 3 rfl
theorem dL_law_1466 : decode cL_law 1466 = .ok (.aload_n 0, 1) := dcO tk_L_law_25 4 rfl
theorem dL_law_1467 : decode cL_law 1467 = .ok (.iload_n 3, 1) := dcO tk_L_law_25 5 rfl
theorem dL_law_1468 : decode cL_law 1468 = .ok (.iconst 3, 1) := dcO tk_L_law_25 6 rfl
theorem dL_law_1469 : decode cL_law 1469 = .ok (.iadd, 1) := dcO tk_L_law_25 7 rfl
theorem dL_law_1470 : decode cL_law 1470 = .ok (.iaload, 1) := dcO tk_L_law_25 8 rfl
theorem dL_law_1471 : decode cL_law 1471 = .ok (.invokevirtual 178, 3) := dcO tk_L_law_25 9 rfl
theorem dL_law_1474 : decode cL_law 1474 = .ok (.aload_n 2, 1) := dcO tk_L_law_25 10 rfl
theorem dL_law_1475 : decode cL_law 1475 = .ok (.aload_n 0, 1) := dcO tk_L_law_25 11 rfl
theorem dL_law_1476 : decode cL_law 1476 = .ok (.iload_n 3, 1) := dcO tk_L_law_25 12 rfl
theorem dL_law_1477 : decode cL_law 1477 = .ok (.iconst 1, 1) := dcO tk_L_law_25 13 rfl
theorem dL_law_1478 : decode cL_law 1478 = .ok (.iadd, 1) := dcO tk_L_law_25 14 rfl
theorem dL_law_1479 : decode cL_law 1479 = .ok (.iaload, 1) := dcO tk_L_law_25 15 rfl
theorem dL_law_1480 : decode cL_law 1480 = .ok (.aload_n 0, 1) := dcO tk_L_law_25 16 rfl
theorem dL_law_1481 : decode cL_law 1481 = .ok (.iload_n 3, 1) := dcO tk_L_law_25 17 rfl
theorem dL_law_1482 : decode cL_law 1482 = .ok (.iconst 2, 1) := dcO tk_L_law_25 18 rfl
theorem dL_law_1483 : decode cL_law 1483 = .ok (.iadd, 1) := dcO tk_L_law_25 19 rfl
theorem dL_law_1484 : decode cL_law 1484 = .ok (.iaload, 1) := dcO tk_L_law_25 20 rfl
theorem dL_law_1485 : decode cL_law 1485 = .ok (.aload_n 0, 1) := dcO tk_L_law_25 21 rfl
theorem dL_law_1486 : decode cL_law 1486 = .ok (.iload_n 3, 1) := dcO tk_L_law_25 22 rfl
theorem dL_law_1487 : decode cL_law 1487 = .ok (.iconst 3, 1) := dcO tk_L_law_25 23 rfl
theorem dL_law_1488 : decode cL_law 1488 = .ok (.iadd, 1) := dcO tk_L_law_25 24 rfl
theorem dL_law_1489 : decode cL_law 1489 = .ok (.iaload, 1) := dcO tk_L_law_25 25 rfl
theorem dL_law_1490 : decode cL_law 1490 = .ok (.invokevirtual 181, 3) := dcO tk_L_law_25 26 rfl
theorem dL_law_1493 : decode cL_law 1493 = .ok (.if_icmp .eq 199, 3) := dcO tk_L_law_25 27 rfl
theorem dL_law_1496 : decode cL_law 1496 = .ok (.iconst 0, 1) := dcO tk_L_law_25 28 rfl
theorem dL_law_1497 : decode cL_law 1497 = .ok (.ireturn, 1) := dcO tk_L_law_25 29 rfl
theorem dL_law_1498 : decode cL_law 1498 = .ok (.aload_n 1, 1) := dcO tk_L_law_25 30 rfl
theorem dL_law_1499 : decode cL_law 1499 = .ok (.aload_n 0, 1) := dcO tk_L_law_25 31 rfl
theorem dL_law_1500 : decode cL_law 1500 = .ok (.iload_n 3, 1) := dcO tk_L_law_25 32 rfl
theorem dL_law_1501 : decode cL_law 1501 = .ok (.iconst 1, 1) := dcO tk_L_law_25 33 rfl
theorem dL_law_1502 : decode cL_law 1502 = .ok (.iadd, 1) := dcO tk_L_law_25 34 rfl
theorem dL_law_1503 : decode cL_law 1503 = .ok (.iaload, 1) := dcO tk_L_law_25 35 rfl
theorem dL_law_1504 : decode cL_law 1504 = .ok (.aload_n 0, 1) := dcO tk_L_law_25 36 rfl
theorem dL_law_1505 : decode cL_law 1505 = .ok (.iload_n 3, 1) := dcO tk_L_law_25 37 rfl
theorem dL_law_1506 : decode cL_law 1506 = .ok (.iconst 2, 1) := dcO tk_L_law_25 38 rfl
theorem dL_law_1507 : decode cL_law 1507 = .ok (.iadd, 1) := dcO tk_L_law_25 39 rfl
abbrev tb_L_law_26 : List (Nat × Instr × Nat) := [(1508, .iaload, 1), (1509, .aload_n 0, 1), (1510, .iload_n 3, 1), (1511, .iconst 3, 1), (1512, .iadd, 1), (1513, .iaload, 1), (1514, .aload_n 0, 1), (1515, .iload_n 3, 1), (1516, .iconst 4, 1), (1517, .iadd, 1), (1518, .iaload, 1), (1519, .aload_n 0, 1), (1520, .iload_n 3, 1), (1521, .iconst 5, 1), (1522, .iadd, 1), (1523, .iaload, 1), (1524, .invokevirtual 182, 3), (1527, .aload_n 2, 1), (1528, .aload_n 0, 1), (1529, .iload_n 3, 1), (1530, .iconst 1, 1), (1531, .iadd, 1), (1532, .iaload, 1), (1533, .aload_n 0, 1), (1534, .iload_n 3, 1), (1535, .iconst 2, 1), (1536, .iadd, 1), (1537, .iaload, 1), (1538, .aload_n 0, 1), (1539, .iload_n 3, 1), (1540, .iconst 3, 1), (1541, .iadd, 1), (1542, .iaload, 1), (1543, .aload_n 0, 1), (1544, .iload_n 3, 1), (1545, .iconst 4, 1), (1546, .iadd, 1), (1547, .iaload, 1), (1548, .aload_n 0, 1), (1549, .iload_n 3, 1)]
theorem tk_L_law_26 : dcA cL_law tb_L_law_26 = true := by decide +kernel
theorem dL_law_1508 : decode cL_law 1508 = .ok (.iaload, 1) := dcO tk_L_law_26 0 rfl
theorem dL_law_1509 : decode cL_law 1509 = .ok (.aload_n 0, 1) := dcO tk_L_law_26 1 rfl
theorem dL_law_1510 : decode cL_law 1510 = .ok (.iload_n 3, 1) := dcO tk_L_law_26 2 rfl
theorem dL_law_1511 : decode cL_law 1511 = .ok (.iconst 3, 1) := dcO tk_L_law_26 3 rfl
theorem dL_law_1512 : decode cL_law 1512 = .ok (.iadd, 1) := dcO tk_L_law_26 4 rfl
theorem dL_law_1513 : decode cL_law 1513 = .ok (.iaload, 1) := dcO tk_L_law_26 5 rfl
theorem dL_law_1514 : decode cL_law 1514 = .ok (.aload_n 0, 1) := dcO tk_L_law_26 6 rfl
theorem dL_law_1515 : decode cL_law 1515 = .ok (.iload_n 3, 1) := dcO tk_L_law_26 7 rfl
theorem dL_law_1516 : decode cL_law 1516 = .ok (.iconst 4, 1) := dcO tk_L_law_26 8 rfl
theorem dL_law_1517 : decode cL_law 1517 = .ok (.iadd, 1) := dcO tk_L_law_26 9 rfl
theorem dL_law_1518 : decode cL_law 1518 = .ok (.iaload, 1) := dcO tk_L_law_26 10 rfl
theorem dL_law_1519 : decode cL_law 1519 = .ok (.aload_n 0, 1) := dcO tk_L_law_26 11 rfl
theorem dL_law_1520 : decode cL_law 1520 = .ok (.iload_n 3, 1) := dcO tk_L_law_26 12 rfl
theorem dL_law_1521 : decode cL_law 1521 = .ok (.iconst 5, 1) := dcO tk_L_law_26 13 rfl
theorem dL_law_1522 : decode cL_law 1522 = .ok (.iadd, 1) := dcO tk_L_law_26 14 rfl
theorem dL_law_1523 : decode cL_law 1523 = .ok (.iaload, 1) := dcO tk_L_law_26 15 rfl
theorem dL_law_1524 : decode cL_law 1524 = .ok (.invokevirtual 182, 3) := dcO tk_L_law_26 16 rfl
theorem dL_law_1527 : decode cL_law 1527 = .ok (.aload_n 2, 1) := dcO tk_L_law_26 17 rfl
theorem dL_law_1528 : decode cL_law 1528 = .ok (.aload_n 0, 1) := dcO tk_L_law_26 18 rfl
theorem dL_law_1529 : decode cL_law 1529 = .ok (.iload_n 3, 1) := dcO tk_L_law_26 19 rfl
theorem dL_law_1530 : decode cL_law 1530 = .ok (.iconst 1, 1) := dcO tk_L_law_26 20 rfl
theorem dL_law_1531 : decode cL_law 1531 = .ok (.iadd, 1) := dcO tk_L_law_26 21 rfl
theorem dL_law_1532 : decode cL_law 1532 = .ok (.iaload, 1) := dcO tk_L_law_26 22 rfl
theorem dL_law_1533 : decode cL_law 1533 = .ok (.aload_n 0, 1) := dcO tk_L_law_26 23 rfl
theorem dL_law_1534 : decode cL_law 1534 = .ok (.iload_n 3, 1) := dcO tk_L_law_26 24 rfl
theorem dL_law_1535 : decode cL_law 1535 = .ok (.iconst 2, 1) := dcO tk_L_law_26 25 rfl
theorem dL_law_1536 : decode cL_law 1536 = .ok (.iadd, 1) := dcO tk_L_law_26 26 rfl
theorem dL_law_1537 : decode cL_law 1537 = .ok (.iaload, 1) := dcO tk_L_law_26 27 rfl
theorem dL_law_1538 : decode cL_law 1538 = .ok (.aload_n 0, 1) := dcO tk_L_law_26 28 rfl
theorem dL_law_1539 : decode cL_law 1539 = .ok (.iload_n 3, 1) := dcO tk_L_law_26 29 rfl
theorem dL_law_1540 : decode cL_law 1540 = .ok (.iconst 3, 1) := dcO tk_L_law_26 30 rfl
theorem dL_law_1541 : decode cL_law 1541 = .ok (.iadd, 1) := dcO tk_L_law_26 31 rfl
theorem dL_law_1542 : decode cL_law 1542 = .ok (.iaload, 1) := dcO tk_L_law_26 32 rfl
theorem dL_law_1543 : decode cL_law 1543 = .ok (.aload_n 0, 1) := dcO tk_L_law_26 33 rfl
theorem dL_law_1544 : decode cL_law 1544 = .ok (.iload_n 3, 1) := dcO tk_L_law_26 34 rfl
theorem dL_law_1545 : decode cL_law 1545 = .ok (.iconst 4, 1) := dcO tk_L_law_26 35 rfl
theorem dL_law_1546 : decode cL_law 1546 = .ok (.iadd, 1) := dcO tk_L_law_26 36 rfl
theorem dL_law_1547 : decode cL_law 1547 = .ok (.iaload, 1) := dcO tk_L_law_26 37 rfl
theorem dL_law_1548 : decode cL_law 1548 = .ok (.aload_n 0, 1) := dcO tk_L_law_26 38 rfl
theorem dL_law_1549 : decode cL_law 1549 = .ok (.iload_n 3, 1) := dcO tk_L_law_26 39 rfl
abbrev tb_L_law_27 : List (Nat × Instr × Nat) := [(1550, .iconst 5, 1), (1551, .iadd, 1), (1552, .iaload, 1), (1553, .invokevirtual 186, 3), (1556, .if_icmp .eq 136, 3), (1559, .iconst 0, 1), (1560, .ireturn, 1), (1561, .aload_n 1, 1), (1562, .aload_n 0, 1), (1563, .iload_n 3, 1), (1564, .iconst 1, 1), (1565, .iadd, 1), (1566, .iaload, 1), (1567, .invokevirtual 187, 3), (1570, .aload_n 2, 1), (1571, .aload_n 0, 1), (1572, .iload_n 3, 1), (1573, .iconst 1, 1), (1574, .iadd, 1), (1575, .iaload, 1), (1576, .invokevirtual 190, 3), (1579, .if_icmp .eq 113, 3), (1582, .iconst 0, 1), (1583, .ireturn, 1), (1584, .aload_n 1, 1), (1585, .aload_n 0, 1), (1586, .iload_n 3, 1), (1587, .iconst 1, 1), (1588, .iadd, 1), (1589, .iaload, 1), (1590, .invokevirtual 191, 3), (1593, .aload_n 2, 1), (1594, .aload_n 0, 1), (1595, .iload_n 3, 1), (1596, .iconst 1, 1), (1597, .iadd, 1), (1598, .iaload, 1), (1599, .invokevirtual 194, 3), (1602, .if_icmp .eq 90, 3), (1605, .iconst 0, 1)]
theorem tk_L_law_27 : dcA cL_law tb_L_law_27 = true := by decide +kernel
theorem dL_law_1550 : decode cL_law 1550 = .ok (.iconst 5, 1) := dcO tk_L_law_27 0 rfl
theorem dL_law_1551 : decode cL_law 1551 = .ok (.iadd, 1) := dcO tk_L_law_27 1 rfl
theorem dL_law_1552 : decode cL_law 1552 = .ok (.iaload, 1) := dcO tk_L_law_27 2 rfl
theorem dL_law_1553 : decode cL_law 1553 = .ok (.invokevirtual 186, 3) := dcO tk_L_law_27 3 rfl
theorem dL_law_1556 : decode cL_law 1556 = .ok (.if_icmp .eq 136, 3) := dcO tk_L_law_27 4 rfl
theorem dL_law_1559 : decode cL_law 1559 = .ok (.iconst 0, 1) := dcO tk_L_law_27 5 rfl
theorem dL_law_1560 : decode cL_law 1560 = .ok (.ireturn, 1) := dcO tk_L_law_27 6 rfl
theorem dL_law_1561 : decode cL_law 1561 = .ok (.aload_n 1, 1) := dcO tk_L_law_27 7 rfl
theorem dL_law_1562 : decode cL_law 1562 = .ok (.aload_n 0, 1) := dcO tk_L_law_27 8 rfl
theorem dL_law_1563 : decode cL_law 1563 = .ok (.iload_n 3, 1) := dcO tk_L_law_27 9 rfl
theorem dL_law_1564 : decode cL_law 1564 = .ok (.iconst 1, 1) := dcO tk_L_law_27 10 rfl
theorem dL_law_1565 : decode cL_law 1565 = .ok (.iadd, 1) := dcO tk_L_law_27 11 rfl
theorem dL_law_1566 : decode cL_law 1566 = .ok (.iaload, 1) := dcO tk_L_law_27 12 rfl
theorem dL_law_1567 : decode cL_law 1567 = .ok (.invokevirtual 187, 3) := dcO tk_L_law_27 13 rfl
theorem dL_law_1570 : decode cL_law 1570 = .ok (.aload_n 2, 1) := dcO tk_L_law_27 14 rfl
theorem dL_law_1571 : decode cL_law 1571 = .ok (.aload_n 0, 1) := dcO tk_L_law_27 15 rfl
theorem dL_law_1572 : decode cL_law 1572 = .ok (.iload_n 3, 1) := dcO tk_L_law_27 16 rfl
theorem dL_law_1573 : decode cL_law 1573 = .ok (.iconst 1, 1) := dcO tk_L_law_27 17 rfl
theorem dL_law_1574 : decode cL_law 1574 = .ok (.iadd, 1) := dcO tk_L_law_27 18 rfl
theorem dL_law_1575 : decode cL_law 1575 = .ok (.iaload, 1) := dcO tk_L_law_27 19 rfl
theorem dL_law_1576 : decode cL_law 1576 = .ok (.invokevirtual 190, 3) := dcO tk_L_law_27 20 rfl
theorem dL_law_1579 : decode cL_law 1579 = .ok (.if_icmp .eq 113, 3) := dcO tk_L_law_27 21 rfl
theorem dL_law_1582 : decode cL_law 1582 = .ok (.iconst 0, 1) := dcO tk_L_law_27 22 rfl
theorem dL_law_1583 : decode cL_law 1583 = .ok (.ireturn, 1) := dcO tk_L_law_27 23 rfl
theorem dL_law_1584 : decode cL_law 1584 = .ok (.aload_n 1, 1) := dcO tk_L_law_27 24 rfl
theorem dL_law_1585 : decode cL_law 1585 = .ok (.aload_n 0, 1) := dcO tk_L_law_27 25 rfl
theorem dL_law_1586 : decode cL_law 1586 = .ok (.iload_n 3, 1) := dcO tk_L_law_27 26 rfl
theorem dL_law_1587 : decode cL_law 1587 = .ok (.iconst 1, 1) := dcO tk_L_law_27 27 rfl
theorem dL_law_1588 : decode cL_law 1588 = .ok (.iadd, 1) := dcO tk_L_law_27 28 rfl
theorem dL_law_1589 : decode cL_law 1589 = .ok (.iaload, 1) := dcO tk_L_law_27 29 rfl
theorem dL_law_1590 : decode cL_law 1590 = .ok (.invokevirtual 191, 3) := dcO tk_L_law_27 30 rfl
theorem dL_law_1593 : decode cL_law 1593 = .ok (.aload_n 2, 1) := dcO tk_L_law_27 31 rfl
theorem dL_law_1594 : decode cL_law 1594 = .ok (.aload_n 0, 1) := dcO tk_L_law_27 32 rfl
theorem dL_law_1595 : decode cL_law 1595 = .ok (.iload_n 3, 1) := dcO tk_L_law_27 33 rfl
theorem dL_law_1596 : decode cL_law 1596 = .ok (.iconst 1, 1) := dcO tk_L_law_27 34 rfl
theorem dL_law_1597 : decode cL_law 1597 = .ok (.iadd, 1) := dcO tk_L_law_27 35 rfl
theorem dL_law_1598 : decode cL_law 1598 = .ok (.iaload, 1) := dcO tk_L_law_27 36 rfl
theorem dL_law_1599 : decode cL_law 1599 = .ok (.invokevirtual 194, 3) := dcO tk_L_law_27 37 rfl
theorem dL_law_1602 : decode cL_law 1602 = .ok (.if_icmp .eq 90, 3) := dcO tk_L_law_27 38 rfl
theorem dL_law_1605 : decode cL_law 1605 = .ok (.iconst 0, 1) := dcO tk_L_law_27 39 rfl
abbrev tb_L_law_28 : List (Nat × Instr × Nat) := [(1606, .ireturn, 1), (1607, .aload_n 1, 1), (1608, .invokevirtual 195, 3), (1611, .aload_n 2, 1), (1612, .invokevirtual 198, 3), (1615, .if_icmp .eq 77, 3), (1618, .iconst 0, 1), (1619, .ireturn, 1), (1620, .aload_n 1, 1), (1621, .invokevirtual 199, 3), (1624, .aload_n 2, 1), (1625, .invokevirtual 202, 3), (1628, .if_icmp .eq 64, 3), (1631, .iconst 0, 1), (1632, .ireturn, 1), (1633, .aload_n 1, 1), (1634, .invokevirtual 203, 3), (1637, .aload_n 2, 1), (1638, .invokevirtual 206, 3), (1641, .if_icmp .eq 51, 3), (1644, .iconst 0, 1), (1645, .ireturn, 1), (1646, .aload_n 1, 1), (1647, .aload_n 0, 1), (1648, .iload_n 3, 1), (1649, .iconst 1, 1), (1650, .iadd, 1), (1651, .iaload, 1), (1652, .invokevirtual 207, 3), (1655, .aload_n 2, 1), (1656, .aload_n 0, 1), (1657, .iload_n 3, 1), (1658, .iconst 1, 1), (1659, .iadd, 1), (1660, .iaload, 1), (1661, .invokevirtual 210, 3), (1664, .if_icmp .eq 28, 3), (1667, .iconst 0, 1), (1668, .ireturn, 1), (1669, .aload_n 1, 1)]
theorem tk_L_law_28 : dcA cL_law tb_L_law_28 = true := by decide +kernel
theorem dL_law_1606 : decode cL_law 1606 = .ok (.ireturn, 1) := dcO tk_L_law_28 0 rfl
theorem dL_law_1607 : decode cL_law 1607 = .ok (.aload_n 1, 1) := dcO tk_L_law_28 1 rfl
theorem dL_law_1608 : decode cL_law 1608 = .ok (.invokevirtual 195, 3) := dcO tk_L_law_28 2 rfl
theorem dL_law_1611 : decode cL_law 1611 = .ok (.aload_n 2, 1) := dcO tk_L_law_28 3 rfl
theorem dL_law_1612 : decode cL_law 1612 = .ok (.invokevirtual 198, 3) := dcO tk_L_law_28 4 rfl
theorem dL_law_1615 : decode cL_law 1615 = .ok (.if_icmp .eq 77, 3) := dcO tk_L_law_28 5 rfl
theorem dL_law_1618 : decode cL_law 1618 = .ok (.iconst 0, 1) := dcO tk_L_law_28 6 rfl
theorem dL_law_1619 : decode cL_law 1619 = .ok (.ireturn, 1) := dcO tk_L_law_28 7 rfl
theorem dL_law_1620 : decode cL_law 1620 = .ok (.aload_n 1, 1) := dcO tk_L_law_28 8 rfl
theorem dL_law_1621 : decode cL_law 1621 = .ok (.invokevirtual 199, 3) := dcO tk_L_law_28 9 rfl
theorem dL_law_1624 : decode cL_law 1624 = .ok (.aload_n 2, 1) := dcO tk_L_law_28 10 rfl
theorem dL_law_1625 : decode cL_law 1625 = .ok (.invokevirtual 202, 3) := dcO tk_L_law_28 11 rfl
theorem dL_law_1628 : decode cL_law 1628 = .ok (.if_icmp .eq 64, 3) := dcO tk_L_law_28 12 rfl
theorem dL_law_1631 : decode cL_law 1631 = .ok (.iconst 0, 1) := dcO tk_L_law_28 13 rfl
theorem dL_law_1632 : decode cL_law 1632 = .ok (.ireturn, 1) := dcO tk_L_law_28 14 rfl
theorem dL_law_1633 : decode cL_law 1633 = .ok (.aload_n 1, 1) := dcO tk_L_law_28 15 rfl
theorem dL_law_1634 : decode cL_law 1634 = .ok (.invokevirtual 203, 3) := dcO tk_L_law_28 16 rfl
theorem dL_law_1637 : decode cL_law 1637 = .ok (.aload_n 2, 1) := dcO tk_L_law_28 17 rfl
theorem dL_law_1638 : decode cL_law 1638 = .ok (.invokevirtual 206, 3) := dcO tk_L_law_28 18 rfl
theorem dL_law_1641 : decode cL_law 1641 = .ok (.if_icmp .eq 51, 3) := dcO tk_L_law_28 19 rfl
theorem dL_law_1644 : decode cL_law 1644 = .ok (.iconst 0, 1) := dcO tk_L_law_28 20 rfl
theorem dL_law_1645 : decode cL_law 1645 = .ok (.ireturn, 1) := dcO tk_L_law_28 21 rfl
theorem dL_law_1646 : decode cL_law 1646 = .ok (.aload_n 1, 1) := dcO tk_L_law_28 22 rfl
theorem dL_law_1647 : decode cL_law 1647 = .ok (.aload_n 0, 1) := dcO tk_L_law_28 23 rfl
theorem dL_law_1648 : decode cL_law 1648 = .ok (.iload_n 3, 1) := dcO tk_L_law_28 24 rfl
theorem dL_law_1649 : decode cL_law 1649 = .ok (.iconst 1, 1) := dcO tk_L_law_28 25 rfl
theorem dL_law_1650 : decode cL_law 1650 = .ok (.iadd, 1) := dcO tk_L_law_28 26 rfl
theorem dL_law_1651 : decode cL_law 1651 = .ok (.iaload, 1) := dcO tk_L_law_28 27 rfl
theorem dL_law_1652 : decode cL_law 1652 = .ok (.invokevirtual 207, 3) := dcO tk_L_law_28 28 rfl
theorem dL_law_1655 : decode cL_law 1655 = .ok (.aload_n 2, 1) := dcO tk_L_law_28 29 rfl
theorem dL_law_1656 : decode cL_law 1656 = .ok (.aload_n 0, 1) := dcO tk_L_law_28 30 rfl
theorem dL_law_1657 : decode cL_law 1657 = .ok (.iload_n 3, 1) := dcO tk_L_law_28 31 rfl
theorem dL_law_1658 : decode cL_law 1658 = .ok (.iconst 1, 1) := dcO tk_L_law_28 32 rfl
theorem dL_law_1659 : decode cL_law 1659 = .ok (.iadd, 1) := dcO tk_L_law_28 33 rfl
theorem dL_law_1660 : decode cL_law 1660 = .ok (.iaload, 1) := dcO tk_L_law_28 34 rfl
theorem dL_law_1661 : decode cL_law 1661 = .ok (.invokevirtual 210, 3) := dcO tk_L_law_28 35 rfl
theorem dL_law_1664 : decode cL_law 1664 = .ok (.if_icmp .eq 28, 3) := dcO tk_L_law_28 36 rfl
theorem dL_law_1667 : decode cL_law 1667 = .ok (.iconst 0, 1) := dcO tk_L_law_28 37 rfl
theorem dL_law_1668 : decode cL_law 1668 = .ok (.ireturn, 1) := dcO tk_L_law_28 38 rfl
theorem dL_law_1669 : decode cL_law 1669 = .ok (.aload_n 1, 1) := dcO tk_L_law_28 39 rfl
abbrev tb_L_law_29 : List (Nat × Instr × Nat) := [(1670, .aload_n 0, 1), (1671, .iload_n 3, 1), (1672, .iconst 1, 1), (1673, .iadd, 1), (1674, .iaload, 1), (1675, .invokevirtual 211, 3), (1678, .aload_n 2, 1), (1679, .aload_n 0, 1), (1680, .iload_n 3, 1), (1681, .iconst 1, 1), (1682, .iadd, 1), (1683, .iaload, 1), (1684, .invokevirtual 214, 3), (1687, .if_icmp .eq 5, 3), (1690, .iconst 0, 1), (1691, .ireturn, 1), (1692, .iinc 3 6, 3), (1695, .goto (-1677), 3), (1698, .iconst 1, 1), (1699, .ireturn, 1)]
theorem tk_L_law_29 : dcA cL_law tb_L_law_29 = true := by decide +kernel
theorem dL_law_1670 : decode cL_law 1670 = .ok (.aload_n 0, 1) := dcO tk_L_law_29 0 rfl
theorem dL_law_1671 : decode cL_law 1671 = .ok (.iload_n 3, 1) := dcO tk_L_law_29 1 rfl
theorem dL_law_1672 : decode cL_law 1672 = .ok (.iconst 1, 1) := dcO tk_L_law_29 2 rfl
theorem dL_law_1673 : decode cL_law 1673 = .ok (.iadd, 1) := dcO tk_L_law_29 3 rfl
theorem dL_law_1674 : decode cL_law 1674 = .ok (.iaload, 1) := dcO tk_L_law_29 4 rfl
theorem dL_law_1675 : decode cL_law 1675 = .ok (.invokevirtual 211, 3) := dcO tk_L_law_29 5 rfl
theorem dL_law_1678 : decode cL_law 1678 = .ok (.aload_n 2, 1) := dcO tk_L_law_29 6 rfl
theorem dL_law_1679 : decode cL_law 1679 = .ok (.aload_n 0, 1) := dcO tk_L_law_29 7 rfl
theorem dL_law_1680 : decode cL_law 1680 = .ok (.iload_n 3, 1) := dcO tk_L_law_29 8 rfl
theorem dL_law_1681 : decode cL_law 1681 = .ok (.iconst 1, 1) := dcO tk_L_law_29 9 rfl
theorem dL_law_1682 : decode cL_law 1682 = .ok (.iadd, 1) := dcO tk_L_law_29 10 rfl
theorem dL_law_1683 : decode cL_law 1683 = .ok (.iaload, 1) := dcO tk_L_law_29 11 rfl
theorem dL_law_1684 : decode cL_law 1684 = .ok (.invokevirtual 214, 3) := dcO tk_L_law_29 12 rfl
theorem dL_law_1687 : decode cL_law 1687 = .ok (.if_icmp .eq 5, 3) := dcO tk_L_law_29 13 rfl
theorem dL_law_1690 : decode cL_law 1690 = .ok (.iconst 0, 1) := dcO tk_L_law_29 14 rfl
theorem dL_law_1691 : decode cL_law 1691 = .ok (.ireturn, 1) := dcO tk_L_law_29 15 rfl
theorem dL_law_1692 : decode cL_law 1692 = .ok (.iinc 3 6, 3) := dcO tk_L_law_29 16 rfl
theorem dL_law_1695 : decode cL_law 1695 = .ok (.goto (-1677), 3) := dcO tk_L_law_29 17 rfl
theorem dL_law_1698 : decode cL_law 1698 = .ok (.iconst 1, 1) := dcO tk_L_law_29 18 rfl
theorem dL_law_1699 : decode cL_law 1699 = .ok (.ireturn, 1) := dcO tk_L_law_29 19 rfl
