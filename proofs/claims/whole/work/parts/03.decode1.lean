/-! decode rows, by program: a method's rows are checked together -/
def dcA (c : ByteArray) (T : List (Nat × Instr × Nat)) : Bool := T.all fun q => decide (decode c q.1 = .ok q.2)
theorem dcO {c : ByteArray} {T : List (Nat × Instr × Nat)} (h : dcA c T = true) (i : Nat) {pc : Nat} {r : Instr × Nat} (hi : T[i]? = some (pc, r)) : decode c pc = .ok r := of_decide_eq_true (List.all_eq_true.mp h (pc, r) (List.mem_of_getElem? hi))
abbrev tb_X0_init_0 : List (Nat × Instr × Nat) := [(0, .aload_n 0, 1), (1, .invokespecial 3, 3), (4, .aload_n 0, 1), (5, .new 9, 3), (8, .dup, 1), (9, .invokespecial 11, 3), (12, .putfield 12, 3), (15, .aload_n 0, 1), (16, .new 18, 3), (19, .dup, 1), (20, .invokespecial 20, 3), (23, .putfield 21, 3), (26, .return_, 1)]
theorem tk_X0_init_0 : dcA cX0_init tb_X0_init_0 = true := by decide +kernel
theorem dX0_init_0 : decode cX0_init 0 = .ok (.aload_n 0, 1) := dcO tk_X0_init_0 0 rfl
theorem dX0_init_1 : decode cX0_init 1 = .ok (.invokespecial 3, 3) := dcO tk_X0_init_0 1 rfl
theorem dX0_init_4 : decode cX0_init 4 = .ok (.aload_n 0, 1) := dcO tk_X0_init_0 2 rfl
theorem dX0_init_5 : decode cX0_init 5 = .ok (.new 9, 3) := dcO tk_X0_init_0 3 rfl
theorem dX0_init_8 : decode cX0_init 8 = .ok (.dup, 1) := dcO tk_X0_init_0 4 rfl
theorem dX0_init_9 : decode cX0_init 9 = .ok (.invokespecial 11, 3) := dcO tk_X0_init_0 5 rfl
theorem dX0_init_12 : decode cX0_init 12 = .ok (.putfield 12, 3) := dcO tk_X0_init_0 6 rfl
theorem dX0_init_15 : decode cX0_init 15 = .ok (.aload_n 0, 1) := dcO tk_X0_init_0 7 rfl
theorem dX0_init_16 : decode cX0_init 16 = .ok (.new 18, 3) := dcO tk_X0_init_0 8 rfl
theorem dX0_init_19 : decode cX0_init 19 = .ok (.dup, 1) := dcO tk_X0_init_0 9 rfl
theorem dX0_init_20 : decode cX0_init 20 = .ok (.invokespecial 20, 3) := dcO tk_X0_init_0 10 rfl
theorem dX0_init_23 : decode cX0_init 23 = .ok (.putfield 21, 3) := dcO tk_X0_init_0 11 rfl
theorem dX0_init_26 : decode cX0_init 26 = .ok (.return_, 1) := dcO tk_X0_init_0 12 rfl
abbrev tb_X0_draftOf_0 : List (Nat × Instr × Nat) := [(0, .aload_n 0, 1), (1, .getfield 12, 3), (4, .aload_n 1, 1), (5, .invokevirtual 25, 3), (8, .aload_n 0, 1), (9, .getfield 12, 3), (12, .areturn, 1)]
theorem tk_X0_draftOf_0 : dcA cX0_draftOf tb_X0_draftOf_0 = true := by decide +kernel
theorem dX0_draftOf_0 : decode cX0_draftOf 0 = .ok (.aload_n 0, 1) := dcO tk_X0_draftOf_0 0 rfl
theorem dX0_draftOf_1 : decode cX0_draftOf 1 = .ok (.getfield 12, 3) := dcO tk_X0_draftOf_0 1 rfl
theorem dX0_draftOf_4 : decode cX0_draftOf 4 = .ok (.aload_n 1, 1) := dcO tk_X0_draftOf_0 2 rfl
theorem dX0_draftOf_5 : decode cX0_draftOf 5 = .ok (.invokevirtual 25, 3) := dcO tk_X0_draftOf_0 3 rfl
theorem dX0_draftOf_8 : decode cX0_draftOf 8 = .ok (.aload_n 0, 1) := dcO tk_X0_draftOf_0 4 rfl
theorem dX0_draftOf_9 : decode cX0_draftOf 9 = .ok (.getfield 12, 3) := dcO tk_X0_draftOf_0 5 rfl
theorem dX0_draftOf_12 : decode cX0_draftOf 12 = .ok (.areturn, 1) := dcO tk_X0_draftOf_0 6 rfl
abbrev tb_X0_survey_0 : List (Nat × Instr × Nat) := [(0, .aload_n 0, 1), (1, .getfield 21, 3), (4, .aload_n 1, 1), (5, .invokevirtual 29, 3), (8, .return_, 1)]
theorem tk_X0_survey_0 : dcA cX0_survey tb_X0_survey_0 = true := by decide +kernel
theorem dX0_survey_0 : decode cX0_survey 0 = .ok (.aload_n 0, 1) := dcO tk_X0_survey_0 0 rfl
theorem dX0_survey_1 : decode cX0_survey 1 = .ok (.getfield 21, 3) := dcO tk_X0_survey_0 1 rfl
theorem dX0_survey_4 : decode cX0_survey 4 = .ok (.aload_n 1, 1) := dcO tk_X0_survey_0 2 rfl
theorem dX0_survey_5 : decode cX0_survey 5 = .ok (.invokevirtual 29, 3) := dcO tk_X0_survey_0 3 rfl
theorem dX0_survey_8 : decode cX0_survey 8 = .ok (.return_, 1) := dcO tk_X0_survey_0 4 rfl
abbrev tb_X0_behind_0 : List (Nat × Instr × Nat) := [(0, .aload_n 0, 1), (1, .getfield 12, 3), (4, .aload_n 1, 1), (5, .invokevirtual 25, 3), (8, .aload_n 0, 1), (9, .aload_n 1, 1), (10, .invokevirtual 32, 3), (13, .aload_n 0, 1), (14, .getfield 12, 3), (17, .aload_n 0, 1), (18, .getfield 21, 3), (21, .sipush 255, 3), (24, .iload_n 2, 1), (25, .invokevirtual 33, 3), (28, .aload_n 0, 1), (29, .getfield 12, 3), (32, .areturn, 1)]
theorem tk_X0_behind_0 : dcA cX0_behind tb_X0_behind_0 = true := by decide +kernel
theorem dX0_behind_0 : decode cX0_behind 0 = .ok (.aload_n 0, 1) := dcO tk_X0_behind_0 0 rfl
theorem dX0_behind_1 : decode cX0_behind 1 = .ok (.getfield 12, 3) := dcO tk_X0_behind_0 1 rfl
theorem dX0_behind_4 : decode cX0_behind 4 = .ok (.aload_n 1, 1) := dcO tk_X0_behind_0 2 rfl
theorem dX0_behind_5 : decode cX0_behind 5 = .ok (.invokevirtual 25, 3) := dcO tk_X0_behind_0 3 rfl
theorem dX0_behind_8 : decode cX0_behind 8 = .ok (.aload_n 0, 1) := dcO tk_X0_behind_0 4 rfl
theorem dX0_behind_9 : decode cX0_behind 9 = .ok (.aload_n 1, 1) := dcO tk_X0_behind_0 5 rfl
theorem dX0_behind_10 : decode cX0_behind 10 = .ok (.invokevirtual 32, 3) := dcO tk_X0_behind_0 6 rfl
theorem dX0_behind_13 : decode cX0_behind 13 = .ok (.aload_n 0, 1) := dcO tk_X0_behind_0 7 rfl
theorem dX0_behind_14 : decode cX0_behind 14 = .ok (.getfield 12, 3) := dcO tk_X0_behind_0 8 rfl
theorem dX0_behind_17 : decode cX0_behind 17 = .ok (.aload_n 0, 1) := dcO tk_X0_behind_0 9 rfl
theorem dX0_behind_18 : decode cX0_behind 18 = .ok (.getfield 21, 3) := dcO tk_X0_behind_0 10 rfl
theorem dX0_behind_21 : decode cX0_behind 21 = .ok (.sipush 255, 3) := dcO tk_X0_behind_0 11 rfl
theorem dX0_behind_24 : decode cX0_behind 24 = .ok (.iload_n 2, 1) := dcO tk_X0_behind_0 12 rfl
theorem dX0_behind_25 : decode cX0_behind 25 = .ok (.invokevirtual 33, 3) := dcO tk_X0_behind_0 13 rfl
theorem dX0_behind_28 : decode cX0_behind 28 = .ok (.aload_n 0, 1) := dcO tk_X0_behind_0 14 rfl
theorem dX0_behind_29 : decode cX0_behind 29 = .ok (.getfield 12, 3) := dcO tk_X0_behind_0 15 rfl
theorem dX0_behind_32 : decode cX0_behind 32 = .ok (.areturn, 1) := dcO tk_X0_behind_0 16 rfl
abbrev tb_X0_passDay_0 : List (Nat × Instr × Nat) := [(0, .aload_n 0, 1), (1, .getfield 12, 3), (4, .aload_n 0, 1), (5, .getfield 21, 3), (8, .sipush 255, 3), (11, .iconst 1, 1), (12, .invokevirtual 33, 3), (15, .return_, 1)]
theorem tk_X0_passDay_0 : dcA cX0_passDay tb_X0_passDay_0 = true := by decide +kernel
theorem dX0_passDay_0 : decode cX0_passDay 0 = .ok (.aload_n 0, 1) := dcO tk_X0_passDay_0 0 rfl
theorem dX0_passDay_1 : decode cX0_passDay 1 = .ok (.getfield 12, 3) := dcO tk_X0_passDay_0 1 rfl
theorem dX0_passDay_4 : decode cX0_passDay 4 = .ok (.aload_n 0, 1) := dcO tk_X0_passDay_0 2 rfl
theorem dX0_passDay_5 : decode cX0_passDay 5 = .ok (.getfield 21, 3) := dcO tk_X0_passDay_0 3 rfl
theorem dX0_passDay_8 : decode cX0_passDay 8 = .ok (.sipush 255, 3) := dcO tk_X0_passDay_0 4 rfl
theorem dX0_passDay_11 : decode cX0_passDay 11 = .ok (.iconst 1, 1) := dcO tk_X0_passDay_0 5 rfl
theorem dX0_passDay_12 : decode cX0_passDay 12 = .ok (.invokevirtual 33, 3) := dcO tk_X0_passDay_0 6 rfl
theorem dX0_passDay_15 : decode cX0_passDay 15 = .ok (.return_, 1) := dcO tk_X0_passDay_0 7 rfl
abbrev tb_X0_daysToLaw_0 : List (Nat × Instr × Nat) := [(0, .aload_n 0, 1), (1, .getfield 12, 3), (4, .aload_n 1, 1), (5, .invokevirtual 25, 3), (8, .aload_n 0, 1), (9, .getfield 12, 3), (12, .iload 4, 2), (14, .putfield 37, 3), (17, .aload_n 0, 1), (18, .aload_n 1, 1), (19, .invokevirtual 32, 3), (22, .iconst 0, 1), (23, .istore 5, 2), (25, .iload 5, 2), (27, .bipush 101, 2), (29, .if_icmp .ge 26, 3), (32, .aload_n 0, 1), (33, .getfield 12, 3), (36, .getfield 41, 3), (39, .iload_n 3, 1), (40, .iaload, 1), (41, .iload_n 2, 1), (42, .if_icmp .eq 13, 3), (45, .aload_n 0, 1), (46, .invokevirtual 45, 3), (49, .iinc 5 1, 3), (52, .goto (-27), 3), (55, .iload 5, 2), (57, .ireturn, 1)]
theorem tk_X0_daysToLaw_0 : dcA cX0_daysToLaw tb_X0_daysToLaw_0 = true := by decide +kernel
theorem dX0_daysToLaw_0 : decode cX0_daysToLaw 0 = .ok (.aload_n 0, 1) := dcO tk_X0_daysToLaw_0 0 rfl
theorem dX0_daysToLaw_1 : decode cX0_daysToLaw 1 = .ok (.getfield 12, 3) := dcO tk_X0_daysToLaw_0 1 rfl
theorem dX0_daysToLaw_4 : decode cX0_daysToLaw 4 = .ok (.aload_n 1, 1) := dcO tk_X0_daysToLaw_0 2 rfl
theorem dX0_daysToLaw_5 : decode cX0_daysToLaw 5 = .ok (.invokevirtual 25, 3) := dcO tk_X0_daysToLaw_0 3 rfl
theorem dX0_daysToLaw_8 : decode cX0_daysToLaw 8 = .ok (.aload_n 0, 1) := dcO tk_X0_daysToLaw_0 4 rfl
theorem dX0_daysToLaw_9 : decode cX0_daysToLaw 9 = .ok (.getfield 12, 3) := dcO tk_X0_daysToLaw_0 5 rfl
theorem dX0_daysToLaw_12 : decode cX0_daysToLaw 12 = .ok (.iload 4, 2) := dcO tk_X0_daysToLaw_0 6 rfl
theorem dX0_daysToLaw_14 : decode cX0_daysToLaw 14 = .ok (.putfield 37, 3) := dcO tk_X0_daysToLaw_0 7 rfl
theorem dX0_daysToLaw_17 : decode cX0_daysToLaw 17 = .ok (.aload_n 0, 1) := dcO tk_X0_daysToLaw_0 8 rfl
theorem dX0_daysToLaw_18 : decode cX0_daysToLaw 18 = .ok (.aload_n 1, 1) := dcO tk_X0_daysToLaw_0 9 rfl
theorem dX0_daysToLaw_19 : decode cX0_daysToLaw 19 = .ok (.invokevirtual 32, 3) := dcO tk_X0_daysToLaw_0 10 rfl
theorem dX0_daysToLaw_22 : decode cX0_daysToLaw 22 = .ok (.iconst 0, 1) := dcO tk_X0_daysToLaw_0 11 rfl
theorem dX0_daysToLaw_23 : decode cX0_daysToLaw 23 = .ok (.istore 5, 2) := dcO tk_X0_daysToLaw_0 12 rfl
theorem dX0_daysToLaw_25 : decode cX0_daysToLaw 25 = .ok (.iload 5, 2) := dcO tk_X0_daysToLaw_0 13 rfl
theorem dX0_daysToLaw_27 : decode cX0_daysToLaw 27 = .ok (.bipush 101, 2) := dcO tk_X0_daysToLaw_0 14 rfl
theorem dX0_daysToLaw_29 : decode cX0_daysToLaw 29 = .ok (.if_icmp .ge 26, 3) := dcO tk_X0_daysToLaw_0 15 rfl
theorem dX0_daysToLaw_32 : decode cX0_daysToLaw 32 = .ok (.aload_n 0, 1) := dcO tk_X0_daysToLaw_0 16 rfl
theorem dX0_daysToLaw_33 : decode cX0_daysToLaw 33 = .ok (.getfield 12, 3) := dcO tk_X0_daysToLaw_0 17 rfl
theorem dX0_daysToLaw_36 : decode cX0_daysToLaw 36 = .ok (.getfield 41, 3) := dcO tk_X0_daysToLaw_0 18 rfl
theorem dX0_daysToLaw_39 : decode cX0_daysToLaw 39 = .ok (.iload_n 3, 1) := dcO tk_X0_daysToLaw_0 19 rfl
theorem dX0_daysToLaw_40 : decode cX0_daysToLaw 40 = .ok (.iaload, 1) := dcO tk_X0_daysToLaw_0 20 rfl
theorem dX0_daysToLaw_41 : decode cX0_daysToLaw 41 = .ok (.iload_n 2, 1) := dcO tk_X0_daysToLaw_0 21 rfl
theorem dX0_daysToLaw_42 : decode cX0_daysToLaw 42 = .ok (.if_icmp .eq 13, 3) := dcO tk_X0_daysToLaw_0 22 rfl
theorem dX0_daysToLaw_45 : decode cX0_daysToLaw 45 = .ok (.aload_n 0, 1) := dcO tk_X0_daysToLaw_0 23 rfl
theorem dX0_daysToLaw_46 : decode cX0_daysToLaw 46 = .ok (.invokevirtual 45, 3) := dcO tk_X0_daysToLaw_0 24 rfl
theorem dX0_daysToLaw_49 : decode cX0_daysToLaw 49 = .ok (.iinc 5 1, 3) := dcO tk_X0_daysToLaw_0 25 rfl
theorem dX0_daysToLaw_52 : decode cX0_daysToLaw 52 = .ok (.goto (-27), 3) := dcO tk_X0_daysToLaw_0 26 rfl
theorem dX0_daysToLaw_55 : decode cX0_daysToLaw 55 = .ok (.iload 5, 2) := dcO tk_X0_daysToLaw_0 27 rfl
theorem dX0_daysToLaw_57 : decode cX0_daysToLaw 57 = .ok (.ireturn, 1) := dcO tk_X0_daysToLaw_0 28 rfl
abbrev tb_X0_daysToGate_0 : List (Nat × Instr × Nat) := [(0, .aload_n 0, 1), (1, .getfield 12, 3), (4, .aload_n 1, 1), (5, .invokevirtual 25, 3), (8, .aload_n 0, 1), (9, .getfield 12, 3), (12, .getfield 48, 3), (15, .iload_n 2, 1), (16, .iload_n 3, 1), (17, .iastore, 1), (18, .aload_n 0, 1), (19, .aload_n 1, 1), (20, .invokevirtual 32, 3), (23, .iconst 0, 1), (24, .istore 4, 2), (26, .iload 4, 2), (28, .bipush 101, 2), (30, .if_icmp .ge 34, 3), (33, .aload_n 0, 1), (34, .getfield 12, 3), (37, .getfield 51, 3), (40, .iload_n 2, 1), (41, .iaload, 1), (42, .aload_n 0, 1), (43, .getfield 12, 3), (46, .getfield 54, 3), (49, .iload_n 2, 1), (50, .iaload, 1), (51, .if_icmp .eq 13, 3), (54, .aload_n 0, 1), (55, .invokevirtual 45, 3), (58, .iinc 4 1, 3), (61, .goto (-35), 3), (64, .iload 4, 2), (66, .ireturn, 1)]
theorem tk_X0_daysToGate_0 : dcA cX0_daysToGate tb_X0_daysToGate_0 = true := by decide +kernel
theorem dX0_daysToGate_0 : decode cX0_daysToGate 0 = .ok (.aload_n 0, 1) := dcO tk_X0_daysToGate_0 0 rfl
theorem dX0_daysToGate_1 : decode cX0_daysToGate 1 = .ok (.getfield 12, 3) := dcO tk_X0_daysToGate_0 1 rfl
theorem dX0_daysToGate_4 : decode cX0_daysToGate 4 = .ok (.aload_n 1, 1) := dcO tk_X0_daysToGate_0 2 rfl
theorem dX0_daysToGate_5 : decode cX0_daysToGate 5 = .ok (.invokevirtual 25, 3) := dcO tk_X0_daysToGate_0 3 rfl
theorem dX0_daysToGate_8 : decode cX0_daysToGate 8 = .ok (.aload_n 0, 1) := dcO tk_X0_daysToGate_0 4 rfl
theorem dX0_daysToGate_9 : decode cX0_daysToGate 9 = .ok (.getfield 12, 3) := dcO tk_X0_daysToGate_0 5 rfl
theorem dX0_daysToGate_12 : decode cX0_daysToGate 12 = .ok (.getfield 48, 3) := dcO tk_X0_daysToGate_0 6 rfl
theorem dX0_daysToGate_15 : decode cX0_daysToGate 15 = .ok (.iload_n 2, 1) := dcO tk_X0_daysToGate_0 7 rfl
theorem dX0_daysToGate_16 : decode cX0_daysToGate 16 = .ok (.iload_n 3, 1) := dcO tk_X0_daysToGate_0 8 rfl
theorem dX0_daysToGate_17 : decode cX0_daysToGate 17 = .ok (.iastore, 1) := dcO tk_X0_daysToGate_0 9 rfl
theorem dX0_daysToGate_18 : decode cX0_daysToGate 18 = .ok (.aload_n 0, 1) := dcO tk_X0_daysToGate_0 10 rfl
theorem dX0_daysToGate_19 : decode cX0_daysToGate 19 = .ok (.aload_n 1, 1) := dcO tk_X0_daysToGate_0 11 rfl
theorem dX0_daysToGate_20 : decode cX0_daysToGate 20 = .ok (.invokevirtual 32, 3) := dcO tk_X0_daysToGate_0 12 rfl
theorem dX0_daysToGate_23 : decode cX0_daysToGate 23 = .ok (.iconst 0, 1) := dcO tk_X0_daysToGate_0 13 rfl
theorem dX0_daysToGate_24 : decode cX0_daysToGate 24 = .ok (.istore 4, 2) := dcO tk_X0_daysToGate_0 14 rfl
theorem dX0_daysToGate_26 : decode cX0_daysToGate 26 = .ok (.iload 4, 2) := dcO tk_X0_daysToGate_0 15 rfl
theorem dX0_daysToGate_28 : decode cX0_daysToGate 28 = .ok (.bipush 101, 2) := dcO tk_X0_daysToGate_0 16 rfl
theorem dX0_daysToGate_30 : decode cX0_daysToGate 30 = .ok (.if_icmp .ge 34, 3) := dcO tk_X0_daysToGate_0 17 rfl
theorem dX0_daysToGate_33 : decode cX0_daysToGate 33 = .ok (.aload_n 0, 1) := dcO tk_X0_daysToGate_0 18 rfl
theorem dX0_daysToGate_34 : decode cX0_daysToGate 34 = .ok (.getfield 12, 3) := dcO tk_X0_daysToGate_0 19 rfl
theorem dX0_daysToGate_37 : decode cX0_daysToGate 37 = .ok (.getfield 51, 3) := dcO tk_X0_daysToGate_0 20 rfl
theorem dX0_daysToGate_40 : decode cX0_daysToGate 40 = .ok (.iload_n 2, 1) := dcO tk_X0_daysToGate_0 21 rfl
theorem dX0_daysToGate_41 : decode cX0_daysToGate 41 = .ok (.iaload, 1) := dcO tk_X0_daysToGate_0 22 rfl
theorem dX0_daysToGate_42 : decode cX0_daysToGate 42 = .ok (.aload_n 0, 1) := dcO tk_X0_daysToGate_0 23 rfl
theorem dX0_daysToGate_43 : decode cX0_daysToGate 43 = .ok (.getfield 12, 3) := dcO tk_X0_daysToGate_0 24 rfl
theorem dX0_daysToGate_46 : decode cX0_daysToGate 46 = .ok (.getfield 54, 3) := dcO tk_X0_daysToGate_0 25 rfl
theorem dX0_daysToGate_49 : decode cX0_daysToGate 49 = .ok (.iload_n 2, 1) := dcO tk_X0_daysToGate_0 26 rfl
theorem dX0_daysToGate_50 : decode cX0_daysToGate 50 = .ok (.iaload, 1) := dcO tk_X0_daysToGate_0 27 rfl
theorem dX0_daysToGate_51 : decode cX0_daysToGate 51 = .ok (.if_icmp .eq 13, 3) := dcO tk_X0_daysToGate_0 28 rfl
theorem dX0_daysToGate_54 : decode cX0_daysToGate 54 = .ok (.aload_n 0, 1) := dcO tk_X0_daysToGate_0 29 rfl
theorem dX0_daysToGate_55 : decode cX0_daysToGate 55 = .ok (.invokevirtual 45, 3) := dcO tk_X0_daysToGate_0 30 rfl
theorem dX0_daysToGate_58 : decode cX0_daysToGate 58 = .ok (.iinc 4 1, 3) := dcO tk_X0_daysToGate_0 31 rfl
theorem dX0_daysToGate_61 : decode cX0_daysToGate 61 = .ok (.goto (-35), 3) := dcO tk_X0_daysToGate_0 32 rfl
theorem dX0_daysToGate_64 : decode cX0_daysToGate 64 = .ok (.iload 4, 2) := dcO tk_X0_daysToGate_0 33 rfl
theorem dX0_daysToGate_66 : decode cX0_daysToGate 66 = .ok (.ireturn, 1) := dcO tk_X0_daysToGate_0 34 rfl
abbrev tb_X0_daysToOvertake_0 : List (Nat × Instr × Nat) := [(0, .aload_n 0, 1), (1, .getfield 12, 3), (4, .aload_n 1, 1), (5, .invokevirtual 25, 3), (8, .aload_n 0, 1), (9, .aload_n 1, 1), (10, .invokevirtual 32, 3), (13, .iconst 0, 1), (14, .istore 4, 2), (16, .iload 4, 2), (18, .bipush 101, 2), (20, .if_icmp .ge 22, 3), (23, .aload_n 0, 1), (24, .iload_n 2, 1), (25, .iload_n 3, 1), (26, .invokevirtual 57, 3), (29, .ifCond .ne 13, 3), (32, .aload_n 0, 1), (33, .invokevirtual 45, 3), (36, .iinc 4 1, 3), (39, .goto (-23), 3), (42, .iload 4, 2), (44, .ireturn, 1)]
theorem tk_X0_daysToOvertake_0 : dcA cX0_daysToOvertake tb_X0_daysToOvertake_0 = true := by decide +kernel
theorem dX0_daysToOvertake_0 : decode cX0_daysToOvertake 0 = .ok (.aload_n 0, 1) := dcO tk_X0_daysToOvertake_0 0 rfl
theorem dX0_daysToOvertake_1 : decode cX0_daysToOvertake 1 = .ok (.getfield 12, 3) := dcO tk_X0_daysToOvertake_0 1 rfl
theorem dX0_daysToOvertake_4 : decode cX0_daysToOvertake 4 = .ok (.aload_n 1, 1) := dcO tk_X0_daysToOvertake_0 2 rfl
theorem dX0_daysToOvertake_5 : decode cX0_daysToOvertake 5 = .ok (.invokevirtual 25, 3) := dcO tk_X0_daysToOvertake_0 3 rfl
theorem dX0_daysToOvertake_8 : decode cX0_daysToOvertake 8 = .ok (.aload_n 0, 1) := dcO tk_X0_daysToOvertake_0 4 rfl
theorem dX0_daysToOvertake_9 : decode cX0_daysToOvertake 9 = .ok (.aload_n 1, 1) := dcO tk_X0_daysToOvertake_0 5 rfl
theorem dX0_daysToOvertake_10 : decode cX0_daysToOvertake 10 = .ok (.invokevirtual 32, 3) := dcO tk_X0_daysToOvertake_0 6 rfl
theorem dX0_daysToOvertake_13 : decode cX0_daysToOvertake 13 = .ok (.iconst 0, 1) := dcO tk_X0_daysToOvertake_0 7 rfl
theorem dX0_daysToOvertake_14 : decode cX0_daysToOvertake 14 = .ok (.istore 4, 2) := dcO tk_X0_daysToOvertake_0 8 rfl
theorem dX0_daysToOvertake_16 : decode cX0_daysToOvertake 16 = .ok (.iload 4, 2) := dcO tk_X0_daysToOvertake_0 9 rfl
theorem dX0_daysToOvertake_18 : decode cX0_daysToOvertake 18 = .ok (.bipush 101, 2) := dcO tk_X0_daysToOvertake_0 10 rfl
theorem dX0_daysToOvertake_20 : decode cX0_daysToOvertake 20 = .ok (.if_icmp .ge 22, 3) := dcO tk_X0_daysToOvertake_0 11 rfl
theorem dX0_daysToOvertake_23 : decode cX0_daysToOvertake 23 = .ok (.aload_n 0, 1) := dcO tk_X0_daysToOvertake_0 12 rfl
theorem dX0_daysToOvertake_24 : decode cX0_daysToOvertake 24 = .ok (.iload_n 2, 1) := dcO tk_X0_daysToOvertake_0 13 rfl
theorem dX0_daysToOvertake_25 : decode cX0_daysToOvertake 25 = .ok (.iload_n 3, 1) := dcO tk_X0_daysToOvertake_0 14 rfl
theorem dX0_daysToOvertake_26 : decode cX0_daysToOvertake 26 = .ok (.invokevirtual 57, 3) := dcO tk_X0_daysToOvertake_0 15 rfl
theorem dX0_daysToOvertake_29 : decode cX0_daysToOvertake 29 = .ok (.ifCond .ne 13, 3) := dcO tk_X0_daysToOvertake_0 16 rfl
theorem dX0_daysToOvertake_32 : decode cX0_daysToOvertake 32 = .ok (.aload_n 0, 1) := dcO tk_X0_daysToOvertake_0 17 rfl
theorem dX0_daysToOvertake_33 : decode cX0_daysToOvertake 33 = .ok (.invokevirtual 45, 3) := dcO tk_X0_daysToOvertake_0 18 rfl
theorem dX0_daysToOvertake_36 : decode cX0_daysToOvertake 36 = .ok (.iinc 4 1, 3) := dcO tk_X0_daysToOvertake_0 19 rfl
theorem dX0_daysToOvertake_39 : decode cX0_daysToOvertake 39 = .ok (.goto (-23), 3) := dcO tk_X0_daysToOvertake_0 20 rfl
theorem dX0_daysToOvertake_42 : decode cX0_daysToOvertake 42 = .ok (.iload 4, 2) := dcO tk_X0_daysToOvertake_0 21 rfl
theorem dX0_daysToOvertake_44 : decode cX0_daysToOvertake 44 = .ok (.ireturn, 1) := dcO tk_X0_daysToOvertake_0 22 rfl
abbrev tb_X0_isNearer_0 : List (Nat × Instr × Nat) := [(0, .aload_n 0, 1), (1, .getfield 21, 3), (4, .iload_n 2, 1), (5, .aload_n 0, 1), (6, .getfield 12, 3), (9, .getfield 51, 3), (12, .iload_n 1, 1), (13, .iaload, 1), (14, .invokevirtual 61, 3), (17, .aload_n 0, 1), (18, .getfield 21, 3), (21, .iload_n 2, 1), (22, .aload_n 0, 1), (23, .getfield 12, 3), (26, .getfield 51, 3), (29, .iload_n 2, 1), (30, .iaload, 1), (31, .invokevirtual 61, 3), (34, .if_icmp .ge 7, 3), (37, .iconst 1, 1), (38, .goto 4, 3), (41, .iconst 0, 1), (42, .ireturn, 1)]
theorem tk_X0_isNearer_0 : dcA cX0_isNearer tb_X0_isNearer_0 = true := by decide +kernel
theorem dX0_isNearer_0 : decode cX0_isNearer 0 = .ok (.aload_n 0, 1) := dcO tk_X0_isNearer_0 0 rfl
theorem dX0_isNearer_1 : decode cX0_isNearer 1 = .ok (.getfield 21, 3) := dcO tk_X0_isNearer_0 1 rfl
theorem dX0_isNearer_4 : decode cX0_isNearer 4 = .ok (.iload_n 2, 1) := dcO tk_X0_isNearer_0 2 rfl
theorem dX0_isNearer_5 : decode cX0_isNearer 5 = .ok (.aload_n 0, 1) := dcO tk_X0_isNearer_0 3 rfl
theorem dX0_isNearer_6 : decode cX0_isNearer 6 = .ok (.getfield 12, 3) := dcO tk_X0_isNearer_0 4 rfl
theorem dX0_isNearer_9 : decode cX0_isNearer 9 = .ok (.getfield 51, 3) := dcO tk_X0_isNearer_0 5 rfl
theorem dX0_isNearer_12 : decode cX0_isNearer 12 = .ok (.iload_n 1, 1) := dcO tk_X0_isNearer_0 6 rfl
theorem dX0_isNearer_13 : decode cX0_isNearer 13 = .ok (.iaload, 1) := dcO tk_X0_isNearer_0 7 rfl
theorem dX0_isNearer_14 : decode cX0_isNearer 14 = .ok (.invokevirtual 61, 3) := dcO tk_X0_isNearer_0 8 rfl
theorem dX0_isNearer_17 : decode cX0_isNearer 17 = .ok (.aload_n 0, 1) := dcO tk_X0_isNearer_0 9 rfl
theorem dX0_isNearer_18 : decode cX0_isNearer 18 = .ok (.getfield 21, 3) := dcO tk_X0_isNearer_0 10 rfl
theorem dX0_isNearer_21 : decode cX0_isNearer 21 = .ok (.iload_n 2, 1) := dcO tk_X0_isNearer_0 11 rfl
theorem dX0_isNearer_22 : decode cX0_isNearer 22 = .ok (.aload_n 0, 1) := dcO tk_X0_isNearer_0 12 rfl
theorem dX0_isNearer_23 : decode cX0_isNearer 23 = .ok (.getfield 12, 3) := dcO tk_X0_isNearer_0 13 rfl
theorem dX0_isNearer_26 : decode cX0_isNearer 26 = .ok (.getfield 51, 3) := dcO tk_X0_isNearer_0 14 rfl
theorem dX0_isNearer_29 : decode cX0_isNearer 29 = .ok (.iload_n 2, 1) := dcO tk_X0_isNearer_0 15 rfl
theorem dX0_isNearer_30 : decode cX0_isNearer 30 = .ok (.iaload, 1) := dcO tk_X0_isNearer_0 16 rfl
theorem dX0_isNearer_31 : decode cX0_isNearer 31 = .ok (.invokevirtual 61, 3) := dcO tk_X0_isNearer_0 17 rfl
theorem dX0_isNearer_34 : decode cX0_isNearer 34 = .ok (.if_icmp .ge 7, 3) := dcO tk_X0_isNearer_0 18 rfl
theorem dX0_isNearer_37 : decode cX0_isNearer 37 = .ok (.iconst 1, 1) := dcO tk_X0_isNearer_0 19 rfl
theorem dX0_isNearer_38 : decode cX0_isNearer 38 = .ok (.goto 4, 3) := dcO tk_X0_isNearer_0 20 rfl
theorem dX0_isNearer_41 : decode cX0_isNearer 41 = .ok (.iconst 0, 1) := dcO tk_X0_isNearer_0 21 rfl
theorem dX0_isNearer_42 : decode cX0_isNearer 42 = .ok (.ireturn, 1) := dcO tk_X0_isNearer_0 22 rfl
abbrev tb_X0_cellOfMostClashes_0 : List (Nat × Instr × Nat) := [(0, .aload_n 0, 1), (1, .getfield 12, 3), (4, .getfield 65, 3), (7, .iconst 0, 1), (8, .invokestatic 68, 3), (11, .aload_n 0, 1), (12, .aload_n 1, 1), (13, .iload_n 2, 1), (14, .invokevirtual 74, 3), (17, .pop, 1), (18, .ldc 78, 2), (20, .istore_n 3, 1), (21, .iconst 0, 1), (22, .istore 4, 2), (24, .iconst 0, 1), (25, .istore 5, 2), (27, .iload 5, 2), (29, .bipush 81, 2), (31, .if_icmp .ge 39, 3), (34, .aload_n 0, 1), (35, .getfield 12, 3), (38, .getfield 65, 3), (41, .iload 5, 2), (43, .iaload, 1), (44, .iload 4, 2), (46, .if_icmp .le 18, 3), (49, .aload_n 0, 1), (50, .getfield 12, 3), (53, .getfield 65, 3), (56, .iload 5, 2), (58, .iaload, 1), (59, .istore 4, 2), (61, .iload 5, 2), (63, .istore_n 3, 1), (64, .iinc 5 1, 3), (67, .goto (-40), 3), (70, .iload_n 3, 1), (71, .ireturn, 1)]
theorem tk_X0_cellOfMostClashes_0 : dcA cX0_cellOfMostClashes tb_X0_cellOfMostClashes_0 = true := by decide +kernel
theorem dX0_cellOfMostClashes_0 : decode cX0_cellOfMostClashes 0 = .ok (.aload_n 0, 1) := dcO tk_X0_cellOfMostClashes_0 0 rfl
theorem dX0_cellOfMostClashes_1 : decode cX0_cellOfMostClashes 1 = .ok (.getfield 12, 3) := dcO tk_X0_cellOfMostClashes_0 1 rfl
theorem dX0_cellOfMostClashes_4 : decode cX0_cellOfMostClashes 4 = .ok (.getfield 65, 3) := dcO tk_X0_cellOfMostClashes_0 2 rfl
theorem dX0_cellOfMostClashes_7 : decode cX0_cellOfMostClashes 7 = .ok (.iconst 0, 1) := dcO tk_X0_cellOfMostClashes_0 3 rfl
theorem dX0_cellOfMostClashes_8 : decode cX0_cellOfMostClashes 8 = .ok (.invokestatic 68, 3) := dcO tk_X0_cellOfMostClashes_0 4 rfl
theorem dX0_cellOfMostClashes_11 : decode cX0_cellOfMostClashes 11 = .ok (.aload_n 0, 1) := dcO tk_X0_cellOfMostClashes_0 5 rfl
theorem dX0_cellOfMostClashes_12 : decode cX0_cellOfMostClashes 12 = .ok (.aload_n 1, 1) := dcO tk_X0_cellOfMostClashes_0 6 rfl
theorem dX0_cellOfMostClashes_13 : decode cX0_cellOfMostClashes 13 = .ok (.iload_n 2, 1) := dcO tk_X0_cellOfMostClashes_0 7 rfl
theorem dX0_cellOfMostClashes_14 : decode cX0_cellOfMostClashes 14 = .ok (.invokevirtual 74, 3) := dcO tk_X0_cellOfMostClashes_0 8 rfl
theorem dX0_cellOfMostClashes_17 : decode cX0_cellOfMostClashes 17 = .ok (.pop, 1) := dcO tk_X0_cellOfMostClashes_0 9 rfl
theorem dX0_cellOfMostClashes_18 : decode cX0_cellOfMostClashes 18 = .ok (.ldc 78, 2) := dcO tk_X0_cellOfMostClashes_0 10 rfl
theorem dX0_cellOfMostClashes_20 : decode cX0_cellOfMostClashes 20 = .ok (.istore_n 3, 1) := dcO tk_X0_cellOfMostClashes_0 11 rfl
theorem dX0_cellOfMostClashes_21 : decode cX0_cellOfMostClashes 21 = .ok (.iconst 0, 1) := dcO tk_X0_cellOfMostClashes_0 12 rfl
theorem dX0_cellOfMostClashes_22 : decode cX0_cellOfMostClashes 22 = .ok (.istore 4, 2) := dcO tk_X0_cellOfMostClashes_0 13 rfl
theorem dX0_cellOfMostClashes_24 : decode cX0_cellOfMostClashes 24 = .ok (.iconst 0, 1) := dcO tk_X0_cellOfMostClashes_0 14 rfl
theorem dX0_cellOfMostClashes_25 : decode cX0_cellOfMostClashes 25 = .ok (.istore 5, 2) := dcO tk_X0_cellOfMostClashes_0 15 rfl
theorem dX0_cellOfMostClashes_27 : decode cX0_cellOfMostClashes 27 = .ok (.iload 5, 2) := dcO tk_X0_cellOfMostClashes_0 16 rfl
theorem dX0_cellOfMostClashes_29 : decode cX0_cellOfMostClashes 29 = .ok (.bipush 81, 2) := dcO tk_X0_cellOfMostClashes_0 17 rfl
theorem dX0_cellOfMostClashes_31 : decode cX0_cellOfMostClashes 31 = .ok (.if_icmp .ge 39, 3) := dcO tk_X0_cellOfMostClashes_0 18 rfl
theorem dX0_cellOfMostClashes_34 : decode cX0_cellOfMostClashes 34 = .ok (.aload_n 0, 1) := dcO tk_X0_cellOfMostClashes_0 19 rfl
theorem dX0_cellOfMostClashes_35 : decode cX0_cellOfMostClashes 35 = .ok (.getfield 12, 3) := dcO tk_X0_cellOfMostClashes_0 20 rfl
theorem dX0_cellOfMostClashes_38 : decode cX0_cellOfMostClashes 38 = .ok (.getfield 65, 3) := dcO tk_X0_cellOfMostClashes_0 21 rfl
theorem dX0_cellOfMostClashes_41 : decode cX0_cellOfMostClashes 41 = .ok (.iload 5, 2) := dcO tk_X0_cellOfMostClashes_0 22 rfl
theorem dX0_cellOfMostClashes_43 : decode cX0_cellOfMostClashes 43 = .ok (.iaload, 1) := dcO tk_X0_cellOfMostClashes_0 23 rfl
theorem dX0_cellOfMostClashes_44 : decode cX0_cellOfMostClashes 44 = .ok (.iload 4, 2) := dcO tk_X0_cellOfMostClashes_0 24 rfl
theorem dX0_cellOfMostClashes_46 : decode cX0_cellOfMostClashes 46 = .ok (.if_icmp .le 18, 3) := dcO tk_X0_cellOfMostClashes_0 25 rfl
theorem dX0_cellOfMostClashes_49 : decode cX0_cellOfMostClashes 49 = .ok (.aload_n 0, 1) := dcO tk_X0_cellOfMostClashes_0 26 rfl
theorem dX0_cellOfMostClashes_50 : decode cX0_cellOfMostClashes 50 = .ok (.getfield 12, 3) := dcO tk_X0_cellOfMostClashes_0 27 rfl
theorem dX0_cellOfMostClashes_53 : decode cX0_cellOfMostClashes 53 = .ok (.getfield 65, 3) := dcO tk_X0_cellOfMostClashes_0 28 rfl
theorem dX0_cellOfMostClashes_56 : decode cX0_cellOfMostClashes 56 = .ok (.iload 5, 2) := dcO tk_X0_cellOfMostClashes_0 29 rfl
theorem dX0_cellOfMostClashes_58 : decode cX0_cellOfMostClashes 58 = .ok (.iaload, 1) := dcO tk_X0_cellOfMostClashes_0 30 rfl
theorem dX0_cellOfMostClashes_59 : decode cX0_cellOfMostClashes 59 = .ok (.istore 4, 2) := dcO tk_X0_cellOfMostClashes_0 31 rfl
theorem dX0_cellOfMostClashes_61 : decode cX0_cellOfMostClashes 61 = .ok (.iload 5, 2) := dcO tk_X0_cellOfMostClashes_0 32 rfl
theorem dX0_cellOfMostClashes_63 : decode cX0_cellOfMostClashes 63 = .ok (.istore_n 3, 1) := dcO tk_X0_cellOfMostClashes_0 33 rfl
theorem dX0_cellOfMostClashes_64 : decode cX0_cellOfMostClashes 64 = .ok (.iinc 5 1, 3) := dcO tk_X0_cellOfMostClashes_0 34 rfl
theorem dX0_cellOfMostClashes_67 : decode cX0_cellOfMostClashes 67 = .ok (.goto (-40), 3) := dcO tk_X0_cellOfMostClashes_0 35 rfl
theorem dX0_cellOfMostClashes_70 : decode cX0_cellOfMostClashes 70 = .ok (.iload_n 3, 1) := dcO tk_X0_cellOfMostClashes_0 36 rfl
theorem dX0_cellOfMostClashes_71 : decode cX0_cellOfMostClashes 71 = .ok (.ireturn, 1) := dcO tk_X0_cellOfMostClashes_0 37 rfl
abbrev tb_X0_cheapestSet_0 : List (Nat × Instr × Nat) := [(0, .aload_n 0, 1), (1, .aload_n 1, 1), (2, .invokevirtual 32, 3), (5, .ldc 78, 2), (7, .istore 5, 2), (9, .sipush 793, 3), (12, .istore 6, 2), (14, .iconst 1, 1), (15, .aload_n 1, 1), (16, .getfield 79, 3), (19, .ishl, 1), (20, .istore 7, 2), (22, .iconst 0, 1), (23, .istore 8, 2), (25, .iload 8, 2), (27, .iload 7, 2), (29, .if_icmp .ge 46, 3), (32, .aload_n 1, 1), (33, .iload 8, 2), (35, .invokevirtual 82, 3), (38, .istore 9, 2), (40, .iload 9, 2), (42, .iload 6, 2), (44, .if_icmp .ge 25, 3), (47, .aload_n 0, 1), (48, .aload_n 1, 1), (49, .iload 8, 2), (51, .iload_n 2, 1), (52, .iload_n 3, 1), (53, .iload 4, 2), (55, .invokevirtual 86, 3), (58, .ifCond .eq 11, 3), (61, .iload 8, 2), (63, .istore 5, 2), (65, .iload 9, 2), (67, .istore 6, 2), (69, .iinc 8 1, 3), (72, .goto (-47), 3), (75, .iload 5, 2), (77, .ireturn, 1)]
theorem tk_X0_cheapestSet_0 : dcA cX0_cheapestSet tb_X0_cheapestSet_0 = true := by decide +kernel
theorem dX0_cheapestSet_0 : decode cX0_cheapestSet 0 = .ok (.aload_n 0, 1) := dcO tk_X0_cheapestSet_0 0 rfl
theorem dX0_cheapestSet_1 : decode cX0_cheapestSet 1 = .ok (.aload_n 1, 1) := dcO tk_X0_cheapestSet_0 1 rfl
theorem dX0_cheapestSet_2 : decode cX0_cheapestSet 2 = .ok (.invokevirtual 32, 3) := dcO tk_X0_cheapestSet_0 2 rfl
theorem dX0_cheapestSet_5 : decode cX0_cheapestSet 5 = .ok (.ldc 78, 2) := dcO tk_X0_cheapestSet_0 3 rfl
theorem dX0_cheapestSet_7 : decode cX0_cheapestSet 7 = .ok (.istore 5, 2) := dcO tk_X0_cheapestSet_0 4 rfl
theorem dX0_cheapestSet_9 : decode cX0_cheapestSet 9 = .ok (.sipush 793, 3) := dcO tk_X0_cheapestSet_0 5 rfl
theorem dX0_cheapestSet_12 : decode cX0_cheapestSet 12 = .ok (.istore 6, 2) := dcO tk_X0_cheapestSet_0 6 rfl
theorem dX0_cheapestSet_14 : decode cX0_cheapestSet 14 = .ok (.iconst 1, 1) := dcO tk_X0_cheapestSet_0 7 rfl
theorem dX0_cheapestSet_15 : decode cX0_cheapestSet 15 = .ok (.aload_n 1, 1) := dcO tk_X0_cheapestSet_0 8 rfl
theorem dX0_cheapestSet_16 : decode cX0_cheapestSet 16 = .ok (.getfield 79, 3) := dcO tk_X0_cheapestSet_0 9 rfl
theorem dX0_cheapestSet_19 : decode cX0_cheapestSet 19 = .ok (.ishl, 1) := dcO tk_X0_cheapestSet_0 10 rfl
theorem dX0_cheapestSet_20 : decode cX0_cheapestSet 20 = .ok (.istore 7, 2) := dcO tk_X0_cheapestSet_0 11 rfl
theorem dX0_cheapestSet_22 : decode cX0_cheapestSet 22 = .ok (.iconst 0, 1) := dcO tk_X0_cheapestSet_0 12 rfl
theorem dX0_cheapestSet_23 : decode cX0_cheapestSet 23 = .ok (.istore 8, 2) := dcO tk_X0_cheapestSet_0 13 rfl
theorem dX0_cheapestSet_25 : decode cX0_cheapestSet 25 = .ok (.iload 8, 2) := dcO tk_X0_cheapestSet_0 14 rfl
theorem dX0_cheapestSet_27 : decode cX0_cheapestSet 27 = .ok (.iload 7, 2) := dcO tk_X0_cheapestSet_0 15 rfl
theorem dX0_cheapestSet_29 : decode cX0_cheapestSet 29 = .ok (.if_icmp .ge 46, 3) := dcO tk_X0_cheapestSet_0 16 rfl
theorem dX0_cheapestSet_32 : decode cX0_cheapestSet 32 = .ok (.aload_n 1, 1) := dcO tk_X0_cheapestSet_0 17 rfl
theorem dX0_cheapestSet_33 : decode cX0_cheapestSet 33 = .ok (.iload 8, 2) := dcO tk_X0_cheapestSet_0 18 rfl
theorem dX0_cheapestSet_35 : decode cX0_cheapestSet 35 = .ok (.invokevirtual 82, 3) := dcO tk_X0_cheapestSet_0 19 rfl
theorem dX0_cheapestSet_38 : decode cX0_cheapestSet 38 = .ok (.istore 9, 2) := dcO tk_X0_cheapestSet_0 20 rfl
theorem dX0_cheapestSet_40 : decode cX0_cheapestSet 40 = .ok (.iload 9, 2) := dcO tk_X0_cheapestSet_0 21 rfl
theorem dX0_cheapestSet_42 : decode cX0_cheapestSet 42 = .ok (.iload 6, 2) := dcO tk_X0_cheapestSet_0 22 rfl
theorem dX0_cheapestSet_44 : decode cX0_cheapestSet 44 = .ok (.if_icmp .ge 25, 3) := dcO tk_X0_cheapestSet_0 23 rfl
theorem dX0_cheapestSet_47 : decode cX0_cheapestSet 47 = .ok (.aload_n 0, 1) := dcO tk_X0_cheapestSet_0 24 rfl
theorem dX0_cheapestSet_48 : decode cX0_cheapestSet 48 = .ok (.aload_n 1, 1) := dcO tk_X0_cheapestSet_0 25 rfl
theorem dX0_cheapestSet_49 : decode cX0_cheapestSet 49 = .ok (.iload 8, 2) := dcO tk_X0_cheapestSet_0 26 rfl
theorem dX0_cheapestSet_51 : decode cX0_cheapestSet 51 = .ok (.iload_n 2, 1) := dcO tk_X0_cheapestSet_0 27 rfl
theorem dX0_cheapestSet_52 : decode cX0_cheapestSet 52 = .ok (.iload_n 3, 1) := dcO tk_X0_cheapestSet_0 28 rfl
theorem dX0_cheapestSet_53 : decode cX0_cheapestSet 53 = .ok (.iload 4, 2) := dcO tk_X0_cheapestSet_0 29 rfl
theorem dX0_cheapestSet_55 : decode cX0_cheapestSet 55 = .ok (.invokevirtual 86, 3) := dcO tk_X0_cheapestSet_0 30 rfl
theorem dX0_cheapestSet_58 : decode cX0_cheapestSet 58 = .ok (.ifCond .eq 11, 3) := dcO tk_X0_cheapestSet_0 31 rfl
theorem dX0_cheapestSet_61 : decode cX0_cheapestSet 61 = .ok (.iload 8, 2) := dcO tk_X0_cheapestSet_0 32 rfl
theorem dX0_cheapestSet_63 : decode cX0_cheapestSet 63 = .ok (.istore 5, 2) := dcO tk_X0_cheapestSet_0 33 rfl
theorem dX0_cheapestSet_65 : decode cX0_cheapestSet 65 = .ok (.iload 9, 2) := dcO tk_X0_cheapestSet_0 34 rfl
theorem dX0_cheapestSet_67 : decode cX0_cheapestSet 67 = .ok (.istore 6, 2) := dcO tk_X0_cheapestSet_0 35 rfl
theorem dX0_cheapestSet_69 : decode cX0_cheapestSet 69 = .ok (.iinc 8 1, 3) := dcO tk_X0_cheapestSet_0 36 rfl
theorem dX0_cheapestSet_72 : decode cX0_cheapestSet 72 = .ok (.goto (-47), 3) := dcO tk_X0_cheapestSet_0 37 rfl
theorem dX0_cheapestSet_75 : decode cX0_cheapestSet 75 = .ok (.iload 5, 2) := dcO tk_X0_cheapestSet_0 38 rfl
theorem dX0_cheapestSet_77 : decode cX0_cheapestSet 77 = .ok (.ireturn, 1) := dcO tk_X0_cheapestSet_0 39 rfl
abbrev tb_X0_bringsLaw_0 : List (Nat × Instr × Nat) := [(0, .aload_n 1, 1), (1, .getfield 41, 3), (4, .iload 4, 2), (6, .iaload, 1), (7, .iload_n 3, 1), (8, .if_icmp .eq 15, 3), (11, .aload_n 0, 1), (12, .aload_n 1, 1), (13, .iload_n 2, 1), (14, .iload_n 3, 1), (15, .invokevirtual 90, 3), (18, .ifCond .ne 5, 3), (21, .iconst 0, 1), (22, .ireturn, 1), (23, .aload_n 0, 1), (24, .getfield 12, 3), (27, .aload_n 1, 1), (28, .invokevirtual 25, 3), (31, .aload_n 0, 1), (32, .getfield 12, 3), (35, .aload_n 0, 1), (36, .getfield 21, 3), (39, .iload_n 2, 1), (40, .iload 5, 2), (42, .invokevirtual 33, 3), (45, .aload_n 0, 1), (46, .getfield 12, 3), (49, .getfield 41, 3), (52, .iload 4, 2), (54, .iaload, 1), (55, .iload_n 3, 1), (56, .if_icmp .ne 7, 3), (59, .iconst 1, 1), (60, .goto 4, 3), (63, .iconst 0, 1), (64, .ireturn, 1)]
theorem tk_X0_bringsLaw_0 : dcA cX0_bringsLaw tb_X0_bringsLaw_0 = true := by decide +kernel
theorem dX0_bringsLaw_0 : decode cX0_bringsLaw 0 = .ok (.aload_n 1, 1) := dcO tk_X0_bringsLaw_0 0 rfl
theorem dX0_bringsLaw_1 : decode cX0_bringsLaw 1 = .ok (.getfield 41, 3) := dcO tk_X0_bringsLaw_0 1 rfl
theorem dX0_bringsLaw_4 : decode cX0_bringsLaw 4 = .ok (.iload 4, 2) := dcO tk_X0_bringsLaw_0 2 rfl
theorem dX0_bringsLaw_6 : decode cX0_bringsLaw 6 = .ok (.iaload, 1) := dcO tk_X0_bringsLaw_0 3 rfl
theorem dX0_bringsLaw_7 : decode cX0_bringsLaw 7 = .ok (.iload_n 3, 1) := dcO tk_X0_bringsLaw_0 4 rfl
theorem dX0_bringsLaw_8 : decode cX0_bringsLaw 8 = .ok (.if_icmp .eq 15, 3) := dcO tk_X0_bringsLaw_0 5 rfl
theorem dX0_bringsLaw_11 : decode cX0_bringsLaw 11 = .ok (.aload_n 0, 1) := dcO tk_X0_bringsLaw_0 6 rfl
theorem dX0_bringsLaw_12 : decode cX0_bringsLaw 12 = .ok (.aload_n 1, 1) := dcO tk_X0_bringsLaw_0 7 rfl
theorem dX0_bringsLaw_13 : decode cX0_bringsLaw 13 = .ok (.iload_n 2, 1) := dcO tk_X0_bringsLaw_0 8 rfl
theorem dX0_bringsLaw_14 : decode cX0_bringsLaw 14 = .ok (.iload_n 3, 1) := dcO tk_X0_bringsLaw_0 9 rfl
theorem dX0_bringsLaw_15 : decode cX0_bringsLaw 15 = .ok (.invokevirtual 90, 3) := dcO tk_X0_bringsLaw_0 10 rfl
theorem dX0_bringsLaw_18 : decode cX0_bringsLaw 18 = .ok (.ifCond .ne 5, 3) := dcO tk_X0_bringsLaw_0 11 rfl
theorem dX0_bringsLaw_21 : decode cX0_bringsLaw 21 = .ok (.iconst 0, 1) := dcO tk_X0_bringsLaw_0 12 rfl
theorem dX0_bringsLaw_22 : decode cX0_bringsLaw 22 = .ok (.ireturn, 1) := dcO tk_X0_bringsLaw_0 13 rfl
theorem dX0_bringsLaw_23 : decode cX0_bringsLaw 23 = .ok (.aload_n 0, 1) := dcO tk_X0_bringsLaw_0 14 rfl
theorem dX0_bringsLaw_24 : decode cX0_bringsLaw 24 = .ok (.getfield 12, 3) := dcO tk_X0_bringsLaw_0 15 rfl
theorem dX0_bringsLaw_27 : decode cX0_bringsLaw 27 = .ok (.aload_n 1, 1) := dcO tk_X0_bringsLaw_0 16 rfl
theorem dX0_bringsLaw_28 : decode cX0_bringsLaw 28 = .ok (.invokevirtual 25, 3) := dcO tk_X0_bringsLaw_0 17 rfl
theorem dX0_bringsLaw_31 : decode cX0_bringsLaw 31 = .ok (.aload_n 0, 1) := dcO tk_X0_bringsLaw_0 18 rfl
theorem dX0_bringsLaw_32 : decode cX0_bringsLaw 32 = .ok (.getfield 12, 3) := dcO tk_X0_bringsLaw_0 19 rfl
theorem dX0_bringsLaw_35 : decode cX0_bringsLaw 35 = .ok (.aload_n 0, 1) := dcO tk_X0_bringsLaw_0 20 rfl
theorem dX0_bringsLaw_36 : decode cX0_bringsLaw 36 = .ok (.getfield 21, 3) := dcO tk_X0_bringsLaw_0 21 rfl
theorem dX0_bringsLaw_39 : decode cX0_bringsLaw 39 = .ok (.iload_n 2, 1) := dcO tk_X0_bringsLaw_0 22 rfl
theorem dX0_bringsLaw_40 : decode cX0_bringsLaw 40 = .ok (.iload 5, 2) := dcO tk_X0_bringsLaw_0 23 rfl
theorem dX0_bringsLaw_42 : decode cX0_bringsLaw 42 = .ok (.invokevirtual 33, 3) := dcO tk_X0_bringsLaw_0 24 rfl
theorem dX0_bringsLaw_45 : decode cX0_bringsLaw 45 = .ok (.aload_n 0, 1) := dcO tk_X0_bringsLaw_0 25 rfl
theorem dX0_bringsLaw_46 : decode cX0_bringsLaw 46 = .ok (.getfield 12, 3) := dcO tk_X0_bringsLaw_0 26 rfl
theorem dX0_bringsLaw_49 : decode cX0_bringsLaw 49 = .ok (.getfield 41, 3) := dcO tk_X0_bringsLaw_0 27 rfl
theorem dX0_bringsLaw_52 : decode cX0_bringsLaw 52 = .ok (.iload 4, 2) := dcO tk_X0_bringsLaw_0 28 rfl
theorem dX0_bringsLaw_54 : decode cX0_bringsLaw 54 = .ok (.iaload, 1) := dcO tk_X0_bringsLaw_0 29 rfl
theorem dX0_bringsLaw_55 : decode cX0_bringsLaw 55 = .ok (.iload_n 3, 1) := dcO tk_X0_bringsLaw_0 30 rfl
theorem dX0_bringsLaw_56 : decode cX0_bringsLaw 56 = .ok (.if_icmp .ne 7, 3) := dcO tk_X0_bringsLaw_0 31 rfl
theorem dX0_bringsLaw_59 : decode cX0_bringsLaw 59 = .ok (.iconst 1, 1) := dcO tk_X0_bringsLaw_0 32 rfl
theorem dX0_bringsLaw_60 : decode cX0_bringsLaw 60 = .ok (.goto 4, 3) := dcO tk_X0_bringsLaw_0 33 rfl
theorem dX0_bringsLaw_63 : decode cX0_bringsLaw 63 = .ok (.iconst 0, 1) := dcO tk_X0_bringsLaw_0 34 rfl
theorem dX0_bringsLaw_64 : decode cX0_bringsLaw 64 = .ok (.ireturn, 1) := dcO tk_X0_bringsLaw_0 35 rfl
abbrev tb_X0_bearsLaw_0 : List (Nat × Instr × Nat) := [(0, .iconst 0, 1), (1, .istore 4, 2), (3, .iload 4, 2), (5, .aload_n 1, 1), (6, .getfield 79, 3), (9, .if_icmp .ge 32, 3), (12, .iload_n 2, 1), (13, .iload 4, 2), (15, .ishr, 1), (16, .iconst 1, 1), (17, .iand, 1), (18, .iconst 1, 1), (19, .if_icmp .ne 16, 3), (22, .aload_n 1, 1), (23, .getfield 94, 3), (26, .iload 4, 2), (28, .iaload, 1), (29, .iload_n 3, 1), (30, .if_icmp .ne 5, 3), (33, .iconst 1, 1), (34, .ireturn, 1), (35, .iinc 4 1, 3), (38, .goto (-35), 3), (41, .iconst 0, 1), (42, .ireturn, 1)]
theorem tk_X0_bearsLaw_0 : dcA cX0_bearsLaw tb_X0_bearsLaw_0 = true := by decide +kernel
theorem dX0_bearsLaw_0 : decode cX0_bearsLaw 0 = .ok (.iconst 0, 1) := dcO tk_X0_bearsLaw_0 0 rfl
theorem dX0_bearsLaw_1 : decode cX0_bearsLaw 1 = .ok (.istore 4, 2) := dcO tk_X0_bearsLaw_0 1 rfl
theorem dX0_bearsLaw_3 : decode cX0_bearsLaw 3 = .ok (.iload 4, 2) := dcO tk_X0_bearsLaw_0 2 rfl
theorem dX0_bearsLaw_5 : decode cX0_bearsLaw 5 = .ok (.aload_n 1, 1) := dcO tk_X0_bearsLaw_0 3 rfl
theorem dX0_bearsLaw_6 : decode cX0_bearsLaw 6 = .ok (.getfield 79, 3) := dcO tk_X0_bearsLaw_0 4 rfl
theorem dX0_bearsLaw_9 : decode cX0_bearsLaw 9 = .ok (.if_icmp .ge 32, 3) := dcO tk_X0_bearsLaw_0 5 rfl
theorem dX0_bearsLaw_12 : decode cX0_bearsLaw 12 = .ok (.iload_n 2, 1) := dcO tk_X0_bearsLaw_0 6 rfl
theorem dX0_bearsLaw_13 : decode cX0_bearsLaw 13 = .ok (.iload 4, 2) := dcO tk_X0_bearsLaw_0 7 rfl
theorem dX0_bearsLaw_15 : decode cX0_bearsLaw 15 = .ok (.ishr, 1) := dcO tk_X0_bearsLaw_0 8 rfl
theorem dX0_bearsLaw_16 : decode cX0_bearsLaw 16 = .ok (.iconst 1, 1) := dcO tk_X0_bearsLaw_0 9 rfl
theorem dX0_bearsLaw_17 : decode cX0_bearsLaw 17 = .ok (.iand, 1) := dcO tk_X0_bearsLaw_0 10 rfl
theorem dX0_bearsLaw_18 : decode cX0_bearsLaw 18 = .ok (.iconst 1, 1) := dcO tk_X0_bearsLaw_0 11 rfl
theorem dX0_bearsLaw_19 : decode cX0_bearsLaw 19 = .ok (.if_icmp .ne 16, 3) := dcO tk_X0_bearsLaw_0 12 rfl
theorem dX0_bearsLaw_22 : decode cX0_bearsLaw 22 = .ok (.aload_n 1, 1) := dcO tk_X0_bearsLaw_0 13 rfl
theorem dX0_bearsLaw_23 : decode cX0_bearsLaw 23 = .ok (.getfield 94, 3) := dcO tk_X0_bearsLaw_0 14 rfl
theorem dX0_bearsLaw_26 : decode cX0_bearsLaw 26 = .ok (.iload 4, 2) := dcO tk_X0_bearsLaw_0 15 rfl
theorem dX0_bearsLaw_28 : decode cX0_bearsLaw 28 = .ok (.iaload, 1) := dcO tk_X0_bearsLaw_0 16 rfl
theorem dX0_bearsLaw_29 : decode cX0_bearsLaw 29 = .ok (.iload_n 3, 1) := dcO tk_X0_bearsLaw_0 17 rfl
theorem dX0_bearsLaw_30 : decode cX0_bearsLaw 30 = .ok (.if_icmp .ne 5, 3) := dcO tk_X0_bearsLaw_0 18 rfl
theorem dX0_bearsLaw_33 : decode cX0_bearsLaw 33 = .ok (.iconst 1, 1) := dcO tk_X0_bearsLaw_0 19 rfl
theorem dX0_bearsLaw_34 : decode cX0_bearsLaw 34 = .ok (.ireturn, 1) := dcO tk_X0_bearsLaw_0 20 rfl
theorem dX0_bearsLaw_35 : decode cX0_bearsLaw 35 = .ok (.iinc 4 1, 3) := dcO tk_X0_bearsLaw_0 21 rfl
theorem dX0_bearsLaw_38 : decode cX0_bearsLaw 38 = .ok (.goto (-35), 3) := dcO tk_X0_bearsLaw_0 22 rfl
theorem dX0_bearsLaw_41 : decode cX0_bearsLaw 41 = .ok (.iconst 0, 1) := dcO tk_X0_bearsLaw_0 23 rfl
theorem dX0_bearsLaw_42 : decode cX0_bearsLaw 42 = .ok (.ireturn, 1) := dcO tk_X0_bearsLaw_0 24 rfl
abbrev tb_X0_farthestStart_0 : List (Nat × Instr × Nat) := [(0, .aload_n 0, 1), (1, .aload_n 1, 1), (2, .invokevirtual 32, 3), (5, .aload_n 1, 1), (6, .getfield 54, 3), (9, .iload_n 2, 1), (10, .iaload, 1), (11, .istore 4, 2), (13, .iconst 0, 1), (14, .istore 5, 2), (16, .iconst 0, 1), (17, .istore 6, 2), (19, .iload 6, 2), (21, .bipush 81, 2), (23, .if_icmp .ge 55, 3), (26, .aload_n 0, 1), (27, .getfield 21, 3), (30, .iload_n 2, 1), (31, .iload 6, 2), (33, .invokevirtual 61, 3), (36, .istore 7, 2), (38, .iload 7, 2), (40, .iload 5, 2), (42, .if_icmp .le 30, 3), (45, .iload 7, 2), (47, .bipush 99, 2), (49, .if_icmp .ge 23, 3), (52, .aload_n 0, 1), (53, .aload_n 1, 1), (54, .iload_n 2, 1), (55, .iload 6, 2), (57, .iload_n 3, 1), (58, .invokevirtual 97, 3), (61, .ifCond .eq 11, 3), (64, .iload 7, 2), (66, .istore 5, 2), (68, .iload 6, 2), (70, .istore 4, 2), (72, .iinc 6 1, 3), (75, .goto (-56), 3)]
theorem tk_X0_farthestStart_0 : dcA cX0_farthestStart tb_X0_farthestStart_0 = true := by decide +kernel
theorem dX0_farthestStart_0 : decode cX0_farthestStart 0 = .ok (.aload_n 0, 1) := dcO tk_X0_farthestStart_0 0 rfl
theorem dX0_farthestStart_1 : decode cX0_farthestStart 1 = .ok (.aload_n 1, 1) := dcO tk_X0_farthestStart_0 1 rfl
theorem dX0_farthestStart_2 : decode cX0_farthestStart 2 = .ok (.invokevirtual 32, 3) := dcO tk_X0_farthestStart_0 2 rfl
theorem dX0_farthestStart_5 : decode cX0_farthestStart 5 = .ok (.aload_n 1, 1) := dcO tk_X0_farthestStart_0 3 rfl
theorem dX0_farthestStart_6 : decode cX0_farthestStart 6 = .ok (.getfield 54, 3) := dcO tk_X0_farthestStart_0 4 rfl
theorem dX0_farthestStart_9 : decode cX0_farthestStart 9 = .ok (.iload_n 2, 1) := dcO tk_X0_farthestStart_0 5 rfl
theorem dX0_farthestStart_10 : decode cX0_farthestStart 10 = .ok (.iaload, 1) := dcO tk_X0_farthestStart_0 6 rfl
theorem dX0_farthestStart_11 : decode cX0_farthestStart 11 = .ok (.istore 4, 2) := dcO tk_X0_farthestStart_0 7 rfl
theorem dX0_farthestStart_13 : decode cX0_farthestStart 13 = .ok (.iconst 0, 1) := dcO tk_X0_farthestStart_0 8 rfl
theorem dX0_farthestStart_14 : decode cX0_farthestStart 14 = .ok (.istore 5, 2) := dcO tk_X0_farthestStart_0 9 rfl
theorem dX0_farthestStart_16 : decode cX0_farthestStart 16 = .ok (.iconst 0, 1) := dcO tk_X0_farthestStart_0 10 rfl
theorem dX0_farthestStart_17 : decode cX0_farthestStart 17 = .ok (.istore 6, 2) := dcO tk_X0_farthestStart_0 11 rfl
theorem dX0_farthestStart_19 : decode cX0_farthestStart 19 = .ok (.iload 6, 2) := dcO tk_X0_farthestStart_0 12 rfl
theorem dX0_farthestStart_21 : decode cX0_farthestStart 21 = .ok (.bipush 81, 2) := dcO tk_X0_farthestStart_0 13 rfl
theorem dX0_farthestStart_23 : decode cX0_farthestStart 23 = .ok (.if_icmp .ge 55, 3) := dcO tk_X0_farthestStart_0 14 rfl
theorem dX0_farthestStart_26 : decode cX0_farthestStart 26 = .ok (.aload_n 0, 1) := dcO tk_X0_farthestStart_0 15 rfl
theorem dX0_farthestStart_27 : decode cX0_farthestStart 27 = .ok (.getfield 21, 3) := dcO tk_X0_farthestStart_0 16 rfl
theorem dX0_farthestStart_30 : decode cX0_farthestStart 30 = .ok (.iload_n 2, 1) := dcO tk_X0_farthestStart_0 17 rfl
theorem dX0_farthestStart_31 : decode cX0_farthestStart 31 = .ok (.iload 6, 2) := dcO tk_X0_farthestStart_0 18 rfl
theorem dX0_farthestStart_33 : decode cX0_farthestStart 33 = .ok (.invokevirtual 61, 3) := dcO tk_X0_farthestStart_0 19 rfl
theorem dX0_farthestStart_36 : decode cX0_farthestStart 36 = .ok (.istore 7, 2) := dcO tk_X0_farthestStart_0 20 rfl
theorem dX0_farthestStart_38 : decode cX0_farthestStart 38 = .ok (.iload 7, 2) := dcO tk_X0_farthestStart_0 21 rfl
theorem dX0_farthestStart_40 : decode cX0_farthestStart 40 = .ok (.iload 5, 2) := dcO tk_X0_farthestStart_0 22 rfl
theorem dX0_farthestStart_42 : decode cX0_farthestStart 42 = .ok (.if_icmp .le 30, 3) := dcO tk_X0_farthestStart_0 23 rfl
theorem dX0_farthestStart_45 : decode cX0_farthestStart 45 = .ok (.iload 7, 2) := dcO tk_X0_farthestStart_0 24 rfl
theorem dX0_farthestStart_47 : decode cX0_farthestStart 47 = .ok (.bipush 99, 2) := dcO tk_X0_farthestStart_0 25 rfl
theorem dX0_farthestStart_49 : decode cX0_farthestStart 49 = .ok (.if_icmp .ge 23, 3) := dcO tk_X0_farthestStart_0 26 rfl
theorem dX0_farthestStart_52 : decode cX0_farthestStart 52 = .ok (.aload_n 0, 1) := dcO tk_X0_farthestStart_0 27 rfl
theorem dX0_farthestStart_53 : decode cX0_farthestStart 53 = .ok (.aload_n 1, 1) := dcO tk_X0_farthestStart_0 28 rfl
theorem dX0_farthestStart_54 : decode cX0_farthestStart 54 = .ok (.iload_n 2, 1) := dcO tk_X0_farthestStart_0 29 rfl
theorem dX0_farthestStart_55 : decode cX0_farthestStart 55 = .ok (.iload 6, 2) := dcO tk_X0_farthestStart_0 30 rfl
theorem dX0_farthestStart_57 : decode cX0_farthestStart 57 = .ok (.iload_n 3, 1) := dcO tk_X0_farthestStart_0 31 rfl
theorem dX0_farthestStart_58 : decode cX0_farthestStart 58 = .ok (.invokevirtual 97, 3) := dcO tk_X0_farthestStart_0 32 rfl
theorem dX0_farthestStart_61 : decode cX0_farthestStart 61 = .ok (.ifCond .eq 11, 3) := dcO tk_X0_farthestStart_0 33 rfl
theorem dX0_farthestStart_64 : decode cX0_farthestStart 64 = .ok (.iload 7, 2) := dcO tk_X0_farthestStart_0 34 rfl
theorem dX0_farthestStart_66 : decode cX0_farthestStart 66 = .ok (.istore 5, 2) := dcO tk_X0_farthestStart_0 35 rfl
theorem dX0_farthestStart_68 : decode cX0_farthestStart 68 = .ok (.iload 6, 2) := dcO tk_X0_farthestStart_0 36 rfl
theorem dX0_farthestStart_70 : decode cX0_farthestStart 70 = .ok (.istore 4, 2) := dcO tk_X0_farthestStart_0 37 rfl
theorem dX0_farthestStart_72 : decode cX0_farthestStart 72 = .ok (.iinc 6 1, 3) := dcO tk_X0_farthestStart_0 38 rfl
theorem dX0_farthestStart_75 : decode cX0_farthestStart 75 = .ok (.goto (-56), 3) := dcO tk_X0_farthestStart_0 39 rfl
abbrev tb_X0_farthestStart_1 : List (Nat × Instr × Nat) := [(78, .iload 4, 2), (80, .ireturn, 1)]
theorem tk_X0_farthestStart_1 : dcA cX0_farthestStart tb_X0_farthestStart_1 = true := by decide +kernel
theorem dX0_farthestStart_78 : decode cX0_farthestStart 78 = .ok (.iload 4, 2) := dcO tk_X0_farthestStart_1 0 rfl
theorem dX0_farthestStart_80 : decode cX0_farthestStart 80 = .ok (.ireturn, 1) := dcO tk_X0_farthestStart_1 1 rfl
abbrev tb_X0_arrivesFrom_0 : List (Nat × Instr × Nat) := [(0, .aload_n 0, 1), (1, .getfield 12, 3), (4, .aload_n 1, 1), (5, .invokevirtual 25, 3), (8, .aload_n 0, 1), (9, .getfield 12, 3), (12, .getfield 51, 3), (15, .iload_n 2, 1), (16, .iload_n 3, 1), (17, .iastore, 1), (18, .iconst 0, 1), (19, .istore 5, 2), (21, .iload 5, 2), (23, .iload 4, 2), (25, .if_icmp .ge 34, 3), (28, .aload_n 0, 1), (29, .getfield 12, 3), (32, .getfield 51, 3), (35, .iload_n 2, 1), (36, .iaload, 1), (37, .aload_n 0, 1), (38, .getfield 12, 3), (41, .getfield 54, 3), (44, .iload_n 2, 1), (45, .iaload, 1), (46, .if_icmp .eq 13, 3), (49, .aload_n 0, 1), (50, .invokevirtual 45, 3), (53, .iinc 5 1, 3), (56, .goto (-35), 3), (59, .aload_n 0, 1), (60, .getfield 12, 3), (63, .getfield 51, 3), (66, .iload_n 2, 1), (67, .iaload, 1), (68, .aload_n 0, 1), (69, .getfield 12, 3), (72, .getfield 54, 3), (75, .iload_n 2, 1), (76, .iaload, 1)]
theorem tk_X0_arrivesFrom_0 : dcA cX0_arrivesFrom tb_X0_arrivesFrom_0 = true := by decide +kernel
theorem dX0_arrivesFrom_0 : decode cX0_arrivesFrom 0 = .ok (.aload_n 0, 1) := dcO tk_X0_arrivesFrom_0 0 rfl
theorem dX0_arrivesFrom_1 : decode cX0_arrivesFrom 1 = .ok (.getfield 12, 3) := dcO tk_X0_arrivesFrom_0 1 rfl
theorem dX0_arrivesFrom_4 : decode cX0_arrivesFrom 4 = .ok (.aload_n 1, 1) := dcO tk_X0_arrivesFrom_0 2 rfl
theorem dX0_arrivesFrom_5 : decode cX0_arrivesFrom 5 = .ok (.invokevirtual 25, 3) := dcO tk_X0_arrivesFrom_0 3 rfl
theorem dX0_arrivesFrom_8 : decode cX0_arrivesFrom 8 = .ok (.aload_n 0, 1) := dcO tk_X0_arrivesFrom_0 4 rfl
theorem dX0_arrivesFrom_9 : decode cX0_arrivesFrom 9 = .ok (.getfield 12, 3) := dcO tk_X0_arrivesFrom_0 5 rfl
theorem dX0_arrivesFrom_12 : decode cX0_arrivesFrom 12 = .ok (.getfield 51, 3) := dcO tk_X0_arrivesFrom_0 6 rfl
theorem dX0_arrivesFrom_15 : decode cX0_arrivesFrom 15 = .ok (.iload_n 2, 1) := dcO tk_X0_arrivesFrom_0 7 rfl
theorem dX0_arrivesFrom_16 : decode cX0_arrivesFrom 16 = .ok (.iload_n 3, 1) := dcO tk_X0_arrivesFrom_0 8 rfl
theorem dX0_arrivesFrom_17 : decode cX0_arrivesFrom 17 = .ok (.iastore, 1) := dcO tk_X0_arrivesFrom_0 9 rfl
theorem dX0_arrivesFrom_18 : decode cX0_arrivesFrom 18 = .ok (.iconst 0, 1) := dcO tk_X0_arrivesFrom_0 10 rfl
theorem dX0_arrivesFrom_19 : decode cX0_arrivesFrom 19 = .ok (.istore 5, 2) := dcO tk_X0_arrivesFrom_0 11 rfl
theorem dX0_arrivesFrom_21 : decode cX0_arrivesFrom 21 = .ok (.iload 5, 2) := dcO tk_X0_arrivesFrom_0 12 rfl
theorem dX0_arrivesFrom_23 : decode cX0_arrivesFrom 23 = .ok (.iload 4, 2) := dcO tk_X0_arrivesFrom_0 13 rfl
theorem dX0_arrivesFrom_25 : decode cX0_arrivesFrom 25 = .ok (.if_icmp .ge 34, 3) := dcO tk_X0_arrivesFrom_0 14 rfl
theorem dX0_arrivesFrom_28 : decode cX0_arrivesFrom 28 = .ok (.aload_n 0, 1) := dcO tk_X0_arrivesFrom_0 15 rfl
theorem dX0_arrivesFrom_29 : decode cX0_arrivesFrom 29 = .ok (.getfield 12, 3) := dcO tk_X0_arrivesFrom_0 16 rfl
theorem dX0_arrivesFrom_32 : decode cX0_arrivesFrom 32 = .ok (.getfield 51, 3) := dcO tk_X0_arrivesFrom_0 17 rfl
theorem dX0_arrivesFrom_35 : decode cX0_arrivesFrom 35 = .ok (.iload_n 2, 1) := dcO tk_X0_arrivesFrom_0 18 rfl
theorem dX0_arrivesFrom_36 : decode cX0_arrivesFrom 36 = .ok (.iaload, 1) := dcO tk_X0_arrivesFrom_0 19 rfl
theorem dX0_arrivesFrom_37 : decode cX0_arrivesFrom 37 = .ok (.aload_n 0, 1) := dcO tk_X0_arrivesFrom_0 20 rfl
theorem dX0_arrivesFrom_38 : decode cX0_arrivesFrom 38 = .ok (.getfield 12, 3) := dcO tk_X0_arrivesFrom_0 21 rfl
theorem dX0_arrivesFrom_41 : decode cX0_arrivesFrom 41 = .ok (.getfield 54, 3) := dcO tk_X0_arrivesFrom_0 22 rfl
theorem dX0_arrivesFrom_44 : decode cX0_arrivesFrom 44 = .ok (.iload_n 2, 1) := dcO tk_X0_arrivesFrom_0 23 rfl
theorem dX0_arrivesFrom_45 : decode cX0_arrivesFrom 45 = .ok (.iaload, 1) := dcO tk_X0_arrivesFrom_0 24 rfl
theorem dX0_arrivesFrom_46 : decode cX0_arrivesFrom 46 = .ok (.if_icmp .eq 13, 3) := dcO tk_X0_arrivesFrom_0 25 rfl
theorem dX0_arrivesFrom_49 : decode cX0_arrivesFrom 49 = .ok (.aload_n 0, 1) := dcO tk_X0_arrivesFrom_0 26 rfl
theorem dX0_arrivesFrom_50 : decode cX0_arrivesFrom 50 = .ok (.invokevirtual 45, 3) := dcO tk_X0_arrivesFrom_0 27 rfl
theorem dX0_arrivesFrom_53 : decode cX0_arrivesFrom 53 = .ok (.iinc 5 1, 3) := dcO tk_X0_arrivesFrom_0 28 rfl
theorem dX0_arrivesFrom_56 : decode cX0_arrivesFrom 56 = .ok (.goto (-35), 3) := dcO tk_X0_arrivesFrom_0 29 rfl
theorem dX0_arrivesFrom_59 : decode cX0_arrivesFrom 59 = .ok (.aload_n 0, 1) := dcO tk_X0_arrivesFrom_0 30 rfl
theorem dX0_arrivesFrom_60 : decode cX0_arrivesFrom 60 = .ok (.getfield 12, 3) := dcO tk_X0_arrivesFrom_0 31 rfl
theorem dX0_arrivesFrom_63 : decode cX0_arrivesFrom 63 = .ok (.getfield 51, 3) := dcO tk_X0_arrivesFrom_0 32 rfl
theorem dX0_arrivesFrom_66 : decode cX0_arrivesFrom 66 = .ok (.iload_n 2, 1) := dcO tk_X0_arrivesFrom_0 33 rfl
theorem dX0_arrivesFrom_67 : decode cX0_arrivesFrom 67 = .ok (.iaload, 1) := dcO tk_X0_arrivesFrom_0 34 rfl
theorem dX0_arrivesFrom_68 : decode cX0_arrivesFrom 68 = .ok (.aload_n 0, 1) := dcO tk_X0_arrivesFrom_0 35 rfl
theorem dX0_arrivesFrom_69 : decode cX0_arrivesFrom 69 = .ok (.getfield 12, 3) := dcO tk_X0_arrivesFrom_0 36 rfl
theorem dX0_arrivesFrom_72 : decode cX0_arrivesFrom 72 = .ok (.getfield 54, 3) := dcO tk_X0_arrivesFrom_0 37 rfl
theorem dX0_arrivesFrom_75 : decode cX0_arrivesFrom 75 = .ok (.iload_n 2, 1) := dcO tk_X0_arrivesFrom_0 38 rfl
theorem dX0_arrivesFrom_76 : decode cX0_arrivesFrom 76 = .ok (.iaload, 1) := dcO tk_X0_arrivesFrom_0 39 rfl
abbrev tb_X0_arrivesFrom_1 : List (Nat × Instr × Nat) := [(77, .if_icmp .ne 7, 3), (80, .iconst 1, 1), (81, .goto 4, 3), (84, .iconst 0, 1), (85, .ireturn, 1)]
theorem tk_X0_arrivesFrom_1 : dcA cX0_arrivesFrom tb_X0_arrivesFrom_1 = true := by decide +kernel
theorem dX0_arrivesFrom_77 : decode cX0_arrivesFrom 77 = .ok (.if_icmp .ne 7, 3) := dcO tk_X0_arrivesFrom_1 0 rfl
theorem dX0_arrivesFrom_80 : decode cX0_arrivesFrom 80 = .ok (.iconst 1, 1) := dcO tk_X0_arrivesFrom_1 1 rfl
theorem dX0_arrivesFrom_81 : decode cX0_arrivesFrom 81 = .ok (.goto 4, 3) := dcO tk_X0_arrivesFrom_1 2 rfl
theorem dX0_arrivesFrom_84 : decode cX0_arrivesFrom 84 = .ok (.iconst 0, 1) := dcO tk_X0_arrivesFrom_1 3 rfl
theorem dX0_arrivesFrom_85 : decode cX0_arrivesFrom 85 = .ok (.ireturn, 1) := dcO tk_X0_arrivesFrom_1 4 rfl
abbrev tb_X0_leavesTrail_0 : List (Nat × Instr × Nat) := [(0, .aload_n 0, 1), (1, .getfield 12, 3), (4, .aload_n 1, 1), (5, .invokevirtual 25, 3), (8, .aload_n 0, 1), (9, .getfield 12, 3), (12, .getfield 51, 3), (15, .iload_n 2, 1), (16, .iload_n 3, 1), (17, .iastore, 1), (18, .iconst 0, 1), (19, .istore 6, 2), (21, .iload 6, 2), (23, .aload 4, 2), (25, .getfield 101, 3), (28, .iload 5, 2), (30, .iaload, 1), (31, .if_icmp .ge 51, 3), (34, .iload 6, 2), (36, .ifCond .le 7, 3), (39, .aload_n 0, 1), (40, .invokevirtual 45, 3), (43, .aload 4, 2), (45, .iload 5, 2), (47, .iload 6, 2), (49, .invokevirtual 106, 3), (52, .istore 7, 2), (54, .iload 7, 2), (56, .iconst (-1), 1), (57, .if_icmp .eq 19, 3), (60, .iload 7, 2), (62, .aload_n 0, 1), (63, .getfield 12, 3), (66, .getfield 51, 3), (69, .iload_n 2, 1), (70, .iaload, 1), (71, .if_icmp .eq 5, 3), (74, .iconst 0, 1), (75, .ireturn, 1), (76, .iinc 6 1, 3)]
theorem tk_X0_leavesTrail_0 : dcA cX0_leavesTrail tb_X0_leavesTrail_0 = true := by decide +kernel
theorem dX0_leavesTrail_0 : decode cX0_leavesTrail 0 = .ok (.aload_n 0, 1) := dcO tk_X0_leavesTrail_0 0 rfl
theorem dX0_leavesTrail_1 : decode cX0_leavesTrail 1 = .ok (.getfield 12, 3) := dcO tk_X0_leavesTrail_0 1 rfl
theorem dX0_leavesTrail_4 : decode cX0_leavesTrail 4 = .ok (.aload_n 1, 1) := dcO tk_X0_leavesTrail_0 2 rfl
theorem dX0_leavesTrail_5 : decode cX0_leavesTrail 5 = .ok (.invokevirtual 25, 3) := dcO tk_X0_leavesTrail_0 3 rfl
theorem dX0_leavesTrail_8 : decode cX0_leavesTrail 8 = .ok (.aload_n 0, 1) := dcO tk_X0_leavesTrail_0 4 rfl
theorem dX0_leavesTrail_9 : decode cX0_leavesTrail 9 = .ok (.getfield 12, 3) := dcO tk_X0_leavesTrail_0 5 rfl
theorem dX0_leavesTrail_12 : decode cX0_leavesTrail 12 = .ok (.getfield 51, 3) := dcO tk_X0_leavesTrail_0 6 rfl
theorem dX0_leavesTrail_15 : decode cX0_leavesTrail 15 = .ok (.iload_n 2, 1) := dcO tk_X0_leavesTrail_0 7 rfl
theorem dX0_leavesTrail_16 : decode cX0_leavesTrail 16 = .ok (.iload_n 3, 1) := dcO tk_X0_leavesTrail_0 8 rfl
theorem dX0_leavesTrail_17 : decode cX0_leavesTrail 17 = .ok (.iastore, 1) := dcO tk_X0_leavesTrail_0 9 rfl
theorem dX0_leavesTrail_18 : decode cX0_leavesTrail 18 = .ok (.iconst 0, 1) := dcO tk_X0_leavesTrail_0 10 rfl
theorem dX0_leavesTrail_19 : decode cX0_leavesTrail 19 = .ok (.istore 6, 2) := dcO tk_X0_leavesTrail_0 11 rfl
theorem dX0_leavesTrail_21 : decode cX0_leavesTrail 21 = .ok (.iload 6, 2) := dcO tk_X0_leavesTrail_0 12 rfl
theorem dX0_leavesTrail_23 : decode cX0_leavesTrail 23 = .ok (.aload 4, 2) := dcO tk_X0_leavesTrail_0 13 rfl
theorem dX0_leavesTrail_25 : decode cX0_leavesTrail 25 = .ok (.getfield 101, 3) := dcO tk_X0_leavesTrail_0 14 rfl
theorem dX0_leavesTrail_28 : decode cX0_leavesTrail 28 = .ok (.iload 5, 2) := dcO tk_X0_leavesTrail_0 15 rfl
theorem dX0_leavesTrail_30 : decode cX0_leavesTrail 30 = .ok (.iaload, 1) := dcO tk_X0_leavesTrail_0 16 rfl
theorem dX0_leavesTrail_31 : decode cX0_leavesTrail 31 = .ok (.if_icmp .ge 51, 3) := dcO tk_X0_leavesTrail_0 17 rfl
theorem dX0_leavesTrail_34 : decode cX0_leavesTrail 34 = .ok (.iload 6, 2) := dcO tk_X0_leavesTrail_0 18 rfl
theorem dX0_leavesTrail_36 : decode cX0_leavesTrail 36 = .ok (.ifCond .le 7, 3) := dcO tk_X0_leavesTrail_0 19 rfl
theorem dX0_leavesTrail_39 : decode cX0_leavesTrail 39 = .ok (.aload_n 0, 1) := dcO tk_X0_leavesTrail_0 20 rfl
theorem dX0_leavesTrail_40 : decode cX0_leavesTrail 40 = .ok (.invokevirtual 45, 3) := dcO tk_X0_leavesTrail_0 21 rfl
theorem dX0_leavesTrail_43 : decode cX0_leavesTrail 43 = .ok (.aload 4, 2) := dcO tk_X0_leavesTrail_0 22 rfl
theorem dX0_leavesTrail_45 : decode cX0_leavesTrail 45 = .ok (.iload 5, 2) := dcO tk_X0_leavesTrail_0 23 rfl
theorem dX0_leavesTrail_47 : decode cX0_leavesTrail 47 = .ok (.iload 6, 2) := dcO tk_X0_leavesTrail_0 24 rfl
theorem dX0_leavesTrail_49 : decode cX0_leavesTrail 49 = .ok (.invokevirtual 106, 3) := dcO tk_X0_leavesTrail_0 25 rfl
theorem dX0_leavesTrail_52 : decode cX0_leavesTrail 52 = .ok (.istore 7, 2) := dcO tk_X0_leavesTrail_0 26 rfl
theorem dX0_leavesTrail_54 : decode cX0_leavesTrail 54 = .ok (.iload 7, 2) := dcO tk_X0_leavesTrail_0 27 rfl
theorem dX0_leavesTrail_56 : decode cX0_leavesTrail 56 = .ok (.iconst (-1), 1) := dcO tk_X0_leavesTrail_0 28 rfl
theorem dX0_leavesTrail_57 : decode cX0_leavesTrail 57 = .ok (.if_icmp .eq 19, 3) := dcO tk_X0_leavesTrail_0 29 rfl
theorem dX0_leavesTrail_60 : decode cX0_leavesTrail 60 = .ok (.iload 7, 2) := dcO tk_X0_leavesTrail_0 30 rfl
theorem dX0_leavesTrail_62 : decode cX0_leavesTrail 62 = .ok (.aload_n 0, 1) := dcO tk_X0_leavesTrail_0 31 rfl
theorem dX0_leavesTrail_63 : decode cX0_leavesTrail 63 = .ok (.getfield 12, 3) := dcO tk_X0_leavesTrail_0 32 rfl
theorem dX0_leavesTrail_66 : decode cX0_leavesTrail 66 = .ok (.getfield 51, 3) := dcO tk_X0_leavesTrail_0 33 rfl
theorem dX0_leavesTrail_69 : decode cX0_leavesTrail 69 = .ok (.iload_n 2, 1) := dcO tk_X0_leavesTrail_0 34 rfl
theorem dX0_leavesTrail_70 : decode cX0_leavesTrail 70 = .ok (.iaload, 1) := dcO tk_X0_leavesTrail_0 35 rfl
theorem dX0_leavesTrail_71 : decode cX0_leavesTrail 71 = .ok (.if_icmp .eq 5, 3) := dcO tk_X0_leavesTrail_0 36 rfl
theorem dX0_leavesTrail_74 : decode cX0_leavesTrail 74 = .ok (.iconst 0, 1) := dcO tk_X0_leavesTrail_0 37 rfl
theorem dX0_leavesTrail_75 : decode cX0_leavesTrail 75 = .ok (.ireturn, 1) := dcO tk_X0_leavesTrail_0 38 rfl
theorem dX0_leavesTrail_76 : decode cX0_leavesTrail 76 = .ok (.iinc 6 1, 3) := dcO tk_X0_leavesTrail_0 39 rfl
abbrev tb_X0_leavesTrail_1 : List (Nat × Instr × Nat) := [(79, .goto (-58), 3), (82, .iconst 1, 1), (83, .ireturn, 1)]
theorem tk_X0_leavesTrail_1 : dcA cX0_leavesTrail tb_X0_leavesTrail_1 = true := by decide +kernel
theorem dX0_leavesTrail_79 : decode cX0_leavesTrail 79 = .ok (.goto (-58), 3) := dcO tk_X0_leavesTrail_1 0 rfl
theorem dX0_leavesTrail_82 : decode cX0_leavesTrail 82 = .ok (.iconst 1, 1) := dcO tk_X0_leavesTrail_1 1 rfl
theorem dX0_leavesTrail_83 : decode cX0_leavesTrail 83 = .ok (.ireturn, 1) := dcO tk_X0_leavesTrail_1 2 rfl
abbrev tb_X1_init_0 : List (Nat × Instr × Nat) := [(0, .aload_n 0, 1), (1, .invokespecial 3, 3), (4, .aload_n 0, 1), (5, .bipush 81, 2), (7, .newarray .int, 2), (9, .putfield 9, 3), (12, .aload_n 0, 1), (13, .bipush 81, 2), (15, .newarray .int, 2), (17, .putfield 15, 3), (20, .aload_n 0, 1), (21, .bipush 81, 2), (23, .newarray .int, 2), (25, .putfield 18, 3), (28, .aload_n 0, 1), (29, .bipush 81, 2), (31, .newarray .int, 2), (33, .putfield 21, 3), (36, .aload_n 0, 1), (37, .bipush 8, 2), (39, .newarray .int, 2), (41, .putfield 24, 3), (44, .aload_n 0, 1), (45, .bipush 8, 2), (47, .newarray .int, 2), (49, .putfield 27, 3), (52, .aload_n 0, 1), (53, .bipush 8, 2), (55, .newarray .int, 2), (57, .putfield 30, 3), (60, .aload_n 0, 1), (61, .bipush 8, 2), (63, .newarray .int, 2), (65, .putfield 33, 3), (68, .aload_n 0, 1), (69, .bipush 8, 2), (71, .newarray .int, 2), (73, .putfield 36, 3), (76, .aload_n 0, 1), (77, .bipush 8, 2)]
theorem tk_X1_init_0 : dcA cX1_init tb_X1_init_0 = true := by decide +kernel
theorem dX1_init_0 : decode cX1_init 0 = .ok (.aload_n 0, 1) := dcO tk_X1_init_0 0 rfl
theorem dX1_init_1 : decode cX1_init 1 = .ok (.invokespecial 3, 3) := dcO tk_X1_init_0 1 rfl
theorem dX1_init_4 : decode cX1_init 4 = .ok (.aload_n 0, 1) := dcO tk_X1_init_0 2 rfl
theorem dX1_init_5 : decode cX1_init 5 = .ok (.bipush 81, 2) := dcO tk_X1_init_0 3 rfl
theorem dX1_init_7 : decode cX1_init 7 = .ok (.newarray .int, 2) := dcO tk_X1_init_0 4 rfl
theorem dX1_init_9 : decode cX1_init 9 = .ok (.putfield 9, 3) := dcO tk_X1_init_0 5 rfl
theorem dX1_init_12 : decode cX1_init 12 = .ok (.aload_n 0, 1) := dcO tk_X1_init_0 6 rfl
theorem dX1_init_13 : decode cX1_init 13 = .ok (.bipush 81, 2) := dcO tk_X1_init_0 7 rfl
theorem dX1_init_15 : decode cX1_init 15 = .ok (.newarray .int, 2) := dcO tk_X1_init_0 8 rfl
theorem dX1_init_17 : decode cX1_init 17 = .ok (.putfield 15, 3) := dcO tk_X1_init_0 9 rfl
theorem dX1_init_20 : decode cX1_init 20 = .ok (.aload_n 0, 1) := dcO tk_X1_init_0 10 rfl
theorem dX1_init_21 : decode cX1_init 21 = .ok (.bipush 81, 2) := dcO tk_X1_init_0 11 rfl
theorem dX1_init_23 : decode cX1_init 23 = .ok (.newarray .int, 2) := dcO tk_X1_init_0 12 rfl
theorem dX1_init_25 : decode cX1_init 25 = .ok (.putfield 18, 3) := dcO tk_X1_init_0 13 rfl
theorem dX1_init_28 : decode cX1_init 28 = .ok (.aload_n 0, 1) := dcO tk_X1_init_0 14 rfl
theorem dX1_init_29 : decode cX1_init 29 = .ok (.bipush 81, 2) := dcO tk_X1_init_0 15 rfl
theorem dX1_init_31 : decode cX1_init 31 = .ok (.newarray .int, 2) := dcO tk_X1_init_0 16 rfl
theorem dX1_init_33 : decode cX1_init 33 = .ok (.putfield 21, 3) := dcO tk_X1_init_0 17 rfl
theorem dX1_init_36 : decode cX1_init 36 = .ok (.aload_n 0, 1) := dcO tk_X1_init_0 18 rfl
theorem dX1_init_37 : decode cX1_init 37 = .ok (.bipush 8, 2) := dcO tk_X1_init_0 19 rfl
theorem dX1_init_39 : decode cX1_init 39 = .ok (.newarray .int, 2) := dcO tk_X1_init_0 20 rfl
theorem dX1_init_41 : decode cX1_init 41 = .ok (.putfield 24, 3) := dcO tk_X1_init_0 21 rfl
theorem dX1_init_44 : decode cX1_init 44 = .ok (.aload_n 0, 1) := dcO tk_X1_init_0 22 rfl
theorem dX1_init_45 : decode cX1_init 45 = .ok (.bipush 8, 2) := dcO tk_X1_init_0 23 rfl
theorem dX1_init_47 : decode cX1_init 47 = .ok (.newarray .int, 2) := dcO tk_X1_init_0 24 rfl
theorem dX1_init_49 : decode cX1_init 49 = .ok (.putfield 27, 3) := dcO tk_X1_init_0 25 rfl
theorem dX1_init_52 : decode cX1_init 52 = .ok (.aload_n 0, 1) := dcO tk_X1_init_0 26 rfl
theorem dX1_init_53 : decode cX1_init 53 = .ok (.bipush 8, 2) := dcO tk_X1_init_0 27 rfl
theorem dX1_init_55 : decode cX1_init 55 = .ok (.newarray .int, 2) := dcO tk_X1_init_0 28 rfl
theorem dX1_init_57 : decode cX1_init 57 = .ok (.putfield 30, 3) := dcO tk_X1_init_0 29 rfl
theorem dX1_init_60 : decode cX1_init 60 = .ok (.aload_n 0, 1) := dcO tk_X1_init_0 30 rfl
theorem dX1_init_61 : decode cX1_init 61 = .ok (.bipush 8, 2) := dcO tk_X1_init_0 31 rfl
theorem dX1_init_63 : decode cX1_init 63 = .ok (.newarray .int, 2) := dcO tk_X1_init_0 32 rfl
theorem dX1_init_65 : decode cX1_init 65 = .ok (.putfield 33, 3) := dcO tk_X1_init_0 33 rfl
theorem dX1_init_68 : decode cX1_init 68 = .ok (.aload_n 0, 1) := dcO tk_X1_init_0 34 rfl
theorem dX1_init_69 : decode cX1_init 69 = .ok (.bipush 8, 2) := dcO tk_X1_init_0 35 rfl
theorem dX1_init_71 : decode cX1_init 71 = .ok (.newarray .int, 2) := dcO tk_X1_init_0 36 rfl
theorem dX1_init_73 : decode cX1_init 73 = .ok (.putfield 36, 3) := dcO tk_X1_init_0 37 rfl
theorem dX1_init_76 : decode cX1_init 76 = .ok (.aload_n 0, 1) := dcO tk_X1_init_0 38 rfl
theorem dX1_init_77 : decode cX1_init 77 = .ok (.bipush 8, 2) := dcO tk_X1_init_0 39 rfl
abbrev tb_X1_init_1 : List (Nat × Instr × Nat) := [(79, .newarray .int, 2), (81, .putfield 39, 3), (84, .aload_n 0, 1), (85, .bipush 10, 2), (87, .newarray .int, 2), (89, .putfield 42, 3), (92, .aload_n 0, 1), (93, .iconst 0, 1), (94, .putfield 45, 3), (97, .aload_n 0, 1), (98, .iconst 5, 1), (99, .putfield 49, 3), (102, .aload_n 0, 1), (103, .iconst 1, 1), (104, .putfield 52, 3), (107, .aload_n 0, 1), (108, .iconst 0, 1), (109, .putfield 55, 3), (112, .aload_n 0, 1), (113, .iconst 0, 1), (114, .putfield 58, 3), (117, .aload_n 0, 1), (118, .iconst 1, 1), (119, .putfield 61, 3), (122, .aload_n 0, 1), (123, .getfield 18, 3), (126, .iconst (-1), 1), (127, .invokestatic 64, 3), (130, .aload_n 0, 1), (131, .getfield 42, 3), (134, .iconst (-1), 1), (135, .invokestatic 64, 3), (138, .return_, 1)]
theorem tk_X1_init_1 : dcA cX1_init tb_X1_init_1 = true := by decide +kernel
theorem dX1_init_79 : decode cX1_init 79 = .ok (.newarray .int, 2) := dcO tk_X1_init_1 0 rfl
theorem dX1_init_81 : decode cX1_init 81 = .ok (.putfield 39, 3) := dcO tk_X1_init_1 1 rfl
theorem dX1_init_84 : decode cX1_init 84 = .ok (.aload_n 0, 1) := dcO tk_X1_init_1 2 rfl
theorem dX1_init_85 : decode cX1_init 85 = .ok (.bipush 10, 2) := dcO tk_X1_init_1 3 rfl
theorem dX1_init_87 : decode cX1_init 87 = .ok (.newarray .int, 2) := dcO tk_X1_init_1 4 rfl
theorem dX1_init_89 : decode cX1_init 89 = .ok (.putfield 42, 3) := dcO tk_X1_init_1 5 rfl
theorem dX1_init_92 : decode cX1_init 92 = .ok (.aload_n 0, 1) := dcO tk_X1_init_1 6 rfl
theorem dX1_init_93 : decode cX1_init 93 = .ok (.iconst 0, 1) := dcO tk_X1_init_1 7 rfl
theorem dX1_init_94 : decode cX1_init 94 = .ok (.putfield 45, 3) := dcO tk_X1_init_1 8 rfl
theorem dX1_init_97 : decode cX1_init 97 = .ok (.aload_n 0, 1) := dcO tk_X1_init_1 9 rfl
theorem dX1_init_98 : decode cX1_init 98 = .ok (.iconst 5, 1) := dcO tk_X1_init_1 10 rfl
theorem dX1_init_99 : decode cX1_init 99 = .ok (.putfield 49, 3) := dcO tk_X1_init_1 11 rfl
theorem dX1_init_102 : decode cX1_init 102 = .ok (.aload_n 0, 1) := dcO tk_X1_init_1 12 rfl
theorem dX1_init_103 : decode cX1_init 103 = .ok (.iconst 1, 1) := dcO tk_X1_init_1 13 rfl
theorem dX1_init_104 : decode cX1_init 104 = .ok (.putfield 52, 3) := dcO tk_X1_init_1 14 rfl
theorem dX1_init_107 : decode cX1_init 107 = .ok (.aload_n 0, 1) := dcO tk_X1_init_1 15 rfl
theorem dX1_init_108 : decode cX1_init 108 = .ok (.iconst 0, 1) := dcO tk_X1_init_1 16 rfl
theorem dX1_init_109 : decode cX1_init 109 = .ok (.putfield 55, 3) := dcO tk_X1_init_1 17 rfl
theorem dX1_init_112 : decode cX1_init 112 = .ok (.aload_n 0, 1) := dcO tk_X1_init_1 18 rfl
theorem dX1_init_113 : decode cX1_init 113 = .ok (.iconst 0, 1) := dcO tk_X1_init_1 19 rfl
theorem dX1_init_114 : decode cX1_init 114 = .ok (.putfield 58, 3) := dcO tk_X1_init_1 20 rfl
theorem dX1_init_117 : decode cX1_init 117 = .ok (.aload_n 0, 1) := dcO tk_X1_init_1 21 rfl
theorem dX1_init_118 : decode cX1_init 118 = .ok (.iconst 1, 1) := dcO tk_X1_init_1 22 rfl
theorem dX1_init_119 : decode cX1_init 119 = .ok (.putfield 61, 3) := dcO tk_X1_init_1 23 rfl
theorem dX1_init_122 : decode cX1_init 122 = .ok (.aload_n 0, 1) := dcO tk_X1_init_1 24 rfl
theorem dX1_init_123 : decode cX1_init 123 = .ok (.getfield 18, 3) := dcO tk_X1_init_1 25 rfl
theorem dX1_init_126 : decode cX1_init 126 = .ok (.iconst (-1), 1) := dcO tk_X1_init_1 26 rfl
theorem dX1_init_127 : decode cX1_init 127 = .ok (.invokestatic 64, 3) := dcO tk_X1_init_1 27 rfl
theorem dX1_init_130 : decode cX1_init 130 = .ok (.aload_n 0, 1) := dcO tk_X1_init_1 28 rfl
theorem dX1_init_131 : decode cX1_init 131 = .ok (.getfield 42, 3) := dcO tk_X1_init_1 29 rfl
theorem dX1_init_134 : decode cX1_init 134 = .ok (.iconst (-1), 1) := dcO tk_X1_init_1 30 rfl
theorem dX1_init_135 : decode cX1_init 135 = .ok (.invokestatic 64, 3) := dcO tk_X1_init_1 31 rfl
theorem dX1_init_138 : decode cX1_init 138 = .ok (.return_, 1) := dcO tk_X1_init_1 32 rfl
abbrev tb_X1_become_0 : List (Nat × Instr × Nat) := [(0, .aload_n 1, 1), (1, .getfield 9, 3), (4, .iconst 0, 1), (5, .aload_n 0, 1), (6, .getfield 9, 3), (9, .iconst 0, 1), (10, .bipush 81, 2), (12, .invokestatic 70, 3), (15, .aload_n 1, 1), (16, .getfield 15, 3), (19, .iconst 0, 1), (20, .aload_n 0, 1), (21, .getfield 15, 3), (24, .iconst 0, 1), (25, .bipush 81, 2), (27, .invokestatic 70, 3), (30, .aload_n 1, 1), (31, .getfield 18, 3), (34, .iconst 0, 1), (35, .aload_n 0, 1), (36, .getfield 18, 3), (39, .iconst 0, 1), (40, .bipush 81, 2), (42, .invokestatic 70, 3), (45, .aload_n 1, 1), (46, .getfield 24, 3), (49, .iconst 0, 1), (50, .aload_n 0, 1), (51, .getfield 24, 3), (54, .iconst 0, 1), (55, .bipush 8, 2), (57, .invokestatic 70, 3), (60, .aload_n 1, 1), (61, .getfield 27, 3), (64, .iconst 0, 1), (65, .aload_n 0, 1), (66, .getfield 27, 3), (69, .iconst 0, 1), (70, .bipush 8, 2), (72, .invokestatic 70, 3)]
theorem tk_X1_become_0 : dcA cX1_become tb_X1_become_0 = true := by decide +kernel
theorem dX1_become_0 : decode cX1_become 0 = .ok (.aload_n 1, 1) := dcO tk_X1_become_0 0 rfl
theorem dX1_become_1 : decode cX1_become 1 = .ok (.getfield 9, 3) := dcO tk_X1_become_0 1 rfl
theorem dX1_become_4 : decode cX1_become 4 = .ok (.iconst 0, 1) := dcO tk_X1_become_0 2 rfl
theorem dX1_become_5 : decode cX1_become 5 = .ok (.aload_n 0, 1) := dcO tk_X1_become_0 3 rfl
theorem dX1_become_6 : decode cX1_become 6 = .ok (.getfield 9, 3) := dcO tk_X1_become_0 4 rfl
theorem dX1_become_9 : decode cX1_become 9 = .ok (.iconst 0, 1) := dcO tk_X1_become_0 5 rfl
theorem dX1_become_10 : decode cX1_become 10 = .ok (.bipush 81, 2) := dcO tk_X1_become_0 6 rfl
theorem dX1_become_12 : decode cX1_become 12 = .ok (.invokestatic 70, 3) := dcO tk_X1_become_0 7 rfl
theorem dX1_become_15 : decode cX1_become 15 = .ok (.aload_n 1, 1) := dcO tk_X1_become_0 8 rfl
theorem dX1_become_16 : decode cX1_become 16 = .ok (.getfield 15, 3) := dcO tk_X1_become_0 9 rfl
theorem dX1_become_19 : decode cX1_become 19 = .ok (.iconst 0, 1) := dcO tk_X1_become_0 10 rfl
theorem dX1_become_20 : decode cX1_become 20 = .ok (.aload_n 0, 1) := dcO tk_X1_become_0 11 rfl
theorem dX1_become_21 : decode cX1_become 21 = .ok (.getfield 15, 3) := dcO tk_X1_become_0 12 rfl
theorem dX1_become_24 : decode cX1_become 24 = .ok (.iconst 0, 1) := dcO tk_X1_become_0 13 rfl
theorem dX1_become_25 : decode cX1_become 25 = .ok (.bipush 81, 2) := dcO tk_X1_become_0 14 rfl
theorem dX1_become_27 : decode cX1_become 27 = .ok (.invokestatic 70, 3) := dcO tk_X1_become_0 15 rfl
theorem dX1_become_30 : decode cX1_become 30 = .ok (.aload_n 1, 1) := dcO tk_X1_become_0 16 rfl
theorem dX1_become_31 : decode cX1_become 31 = .ok (.getfield 18, 3) := dcO tk_X1_become_0 17 rfl
theorem dX1_become_34 : decode cX1_become 34 = .ok (.iconst 0, 1) := dcO tk_X1_become_0 18 rfl
theorem dX1_become_35 : decode cX1_become 35 = .ok (.aload_n 0, 1) := dcO tk_X1_become_0 19 rfl
theorem dX1_become_36 : decode cX1_become 36 = .ok (.getfield 18, 3) := dcO tk_X1_become_0 20 rfl
theorem dX1_become_39 : decode cX1_become 39 = .ok (.iconst 0, 1) := dcO tk_X1_become_0 21 rfl
theorem dX1_become_40 : decode cX1_become 40 = .ok (.bipush 81, 2) := dcO tk_X1_become_0 22 rfl
theorem dX1_become_42 : decode cX1_become 42 = .ok (.invokestatic 70, 3) := dcO tk_X1_become_0 23 rfl
theorem dX1_become_45 : decode cX1_become 45 = .ok (.aload_n 1, 1) := dcO tk_X1_become_0 24 rfl
theorem dX1_become_46 : decode cX1_become 46 = .ok (.getfield 24, 3) := dcO tk_X1_become_0 25 rfl
theorem dX1_become_49 : decode cX1_become 49 = .ok (.iconst 0, 1) := dcO tk_X1_become_0 26 rfl
theorem dX1_become_50 : decode cX1_become 50 = .ok (.aload_n 0, 1) := dcO tk_X1_become_0 27 rfl
theorem dX1_become_51 : decode cX1_become 51 = .ok (.getfield 24, 3) := dcO tk_X1_become_0 28 rfl
theorem dX1_become_54 : decode cX1_become 54 = .ok (.iconst 0, 1) := dcO tk_X1_become_0 29 rfl
theorem dX1_become_55 : decode cX1_become 55 = .ok (.bipush 8, 2) := dcO tk_X1_become_0 30 rfl
theorem dX1_become_57 : decode cX1_become 57 = .ok (.invokestatic 70, 3) := dcO tk_X1_become_0 31 rfl
theorem dX1_become_60 : decode cX1_become 60 = .ok (.aload_n 1, 1) := dcO tk_X1_become_0 32 rfl
theorem dX1_become_61 : decode cX1_become 61 = .ok (.getfield 27, 3) := dcO tk_X1_become_0 33 rfl
theorem dX1_become_64 : decode cX1_become 64 = .ok (.iconst 0, 1) := dcO tk_X1_become_0 34 rfl
theorem dX1_become_65 : decode cX1_become 65 = .ok (.aload_n 0, 1) := dcO tk_X1_become_0 35 rfl
theorem dX1_become_66 : decode cX1_become 66 = .ok (.getfield 27, 3) := dcO tk_X1_become_0 36 rfl
theorem dX1_become_69 : decode cX1_become 69 = .ok (.iconst 0, 1) := dcO tk_X1_become_0 37 rfl
theorem dX1_become_70 : decode cX1_become 70 = .ok (.bipush 8, 2) := dcO tk_X1_become_0 38 rfl
theorem dX1_become_72 : decode cX1_become 72 = .ok (.invokestatic 70, 3) := dcO tk_X1_become_0 39 rfl
abbrev tb_X1_become_1 : List (Nat × Instr × Nat) := [(75, .aload_n 1, 1), (76, .getfield 30, 3), (79, .iconst 0, 1), (80, .aload_n 0, 1), (81, .getfield 30, 3), (84, .iconst 0, 1), (85, .bipush 8, 2), (87, .invokestatic 70, 3), (90, .aload_n 1, 1), (91, .getfield 33, 3), (94, .iconst 0, 1), (95, .aload_n 0, 1), (96, .getfield 33, 3), (99, .iconst 0, 1), (100, .bipush 8, 2), (102, .invokestatic 70, 3), (105, .aload_n 1, 1), (106, .getfield 36, 3), (109, .iconst 0, 1), (110, .aload_n 0, 1), (111, .getfield 36, 3), (114, .iconst 0, 1), (115, .bipush 8, 2), (117, .invokestatic 70, 3), (120, .aload_n 1, 1), (121, .getfield 39, 3), (124, .iconst 0, 1), (125, .aload_n 0, 1), (126, .getfield 39, 3), (129, .iconst 0, 1), (130, .bipush 8, 2), (132, .invokestatic 70, 3), (135, .aload_n 1, 1), (136, .getfield 42, 3), (139, .iconst 0, 1), (140, .aload_n 0, 1), (141, .getfield 42, 3), (144, .iconst 0, 1), (145, .bipush 10, 2), (147, .invokestatic 70, 3)]
theorem tk_X1_become_1 : dcA cX1_become tb_X1_become_1 = true := by decide +kernel
theorem dX1_become_75 : decode cX1_become 75 = .ok (.aload_n 1, 1) := dcO tk_X1_become_1 0 rfl
theorem dX1_become_76 : decode cX1_become 76 = .ok (.getfield 30, 3) := dcO tk_X1_become_1 1 rfl
theorem dX1_become_79 : decode cX1_become 79 = .ok (.iconst 0, 1) := dcO tk_X1_become_1 2 rfl
theorem dX1_become_80 : decode cX1_become 80 = .ok (.aload_n 0, 1) := dcO tk_X1_become_1 3 rfl
theorem dX1_become_81 : decode cX1_become 81 = .ok (.getfield 30, 3) := dcO tk_X1_become_1 4 rfl
theorem dX1_become_84 : decode cX1_become 84 = .ok (.iconst 0, 1) := dcO tk_X1_become_1 5 rfl
theorem dX1_become_85 : decode cX1_become 85 = .ok (.bipush 8, 2) := dcO tk_X1_become_1 6 rfl
theorem dX1_become_87 : decode cX1_become 87 = .ok (.invokestatic 70, 3) := dcO tk_X1_become_1 7 rfl
theorem dX1_become_90 : decode cX1_become 90 = .ok (.aload_n 1, 1) := dcO tk_X1_become_1 8 rfl
theorem dX1_become_91 : decode cX1_become 91 = .ok (.getfield 33, 3) := dcO tk_X1_become_1 9 rfl
theorem dX1_become_94 : decode cX1_become 94 = .ok (.iconst 0, 1) := dcO tk_X1_become_1 10 rfl
theorem dX1_become_95 : decode cX1_become 95 = .ok (.aload_n 0, 1) := dcO tk_X1_become_1 11 rfl
theorem dX1_become_96 : decode cX1_become 96 = .ok (.getfield 33, 3) := dcO tk_X1_become_1 12 rfl
theorem dX1_become_99 : decode cX1_become 99 = .ok (.iconst 0, 1) := dcO tk_X1_become_1 13 rfl
theorem dX1_become_100 : decode cX1_become 100 = .ok (.bipush 8, 2) := dcO tk_X1_become_1 14 rfl
theorem dX1_become_102 : decode cX1_become 102 = .ok (.invokestatic 70, 3) := dcO tk_X1_become_1 15 rfl
theorem dX1_become_105 : decode cX1_become 105 = .ok (.aload_n 1, 1) := dcO tk_X1_become_1 16 rfl
theorem dX1_become_106 : decode cX1_become 106 = .ok (.getfield 36, 3) := dcO tk_X1_become_1 17 rfl
theorem dX1_become_109 : decode cX1_become 109 = .ok (.iconst 0, 1) := dcO tk_X1_become_1 18 rfl
theorem dX1_become_110 : decode cX1_become 110 = .ok (.aload_n 0, 1) := dcO tk_X1_become_1 19 rfl
theorem dX1_become_111 : decode cX1_become 111 = .ok (.getfield 36, 3) := dcO tk_X1_become_1 20 rfl
theorem dX1_become_114 : decode cX1_become 114 = .ok (.iconst 0, 1) := dcO tk_X1_become_1 21 rfl
theorem dX1_become_115 : decode cX1_become 115 = .ok (.bipush 8, 2) := dcO tk_X1_become_1 22 rfl
theorem dX1_become_117 : decode cX1_become 117 = .ok (.invokestatic 70, 3) := dcO tk_X1_become_1 23 rfl
theorem dX1_become_120 : decode cX1_become 120 = .ok (.aload_n 1, 1) := dcO tk_X1_become_1 24 rfl
theorem dX1_become_121 : decode cX1_become 121 = .ok (.getfield 39, 3) := dcO tk_X1_become_1 25 rfl
theorem dX1_become_124 : decode cX1_become 124 = .ok (.iconst 0, 1) := dcO tk_X1_become_1 26 rfl
theorem dX1_become_125 : decode cX1_become 125 = .ok (.aload_n 0, 1) := dcO tk_X1_become_1 27 rfl
theorem dX1_become_126 : decode cX1_become 126 = .ok (.getfield 39, 3) := dcO tk_X1_become_1 28 rfl
theorem dX1_become_129 : decode cX1_become 129 = .ok (.iconst 0, 1) := dcO tk_X1_become_1 29 rfl
theorem dX1_become_130 : decode cX1_become 130 = .ok (.bipush 8, 2) := dcO tk_X1_become_1 30 rfl
theorem dX1_become_132 : decode cX1_become 132 = .ok (.invokestatic 70, 3) := dcO tk_X1_become_1 31 rfl
theorem dX1_become_135 : decode cX1_become 135 = .ok (.aload_n 1, 1) := dcO tk_X1_become_1 32 rfl
theorem dX1_become_136 : decode cX1_become 136 = .ok (.getfield 42, 3) := dcO tk_X1_become_1 33 rfl
theorem dX1_become_139 : decode cX1_become 139 = .ok (.iconst 0, 1) := dcO tk_X1_become_1 34 rfl
theorem dX1_become_140 : decode cX1_become 140 = .ok (.aload_n 0, 1) := dcO tk_X1_become_1 35 rfl
theorem dX1_become_141 : decode cX1_become 141 = .ok (.getfield 42, 3) := dcO tk_X1_become_1 36 rfl
theorem dX1_become_144 : decode cX1_become 144 = .ok (.iconst 0, 1) := dcO tk_X1_become_1 37 rfl
theorem dX1_become_145 : decode cX1_become 145 = .ok (.bipush 10, 2) := dcO tk_X1_become_1 38 rfl
theorem dX1_become_147 : decode cX1_become 147 = .ok (.invokestatic 70, 3) := dcO tk_X1_become_1 39 rfl
abbrev tb_X1_become_2 : List (Nat × Instr × Nat) := [(150, .aload_n 0, 1), (151, .aload_n 1, 1), (152, .getfield 45, 3), (155, .putfield 45, 3), (158, .aload_n 0, 1), (159, .aload_n 1, 1), (160, .getfield 49, 3), (163, .putfield 49, 3), (166, .aload_n 0, 1), (167, .aload_n 1, 1), (168, .getfield 52, 3), (171, .putfield 52, 3), (174, .aload_n 0, 1), (175, .aload_n 1, 1), (176, .getfield 55, 3), (179, .putfield 55, 3), (182, .aload_n 0, 1), (183, .aload_n 1, 1), (184, .getfield 58, 3), (187, .putfield 58, 3), (190, .aload_n 0, 1), (191, .aload_n 1, 1), (192, .getfield 61, 3), (195, .putfield 61, 3), (198, .return_, 1)]
theorem tk_X1_become_2 : dcA cX1_become tb_X1_become_2 = true := by decide +kernel
theorem dX1_become_150 : decode cX1_become 150 = .ok (.aload_n 0, 1) := dcO tk_X1_become_2 0 rfl
theorem dX1_become_151 : decode cX1_become 151 = .ok (.aload_n 1, 1) := dcO tk_X1_become_2 1 rfl
theorem dX1_become_152 : decode cX1_become 152 = .ok (.getfield 45, 3) := dcO tk_X1_become_2 2 rfl
theorem dX1_become_155 : decode cX1_become 155 = .ok (.putfield 45, 3) := dcO tk_X1_become_2 3 rfl
theorem dX1_become_158 : decode cX1_become 158 = .ok (.aload_n 0, 1) := dcO tk_X1_become_2 4 rfl
theorem dX1_become_159 : decode cX1_become 159 = .ok (.aload_n 1, 1) := dcO tk_X1_become_2 5 rfl
theorem dX1_become_160 : decode cX1_become 160 = .ok (.getfield 49, 3) := dcO tk_X1_become_2 6 rfl
theorem dX1_become_163 : decode cX1_become 163 = .ok (.putfield 49, 3) := dcO tk_X1_become_2 7 rfl
theorem dX1_become_166 : decode cX1_become 166 = .ok (.aload_n 0, 1) := dcO tk_X1_become_2 8 rfl
theorem dX1_become_167 : decode cX1_become 167 = .ok (.aload_n 1, 1) := dcO tk_X1_become_2 9 rfl
theorem dX1_become_168 : decode cX1_become 168 = .ok (.getfield 52, 3) := dcO tk_X1_become_2 10 rfl
theorem dX1_become_171 : decode cX1_become 171 = .ok (.putfield 52, 3) := dcO tk_X1_become_2 11 rfl
theorem dX1_become_174 : decode cX1_become 174 = .ok (.aload_n 0, 1) := dcO tk_X1_become_2 12 rfl
theorem dX1_become_175 : decode cX1_become 175 = .ok (.aload_n 1, 1) := dcO tk_X1_become_2 13 rfl
theorem dX1_become_176 : decode cX1_become 176 = .ok (.getfield 55, 3) := dcO tk_X1_become_2 14 rfl
theorem dX1_become_179 : decode cX1_become 179 = .ok (.putfield 55, 3) := dcO tk_X1_become_2 15 rfl
theorem dX1_become_182 : decode cX1_become 182 = .ok (.aload_n 0, 1) := dcO tk_X1_become_2 16 rfl
theorem dX1_become_183 : decode cX1_become 183 = .ok (.aload_n 1, 1) := dcO tk_X1_become_2 17 rfl
theorem dX1_become_184 : decode cX1_become 184 = .ok (.getfield 58, 3) := dcO tk_X1_become_2 18 rfl
theorem dX1_become_187 : decode cX1_become 187 = .ok (.putfield 58, 3) := dcO tk_X1_become_2 19 rfl
theorem dX1_become_190 : decode cX1_become 190 = .ok (.aload_n 0, 1) := dcO tk_X1_become_2 20 rfl
theorem dX1_become_191 : decode cX1_become 191 = .ok (.aload_n 1, 1) := dcO tk_X1_become_2 21 rfl
theorem dX1_become_192 : decode cX1_become 192 = .ok (.getfield 61, 3) := dcO tk_X1_become_2 22 rfl
theorem dX1_become_195 : decode cX1_become 195 = .ok (.putfield 61, 3) := dcO tk_X1_become_2 23 rfl
theorem dX1_become_198 : decode cX1_become 198 = .ok (.return_, 1) := dcO tk_X1_become_2 24 rfl
abbrev tb_X1_addSnail_0 : List (Nat × Instr × Nat) := [(0, .aload_n 0, 1), (1, .getfield 45, 3), (4, .bipush 8, 2), (6, .if_icmp .lt 5, 3), (9, .iconst (-1), 1), (10, .ireturn, 1), (11, .aload_n 0, 1), (12, .getfield 45, 3), (15, .istore_n 3, 1), (16, .aload_n 0, 1), (17, .getfield 27, 3), (20, .iload_n 3, 1), (21, .iload_n 1, 1), (22, .iastore, 1), (23, .aload_n 0, 1), (24, .getfield 30, 3), (27, .iload_n 3, 1), (28, .iload_n 2, 1), (29, .iastore, 1), (30, .aload_n 0, 1), (31, .getfield 33, 3), (34, .iload_n 3, 1), (35, .iconst 0, 1), (36, .iastore, 1), (37, .aload_n 0, 1), (38, .getfield 36, 3), (41, .iload_n 3, 1), (42, .bipush 80, 2), (44, .iastore, 1), (45, .aload_n 0, 1), (46, .getfield 39, 3), (49, .iload_n 3, 1), (50, .iconst 1, 1), (51, .iastore, 1), (52, .aload_n 0, 1), (53, .dup, 1), (54, .getfield 45, 3), (57, .iconst 1, 1), (58, .iadd, 1), (59, .putfield 45, 3)]
theorem tk_X1_addSnail_0 : dcA cX1_addSnail tb_X1_addSnail_0 = true := by decide +kernel
theorem dX1_addSnail_0 : decode cX1_addSnail 0 = .ok (.aload_n 0, 1) := dcO tk_X1_addSnail_0 0 rfl
theorem dX1_addSnail_1 : decode cX1_addSnail 1 = .ok (.getfield 45, 3) := dcO tk_X1_addSnail_0 1 rfl
theorem dX1_addSnail_4 : decode cX1_addSnail 4 = .ok (.bipush 8, 2) := dcO tk_X1_addSnail_0 2 rfl
theorem dX1_addSnail_6 : decode cX1_addSnail 6 = .ok (.if_icmp .lt 5, 3) := dcO tk_X1_addSnail_0 3 rfl
theorem dX1_addSnail_9 : decode cX1_addSnail 9 = .ok (.iconst (-1), 1) := dcO tk_X1_addSnail_0 4 rfl
theorem dX1_addSnail_10 : decode cX1_addSnail 10 = .ok (.ireturn, 1) := dcO tk_X1_addSnail_0 5 rfl
theorem dX1_addSnail_11 : decode cX1_addSnail 11 = .ok (.aload_n 0, 1) := dcO tk_X1_addSnail_0 6 rfl
theorem dX1_addSnail_12 : decode cX1_addSnail 12 = .ok (.getfield 45, 3) := dcO tk_X1_addSnail_0 7 rfl
theorem dX1_addSnail_15 : decode cX1_addSnail 15 = .ok (.istore_n 3, 1) := dcO tk_X1_addSnail_0 8 rfl
theorem dX1_addSnail_16 : decode cX1_addSnail 16 = .ok (.aload_n 0, 1) := dcO tk_X1_addSnail_0 9 rfl
theorem dX1_addSnail_17 : decode cX1_addSnail 17 = .ok (.getfield 27, 3) := dcO tk_X1_addSnail_0 10 rfl
theorem dX1_addSnail_20 : decode cX1_addSnail 20 = .ok (.iload_n 3, 1) := dcO tk_X1_addSnail_0 11 rfl
theorem dX1_addSnail_21 : decode cX1_addSnail 21 = .ok (.iload_n 1, 1) := dcO tk_X1_addSnail_0 12 rfl
theorem dX1_addSnail_22 : decode cX1_addSnail 22 = .ok (.iastore, 1) := dcO tk_X1_addSnail_0 13 rfl
theorem dX1_addSnail_23 : decode cX1_addSnail 23 = .ok (.aload_n 0, 1) := dcO tk_X1_addSnail_0 14 rfl
theorem dX1_addSnail_24 : decode cX1_addSnail 24 = .ok (.getfield 30, 3) := dcO tk_X1_addSnail_0 15 rfl
theorem dX1_addSnail_27 : decode cX1_addSnail 27 = .ok (.iload_n 3, 1) := dcO tk_X1_addSnail_0 16 rfl
theorem dX1_addSnail_28 : decode cX1_addSnail 28 = .ok (.iload_n 2, 1) := dcO tk_X1_addSnail_0 17 rfl
theorem dX1_addSnail_29 : decode cX1_addSnail 29 = .ok (.iastore, 1) := dcO tk_X1_addSnail_0 18 rfl
theorem dX1_addSnail_30 : decode cX1_addSnail 30 = .ok (.aload_n 0, 1) := dcO tk_X1_addSnail_0 19 rfl
theorem dX1_addSnail_31 : decode cX1_addSnail 31 = .ok (.getfield 33, 3) := dcO tk_X1_addSnail_0 20 rfl
theorem dX1_addSnail_34 : decode cX1_addSnail 34 = .ok (.iload_n 3, 1) := dcO tk_X1_addSnail_0 21 rfl
theorem dX1_addSnail_35 : decode cX1_addSnail 35 = .ok (.iconst 0, 1) := dcO tk_X1_addSnail_0 22 rfl
theorem dX1_addSnail_36 : decode cX1_addSnail 36 = .ok (.iastore, 1) := dcO tk_X1_addSnail_0 23 rfl
theorem dX1_addSnail_37 : decode cX1_addSnail 37 = .ok (.aload_n 0, 1) := dcO tk_X1_addSnail_0 24 rfl
theorem dX1_addSnail_38 : decode cX1_addSnail 38 = .ok (.getfield 36, 3) := dcO tk_X1_addSnail_0 25 rfl
theorem dX1_addSnail_41 : decode cX1_addSnail 41 = .ok (.iload_n 3, 1) := dcO tk_X1_addSnail_0 26 rfl
theorem dX1_addSnail_42 : decode cX1_addSnail 42 = .ok (.bipush 80, 2) := dcO tk_X1_addSnail_0 27 rfl
theorem dX1_addSnail_44 : decode cX1_addSnail 44 = .ok (.iastore, 1) := dcO tk_X1_addSnail_0 28 rfl
theorem dX1_addSnail_45 : decode cX1_addSnail 45 = .ok (.aload_n 0, 1) := dcO tk_X1_addSnail_0 29 rfl
theorem dX1_addSnail_46 : decode cX1_addSnail 46 = .ok (.getfield 39, 3) := dcO tk_X1_addSnail_0 30 rfl
theorem dX1_addSnail_49 : decode cX1_addSnail 49 = .ok (.iload_n 3, 1) := dcO tk_X1_addSnail_0 31 rfl
theorem dX1_addSnail_50 : decode cX1_addSnail 50 = .ok (.iconst 1, 1) := dcO tk_X1_addSnail_0 32 rfl
theorem dX1_addSnail_51 : decode cX1_addSnail 51 = .ok (.iastore, 1) := dcO tk_X1_addSnail_0 33 rfl
theorem dX1_addSnail_52 : decode cX1_addSnail 52 = .ok (.aload_n 0, 1) := dcO tk_X1_addSnail_0 34 rfl
theorem dX1_addSnail_53 : decode cX1_addSnail 53 = .ok (.dup, 1) := dcO tk_X1_addSnail_0 35 rfl
theorem dX1_addSnail_54 : decode cX1_addSnail 54 = .ok (.getfield 45, 3) := dcO tk_X1_addSnail_0 36 rfl
theorem dX1_addSnail_57 : decode cX1_addSnail 57 = .ok (.iconst 1, 1) := dcO tk_X1_addSnail_0 37 rfl
theorem dX1_addSnail_58 : decode cX1_addSnail 58 = .ok (.iadd, 1) := dcO tk_X1_addSnail_0 38 rfl
theorem dX1_addSnail_59 : decode cX1_addSnail 59 = .ok (.putfield 45, 3) := dcO tk_X1_addSnail_0 39 rfl
abbrev tb_X1_addSnail_1 : List (Nat × Instr × Nat) := [(62, .iload_n 3, 1), (63, .ireturn, 1)]
theorem tk_X1_addSnail_1 : dcA cX1_addSnail tb_X1_addSnail_1 = true := by decide +kernel
theorem dX1_addSnail_62 : decode cX1_addSnail 62 = .ok (.iload_n 3, 1) := dcO tk_X1_addSnail_1 0 rfl
theorem dX1_addSnail_63 : decode cX1_addSnail 63 = .ok (.ireturn, 1) := dcO tk_X1_addSnail_1 1 rfl
abbrev tb_X1_traitRow_0 : List (Nat × Instr × Nat) := [(0, .iload_n 1, 1), (1, .tableswitch 51 0 3 #[31, 36, 41, 46], 31), (32, .aload_n 0, 1), (33, .getfield 27, 3), (36, .areturn, 1), (37, .aload_n 0, 1), (38, .getfield 30, 3), (41, .areturn, 1), (42, .aload_n 0, 1), (43, .getfield 33, 3), (46, .areturn, 1), (47, .aload_n 0, 1), (48, .getfield 36, 3), (51, .areturn, 1), (52, .aload_n 0, 1), (53, .getfield 39, 3), (56, .areturn, 1)]
theorem tk_X1_traitRow_0 : dcA cX1_traitRow tb_X1_traitRow_0 = true := by decide +kernel
theorem dX1_traitRow_0 : decode cX1_traitRow 0 = .ok (.iload_n 1, 1) := dcO tk_X1_traitRow_0 0 rfl
theorem dX1_traitRow_1 : decode cX1_traitRow 1 = .ok (.tableswitch 51 0 3 #[31, 36, 41, 46], 31) := dcO tk_X1_traitRow_0 1 rfl
theorem dX1_traitRow_32 : decode cX1_traitRow 32 = .ok (.aload_n 0, 1) := dcO tk_X1_traitRow_0 2 rfl
theorem dX1_traitRow_33 : decode cX1_traitRow 33 = .ok (.getfield 27, 3) := dcO tk_X1_traitRow_0 3 rfl
theorem dX1_traitRow_36 : decode cX1_traitRow 36 = .ok (.areturn, 1) := dcO tk_X1_traitRow_0 4 rfl
theorem dX1_traitRow_37 : decode cX1_traitRow 37 = .ok (.aload_n 0, 1) := dcO tk_X1_traitRow_0 5 rfl
theorem dX1_traitRow_38 : decode cX1_traitRow 38 = .ok (.getfield 30, 3) := dcO tk_X1_traitRow_0 6 rfl
theorem dX1_traitRow_41 : decode cX1_traitRow 41 = .ok (.areturn, 1) := dcO tk_X1_traitRow_0 7 rfl
theorem dX1_traitRow_42 : decode cX1_traitRow 42 = .ok (.aload_n 0, 1) := dcO tk_X1_traitRow_0 8 rfl
theorem dX1_traitRow_43 : decode cX1_traitRow 43 = .ok (.getfield 33, 3) := dcO tk_X1_traitRow_0 9 rfl
theorem dX1_traitRow_46 : decode cX1_traitRow 46 = .ok (.areturn, 1) := dcO tk_X1_traitRow_0 10 rfl
theorem dX1_traitRow_47 : decode cX1_traitRow 47 = .ok (.aload_n 0, 1) := dcO tk_X1_traitRow_0 11 rfl
theorem dX1_traitRow_48 : decode cX1_traitRow 48 = .ok (.getfield 36, 3) := dcO tk_X1_traitRow_0 12 rfl
theorem dX1_traitRow_51 : decode cX1_traitRow 51 = .ok (.areturn, 1) := dcO tk_X1_traitRow_0 13 rfl
theorem dX1_traitRow_52 : decode cX1_traitRow 52 = .ok (.aload_n 0, 1) := dcO tk_X1_traitRow_0 14 rfl
theorem dX1_traitRow_53 : decode cX1_traitRow 53 = .ok (.getfield 39, 3) := dcO tk_X1_traitRow_0 15 rfl
theorem dX1_traitRow_56 : decode cX1_traitRow 56 = .ok (.areturn, 1) := dcO tk_X1_traitRow_0 16 rfl
abbrev tb_X1_movesOf_0 : List (Nat × Instr × Nat) := [(0, .aload_n 0, 1), (1, .getfield 49, 3), (4, .iconst 5, 1), (5, .idiv, 1), (6, .iconst 1, 1), (7, .iadd, 1), (8, .istore_n 2, 1), (9, .aload_n 0, 1), (10, .getfield 15, 3), (13, .aload_n 0, 1), (14, .getfield 30, 3), (17, .iload_n 1, 1), (18, .iaload, 1), (19, .iaload, 1), (20, .ifCond .le 7, 3), (23, .iconst 0, 1), (24, .goto 4, 3), (27, .iload_n 2, 1), (28, .istore_n 3, 1), (29, .aload_n 0, 1), (30, .getfield 55, 3), (33, .iconst 2, 1), (34, .irem, 1), (35, .ifCond .ne 9, 3), (38, .iload_n 2, 1), (39, .iconst 1, 1), (40, .isub, 1), (41, .goto 4, 3), (44, .iconst 0, 1), (45, .istore 4, 2), (47, .aload_n 0, 1), (48, .getfield 27, 3), (51, .iload_n 1, 1), (52, .iaload, 1), (53, .tableswitch 72 1 6 #[39, 45, 49, 52, 70, 41], 39), (92, .iload_n 3, 1), (93, .ireturn, 1), (94, .iconst 2, 1), (95, .iload_n 3, 1), (96, .imul, 1)]
theorem tk_X1_movesOf_0 : dcA cX1_movesOf tb_X1_movesOf_0 = true := by decide +kernel
theorem dX1_movesOf_0 : decode cX1_movesOf 0 = .ok (.aload_n 0, 1) := dcO tk_X1_movesOf_0 0 rfl
theorem dX1_movesOf_1 : decode cX1_movesOf 1 = .ok (.getfield 49, 3) := dcO tk_X1_movesOf_0 1 rfl
theorem dX1_movesOf_4 : decode cX1_movesOf 4 = .ok (.iconst 5, 1) := dcO tk_X1_movesOf_0 2 rfl
theorem dX1_movesOf_5 : decode cX1_movesOf 5 = .ok (.idiv, 1) := dcO tk_X1_movesOf_0 3 rfl
theorem dX1_movesOf_6 : decode cX1_movesOf 6 = .ok (.iconst 1, 1) := dcO tk_X1_movesOf_0 4 rfl
theorem dX1_movesOf_7 : decode cX1_movesOf 7 = .ok (.iadd, 1) := dcO tk_X1_movesOf_0 5 rfl
theorem dX1_movesOf_8 : decode cX1_movesOf 8 = .ok (.istore_n 2, 1) := dcO tk_X1_movesOf_0 6 rfl
theorem dX1_movesOf_9 : decode cX1_movesOf 9 = .ok (.aload_n 0, 1) := dcO tk_X1_movesOf_0 7 rfl
theorem dX1_movesOf_10 : decode cX1_movesOf 10 = .ok (.getfield 15, 3) := dcO tk_X1_movesOf_0 8 rfl
theorem dX1_movesOf_13 : decode cX1_movesOf 13 = .ok (.aload_n 0, 1) := dcO tk_X1_movesOf_0 9 rfl
theorem dX1_movesOf_14 : decode cX1_movesOf 14 = .ok (.getfield 30, 3) := dcO tk_X1_movesOf_0 10 rfl
theorem dX1_movesOf_17 : decode cX1_movesOf 17 = .ok (.iload_n 1, 1) := dcO tk_X1_movesOf_0 11 rfl
theorem dX1_movesOf_18 : decode cX1_movesOf 18 = .ok (.iaload, 1) := dcO tk_X1_movesOf_0 12 rfl
theorem dX1_movesOf_19 : decode cX1_movesOf 19 = .ok (.iaload, 1) := dcO tk_X1_movesOf_0 13 rfl
theorem dX1_movesOf_20 : decode cX1_movesOf 20 = .ok (.ifCond .le 7, 3) := dcO tk_X1_movesOf_0 14 rfl
theorem dX1_movesOf_23 : decode cX1_movesOf 23 = .ok (.iconst 0, 1) := dcO tk_X1_movesOf_0 15 rfl
theorem dX1_movesOf_24 : decode cX1_movesOf 24 = .ok (.goto 4, 3) := dcO tk_X1_movesOf_0 16 rfl
theorem dX1_movesOf_27 : decode cX1_movesOf 27 = .ok (.iload_n 2, 1) := dcO tk_X1_movesOf_0 17 rfl
theorem dX1_movesOf_28 : decode cX1_movesOf 28 = .ok (.istore_n 3, 1) := dcO tk_X1_movesOf_0 18 rfl
theorem dX1_movesOf_29 : decode cX1_movesOf 29 = .ok (.aload_n 0, 1) := dcO tk_X1_movesOf_0 19 rfl
theorem dX1_movesOf_30 : decode cX1_movesOf 30 = .ok (.getfield 55, 3) := dcO tk_X1_movesOf_0 20 rfl
theorem dX1_movesOf_33 : decode cX1_movesOf 33 = .ok (.iconst 2, 1) := dcO tk_X1_movesOf_0 21 rfl
theorem dX1_movesOf_34 : decode cX1_movesOf 34 = .ok (.irem, 1) := dcO tk_X1_movesOf_0 22 rfl
theorem dX1_movesOf_35 : decode cX1_movesOf 35 = .ok (.ifCond .ne 9, 3) := dcO tk_X1_movesOf_0 23 rfl
theorem dX1_movesOf_38 : decode cX1_movesOf 38 = .ok (.iload_n 2, 1) := dcO tk_X1_movesOf_0 24 rfl
theorem dX1_movesOf_39 : decode cX1_movesOf 39 = .ok (.iconst 1, 1) := dcO tk_X1_movesOf_0 25 rfl
theorem dX1_movesOf_40 : decode cX1_movesOf 40 = .ok (.isub, 1) := dcO tk_X1_movesOf_0 26 rfl
theorem dX1_movesOf_41 : decode cX1_movesOf 41 = .ok (.goto 4, 3) := dcO tk_X1_movesOf_0 27 rfl
theorem dX1_movesOf_44 : decode cX1_movesOf 44 = .ok (.iconst 0, 1) := dcO tk_X1_movesOf_0 28 rfl
theorem dX1_movesOf_45 : decode cX1_movesOf 45 = .ok (.istore 4, 2) := dcO tk_X1_movesOf_0 29 rfl
theorem dX1_movesOf_47 : decode cX1_movesOf 47 = .ok (.aload_n 0, 1) := dcO tk_X1_movesOf_0 30 rfl
theorem dX1_movesOf_48 : decode cX1_movesOf 48 = .ok (.getfield 27, 3) := dcO tk_X1_movesOf_0 31 rfl
theorem dX1_movesOf_51 : decode cX1_movesOf 51 = .ok (.iload_n 1, 1) := dcO tk_X1_movesOf_0 32 rfl
theorem dX1_movesOf_52 : decode cX1_movesOf 52 = .ok (.iaload, 1) := dcO tk_X1_movesOf_0 33 rfl
theorem dX1_movesOf_53 : decode cX1_movesOf 53 = .ok (.tableswitch 72 1 6 #[39, 45, 49, 52, 70, 41], 39) := dcO tk_X1_movesOf_0 34 rfl
theorem dX1_movesOf_92 : decode cX1_movesOf 92 = .ok (.iload_n 3, 1) := dcO tk_X1_movesOf_0 35 rfl
theorem dX1_movesOf_93 : decode cX1_movesOf 93 = .ok (.ireturn, 1) := dcO tk_X1_movesOf_0 36 rfl
theorem dX1_movesOf_94 : decode cX1_movesOf 94 = .ok (.iconst 2, 1) := dcO tk_X1_movesOf_0 37 rfl
theorem dX1_movesOf_95 : decode cX1_movesOf 95 = .ok (.iload_n 3, 1) := dcO tk_X1_movesOf_0 38 rfl
theorem dX1_movesOf_96 : decode cX1_movesOf 96 = .ok (.imul, 1) := dcO tk_X1_movesOf_0 39 rfl
abbrev tb_X1_movesOf_1 : List (Nat × Instr × Nat) := [(97, .ireturn, 1), (98, .iload_n 2, 1), (99, .iconst 1, 1), (100, .isub, 1), (101, .ireturn, 1), (102, .iload 4, 2), (104, .ireturn, 1), (105, .iload 4, 2), (107, .aload_n 0, 1), (108, .getfield 55, 3), (111, .iconst 5, 1), (112, .irem, 1), (113, .ifCond .ne 7, 3), (116, .iconst 1, 1), (117, .goto 4, 3), (120, .iconst 0, 1), (121, .iadd, 1), (122, .ireturn, 1), (123, .iconst 3, 1), (124, .ireturn, 1), (125, .iload_n 2, 1), (126, .ireturn, 1)]
theorem tk_X1_movesOf_1 : dcA cX1_movesOf tb_X1_movesOf_1 = true := by decide +kernel
theorem dX1_movesOf_97 : decode cX1_movesOf 97 = .ok (.ireturn, 1) := dcO tk_X1_movesOf_1 0 rfl
theorem dX1_movesOf_98 : decode cX1_movesOf 98 = .ok (.iload_n 2, 1) := dcO tk_X1_movesOf_1 1 rfl
theorem dX1_movesOf_99 : decode cX1_movesOf 99 = .ok (.iconst 1, 1) := dcO tk_X1_movesOf_1 2 rfl
theorem dX1_movesOf_100 : decode cX1_movesOf 100 = .ok (.isub, 1) := dcO tk_X1_movesOf_1 3 rfl
theorem dX1_movesOf_101 : decode cX1_movesOf 101 = .ok (.ireturn, 1) := dcO tk_X1_movesOf_1 4 rfl
theorem dX1_movesOf_102 : decode cX1_movesOf 102 = .ok (.iload 4, 2) := dcO tk_X1_movesOf_1 5 rfl
theorem dX1_movesOf_104 : decode cX1_movesOf 104 = .ok (.ireturn, 1) := dcO tk_X1_movesOf_1 6 rfl
theorem dX1_movesOf_105 : decode cX1_movesOf 105 = .ok (.iload 4, 2) := dcO tk_X1_movesOf_1 7 rfl
theorem dX1_movesOf_107 : decode cX1_movesOf 107 = .ok (.aload_n 0, 1) := dcO tk_X1_movesOf_1 8 rfl
theorem dX1_movesOf_108 : decode cX1_movesOf 108 = .ok (.getfield 55, 3) := dcO tk_X1_movesOf_1 9 rfl
theorem dX1_movesOf_111 : decode cX1_movesOf 111 = .ok (.iconst 5, 1) := dcO tk_X1_movesOf_1 10 rfl
theorem dX1_movesOf_112 : decode cX1_movesOf 112 = .ok (.irem, 1) := dcO tk_X1_movesOf_1 11 rfl
theorem dX1_movesOf_113 : decode cX1_movesOf 113 = .ok (.ifCond .ne 7, 3) := dcO tk_X1_movesOf_1 12 rfl
theorem dX1_movesOf_116 : decode cX1_movesOf 116 = .ok (.iconst 1, 1) := dcO tk_X1_movesOf_1 13 rfl
theorem dX1_movesOf_117 : decode cX1_movesOf 117 = .ok (.goto 4, 3) := dcO tk_X1_movesOf_1 14 rfl
theorem dX1_movesOf_120 : decode cX1_movesOf 120 = .ok (.iconst 0, 1) := dcO tk_X1_movesOf_1 15 rfl
theorem dX1_movesOf_121 : decode cX1_movesOf 121 = .ok (.iadd, 1) := dcO tk_X1_movesOf_1 16 rfl
theorem dX1_movesOf_122 : decode cX1_movesOf 122 = .ok (.ireturn, 1) := dcO tk_X1_movesOf_1 17 rfl
theorem dX1_movesOf_123 : decode cX1_movesOf 123 = .ok (.iconst 3, 1) := dcO tk_X1_movesOf_1 18 rfl
theorem dX1_movesOf_124 : decode cX1_movesOf 124 = .ok (.ireturn, 1) := dcO tk_X1_movesOf_1 19 rfl
theorem dX1_movesOf_125 : decode cX1_movesOf 125 = .ok (.iload_n 2, 1) := dcO tk_X1_movesOf_1 20 rfl
theorem dX1_movesOf_126 : decode cX1_movesOf 126 = .ok (.ireturn, 1) := dcO tk_X1_movesOf_1 21 rfl
abbrev tb_X1_passDays_0 : List (Nat × Instr × Nat) := [(0, .iconst 0, 1), (1, .istore 4, 2), (3, .iload 4, 2), (5, .iload_n 3, 1), (6, .if_icmp .ge 54, 3), (9, .iconst 0, 1), (10, .istore 5, 2), (12, .iload 5, 2), (14, .aload_n 0, 1), (15, .getfield 45, 3), (18, .if_icmp .ge 26, 3), (21, .iload_n 2, 1), (22, .iload 5, 2), (24, .ishr, 1), (25, .iconst 1, 1), (26, .iand, 1), (27, .iconst 1, 1), (28, .if_icmp .ne 10, 3), (31, .aload_n 0, 1), (32, .iload 5, 2), (34, .aload_n 1, 1), (35, .invokevirtual 76, 3), (38, .iinc 5 1, 3), (41, .goto (-29), 3), (44, .aload_n 0, 1), (45, .dup, 1), (46, .getfield 55, 3), (49, .iconst 1, 1), (50, .iadd, 1), (51, .putfield 55, 3), (54, .iinc 4 1, 3), (57, .goto (-54), 3), (60, .return_, 1)]
theorem tk_X1_passDays_0 : dcA cX1_passDays tb_X1_passDays_0 = true := by decide +kernel
theorem dX1_passDays_0 : decode cX1_passDays 0 = .ok (.iconst 0, 1) := dcO tk_X1_passDays_0 0 rfl
theorem dX1_passDays_1 : decode cX1_passDays 1 = .ok (.istore 4, 2) := dcO tk_X1_passDays_0 1 rfl
theorem dX1_passDays_3 : decode cX1_passDays 3 = .ok (.iload 4, 2) := dcO tk_X1_passDays_0 2 rfl
theorem dX1_passDays_5 : decode cX1_passDays 5 = .ok (.iload_n 3, 1) := dcO tk_X1_passDays_0 3 rfl
theorem dX1_passDays_6 : decode cX1_passDays 6 = .ok (.if_icmp .ge 54, 3) := dcO tk_X1_passDays_0 4 rfl
theorem dX1_passDays_9 : decode cX1_passDays 9 = .ok (.iconst 0, 1) := dcO tk_X1_passDays_0 5 rfl
theorem dX1_passDays_10 : decode cX1_passDays 10 = .ok (.istore 5, 2) := dcO tk_X1_passDays_0 6 rfl
theorem dX1_passDays_12 : decode cX1_passDays 12 = .ok (.iload 5, 2) := dcO tk_X1_passDays_0 7 rfl
theorem dX1_passDays_14 : decode cX1_passDays 14 = .ok (.aload_n 0, 1) := dcO tk_X1_passDays_0 8 rfl
theorem dX1_passDays_15 : decode cX1_passDays 15 = .ok (.getfield 45, 3) := dcO tk_X1_passDays_0 9 rfl
theorem dX1_passDays_18 : decode cX1_passDays 18 = .ok (.if_icmp .ge 26, 3) := dcO tk_X1_passDays_0 10 rfl
theorem dX1_passDays_21 : decode cX1_passDays 21 = .ok (.iload_n 2, 1) := dcO tk_X1_passDays_0 11 rfl
theorem dX1_passDays_22 : decode cX1_passDays 22 = .ok (.iload 5, 2) := dcO tk_X1_passDays_0 12 rfl
theorem dX1_passDays_24 : decode cX1_passDays 24 = .ok (.ishr, 1) := dcO tk_X1_passDays_0 13 rfl
theorem dX1_passDays_25 : decode cX1_passDays 25 = .ok (.iconst 1, 1) := dcO tk_X1_passDays_0 14 rfl
theorem dX1_passDays_26 : decode cX1_passDays 26 = .ok (.iand, 1) := dcO tk_X1_passDays_0 15 rfl
theorem dX1_passDays_27 : decode cX1_passDays 27 = .ok (.iconst 1, 1) := dcO tk_X1_passDays_0 16 rfl
theorem dX1_passDays_28 : decode cX1_passDays 28 = .ok (.if_icmp .ne 10, 3) := dcO tk_X1_passDays_0 17 rfl
theorem dX1_passDays_31 : decode cX1_passDays 31 = .ok (.aload_n 0, 1) := dcO tk_X1_passDays_0 18 rfl
theorem dX1_passDays_32 : decode cX1_passDays 32 = .ok (.iload 5, 2) := dcO tk_X1_passDays_0 19 rfl
theorem dX1_passDays_34 : decode cX1_passDays 34 = .ok (.aload_n 1, 1) := dcO tk_X1_passDays_0 20 rfl
theorem dX1_passDays_35 : decode cX1_passDays 35 = .ok (.invokevirtual 76, 3) := dcO tk_X1_passDays_0 21 rfl
theorem dX1_passDays_38 : decode cX1_passDays 38 = .ok (.iinc 5 1, 3) := dcO tk_X1_passDays_0 22 rfl
theorem dX1_passDays_41 : decode cX1_passDays 41 = .ok (.goto (-29), 3) := dcO tk_X1_passDays_0 23 rfl
theorem dX1_passDays_44 : decode cX1_passDays 44 = .ok (.aload_n 0, 1) := dcO tk_X1_passDays_0 24 rfl
theorem dX1_passDays_45 : decode cX1_passDays 45 = .ok (.dup, 1) := dcO tk_X1_passDays_0 25 rfl
theorem dX1_passDays_46 : decode cX1_passDays 46 = .ok (.getfield 55, 3) := dcO tk_X1_passDays_0 26 rfl
theorem dX1_passDays_49 : decode cX1_passDays 49 = .ok (.iconst 1, 1) := dcO tk_X1_passDays_0 27 rfl
theorem dX1_passDays_50 : decode cX1_passDays 50 = .ok (.iadd, 1) := dcO tk_X1_passDays_0 28 rfl
theorem dX1_passDays_51 : decode cX1_passDays 51 = .ok (.putfield 55, 3) := dcO tk_X1_passDays_0 29 rfl
theorem dX1_passDays_54 : decode cX1_passDays 54 = .ok (.iinc 4 1, 3) := dcO tk_X1_passDays_0 30 rfl
theorem dX1_passDays_57 : decode cX1_passDays 57 = .ok (.goto (-54), 3) := dcO tk_X1_passDays_0 31 rfl
theorem dX1_passDays_60 : decode cX1_passDays 60 = .ok (.return_, 1) := dcO tk_X1_passDays_0 32 rfl
abbrev tb_X1_passDayOf_0 : List (Nat × Instr × Nat) := [(0, .aload_n 0, 1), (1, .getfield 33, 3), (4, .iload_n 1, 1), (5, .iaload, 1), (6, .istore_n 3, 1), (7, .aload_n 0, 1), (8, .getfield 30, 3), (11, .iload_n 1, 1), (12, .iaload, 1), (13, .istore 4, 2), (15, .aload_n 0, 1), (16, .iload_n 1, 1), (17, .invokevirtual 80, 3), (20, .istore 5, 2), (22, .aload_n 0, 1), (23, .iload 4, 2), (25, .iload_n 3, 1), (26, .invokevirtual 84, 3), (29, .iconst 0, 1), (30, .istore 6, 2), (32, .iload 6, 2), (34, .iload 5, 2), (36, .if_icmp .ge 39, 3), (39, .aload_n 2, 1), (40, .iload_n 1, 1), (41, .iload 4, 2), (43, .invokevirtual 88, 3), (46, .istore 7, 2), (48, .iload 7, 2), (50, .iload 4, 2), (52, .if_icmp .ne 6, 3), (55, .goto 20, 3), (58, .iload 7, 2), (60, .istore 4, 2), (62, .aload_n 0, 1), (63, .iload 4, 2), (65, .iload_n 3, 1), (66, .invokevirtual 84, 3), (69, .iinc 6 1, 3), (72, .goto (-40), 3)]
theorem tk_X1_passDayOf_0 : dcA cX1_passDayOf tb_X1_passDayOf_0 = true := by decide +kernel
theorem dX1_passDayOf_0 : decode cX1_passDayOf 0 = .ok (.aload_n 0, 1) := dcO tk_X1_passDayOf_0 0 rfl
theorem dX1_passDayOf_1 : decode cX1_passDayOf 1 = .ok (.getfield 33, 3) := dcO tk_X1_passDayOf_0 1 rfl
theorem dX1_passDayOf_4 : decode cX1_passDayOf 4 = .ok (.iload_n 1, 1) := dcO tk_X1_passDayOf_0 2 rfl
theorem dX1_passDayOf_5 : decode cX1_passDayOf 5 = .ok (.iaload, 1) := dcO tk_X1_passDayOf_0 3 rfl
theorem dX1_passDayOf_6 : decode cX1_passDayOf 6 = .ok (.istore_n 3, 1) := dcO tk_X1_passDayOf_0 4 rfl
theorem dX1_passDayOf_7 : decode cX1_passDayOf 7 = .ok (.aload_n 0, 1) := dcO tk_X1_passDayOf_0 5 rfl
theorem dX1_passDayOf_8 : decode cX1_passDayOf 8 = .ok (.getfield 30, 3) := dcO tk_X1_passDayOf_0 6 rfl
theorem dX1_passDayOf_11 : decode cX1_passDayOf 11 = .ok (.iload_n 1, 1) := dcO tk_X1_passDayOf_0 7 rfl
theorem dX1_passDayOf_12 : decode cX1_passDayOf 12 = .ok (.iaload, 1) := dcO tk_X1_passDayOf_0 8 rfl
theorem dX1_passDayOf_13 : decode cX1_passDayOf 13 = .ok (.istore 4, 2) := dcO tk_X1_passDayOf_0 9 rfl
theorem dX1_passDayOf_15 : decode cX1_passDayOf 15 = .ok (.aload_n 0, 1) := dcO tk_X1_passDayOf_0 10 rfl
theorem dX1_passDayOf_16 : decode cX1_passDayOf 16 = .ok (.iload_n 1, 1) := dcO tk_X1_passDayOf_0 11 rfl
theorem dX1_passDayOf_17 : decode cX1_passDayOf 17 = .ok (.invokevirtual 80, 3) := dcO tk_X1_passDayOf_0 12 rfl
theorem dX1_passDayOf_20 : decode cX1_passDayOf 20 = .ok (.istore 5, 2) := dcO tk_X1_passDayOf_0 13 rfl
theorem dX1_passDayOf_22 : decode cX1_passDayOf 22 = .ok (.aload_n 0, 1) := dcO tk_X1_passDayOf_0 14 rfl
theorem dX1_passDayOf_23 : decode cX1_passDayOf 23 = .ok (.iload 4, 2) := dcO tk_X1_passDayOf_0 15 rfl
theorem dX1_passDayOf_25 : decode cX1_passDayOf 25 = .ok (.iload_n 3, 1) := dcO tk_X1_passDayOf_0 16 rfl
theorem dX1_passDayOf_26 : decode cX1_passDayOf 26 = .ok (.invokevirtual 84, 3) := dcO tk_X1_passDayOf_0 17 rfl
theorem dX1_passDayOf_29 : decode cX1_passDayOf 29 = .ok (.iconst 0, 1) := dcO tk_X1_passDayOf_0 18 rfl
theorem dX1_passDayOf_30 : decode cX1_passDayOf 30 = .ok (.istore 6, 2) := dcO tk_X1_passDayOf_0 19 rfl
theorem dX1_passDayOf_32 : decode cX1_passDayOf 32 = .ok (.iload 6, 2) := dcO tk_X1_passDayOf_0 20 rfl
theorem dX1_passDayOf_34 : decode cX1_passDayOf 34 = .ok (.iload 5, 2) := dcO tk_X1_passDayOf_0 21 rfl
theorem dX1_passDayOf_36 : decode cX1_passDayOf 36 = .ok (.if_icmp .ge 39, 3) := dcO tk_X1_passDayOf_0 22 rfl
theorem dX1_passDayOf_39 : decode cX1_passDayOf 39 = .ok (.aload_n 2, 1) := dcO tk_X1_passDayOf_0 23 rfl
theorem dX1_passDayOf_40 : decode cX1_passDayOf 40 = .ok (.iload_n 1, 1) := dcO tk_X1_passDayOf_0 24 rfl
theorem dX1_passDayOf_41 : decode cX1_passDayOf 41 = .ok (.iload 4, 2) := dcO tk_X1_passDayOf_0 25 rfl
theorem dX1_passDayOf_43 : decode cX1_passDayOf 43 = .ok (.invokevirtual 88, 3) := dcO tk_X1_passDayOf_0 26 rfl
theorem dX1_passDayOf_46 : decode cX1_passDayOf 46 = .ok (.istore 7, 2) := dcO tk_X1_passDayOf_0 27 rfl
theorem dX1_passDayOf_48 : decode cX1_passDayOf 48 = .ok (.iload 7, 2) := dcO tk_X1_passDayOf_0 28 rfl
theorem dX1_passDayOf_50 : decode cX1_passDayOf 50 = .ok (.iload 4, 2) := dcO tk_X1_passDayOf_0 29 rfl
theorem dX1_passDayOf_52 : decode cX1_passDayOf 52 = .ok (.if_icmp .ne 6, 3) := dcO tk_X1_passDayOf_0 30 rfl
theorem dX1_passDayOf_55 : decode cX1_passDayOf 55 = .ok (.goto 20, 3) := dcO tk_X1_passDayOf_0 31 rfl
theorem dX1_passDayOf_58 : decode cX1_passDayOf 58 = .ok (.iload 7, 2) := dcO tk_X1_passDayOf_0 32 rfl
theorem dX1_passDayOf_60 : decode cX1_passDayOf 60 = .ok (.istore 4, 2) := dcO tk_X1_passDayOf_0 33 rfl
theorem dX1_passDayOf_62 : decode cX1_passDayOf 62 = .ok (.aload_n 0, 1) := dcO tk_X1_passDayOf_0 34 rfl
theorem dX1_passDayOf_63 : decode cX1_passDayOf 63 = .ok (.iload 4, 2) := dcO tk_X1_passDayOf_0 35 rfl
theorem dX1_passDayOf_65 : decode cX1_passDayOf 65 = .ok (.iload_n 3, 1) := dcO tk_X1_passDayOf_0 36 rfl
theorem dX1_passDayOf_66 : decode cX1_passDayOf 66 = .ok (.invokevirtual 84, 3) := dcO tk_X1_passDayOf_0 37 rfl
theorem dX1_passDayOf_69 : decode cX1_passDayOf 69 = .ok (.iinc 6 1, 3) := dcO tk_X1_passDayOf_0 38 rfl
theorem dX1_passDayOf_72 : decode cX1_passDayOf 72 = .ok (.goto (-40), 3) := dcO tk_X1_passDayOf_0 39 rfl
abbrev tb_X1_passDayOf_1 : List (Nat × Instr × Nat) := [(75, .aload_n 0, 1), (76, .getfield 30, 3), (79, .iload_n 1, 1), (80, .iload 4, 2), (82, .iastore, 1), (83, .aload_n 0, 1), (84, .getfield 15, 3), (87, .iload 4, 2), (89, .iaload, 1), (90, .ifCond .le 27, 3), (93, .aload_n 0, 1), (94, .getfield 27, 3), (97, .iload_n 1, 1), (98, .iaload, 1), (99, .iconst 1, 1), (100, .invokestatic 94, 3), (103, .ifCond .eq 14, 3), (106, .aload_n 0, 1), (107, .getfield 15, 3), (110, .iload 4, 2), (112, .dup2, 1), (113, .iaload, 1), (114, .iconst 1, 1), (115, .isub, 1), (116, .iastore, 1), (117, .return_, 1)]
theorem tk_X1_passDayOf_1 : dcA cX1_passDayOf tb_X1_passDayOf_1 = true := by decide +kernel
theorem dX1_passDayOf_75 : decode cX1_passDayOf 75 = .ok (.aload_n 0, 1) := dcO tk_X1_passDayOf_1 0 rfl
theorem dX1_passDayOf_76 : decode cX1_passDayOf 76 = .ok (.getfield 30, 3) := dcO tk_X1_passDayOf_1 1 rfl
theorem dX1_passDayOf_79 : decode cX1_passDayOf 79 = .ok (.iload_n 1, 1) := dcO tk_X1_passDayOf_1 2 rfl
theorem dX1_passDayOf_80 : decode cX1_passDayOf 80 = .ok (.iload 4, 2) := dcO tk_X1_passDayOf_1 3 rfl
theorem dX1_passDayOf_82 : decode cX1_passDayOf 82 = .ok (.iastore, 1) := dcO tk_X1_passDayOf_1 4 rfl
theorem dX1_passDayOf_83 : decode cX1_passDayOf 83 = .ok (.aload_n 0, 1) := dcO tk_X1_passDayOf_1 5 rfl
theorem dX1_passDayOf_84 : decode cX1_passDayOf 84 = .ok (.getfield 15, 3) := dcO tk_X1_passDayOf_1 6 rfl
theorem dX1_passDayOf_87 : decode cX1_passDayOf 87 = .ok (.iload 4, 2) := dcO tk_X1_passDayOf_1 7 rfl
theorem dX1_passDayOf_89 : decode cX1_passDayOf 89 = .ok (.iaload, 1) := dcO tk_X1_passDayOf_1 8 rfl
theorem dX1_passDayOf_90 : decode cX1_passDayOf 90 = .ok (.ifCond .le 27, 3) := dcO tk_X1_passDayOf_1 9 rfl
theorem dX1_passDayOf_93 : decode cX1_passDayOf 93 = .ok (.aload_n 0, 1) := dcO tk_X1_passDayOf_1 10 rfl
theorem dX1_passDayOf_94 : decode cX1_passDayOf 94 = .ok (.getfield 27, 3) := dcO tk_X1_passDayOf_1 11 rfl
theorem dX1_passDayOf_97 : decode cX1_passDayOf 97 = .ok (.iload_n 1, 1) := dcO tk_X1_passDayOf_1 12 rfl
theorem dX1_passDayOf_98 : decode cX1_passDayOf 98 = .ok (.iaload, 1) := dcO tk_X1_passDayOf_1 13 rfl
theorem dX1_passDayOf_99 : decode cX1_passDayOf 99 = .ok (.iconst 1, 1) := dcO tk_X1_passDayOf_1 14 rfl
theorem dX1_passDayOf_100 : decode cX1_passDayOf 100 = .ok (.invokestatic 94, 3) := dcO tk_X1_passDayOf_1 15 rfl
theorem dX1_passDayOf_103 : decode cX1_passDayOf 103 = .ok (.ifCond .eq 14, 3) := dcO tk_X1_passDayOf_1 16 rfl
theorem dX1_passDayOf_106 : decode cX1_passDayOf 106 = .ok (.aload_n 0, 1) := dcO tk_X1_passDayOf_1 17 rfl
theorem dX1_passDayOf_107 : decode cX1_passDayOf 107 = .ok (.getfield 15, 3) := dcO tk_X1_passDayOf_1 18 rfl
theorem dX1_passDayOf_110 : decode cX1_passDayOf 110 = .ok (.iload 4, 2) := dcO tk_X1_passDayOf_1 19 rfl
theorem dX1_passDayOf_112 : decode cX1_passDayOf 112 = .ok (.dup2, 1) := dcO tk_X1_passDayOf_1 20 rfl
theorem dX1_passDayOf_113 : decode cX1_passDayOf 113 = .ok (.iaload, 1) := dcO tk_X1_passDayOf_1 21 rfl
theorem dX1_passDayOf_114 : decode cX1_passDayOf 114 = .ok (.iconst 1, 1) := dcO tk_X1_passDayOf_1 22 rfl
theorem dX1_passDayOf_115 : decode cX1_passDayOf 115 = .ok (.isub, 1) := dcO tk_X1_passDayOf_1 23 rfl
theorem dX1_passDayOf_116 : decode cX1_passDayOf 116 = .ok (.iastore, 1) := dcO tk_X1_passDayOf_1 24 rfl
theorem dX1_passDayOf_117 : decode cX1_passDayOf 117 = .ok (.return_, 1) := dcO tk_X1_passDayOf_1 25 rfl
abbrev tb_X1_comeUnder_0 : List (Nat × Instr × Nat) := [(0, .aload_n 0, 1), (1, .getfield 18, 3), (4, .iload_n 1, 1), (5, .iaload, 1), (6, .iconst (-1), 1), (7, .if_icmp .eq 38, 3), (10, .aload_n 0, 1), (11, .getfield 18, 3), (14, .iload_n 1, 1), (15, .iaload, 1), (16, .iload_n 2, 1), (17, .if_icmp .eq 28, 3), (20, .aload_n 0, 1), (21, .getfield 21, 3), (24, .iload_n 1, 1), (25, .dup2, 1), (26, .iaload, 1), (27, .iconst 1, 1), (28, .iadd, 1), (29, .iastore, 1), (30, .aload_n 0, 1), (31, .aload_n 0, 1), (32, .getfield 58, 3), (35, .iconst 1, 1), (36, .iadd, 1), (37, .ldc 98, 2), (39, .invokestatic 99, 3), (42, .putfield 58, 3), (45, .aload_n 0, 1), (46, .getfield 18, 3), (49, .iload_n 1, 1), (50, .iload_n 2, 1), (51, .iastore, 1), (52, .return_, 1)]
theorem tk_X1_comeUnder_0 : dcA cX1_comeUnder tb_X1_comeUnder_0 = true := by decide +kernel
theorem dX1_comeUnder_0 : decode cX1_comeUnder 0 = .ok (.aload_n 0, 1) := dcO tk_X1_comeUnder_0 0 rfl
theorem dX1_comeUnder_1 : decode cX1_comeUnder 1 = .ok (.getfield 18, 3) := dcO tk_X1_comeUnder_0 1 rfl
theorem dX1_comeUnder_4 : decode cX1_comeUnder 4 = .ok (.iload_n 1, 1) := dcO tk_X1_comeUnder_0 2 rfl
theorem dX1_comeUnder_5 : decode cX1_comeUnder 5 = .ok (.iaload, 1) := dcO tk_X1_comeUnder_0 3 rfl
theorem dX1_comeUnder_6 : decode cX1_comeUnder 6 = .ok (.iconst (-1), 1) := dcO tk_X1_comeUnder_0 4 rfl
theorem dX1_comeUnder_7 : decode cX1_comeUnder 7 = .ok (.if_icmp .eq 38, 3) := dcO tk_X1_comeUnder_0 5 rfl
theorem dX1_comeUnder_10 : decode cX1_comeUnder 10 = .ok (.aload_n 0, 1) := dcO tk_X1_comeUnder_0 6 rfl
theorem dX1_comeUnder_11 : decode cX1_comeUnder 11 = .ok (.getfield 18, 3) := dcO tk_X1_comeUnder_0 7 rfl
theorem dX1_comeUnder_14 : decode cX1_comeUnder 14 = .ok (.iload_n 1, 1) := dcO tk_X1_comeUnder_0 8 rfl
theorem dX1_comeUnder_15 : decode cX1_comeUnder 15 = .ok (.iaload, 1) := dcO tk_X1_comeUnder_0 9 rfl
theorem dX1_comeUnder_16 : decode cX1_comeUnder 16 = .ok (.iload_n 2, 1) := dcO tk_X1_comeUnder_0 10 rfl
theorem dX1_comeUnder_17 : decode cX1_comeUnder 17 = .ok (.if_icmp .eq 28, 3) := dcO tk_X1_comeUnder_0 11 rfl
theorem dX1_comeUnder_20 : decode cX1_comeUnder 20 = .ok (.aload_n 0, 1) := dcO tk_X1_comeUnder_0 12 rfl
theorem dX1_comeUnder_21 : decode cX1_comeUnder 21 = .ok (.getfield 21, 3) := dcO tk_X1_comeUnder_0 13 rfl
theorem dX1_comeUnder_24 : decode cX1_comeUnder 24 = .ok (.iload_n 1, 1) := dcO tk_X1_comeUnder_0 14 rfl
theorem dX1_comeUnder_25 : decode cX1_comeUnder 25 = .ok (.dup2, 1) := dcO tk_X1_comeUnder_0 15 rfl
theorem dX1_comeUnder_26 : decode cX1_comeUnder 26 = .ok (.iaload, 1) := dcO tk_X1_comeUnder_0 16 rfl
theorem dX1_comeUnder_27 : decode cX1_comeUnder 27 = .ok (.iconst 1, 1) := dcO tk_X1_comeUnder_0 17 rfl
theorem dX1_comeUnder_28 : decode cX1_comeUnder 28 = .ok (.iadd, 1) := dcO tk_X1_comeUnder_0 18 rfl
theorem dX1_comeUnder_29 : decode cX1_comeUnder 29 = .ok (.iastore, 1) := dcO tk_X1_comeUnder_0 19 rfl
theorem dX1_comeUnder_30 : decode cX1_comeUnder 30 = .ok (.aload_n 0, 1) := dcO tk_X1_comeUnder_0 20 rfl
theorem dX1_comeUnder_31 : decode cX1_comeUnder 31 = .ok (.aload_n 0, 1) := dcO tk_X1_comeUnder_0 21 rfl
theorem dX1_comeUnder_32 : decode cX1_comeUnder 32 = .ok (.getfield 58, 3) := dcO tk_X1_comeUnder_0 22 rfl
theorem dX1_comeUnder_35 : decode cX1_comeUnder 35 = .ok (.iconst 1, 1) := dcO tk_X1_comeUnder_0 23 rfl
theorem dX1_comeUnder_36 : decode cX1_comeUnder 36 = .ok (.iadd, 1) := dcO tk_X1_comeUnder_0 24 rfl
theorem dX1_comeUnder_37 : decode cX1_comeUnder 37 = .ok (.ldc 98, 2) := dcO tk_X1_comeUnder_0 25 rfl
theorem dX1_comeUnder_39 : decode cX1_comeUnder 39 = .ok (.invokestatic 99, 3) := dcO tk_X1_comeUnder_0 26 rfl
theorem dX1_comeUnder_42 : decode cX1_comeUnder 42 = .ok (.putfield 58, 3) := dcO tk_X1_comeUnder_0 27 rfl
theorem dX1_comeUnder_45 : decode cX1_comeUnder 45 = .ok (.aload_n 0, 1) := dcO tk_X1_comeUnder_0 28 rfl
theorem dX1_comeUnder_46 : decode cX1_comeUnder 46 = .ok (.getfield 18, 3) := dcO tk_X1_comeUnder_0 29 rfl
theorem dX1_comeUnder_49 : decode cX1_comeUnder 49 = .ok (.iload_n 1, 1) := dcO tk_X1_comeUnder_0 30 rfl
theorem dX1_comeUnder_50 : decode cX1_comeUnder 50 = .ok (.iload_n 2, 1) := dcO tk_X1_comeUnder_0 31 rfl
theorem dX1_comeUnder_51 : decode cX1_comeUnder 51 = .ok (.iastore, 1) := dcO tk_X1_comeUnder_0 32 rfl
theorem dX1_comeUnder_52 : decode cX1_comeUnder 52 = .ok (.return_, 1) := dcO tk_X1_comeUnder_0 33 rfl
abbrev tb_X1_drawThrushes_0 : List (Nat × Instr × Nat) := [(0, .iconst 0, 1), (1, .istore_n 1, 1), (2, .iconst 0, 1), (3, .istore_n 2, 1), (4, .iload_n 2, 1), (5, .aload_n 0, 1), (6, .getfield 45, 3), (9, .if_icmp .ge 51, 3), (12, .aload_n 0, 1), (13, .aload_n 0, 1), (14, .getfield 61, 3), (17, .ldc 104, 2), (19, .imul, 1), (20, .sipush 12345, 3), (23, .iadd, 1), (24, .putfield 61, 3), (27, .aload_n 0, 1), (28, .getfield 61, 3), (31, .bipush 8, 2), (33, .iushr, 1), (34, .bipush 20, 2), (36, .irem, 1), (37, .aload_n 0, 1), (38, .getfield 52, 3), (41, .if_icmp .ge 13, 3), (44, .aload_n 0, 1), (45, .getfield 30, 3), (48, .iload_n 2, 1), (49, .iconst 0, 1), (50, .iastore, 1), (51, .iinc 1 1, 3), (54, .iinc 2 1, 3), (57, .goto (-53), 3), (60, .iload_n 1, 1), (61, .ireturn, 1)]
theorem tk_X1_drawThrushes_0 : dcA cX1_drawThrushes tb_X1_drawThrushes_0 = true := by decide +kernel
theorem dX1_drawThrushes_0 : decode cX1_drawThrushes 0 = .ok (.iconst 0, 1) := dcO tk_X1_drawThrushes_0 0 rfl
theorem dX1_drawThrushes_1 : decode cX1_drawThrushes 1 = .ok (.istore_n 1, 1) := dcO tk_X1_drawThrushes_0 1 rfl
theorem dX1_drawThrushes_2 : decode cX1_drawThrushes 2 = .ok (.iconst 0, 1) := dcO tk_X1_drawThrushes_0 2 rfl
theorem dX1_drawThrushes_3 : decode cX1_drawThrushes 3 = .ok (.istore_n 2, 1) := dcO tk_X1_drawThrushes_0 3 rfl
theorem dX1_drawThrushes_4 : decode cX1_drawThrushes 4 = .ok (.iload_n 2, 1) := dcO tk_X1_drawThrushes_0 4 rfl
theorem dX1_drawThrushes_5 : decode cX1_drawThrushes 5 = .ok (.aload_n 0, 1) := dcO tk_X1_drawThrushes_0 5 rfl
theorem dX1_drawThrushes_6 : decode cX1_drawThrushes 6 = .ok (.getfield 45, 3) := dcO tk_X1_drawThrushes_0 6 rfl
theorem dX1_drawThrushes_9 : decode cX1_drawThrushes 9 = .ok (.if_icmp .ge 51, 3) := dcO tk_X1_drawThrushes_0 7 rfl
theorem dX1_drawThrushes_12 : decode cX1_drawThrushes 12 = .ok (.aload_n 0, 1) := dcO tk_X1_drawThrushes_0 8 rfl
theorem dX1_drawThrushes_13 : decode cX1_drawThrushes 13 = .ok (.aload_n 0, 1) := dcO tk_X1_drawThrushes_0 9 rfl
theorem dX1_drawThrushes_14 : decode cX1_drawThrushes 14 = .ok (.getfield 61, 3) := dcO tk_X1_drawThrushes_0 10 rfl
theorem dX1_drawThrushes_17 : decode cX1_drawThrushes 17 = .ok (.ldc 104, 2) := dcO tk_X1_drawThrushes_0 11 rfl
theorem dX1_drawThrushes_19 : decode cX1_drawThrushes 19 = .ok (.imul, 1) := dcO tk_X1_drawThrushes_0 12 rfl
theorem dX1_drawThrushes_20 : decode cX1_drawThrushes 20 = .ok (.sipush 12345, 3) := dcO tk_X1_drawThrushes_0 13 rfl
theorem dX1_drawThrushes_23 : decode cX1_drawThrushes 23 = .ok (.iadd, 1) := dcO tk_X1_drawThrushes_0 14 rfl
theorem dX1_drawThrushes_24 : decode cX1_drawThrushes 24 = .ok (.putfield 61, 3) := dcO tk_X1_drawThrushes_0 15 rfl
theorem dX1_drawThrushes_27 : decode cX1_drawThrushes 27 = .ok (.aload_n 0, 1) := dcO tk_X1_drawThrushes_0 16 rfl
theorem dX1_drawThrushes_28 : decode cX1_drawThrushes 28 = .ok (.getfield 61, 3) := dcO tk_X1_drawThrushes_0 17 rfl
theorem dX1_drawThrushes_31 : decode cX1_drawThrushes 31 = .ok (.bipush 8, 2) := dcO tk_X1_drawThrushes_0 18 rfl
theorem dX1_drawThrushes_33 : decode cX1_drawThrushes 33 = .ok (.iushr, 1) := dcO tk_X1_drawThrushes_0 19 rfl
theorem dX1_drawThrushes_34 : decode cX1_drawThrushes 34 = .ok (.bipush 20, 2) := dcO tk_X1_drawThrushes_0 20 rfl
theorem dX1_drawThrushes_36 : decode cX1_drawThrushes 36 = .ok (.irem, 1) := dcO tk_X1_drawThrushes_0 21 rfl
theorem dX1_drawThrushes_37 : decode cX1_drawThrushes 37 = .ok (.aload_n 0, 1) := dcO tk_X1_drawThrushes_0 22 rfl
theorem dX1_drawThrushes_38 : decode cX1_drawThrushes 38 = .ok (.getfield 52, 3) := dcO tk_X1_drawThrushes_0 23 rfl
theorem dX1_drawThrushes_41 : decode cX1_drawThrushes 41 = .ok (.if_icmp .ge 13, 3) := dcO tk_X1_drawThrushes_0 24 rfl
theorem dX1_drawThrushes_44 : decode cX1_drawThrushes 44 = .ok (.aload_n 0, 1) := dcO tk_X1_drawThrushes_0 25 rfl
theorem dX1_drawThrushes_45 : decode cX1_drawThrushes 45 = .ok (.getfield 30, 3) := dcO tk_X1_drawThrushes_0 26 rfl
theorem dX1_drawThrushes_48 : decode cX1_drawThrushes 48 = .ok (.iload_n 2, 1) := dcO tk_X1_drawThrushes_0 27 rfl
theorem dX1_drawThrushes_49 : decode cX1_drawThrushes 49 = .ok (.iconst 0, 1) := dcO tk_X1_drawThrushes_0 28 rfl
theorem dX1_drawThrushes_50 : decode cX1_drawThrushes 50 = .ok (.iastore, 1) := dcO tk_X1_drawThrushes_0 29 rfl
theorem dX1_drawThrushes_51 : decode cX1_drawThrushes 51 = .ok (.iinc 1 1, 3) := dcO tk_X1_drawThrushes_0 30 rfl
theorem dX1_drawThrushes_54 : decode cX1_drawThrushes 54 = .ok (.iinc 2 1, 3) := dcO tk_X1_drawThrushes_0 31 rfl
theorem dX1_drawThrushes_57 : decode cX1_drawThrushes 57 = .ok (.goto (-53), 3) := dcO tk_X1_drawThrushes_0 32 rfl
theorem dX1_drawThrushes_60 : decode cX1_drawThrushes 60 = .ok (.iload_n 1, 1) := dcO tk_X1_drawThrushes_0 33 rfl
theorem dX1_drawThrushes_61 : decode cX1_drawThrushes 61 = .ok (.ireturn, 1) := dcO tk_X1_drawThrushes_0 34 rfl
abbrev tb_X1_isLawful_0 : List (Nat × Instr × Nat) := [(0, .aload_n 0, 1), (1, .getfield 18, 3), (4, .iload_n 1, 1), (5, .iaload, 1), (6, .istore_n 3, 1), (7, .iload_n 3, 1), (8, .iconst (-1), 1), (9, .if_icmp .eq 16, 3), (12, .aload_n 0, 1), (13, .getfield 24, 3), (16, .iload_n 3, 1), (17, .iaload, 1), (18, .iload_n 2, 1), (19, .ishr, 1), (20, .iconst 1, 1), (21, .iand, 1), (22, .ifCond .ne 7, 3), (25, .iconst 1, 1), (26, .goto 4, 3), (29, .iconst 0, 1), (30, .ireturn, 1)]
theorem tk_X1_isLawful_0 : dcA cX1_isLawful tb_X1_isLawful_0 = true := by decide +kernel
theorem dX1_isLawful_0 : decode cX1_isLawful 0 = .ok (.aload_n 0, 1) := dcO tk_X1_isLawful_0 0 rfl
theorem dX1_isLawful_1 : decode cX1_isLawful 1 = .ok (.getfield 18, 3) := dcO tk_X1_isLawful_0 1 rfl
theorem dX1_isLawful_4 : decode cX1_isLawful 4 = .ok (.iload_n 1, 1) := dcO tk_X1_isLawful_0 2 rfl
theorem dX1_isLawful_5 : decode cX1_isLawful 5 = .ok (.iaload, 1) := dcO tk_X1_isLawful_0 3 rfl
theorem dX1_isLawful_6 : decode cX1_isLawful 6 = .ok (.istore_n 3, 1) := dcO tk_X1_isLawful_0 4 rfl
theorem dX1_isLawful_7 : decode cX1_isLawful 7 = .ok (.iload_n 3, 1) := dcO tk_X1_isLawful_0 5 rfl
theorem dX1_isLawful_8 : decode cX1_isLawful 8 = .ok (.iconst (-1), 1) := dcO tk_X1_isLawful_0 6 rfl
theorem dX1_isLawful_9 : decode cX1_isLawful 9 = .ok (.if_icmp .eq 16, 3) := dcO tk_X1_isLawful_0 7 rfl
theorem dX1_isLawful_12 : decode cX1_isLawful 12 = .ok (.aload_n 0, 1) := dcO tk_X1_isLawful_0 8 rfl
theorem dX1_isLawful_13 : decode cX1_isLawful 13 = .ok (.getfield 24, 3) := dcO tk_X1_isLawful_0 9 rfl
theorem dX1_isLawful_16 : decode cX1_isLawful 16 = .ok (.iload_n 3, 1) := dcO tk_X1_isLawful_0 10 rfl
theorem dX1_isLawful_17 : decode cX1_isLawful 17 = .ok (.iaload, 1) := dcO tk_X1_isLawful_0 11 rfl
theorem dX1_isLawful_18 : decode cX1_isLawful 18 = .ok (.iload_n 2, 1) := dcO tk_X1_isLawful_0 12 rfl
theorem dX1_isLawful_19 : decode cX1_isLawful 19 = .ok (.ishr, 1) := dcO tk_X1_isLawful_0 13 rfl
theorem dX1_isLawful_20 : decode cX1_isLawful 20 = .ok (.iconst 1, 1) := dcO tk_X1_isLawful_0 14 rfl
theorem dX1_isLawful_21 : decode cX1_isLawful 21 = .ok (.iand, 1) := dcO tk_X1_isLawful_0 15 rfl
theorem dX1_isLawful_22 : decode cX1_isLawful 22 = .ok (.ifCond .ne 7, 3) := dcO tk_X1_isLawful_0 16 rfl
theorem dX1_isLawful_25 : decode cX1_isLawful 25 = .ok (.iconst 1, 1) := dcO tk_X1_isLawful_0 17 rfl
theorem dX1_isLawful_26 : decode cX1_isLawful 26 = .ok (.goto 4, 3) := dcO tk_X1_isLawful_0 18 rfl
theorem dX1_isLawful_29 : decode cX1_isLawful 29 = .ok (.iconst 0, 1) := dcO tk_X1_isLawful_0 19 rfl
theorem dX1_isLawful_30 : decode cX1_isLawful 30 = .ok (.ireturn, 1) := dcO tk_X1_isLawful_0 20 rfl
abbrev tb_X1_openCellsFor_0 : List (Nat × Instr × Nat) := [(0, .iconst 0, 1), (1, .istore_n 2, 1), (2, .iconst 0, 1), (3, .istore_n 3, 1), (4, .iload_n 3, 1), (5, .bipush 81, 2), (7, .if_icmp .ge 30, 3), (10, .aload_n 0, 1), (11, .getfield 9, 3), (14, .iload_n 3, 1), (15, .iaload, 1), (16, .ifCond .ne 15, 3), (19, .aload_n 0, 1), (20, .iload_n 3, 1), (21, .iload_n 1, 1), (22, .invokevirtual 105, 3), (25, .ifCond .eq 6, 3), (28, .iinc 2 1, 3), (31, .iinc 3 1, 3), (34, .goto (-30), 3), (37, .iload_n 2, 1), (38, .ireturn, 1)]
theorem tk_X1_openCellsFor_0 : dcA cX1_openCellsFor tb_X1_openCellsFor_0 = true := by decide +kernel
theorem dX1_openCellsFor_0 : decode cX1_openCellsFor 0 = .ok (.iconst 0, 1) := dcO tk_X1_openCellsFor_0 0 rfl
theorem dX1_openCellsFor_1 : decode cX1_openCellsFor 1 = .ok (.istore_n 2, 1) := dcO tk_X1_openCellsFor_0 1 rfl
theorem dX1_openCellsFor_2 : decode cX1_openCellsFor 2 = .ok (.iconst 0, 1) := dcO tk_X1_openCellsFor_0 2 rfl
theorem dX1_openCellsFor_3 : decode cX1_openCellsFor 3 = .ok (.istore_n 3, 1) := dcO tk_X1_openCellsFor_0 3 rfl
theorem dX1_openCellsFor_4 : decode cX1_openCellsFor 4 = .ok (.iload_n 3, 1) := dcO tk_X1_openCellsFor_0 4 rfl
theorem dX1_openCellsFor_5 : decode cX1_openCellsFor 5 = .ok (.bipush 81, 2) := dcO tk_X1_openCellsFor_0 5 rfl
theorem dX1_openCellsFor_7 : decode cX1_openCellsFor 7 = .ok (.if_icmp .ge 30, 3) := dcO tk_X1_openCellsFor_0 6 rfl
theorem dX1_openCellsFor_10 : decode cX1_openCellsFor 10 = .ok (.aload_n 0, 1) := dcO tk_X1_openCellsFor_0 7 rfl
theorem dX1_openCellsFor_11 : decode cX1_openCellsFor 11 = .ok (.getfield 9, 3) := dcO tk_X1_openCellsFor_0 8 rfl
theorem dX1_openCellsFor_14 : decode cX1_openCellsFor 14 = .ok (.iload_n 3, 1) := dcO tk_X1_openCellsFor_0 9 rfl
theorem dX1_openCellsFor_15 : decode cX1_openCellsFor 15 = .ok (.iaload, 1) := dcO tk_X1_openCellsFor_0 10 rfl
theorem dX1_openCellsFor_16 : decode cX1_openCellsFor 16 = .ok (.ifCond .ne 15, 3) := dcO tk_X1_openCellsFor_0 11 rfl
theorem dX1_openCellsFor_19 : decode cX1_openCellsFor 19 = .ok (.aload_n 0, 1) := dcO tk_X1_openCellsFor_0 12 rfl
theorem dX1_openCellsFor_20 : decode cX1_openCellsFor 20 = .ok (.iload_n 3, 1) := dcO tk_X1_openCellsFor_0 13 rfl
theorem dX1_openCellsFor_21 : decode cX1_openCellsFor 21 = .ok (.iload_n 1, 1) := dcO tk_X1_openCellsFor_0 14 rfl
theorem dX1_openCellsFor_22 : decode cX1_openCellsFor 22 = .ok (.invokevirtual 105, 3) := dcO tk_X1_openCellsFor_0 15 rfl
theorem dX1_openCellsFor_25 : decode cX1_openCellsFor 25 = .ok (.ifCond .eq 6, 3) := dcO tk_X1_openCellsFor_0 16 rfl
theorem dX1_openCellsFor_28 : decode cX1_openCellsFor 28 = .ok (.iinc 2 1, 3) := dcO tk_X1_openCellsFor_0 17 rfl
theorem dX1_openCellsFor_31 : decode cX1_openCellsFor 31 = .ok (.iinc 3 1, 3) := dcO tk_X1_openCellsFor_0 18 rfl
theorem dX1_openCellsFor_34 : decode cX1_openCellsFor 34 = .ok (.goto (-30), 3) := dcO tk_X1_openCellsFor_0 19 rfl
theorem dX1_openCellsFor_37 : decode cX1_openCellsFor 37 = .ok (.iload_n 2, 1) := dcO tk_X1_openCellsFor_0 20 rfl
theorem dX1_openCellsFor_38 : decode cX1_openCellsFor 38 = .ok (.ireturn, 1) := dcO tk_X1_openCellsFor_0 21 rfl
abbrev tb_X1_freeDeeds_0 : List (Nat × Instr × Nat) := [(0, .sipush 255, 3), (3, .istore_n 1, 1), (4, .iconst 0, 1), (5, .istore_n 2, 1), (6, .iload_n 2, 1), (7, .bipush 81, 2), (9, .if_icmp .ge 44, 3), (12, .aload_n 0, 1), (13, .getfield 9, 3), (16, .iload_n 2, 1), (17, .iaload, 1), (18, .ifCond .ne 29, 3), (21, .aload_n 0, 1), (22, .getfield 18, 3), (25, .iload_n 2, 1), (26, .iaload, 1), (27, .iconst (-1), 1), (28, .if_icmp .eq 19, 3), (31, .iload_n 1, 1), (32, .aload_n 0, 1), (33, .getfield 24, 3), (36, .aload_n 0, 1), (37, .getfield 18, 3), (40, .iload_n 2, 1), (41, .iaload, 1), (42, .iaload, 1), (43, .iconst (-1), 1), (44, .ixor, 1), (45, .iand, 1), (46, .istore_n 1, 1), (47, .iinc 2 1, 3), (50, .goto (-44), 3), (53, .iload_n 1, 1), (54, .ireturn, 1)]
theorem tk_X1_freeDeeds_0 : dcA cX1_freeDeeds tb_X1_freeDeeds_0 = true := by decide +kernel
theorem dX1_freeDeeds_0 : decode cX1_freeDeeds 0 = .ok (.sipush 255, 3) := dcO tk_X1_freeDeeds_0 0 rfl
theorem dX1_freeDeeds_3 : decode cX1_freeDeeds 3 = .ok (.istore_n 1, 1) := dcO tk_X1_freeDeeds_0 1 rfl
theorem dX1_freeDeeds_4 : decode cX1_freeDeeds 4 = .ok (.iconst 0, 1) := dcO tk_X1_freeDeeds_0 2 rfl
theorem dX1_freeDeeds_5 : decode cX1_freeDeeds 5 = .ok (.istore_n 2, 1) := dcO tk_X1_freeDeeds_0 3 rfl
theorem dX1_freeDeeds_6 : decode cX1_freeDeeds 6 = .ok (.iload_n 2, 1) := dcO tk_X1_freeDeeds_0 4 rfl
theorem dX1_freeDeeds_7 : decode cX1_freeDeeds 7 = .ok (.bipush 81, 2) := dcO tk_X1_freeDeeds_0 5 rfl
theorem dX1_freeDeeds_9 : decode cX1_freeDeeds 9 = .ok (.if_icmp .ge 44, 3) := dcO tk_X1_freeDeeds_0 6 rfl
theorem dX1_freeDeeds_12 : decode cX1_freeDeeds 12 = .ok (.aload_n 0, 1) := dcO tk_X1_freeDeeds_0 7 rfl
theorem dX1_freeDeeds_13 : decode cX1_freeDeeds 13 = .ok (.getfield 9, 3) := dcO tk_X1_freeDeeds_0 8 rfl
theorem dX1_freeDeeds_16 : decode cX1_freeDeeds 16 = .ok (.iload_n 2, 1) := dcO tk_X1_freeDeeds_0 9 rfl
theorem dX1_freeDeeds_17 : decode cX1_freeDeeds 17 = .ok (.iaload, 1) := dcO tk_X1_freeDeeds_0 10 rfl
theorem dX1_freeDeeds_18 : decode cX1_freeDeeds 18 = .ok (.ifCond .ne 29, 3) := dcO tk_X1_freeDeeds_0 11 rfl
theorem dX1_freeDeeds_21 : decode cX1_freeDeeds 21 = .ok (.aload_n 0, 1) := dcO tk_X1_freeDeeds_0 12 rfl
theorem dX1_freeDeeds_22 : decode cX1_freeDeeds 22 = .ok (.getfield 18, 3) := dcO tk_X1_freeDeeds_0 13 rfl
theorem dX1_freeDeeds_25 : decode cX1_freeDeeds 25 = .ok (.iload_n 2, 1) := dcO tk_X1_freeDeeds_0 14 rfl
theorem dX1_freeDeeds_26 : decode cX1_freeDeeds 26 = .ok (.iaload, 1) := dcO tk_X1_freeDeeds_0 15 rfl
theorem dX1_freeDeeds_27 : decode cX1_freeDeeds 27 = .ok (.iconst (-1), 1) := dcO tk_X1_freeDeeds_0 16 rfl
theorem dX1_freeDeeds_28 : decode cX1_freeDeeds 28 = .ok (.if_icmp .eq 19, 3) := dcO tk_X1_freeDeeds_0 17 rfl
theorem dX1_freeDeeds_31 : decode cX1_freeDeeds 31 = .ok (.iload_n 1, 1) := dcO tk_X1_freeDeeds_0 18 rfl
theorem dX1_freeDeeds_32 : decode cX1_freeDeeds 32 = .ok (.aload_n 0, 1) := dcO tk_X1_freeDeeds_0 19 rfl
theorem dX1_freeDeeds_33 : decode cX1_freeDeeds 33 = .ok (.getfield 24, 3) := dcO tk_X1_freeDeeds_0 20 rfl
theorem dX1_freeDeeds_36 : decode cX1_freeDeeds 36 = .ok (.aload_n 0, 1) := dcO tk_X1_freeDeeds_0 21 rfl
theorem dX1_freeDeeds_37 : decode cX1_freeDeeds 37 = .ok (.getfield 18, 3) := dcO tk_X1_freeDeeds_0 22 rfl
theorem dX1_freeDeeds_40 : decode cX1_freeDeeds 40 = .ok (.iload_n 2, 1) := dcO tk_X1_freeDeeds_0 23 rfl
theorem dX1_freeDeeds_41 : decode cX1_freeDeeds 41 = .ok (.iaload, 1) := dcO tk_X1_freeDeeds_0 24 rfl
theorem dX1_freeDeeds_42 : decode cX1_freeDeeds 42 = .ok (.iaload, 1) := dcO tk_X1_freeDeeds_0 25 rfl
theorem dX1_freeDeeds_43 : decode cX1_freeDeeds 43 = .ok (.iconst (-1), 1) := dcO tk_X1_freeDeeds_0 26 rfl
theorem dX1_freeDeeds_44 : decode cX1_freeDeeds 44 = .ok (.ixor, 1) := dcO tk_X1_freeDeeds_0 27 rfl
theorem dX1_freeDeeds_45 : decode cX1_freeDeeds 45 = .ok (.iand, 1) := dcO tk_X1_freeDeeds_0 28 rfl
theorem dX1_freeDeeds_46 : decode cX1_freeDeeds 46 = .ok (.istore_n 1, 1) := dcO tk_X1_freeDeeds_0 29 rfl
theorem dX1_freeDeeds_47 : decode cX1_freeDeeds 47 = .ok (.iinc 2 1, 3) := dcO tk_X1_freeDeeds_0 30 rfl
theorem dX1_freeDeeds_50 : decode cX1_freeDeeds 50 = .ok (.goto (-44), 3) := dcO tk_X1_freeDeeds_0 31 rfl
theorem dX1_freeDeeds_53 : decode cX1_freeDeeds 53 = .ok (.iload_n 1, 1) := dcO tk_X1_freeDeeds_0 32 rfl
theorem dX1_freeDeeds_54 : decode cX1_freeDeeds 54 = .ok (.ireturn, 1) := dcO tk_X1_freeDeeds_0 33 rfl
abbrev tb_X1_cellsUnder_0 : List (Nat × Instr × Nat) := [(0, .iconst 0, 1), (1, .istore_n 2, 1), (2, .iconst 0, 1), (3, .istore_n 3, 1), (4, .iload_n 3, 1), (5, .bipush 81, 2), (7, .if_icmp .ge 22, 3), (10, .aload_n 0, 1), (11, .getfield 18, 3), (14, .iload_n 3, 1), (15, .iaload, 1), (16, .iload_n 1, 1), (17, .if_icmp .ne 6, 3), (20, .iinc 2 1, 3), (23, .iinc 3 1, 3), (26, .goto (-22), 3), (29, .iload_n 2, 1), (30, .ireturn, 1)]
theorem tk_X1_cellsUnder_0 : dcA cX1_cellsUnder tb_X1_cellsUnder_0 = true := by decide +kernel
theorem dX1_cellsUnder_0 : decode cX1_cellsUnder 0 = .ok (.iconst 0, 1) := dcO tk_X1_cellsUnder_0 0 rfl
theorem dX1_cellsUnder_1 : decode cX1_cellsUnder 1 = .ok (.istore_n 2, 1) := dcO tk_X1_cellsUnder_0 1 rfl
theorem dX1_cellsUnder_2 : decode cX1_cellsUnder 2 = .ok (.iconst 0, 1) := dcO tk_X1_cellsUnder_0 2 rfl
theorem dX1_cellsUnder_3 : decode cX1_cellsUnder 3 = .ok (.istore_n 3, 1) := dcO tk_X1_cellsUnder_0 3 rfl
theorem dX1_cellsUnder_4 : decode cX1_cellsUnder 4 = .ok (.iload_n 3, 1) := dcO tk_X1_cellsUnder_0 4 rfl
theorem dX1_cellsUnder_5 : decode cX1_cellsUnder 5 = .ok (.bipush 81, 2) := dcO tk_X1_cellsUnder_0 5 rfl
theorem dX1_cellsUnder_7 : decode cX1_cellsUnder 7 = .ok (.if_icmp .ge 22, 3) := dcO tk_X1_cellsUnder_0 6 rfl
theorem dX1_cellsUnder_10 : decode cX1_cellsUnder 10 = .ok (.aload_n 0, 1) := dcO tk_X1_cellsUnder_0 7 rfl
theorem dX1_cellsUnder_11 : decode cX1_cellsUnder 11 = .ok (.getfield 18, 3) := dcO tk_X1_cellsUnder_0 8 rfl
theorem dX1_cellsUnder_14 : decode cX1_cellsUnder 14 = .ok (.iload_n 3, 1) := dcO tk_X1_cellsUnder_0 9 rfl
theorem dX1_cellsUnder_15 : decode cX1_cellsUnder 15 = .ok (.iaload, 1) := dcO tk_X1_cellsUnder_0 10 rfl
theorem dX1_cellsUnder_16 : decode cX1_cellsUnder 16 = .ok (.iload_n 1, 1) := dcO tk_X1_cellsUnder_0 11 rfl
theorem dX1_cellsUnder_17 : decode cX1_cellsUnder 17 = .ok (.if_icmp .ne 6, 3) := dcO tk_X1_cellsUnder_0 12 rfl
theorem dX1_cellsUnder_20 : decode cX1_cellsUnder 20 = .ok (.iinc 2 1, 3) := dcO tk_X1_cellsUnder_0 13 rfl
theorem dX1_cellsUnder_23 : decode cX1_cellsUnder 23 = .ok (.iinc 3 1, 3) := dcO tk_X1_cellsUnder_0 14 rfl
theorem dX1_cellsUnder_26 : decode cX1_cellsUnder 26 = .ok (.goto (-22), 3) := dcO tk_X1_cellsUnder_0 15 rfl
theorem dX1_cellsUnder_29 : decode cX1_cellsUnder 29 = .ok (.iload_n 2, 1) := dcO tk_X1_cellsUnder_0 16 rfl
theorem dX1_cellsUnder_30 : decode cX1_cellsUnder 30 = .ok (.ireturn, 1) := dcO tk_X1_cellsUnder_0 17 rfl
abbrev tb_X1_cellsWithLaw_0 : List (Nat × Instr × Nat) := [(0, .bipush 81, 2), (2, .aload_n 0, 1), (3, .iconst (-1), 1), (4, .invokevirtual 108, 3), (7, .isub, 1), (8, .ireturn, 1)]
theorem tk_X1_cellsWithLaw_0 : dcA cX1_cellsWithLaw tb_X1_cellsWithLaw_0 = true := by decide +kernel
theorem dX1_cellsWithLaw_0 : decode cX1_cellsWithLaw 0 = .ok (.bipush 81, 2) := dcO tk_X1_cellsWithLaw_0 0 rfl
theorem dX1_cellsWithLaw_2 : decode cX1_cellsWithLaw 2 = .ok (.aload_n 0, 1) := dcO tk_X1_cellsWithLaw_0 1 rfl
theorem dX1_cellsWithLaw_3 : decode cX1_cellsWithLaw 3 = .ok (.iconst (-1), 1) := dcO tk_X1_cellsWithLaw_0 2 rfl
theorem dX1_cellsWithLaw_4 : decode cX1_cellsWithLaw 4 = .ok (.invokevirtual 108, 3) := dcO tk_X1_cellsWithLaw_0 3 rfl
theorem dX1_cellsWithLaw_7 : decode cX1_cellsWithLaw 7 = .ok (.isub, 1) := dcO tk_X1_cellsWithLaw_0 4 rfl
theorem dX1_cellsWithLaw_8 : decode cX1_cellsWithLaw 8 = .ok (.ireturn, 1) := dcO tk_X1_cellsWithLaw_0 5 rfl
abbrev tb_X1_allLeaves_0 : List (Nat × Instr × Nat) := [(0, .aload_n 0, 1), (1, .getfield 15, 3), (4, .invokestatic 111, 3), (7, .ireturn, 1)]
theorem tk_X1_allLeaves_0 : dcA cX1_allLeaves tb_X1_allLeaves_0 = true := by decide +kernel
theorem dX1_allLeaves_0 : decode cX1_allLeaves 0 = .ok (.aload_n 0, 1) := dcO tk_X1_allLeaves_0 0 rfl
theorem dX1_allLeaves_1 : decode cX1_allLeaves 1 = .ok (.getfield 15, 3) := dcO tk_X1_allLeaves_0 1 rfl
theorem dX1_allLeaves_4 : decode cX1_allLeaves 4 = .ok (.invokestatic 111, 3) := dcO tk_X1_allLeaves_0 2 rfl
theorem dX1_allLeaves_7 : decode cX1_allLeaves 7 = .ok (.ireturn, 1) := dcO tk_X1_allLeaves_0 3 rfl
abbrev tb_X1_allHedges_0 : List (Nat × Instr × Nat) := [(0, .aload_n 0, 1), (1, .getfield 9, 3), (4, .invokestatic 111, 3), (7, .ireturn, 1)]
theorem tk_X1_allHedges_0 : dcA cX1_allHedges tb_X1_allHedges_0 = true := by decide +kernel
theorem dX1_allHedges_0 : decode cX1_allHedges 0 = .ok (.aload_n 0, 1) := dcO tk_X1_allHedges_0 0 rfl
theorem dX1_allHedges_1 : decode cX1_allHedges 1 = .ok (.getfield 9, 3) := dcO tk_X1_allHedges_0 1 rfl
theorem dX1_allHedges_4 : decode cX1_allHedges 4 = .ok (.invokestatic 111, 3) := dcO tk_X1_allHedges_0 2 rfl
theorem dX1_allHedges_7 : decode cX1_allHedges 7 = .ok (.ireturn, 1) := dcO tk_X1_allHedges_0 3 rfl
abbrev tb_X1_sumOf_0 : List (Nat × Instr × Nat) := [(0, .iconst 0, 1), (1, .istore_n 1, 1), (2, .aload_n 0, 1), (3, .astore_n 2, 1), (4, .aload_n 2, 1), (5, .arraylength, 1), (6, .istore_n 3, 1), (7, .iconst 0, 1), (8, .istore 4, 2), (10, .iload 4, 2), (12, .iload_n 3, 1), (13, .if_icmp .ge 20, 3), (16, .aload_n 2, 1), (17, .iload 4, 2), (19, .iaload, 1), (20, .istore 5, 2), (22, .iload_n 1, 1), (23, .iload 5, 2), (25, .iadd, 1), (26, .istore_n 1, 1), (27, .iinc 4 1, 3), (30, .goto (-20), 3), (33, .iload_n 1, 1), (34, .ireturn, 1)]
theorem tk_X1_sumOf_0 : dcA cX1_sumOf tb_X1_sumOf_0 = true := by decide +kernel
theorem dX1_sumOf_0 : decode cX1_sumOf 0 = .ok (.iconst 0, 1) := dcO tk_X1_sumOf_0 0 rfl
theorem dX1_sumOf_1 : decode cX1_sumOf 1 = .ok (.istore_n 1, 1) := dcO tk_X1_sumOf_0 1 rfl
theorem dX1_sumOf_2 : decode cX1_sumOf 2 = .ok (.aload_n 0, 1) := dcO tk_X1_sumOf_0 2 rfl
theorem dX1_sumOf_3 : decode cX1_sumOf 3 = .ok (.astore_n 2, 1) := dcO tk_X1_sumOf_0 3 rfl
theorem dX1_sumOf_4 : decode cX1_sumOf 4 = .ok (.aload_n 2, 1) := dcO tk_X1_sumOf_0 4 rfl
theorem dX1_sumOf_5 : decode cX1_sumOf 5 = .ok (.arraylength, 1) := dcO tk_X1_sumOf_0 5 rfl
theorem dX1_sumOf_6 : decode cX1_sumOf 6 = .ok (.istore_n 3, 1) := dcO tk_X1_sumOf_0 6 rfl
theorem dX1_sumOf_7 : decode cX1_sumOf 7 = .ok (.iconst 0, 1) := dcO tk_X1_sumOf_0 7 rfl
theorem dX1_sumOf_8 : decode cX1_sumOf 8 = .ok (.istore 4, 2) := dcO tk_X1_sumOf_0 8 rfl
theorem dX1_sumOf_10 : decode cX1_sumOf 10 = .ok (.iload 4, 2) := dcO tk_X1_sumOf_0 9 rfl
theorem dX1_sumOf_12 : decode cX1_sumOf 12 = .ok (.iload_n 3, 1) := dcO tk_X1_sumOf_0 10 rfl
theorem dX1_sumOf_13 : decode cX1_sumOf 13 = .ok (.if_icmp .ge 20, 3) := dcO tk_X1_sumOf_0 11 rfl
theorem dX1_sumOf_16 : decode cX1_sumOf 16 = .ok (.aload_n 2, 1) := dcO tk_X1_sumOf_0 12 rfl
theorem dX1_sumOf_17 : decode cX1_sumOf 17 = .ok (.iload 4, 2) := dcO tk_X1_sumOf_0 13 rfl
theorem dX1_sumOf_19 : decode cX1_sumOf 19 = .ok (.iaload, 1) := dcO tk_X1_sumOf_0 14 rfl
theorem dX1_sumOf_20 : decode cX1_sumOf 20 = .ok (.istore 5, 2) := dcO tk_X1_sumOf_0 15 rfl
theorem dX1_sumOf_22 : decode cX1_sumOf 22 = .ok (.iload_n 1, 1) := dcO tk_X1_sumOf_0 16 rfl
theorem dX1_sumOf_23 : decode cX1_sumOf 23 = .ok (.iload 5, 2) := dcO tk_X1_sumOf_0 17 rfl
theorem dX1_sumOf_25 : decode cX1_sumOf 25 = .ok (.iadd, 1) := dcO tk_X1_sumOf_0 18 rfl
theorem dX1_sumOf_26 : decode cX1_sumOf 26 = .ok (.istore_n 1, 1) := dcO tk_X1_sumOf_0 19 rfl
theorem dX1_sumOf_27 : decode cX1_sumOf 27 = .ok (.iinc 4 1, 3) := dcO tk_X1_sumOf_0 20 rfl
theorem dX1_sumOf_30 : decode cX1_sumOf 30 = .ok (.goto (-20), 3) := dcO tk_X1_sumOf_0 21 rfl
theorem dX1_sumOf_33 : decode cX1_sumOf 33 = .ok (.iload_n 1, 1) := dcO tk_X1_sumOf_0 22 rfl
theorem dX1_sumOf_34 : decode cX1_sumOf 34 = .ok (.ireturn, 1) := dcO tk_X1_sumOf_0 23 rfl
abbrev tb_X1_arrivedSnails_0 : List (Nat × Instr × Nat) := [(0, .iconst 0, 1), (1, .istore_n 1, 1), (2, .iconst 0, 1), (3, .istore_n 2, 1), (4, .iload_n 2, 1), (5, .aload_n 0, 1), (6, .getfield 45, 3), (9, .if_icmp .ge 30, 3), (12, .aload_n 0, 1), (13, .getfield 30, 3), (16, .iload_n 2, 1), (17, .iaload, 1), (18, .aload_n 0, 1), (19, .getfield 36, 3), (22, .iload_n 2, 1), (23, .iaload, 1), (24, .if_icmp .ne 9, 3), (27, .iload_n 1, 1), (28, .iconst 1, 1), (29, .iload_n 2, 1), (30, .ishl, 1), (31, .ior, 1), (32, .istore_n 1, 1), (33, .iinc 2 1, 3), (36, .goto (-32), 3), (39, .iload_n 1, 1), (40, .ireturn, 1)]
theorem tk_X1_arrivedSnails_0 : dcA cX1_arrivedSnails tb_X1_arrivedSnails_0 = true := by decide +kernel
theorem dX1_arrivedSnails_0 : decode cX1_arrivedSnails 0 = .ok (.iconst 0, 1) := dcO tk_X1_arrivedSnails_0 0 rfl
theorem dX1_arrivedSnails_1 : decode cX1_arrivedSnails 1 = .ok (.istore_n 1, 1) := dcO tk_X1_arrivedSnails_0 1 rfl
theorem dX1_arrivedSnails_2 : decode cX1_arrivedSnails 2 = .ok (.iconst 0, 1) := dcO tk_X1_arrivedSnails_0 2 rfl
theorem dX1_arrivedSnails_3 : decode cX1_arrivedSnails 3 = .ok (.istore_n 2, 1) := dcO tk_X1_arrivedSnails_0 3 rfl
theorem dX1_arrivedSnails_4 : decode cX1_arrivedSnails 4 = .ok (.iload_n 2, 1) := dcO tk_X1_arrivedSnails_0 4 rfl
theorem dX1_arrivedSnails_5 : decode cX1_arrivedSnails 5 = .ok (.aload_n 0, 1) := dcO tk_X1_arrivedSnails_0 5 rfl
theorem dX1_arrivedSnails_6 : decode cX1_arrivedSnails 6 = .ok (.getfield 45, 3) := dcO tk_X1_arrivedSnails_0 6 rfl
theorem dX1_arrivedSnails_9 : decode cX1_arrivedSnails 9 = .ok (.if_icmp .ge 30, 3) := dcO tk_X1_arrivedSnails_0 7 rfl
theorem dX1_arrivedSnails_12 : decode cX1_arrivedSnails 12 = .ok (.aload_n 0, 1) := dcO tk_X1_arrivedSnails_0 8 rfl
theorem dX1_arrivedSnails_13 : decode cX1_arrivedSnails 13 = .ok (.getfield 30, 3) := dcO tk_X1_arrivedSnails_0 9 rfl
theorem dX1_arrivedSnails_16 : decode cX1_arrivedSnails 16 = .ok (.iload_n 2, 1) := dcO tk_X1_arrivedSnails_0 10 rfl
theorem dX1_arrivedSnails_17 : decode cX1_arrivedSnails 17 = .ok (.iaload, 1) := dcO tk_X1_arrivedSnails_0 11 rfl
theorem dX1_arrivedSnails_18 : decode cX1_arrivedSnails 18 = .ok (.aload_n 0, 1) := dcO tk_X1_arrivedSnails_0 12 rfl
theorem dX1_arrivedSnails_19 : decode cX1_arrivedSnails 19 = .ok (.getfield 36, 3) := dcO tk_X1_arrivedSnails_0 13 rfl
theorem dX1_arrivedSnails_22 : decode cX1_arrivedSnails 22 = .ok (.iload_n 2, 1) := dcO tk_X1_arrivedSnails_0 14 rfl
theorem dX1_arrivedSnails_23 : decode cX1_arrivedSnails 23 = .ok (.iaload, 1) := dcO tk_X1_arrivedSnails_0 15 rfl
theorem dX1_arrivedSnails_24 : decode cX1_arrivedSnails 24 = .ok (.if_icmp .ne 9, 3) := dcO tk_X1_arrivedSnails_0 16 rfl
theorem dX1_arrivedSnails_27 : decode cX1_arrivedSnails 27 = .ok (.iload_n 1, 1) := dcO tk_X1_arrivedSnails_0 17 rfl
theorem dX1_arrivedSnails_28 : decode cX1_arrivedSnails 28 = .ok (.iconst 1, 1) := dcO tk_X1_arrivedSnails_0 18 rfl
theorem dX1_arrivedSnails_29 : decode cX1_arrivedSnails 29 = .ok (.iload_n 2, 1) := dcO tk_X1_arrivedSnails_0 19 rfl
theorem dX1_arrivedSnails_30 : decode cX1_arrivedSnails 30 = .ok (.ishl, 1) := dcO tk_X1_arrivedSnails_0 20 rfl
theorem dX1_arrivedSnails_31 : decode cX1_arrivedSnails 31 = .ok (.ior, 1) := dcO tk_X1_arrivedSnails_0 21 rfl
theorem dX1_arrivedSnails_32 : decode cX1_arrivedSnails 32 = .ok (.istore_n 1, 1) := dcO tk_X1_arrivedSnails_0 22 rfl
theorem dX1_arrivedSnails_33 : decode cX1_arrivedSnails 33 = .ok (.iinc 2 1, 3) := dcO tk_X1_arrivedSnails_0 23 rfl
theorem dX1_arrivedSnails_36 : decode cX1_arrivedSnails 36 = .ok (.goto (-32), 3) := dcO tk_X1_arrivedSnails_0 24 rfl
theorem dX1_arrivedSnails_39 : decode cX1_arrivedSnails 39 = .ok (.iload_n 1, 1) := dcO tk_X1_arrivedSnails_0 25 rfl
theorem dX1_arrivedSnails_40 : decode cX1_arrivedSnails 40 = .ok (.ireturn, 1) := dcO tk_X1_arrivedSnails_0 26 rfl
abbrev tb_X1_heldSpots_0 : List (Nat × Instr × Nat) := [(0, .iconst 0, 1), (1, .istore_n 1, 1), (2, .iconst 0, 1), (3, .istore_n 2, 1), (4, .iload_n 2, 1), (5, .bipush 10, 2), (7, .if_icmp .ge 22, 3), (10, .aload_n 0, 1), (11, .getfield 42, 3), (14, .iload_n 2, 1), (15, .iaload, 1), (16, .iconst (-1), 1), (17, .if_icmp .eq 6, 3), (20, .iinc 1 1, 3), (23, .iinc 2 1, 3), (26, .goto (-22), 3), (29, .iload_n 1, 1), (30, .ireturn, 1)]
theorem tk_X1_heldSpots_0 : dcA cX1_heldSpots tb_X1_heldSpots_0 = true := by decide +kernel
theorem dX1_heldSpots_0 : decode cX1_heldSpots 0 = .ok (.iconst 0, 1) := dcO tk_X1_heldSpots_0 0 rfl
theorem dX1_heldSpots_1 : decode cX1_heldSpots 1 = .ok (.istore_n 1, 1) := dcO tk_X1_heldSpots_0 1 rfl
theorem dX1_heldSpots_2 : decode cX1_heldSpots 2 = .ok (.iconst 0, 1) := dcO tk_X1_heldSpots_0 2 rfl
theorem dX1_heldSpots_3 : decode cX1_heldSpots 3 = .ok (.istore_n 2, 1) := dcO tk_X1_heldSpots_0 3 rfl
theorem dX1_heldSpots_4 : decode cX1_heldSpots 4 = .ok (.iload_n 2, 1) := dcO tk_X1_heldSpots_0 4 rfl
theorem dX1_heldSpots_5 : decode cX1_heldSpots 5 = .ok (.bipush 10, 2) := dcO tk_X1_heldSpots_0 5 rfl
theorem dX1_heldSpots_7 : decode cX1_heldSpots 7 = .ok (.if_icmp .ge 22, 3) := dcO tk_X1_heldSpots_0 6 rfl
theorem dX1_heldSpots_10 : decode cX1_heldSpots 10 = .ok (.aload_n 0, 1) := dcO tk_X1_heldSpots_0 7 rfl
theorem dX1_heldSpots_11 : decode cX1_heldSpots 11 = .ok (.getfield 42, 3) := dcO tk_X1_heldSpots_0 8 rfl
theorem dX1_heldSpots_14 : decode cX1_heldSpots 14 = .ok (.iload_n 2, 1) := dcO tk_X1_heldSpots_0 9 rfl
theorem dX1_heldSpots_15 : decode cX1_heldSpots 15 = .ok (.iaload, 1) := dcO tk_X1_heldSpots_0 10 rfl
theorem dX1_heldSpots_16 : decode cX1_heldSpots 16 = .ok (.iconst (-1), 1) := dcO tk_X1_heldSpots_0 11 rfl
theorem dX1_heldSpots_17 : decode cX1_heldSpots 17 = .ok (.if_icmp .eq 6, 3) := dcO tk_X1_heldSpots_0 12 rfl
theorem dX1_heldSpots_20 : decode cX1_heldSpots 20 = .ok (.iinc 1 1, 3) := dcO tk_X1_heldSpots_0 13 rfl
theorem dX1_heldSpots_23 : decode cX1_heldSpots 23 = .ok (.iinc 2 1, 3) := dcO tk_X1_heldSpots_0 14 rfl
theorem dX1_heldSpots_26 : decode cX1_heldSpots 26 = .ok (.goto (-22), 3) := dcO tk_X1_heldSpots_0 15 rfl
theorem dX1_heldSpots_29 : decode cX1_heldSpots 29 = .ok (.iload_n 1, 1) := dcO tk_X1_heldSpots_0 16 rfl
theorem dX1_heldSpots_30 : decode cX1_heldSpots 30 = .ok (.ireturn, 1) := dcO tk_X1_heldSpots_0 17 rfl
abbrev tb_X1_priceOf_0 : List (Nat × Instr × Nat) := [(0, .iconst 0, 1), (1, .istore_n 2, 1), (2, .iconst 0, 1), (3, .istore_n 3, 1), (4, .iload_n 3, 1), (5, .aload_n 0, 1), (6, .getfield 45, 3), (9, .if_icmp .ge 27, 3), (12, .iload_n 1, 1), (13, .iload_n 3, 1), (14, .ishr, 1), (15, .iconst 1, 1), (16, .iand, 1), (17, .iconst 1, 1), (18, .if_icmp .ne 12, 3), (21, .iload_n 2, 1), (22, .aload_n 0, 1), (23, .getfield 39, 3), (26, .iload_n 3, 1), (27, .iaload, 1), (28, .iadd, 1), (29, .istore_n 2, 1), (30, .iinc 3 1, 3), (33, .goto (-29), 3), (36, .iload_n 2, 1), (37, .ireturn, 1)]
theorem tk_X1_priceOf_0 : dcA cX1_priceOf tb_X1_priceOf_0 = true := by decide +kernel
theorem dX1_priceOf_0 : decode cX1_priceOf 0 = .ok (.iconst 0, 1) := dcO tk_X1_priceOf_0 0 rfl
theorem dX1_priceOf_1 : decode cX1_priceOf 1 = .ok (.istore_n 2, 1) := dcO tk_X1_priceOf_0 1 rfl
theorem dX1_priceOf_2 : decode cX1_priceOf 2 = .ok (.iconst 0, 1) := dcO tk_X1_priceOf_0 2 rfl
theorem dX1_priceOf_3 : decode cX1_priceOf 3 = .ok (.istore_n 3, 1) := dcO tk_X1_priceOf_0 3 rfl
theorem dX1_priceOf_4 : decode cX1_priceOf 4 = .ok (.iload_n 3, 1) := dcO tk_X1_priceOf_0 4 rfl
theorem dX1_priceOf_5 : decode cX1_priceOf 5 = .ok (.aload_n 0, 1) := dcO tk_X1_priceOf_0 5 rfl
theorem dX1_priceOf_6 : decode cX1_priceOf 6 = .ok (.getfield 45, 3) := dcO tk_X1_priceOf_0 6 rfl
theorem dX1_priceOf_9 : decode cX1_priceOf 9 = .ok (.if_icmp .ge 27, 3) := dcO tk_X1_priceOf_0 7 rfl
theorem dX1_priceOf_12 : decode cX1_priceOf 12 = .ok (.iload_n 1, 1) := dcO tk_X1_priceOf_0 8 rfl
theorem dX1_priceOf_13 : decode cX1_priceOf 13 = .ok (.iload_n 3, 1) := dcO tk_X1_priceOf_0 9 rfl
theorem dX1_priceOf_14 : decode cX1_priceOf 14 = .ok (.ishr, 1) := dcO tk_X1_priceOf_0 10 rfl
theorem dX1_priceOf_15 : decode cX1_priceOf 15 = .ok (.iconst 1, 1) := dcO tk_X1_priceOf_0 11 rfl
theorem dX1_priceOf_16 : decode cX1_priceOf 16 = .ok (.iand, 1) := dcO tk_X1_priceOf_0 12 rfl
theorem dX1_priceOf_17 : decode cX1_priceOf 17 = .ok (.iconst 1, 1) := dcO tk_X1_priceOf_0 13 rfl
theorem dX1_priceOf_18 : decode cX1_priceOf 18 = .ok (.if_icmp .ne 12, 3) := dcO tk_X1_priceOf_0 14 rfl
theorem dX1_priceOf_21 : decode cX1_priceOf 21 = .ok (.iload_n 2, 1) := dcO tk_X1_priceOf_0 15 rfl
theorem dX1_priceOf_22 : decode cX1_priceOf 22 = .ok (.aload_n 0, 1) := dcO tk_X1_priceOf_0 16 rfl
theorem dX1_priceOf_23 : decode cX1_priceOf 23 = .ok (.getfield 39, 3) := dcO tk_X1_priceOf_0 17 rfl
theorem dX1_priceOf_26 : decode cX1_priceOf 26 = .ok (.iload_n 3, 1) := dcO tk_X1_priceOf_0 18 rfl
theorem dX1_priceOf_27 : decode cX1_priceOf 27 = .ok (.iaload, 1) := dcO tk_X1_priceOf_0 19 rfl
theorem dX1_priceOf_28 : decode cX1_priceOf 28 = .ok (.iadd, 1) := dcO tk_X1_priceOf_0 20 rfl
theorem dX1_priceOf_29 : decode cX1_priceOf 29 = .ok (.istore_n 2, 1) := dcO tk_X1_priceOf_0 21 rfl
theorem dX1_priceOf_30 : decode cX1_priceOf 30 = .ok (.iinc 3 1, 3) := dcO tk_X1_priceOf_0 22 rfl
theorem dX1_priceOf_33 : decode cX1_priceOf 33 = .ok (.goto (-29), 3) := dcO tk_X1_priceOf_0 23 rfl
theorem dX1_priceOf_36 : decode cX1_priceOf 36 = .ok (.iload_n 2, 1) := dcO tk_X1_priceOf_0 24 rfl
theorem dX1_priceOf_37 : decode cX1_priceOf 37 = .ok (.ireturn, 1) := dcO tk_X1_priceOf_0 25 rfl
abbrev tb_X2_init_0 : List (Nat × Instr × Nat) := [(0, .aload_n 0, 1), (1, .invokespecial 3, 3), (4, .aload_n 0, 1), (5, .iconst 4, 1), (6, .newarray .int, 2), (8, .putfield 9, 3), (11, .aload_n 0, 1), (12, .iconst 4, 1), (13, .newarray .int, 2), (15, .putfield 15, 3), (18, .aload_n 0, 1), (19, .sipush 160, 3), (22, .newarray .int, 2), (24, .putfield 18, 3), (27, .return_, 1)]
theorem tk_X2_init_0 : dcA cX2_init tb_X2_init_0 = true := by decide +kernel
theorem dX2_init_0 : decode cX2_init 0 = .ok (.aload_n 0, 1) := dcO tk_X2_init_0 0 rfl
theorem dX2_init_1 : decode cX2_init 1 = .ok (.invokespecial 3, 3) := dcO tk_X2_init_0 1 rfl
theorem dX2_init_4 : decode cX2_init 4 = .ok (.aload_n 0, 1) := dcO tk_X2_init_0 2 rfl
theorem dX2_init_5 : decode cX2_init 5 = .ok (.iconst 4, 1) := dcO tk_X2_init_0 3 rfl
theorem dX2_init_6 : decode cX2_init 6 = .ok (.newarray .int, 2) := dcO tk_X2_init_0 4 rfl
theorem dX2_init_8 : decode cX2_init 8 = .ok (.putfield 9, 3) := dcO tk_X2_init_0 5 rfl
theorem dX2_init_11 : decode cX2_init 11 = .ok (.aload_n 0, 1) := dcO tk_X2_init_0 6 rfl
theorem dX2_init_12 : decode cX2_init 12 = .ok (.iconst 4, 1) := dcO tk_X2_init_0 7 rfl
theorem dX2_init_13 : decode cX2_init 13 = .ok (.newarray .int, 2) := dcO tk_X2_init_0 8 rfl
theorem dX2_init_15 : decode cX2_init 15 = .ok (.putfield 15, 3) := dcO tk_X2_init_0 9 rfl
theorem dX2_init_18 : decode cX2_init 18 = .ok (.aload_n 0, 1) := dcO tk_X2_init_0 10 rfl
theorem dX2_init_19 : decode cX2_init 19 = .ok (.sipush 160, 3) := dcO tk_X2_init_0 11 rfl
theorem dX2_init_22 : decode cX2_init 22 = .ok (.newarray .int, 2) := dcO tk_X2_init_0 12 rfl
theorem dX2_init_24 : decode cX2_init 24 = .ok (.putfield 18, 3) := dcO tk_X2_init_0 13 rfl
theorem dX2_init_27 : decode cX2_init 27 = .ok (.return_, 1) := dcO tk_X2_init_0 14 rfl
abbrev tb_X2_isMissing_0 : List (Nat × Instr × Nat) := [(0, .aload_n 0, 1), (1, .getfield 9, 3), (4, .iload_n 1, 1), (5, .iaload, 1), (6, .ifCond .ne 7, 3), (9, .iconst 1, 1), (10, .goto 4, 3), (13, .iconst 0, 1), (14, .ireturn, 1)]
theorem tk_X2_isMissing_0 : dcA cX2_isMissing tb_X2_isMissing_0 = true := by decide +kernel
theorem dX2_isMissing_0 : decode cX2_isMissing 0 = .ok (.aload_n 0, 1) := dcO tk_X2_isMissing_0 0 rfl
theorem dX2_isMissing_1 : decode cX2_isMissing 1 = .ok (.getfield 9, 3) := dcO tk_X2_isMissing_0 1 rfl
theorem dX2_isMissing_4 : decode cX2_isMissing 4 = .ok (.iload_n 1, 1) := dcO tk_X2_isMissing_0 2 rfl
theorem dX2_isMissing_5 : decode cX2_isMissing 5 = .ok (.iaload, 1) := dcO tk_X2_isMissing_0 3 rfl
theorem dX2_isMissing_6 : decode cX2_isMissing 6 = .ok (.ifCond .ne 7, 3) := dcO tk_X2_isMissing_0 4 rfl
theorem dX2_isMissing_9 : decode cX2_isMissing 9 = .ok (.iconst 1, 1) := dcO tk_X2_isMissing_0 5 rfl
theorem dX2_isMissing_10 : decode cX2_isMissing 10 = .ok (.goto 4, 3) := dcO tk_X2_isMissing_0 6 rfl
theorem dX2_isMissing_13 : decode cX2_isMissing 13 = .ok (.iconst 0, 1) := dcO tk_X2_isMissing_0 7 rfl
theorem dX2_isMissing_14 : decode cX2_isMissing 14 = .ok (.ireturn, 1) := dcO tk_X2_isMissing_0 8 rfl
abbrev tb_X2_lay_0 : List (Nat × Instr × Nat) := [(0, .aload_n 0, 1), (1, .getfield 9, 3), (4, .iload_n 1, 1), (5, .iload_n 2, 1), (6, .iastore, 1), (7, .aload_n 0, 1), (8, .getfield 15, 3), (11, .iload_n 1, 1), (12, .iload_n 2, 1), (13, .ifCond .ne 7, 3), (16, .iconst 0, 1), (17, .goto 4, 3), (20, .iload_n 3, 1), (21, .iastore, 1), (22, .iconst 0, 1), (23, .istore 4, 2), (25, .iload 4, 2), (27, .bipush 40, 2), (29, .if_icmp .ge 22, 3), (32, .aload_n 0, 1), (33, .getfield 18, 3), (36, .iload_n 1, 1), (37, .bipush 40, 2), (39, .imul, 1), (40, .iload 4, 2), (42, .iadd, 1), (43, .iconst 0, 1), (44, .iastore, 1), (45, .iinc 4 1, 3), (48, .goto (-23), 3), (51, .return_, 1)]
theorem tk_X2_lay_0 : dcA cX2_lay tb_X2_lay_0 = true := by decide +kernel
theorem dX2_lay_0 : decode cX2_lay 0 = .ok (.aload_n 0, 1) := dcO tk_X2_lay_0 0 rfl
theorem dX2_lay_1 : decode cX2_lay 1 = .ok (.getfield 9, 3) := dcO tk_X2_lay_0 1 rfl
theorem dX2_lay_4 : decode cX2_lay 4 = .ok (.iload_n 1, 1) := dcO tk_X2_lay_0 2 rfl
theorem dX2_lay_5 : decode cX2_lay 5 = .ok (.iload_n 2, 1) := dcO tk_X2_lay_0 3 rfl
theorem dX2_lay_6 : decode cX2_lay 6 = .ok (.iastore, 1) := dcO tk_X2_lay_0 4 rfl
theorem dX2_lay_7 : decode cX2_lay 7 = .ok (.aload_n 0, 1) := dcO tk_X2_lay_0 5 rfl
theorem dX2_lay_8 : decode cX2_lay 8 = .ok (.getfield 15, 3) := dcO tk_X2_lay_0 6 rfl
theorem dX2_lay_11 : decode cX2_lay 11 = .ok (.iload_n 1, 1) := dcO tk_X2_lay_0 7 rfl
theorem dX2_lay_12 : decode cX2_lay 12 = .ok (.iload_n 2, 1) := dcO tk_X2_lay_0 8 rfl
theorem dX2_lay_13 : decode cX2_lay 13 = .ok (.ifCond .ne 7, 3) := dcO tk_X2_lay_0 9 rfl
theorem dX2_lay_16 : decode cX2_lay 16 = .ok (.iconst 0, 1) := dcO tk_X2_lay_0 10 rfl
theorem dX2_lay_17 : decode cX2_lay 17 = .ok (.goto 4, 3) := dcO tk_X2_lay_0 11 rfl
theorem dX2_lay_20 : decode cX2_lay 20 = .ok (.iload_n 3, 1) := dcO tk_X2_lay_0 12 rfl
theorem dX2_lay_21 : decode cX2_lay 21 = .ok (.iastore, 1) := dcO tk_X2_lay_0 13 rfl
theorem dX2_lay_22 : decode cX2_lay 22 = .ok (.iconst 0, 1) := dcO tk_X2_lay_0 14 rfl
theorem dX2_lay_23 : decode cX2_lay 23 = .ok (.istore 4, 2) := dcO tk_X2_lay_0 15 rfl
theorem dX2_lay_25 : decode cX2_lay 25 = .ok (.iload 4, 2) := dcO tk_X2_lay_0 16 rfl
theorem dX2_lay_27 : decode cX2_lay 27 = .ok (.bipush 40, 2) := dcO tk_X2_lay_0 17 rfl
theorem dX2_lay_29 : decode cX2_lay 29 = .ok (.if_icmp .ge 22, 3) := dcO tk_X2_lay_0 18 rfl
theorem dX2_lay_32 : decode cX2_lay 32 = .ok (.aload_n 0, 1) := dcO tk_X2_lay_0 19 rfl
theorem dX2_lay_33 : decode cX2_lay 33 = .ok (.getfield 18, 3) := dcO tk_X2_lay_0 20 rfl
theorem dX2_lay_36 : decode cX2_lay 36 = .ok (.iload_n 1, 1) := dcO tk_X2_lay_0 21 rfl
theorem dX2_lay_37 : decode cX2_lay 37 = .ok (.bipush 40, 2) := dcO tk_X2_lay_0 22 rfl
theorem dX2_lay_39 : decode cX2_lay 39 = .ok (.imul, 1) := dcO tk_X2_lay_0 23 rfl
theorem dX2_lay_40 : decode cX2_lay 40 = .ok (.iload 4, 2) := dcO tk_X2_lay_0 24 rfl
theorem dX2_lay_42 : decode cX2_lay 42 = .ok (.iadd, 1) := dcO tk_X2_lay_0 25 rfl
theorem dX2_lay_43 : decode cX2_lay 43 = .ok (.iconst 0, 1) := dcO tk_X2_lay_0 26 rfl
theorem dX2_lay_44 : decode cX2_lay 44 = .ok (.iastore, 1) := dcO tk_X2_lay_0 27 rfl
theorem dX2_lay_45 : decode cX2_lay 45 = .ok (.iinc 4 1, 3) := dcO tk_X2_lay_0 28 rfl
theorem dX2_lay_48 : decode cX2_lay 48 = .ok (.goto (-23), 3) := dcO tk_X2_lay_0 29 rfl
theorem dX2_lay_51 : decode cX2_lay 51 = .ok (.return_, 1) := dcO tk_X2_lay_0 30 rfl
abbrev tb_X2_numberAt_0 : List (Nat × Instr × Nat) := [(0, .aload_n 0, 1), (1, .getfield 18, 3), (4, .iload_n 1, 1), (5, .bipush 40, 2), (7, .imul, 1), (8, .iload_n 2, 1), (9, .iadd, 1), (10, .iaload, 1), (11, .ireturn, 1)]
theorem tk_X2_numberAt_0 : dcA cX2_numberAt tb_X2_numberAt_0 = true := by decide +kernel
theorem dX2_numberAt_0 : decode cX2_numberAt 0 = .ok (.aload_n 0, 1) := dcO tk_X2_numberAt_0 0 rfl
theorem dX2_numberAt_1 : decode cX2_numberAt 1 = .ok (.getfield 18, 3) := dcO tk_X2_numberAt_0 1 rfl
theorem dX2_numberAt_4 : decode cX2_numberAt 4 = .ok (.iload_n 1, 1) := dcO tk_X2_numberAt_0 2 rfl
theorem dX2_numberAt_5 : decode cX2_numberAt 5 = .ok (.bipush 40, 2) := dcO tk_X2_numberAt_0 3 rfl
theorem dX2_numberAt_7 : decode cX2_numberAt 7 = .ok (.imul, 1) := dcO tk_X2_numberAt_0 4 rfl
theorem dX2_numberAt_8 : decode cX2_numberAt 8 = .ok (.iload_n 2, 1) := dcO tk_X2_numberAt_0 5 rfl
theorem dX2_numberAt_9 : decode cX2_numberAt 9 = .ok (.iadd, 1) := dcO tk_X2_numberAt_0 6 rfl
theorem dX2_numberAt_10 : decode cX2_numberAt 10 = .ok (.iaload, 1) := dcO tk_X2_numberAt_0 7 rfl
theorem dX2_numberAt_11 : decode cX2_numberAt 11 = .ok (.ireturn, 1) := dcO tk_X2_numberAt_0 8 rfl
abbrev tb_X2_put_0 : List (Nat × Instr × Nat) := [(0, .bipush 32, 2), (2, .aload_n 0, 1), (3, .getfield 9, 3), (6, .iload_n 1, 1), (7, .iaload, 1), (8, .isub, 1), (9, .istore 4, 2), (11, .aload_n 0, 1), (12, .getfield 18, 3), (15, .iload_n 1, 1), (16, .bipush 40, 2), (18, .imul, 1), (19, .iload_n 2, 1), (20, .iadd, 1), (21, .iload_n 3, 1), (22, .iload 4, 2), (24, .ishl, 1), (25, .iload 4, 2), (27, .ishr, 1), (28, .iastore, 1), (29, .return_, 1)]
theorem tk_X2_put_0 : dcA cX2_put tb_X2_put_0 = true := by decide +kernel
theorem dX2_put_0 : decode cX2_put 0 = .ok (.bipush 32, 2) := dcO tk_X2_put_0 0 rfl
theorem dX2_put_2 : decode cX2_put 2 = .ok (.aload_n 0, 1) := dcO tk_X2_put_0 1 rfl
theorem dX2_put_3 : decode cX2_put 3 = .ok (.getfield 9, 3) := dcO tk_X2_put_0 2 rfl
theorem dX2_put_6 : decode cX2_put 6 = .ok (.iload_n 1, 1) := dcO tk_X2_put_0 3 rfl
theorem dX2_put_7 : decode cX2_put 7 = .ok (.iaload, 1) := dcO tk_X2_put_0 4 rfl
theorem dX2_put_8 : decode cX2_put 8 = .ok (.isub, 1) := dcO tk_X2_put_0 5 rfl
theorem dX2_put_9 : decode cX2_put 9 = .ok (.istore 4, 2) := dcO tk_X2_put_0 6 rfl
theorem dX2_put_11 : decode cX2_put 11 = .ok (.aload_n 0, 1) := dcO tk_X2_put_0 7 rfl
theorem dX2_put_12 : decode cX2_put 12 = .ok (.getfield 18, 3) := dcO tk_X2_put_0 8 rfl
theorem dX2_put_15 : decode cX2_put 15 = .ok (.iload_n 1, 1) := dcO tk_X2_put_0 9 rfl
theorem dX2_put_16 : decode cX2_put 16 = .ok (.bipush 40, 2) := dcO tk_X2_put_0 10 rfl
theorem dX2_put_18 : decode cX2_put 18 = .ok (.imul, 1) := dcO tk_X2_put_0 11 rfl
theorem dX2_put_19 : decode cX2_put 19 = .ok (.iload_n 2, 1) := dcO tk_X2_put_0 12 rfl
theorem dX2_put_20 : decode cX2_put 20 = .ok (.iadd, 1) := dcO tk_X2_put_0 13 rfl
theorem dX2_put_21 : decode cX2_put 21 = .ok (.iload_n 3, 1) := dcO tk_X2_put_0 14 rfl
theorem dX2_put_22 : decode cX2_put 22 = .ok (.iload 4, 2) := dcO tk_X2_put_0 15 rfl
theorem dX2_put_24 : decode cX2_put 24 = .ok (.ishl, 1) := dcO tk_X2_put_0 16 rfl
theorem dX2_put_25 : decode cX2_put 25 = .ok (.iload 4, 2) := dcO tk_X2_put_0 17 rfl
theorem dX2_put_27 : decode cX2_put 27 = .ok (.ishr, 1) := dcO tk_X2_put_0 18 rfl
theorem dX2_put_28 : decode cX2_put 28 = .ok (.iastore, 1) := dcO tk_X2_put_0 19 rfl
theorem dX2_put_29 : decode cX2_put 29 = .ok (.return_, 1) := dcO tk_X2_put_0 20 rfl
abbrev tb_X2_hasRun_0 : List (Nat × Instr × Nat) := [(0, .iload_n 2, 1), (1, .ifCond .lt 33, 3), (4, .iload_n 3, 1), (5, .ifCond .lt 29, 3), (8, .iload_n 3, 1), (9, .aload_n 0, 1), (10, .getfield 15, 3), (13, .iload_n 1, 1), (14, .iaload, 1), (15, .if_icmp .gt 19, 3), (18, .iload_n 2, 1), (19, .aload_n 0, 1), (20, .getfield 15, 3), (23, .iload_n 1, 1), (24, .iaload, 1), (25, .iload_n 3, 1), (26, .isub, 1), (27, .if_icmp .gt 7, 3), (30, .iconst 1, 1), (31, .goto 4, 3), (34, .iconst 0, 1), (35, .ireturn, 1)]
theorem tk_X2_hasRun_0 : dcA cX2_hasRun tb_X2_hasRun_0 = true := by decide +kernel
theorem dX2_hasRun_0 : decode cX2_hasRun 0 = .ok (.iload_n 2, 1) := dcO tk_X2_hasRun_0 0 rfl
theorem dX2_hasRun_1 : decode cX2_hasRun 1 = .ok (.ifCond .lt 33, 3) := dcO tk_X2_hasRun_0 1 rfl
theorem dX2_hasRun_4 : decode cX2_hasRun 4 = .ok (.iload_n 3, 1) := dcO tk_X2_hasRun_0 2 rfl
theorem dX2_hasRun_5 : decode cX2_hasRun 5 = .ok (.ifCond .lt 29, 3) := dcO tk_X2_hasRun_0 3 rfl
theorem dX2_hasRun_8 : decode cX2_hasRun 8 = .ok (.iload_n 3, 1) := dcO tk_X2_hasRun_0 4 rfl
theorem dX2_hasRun_9 : decode cX2_hasRun 9 = .ok (.aload_n 0, 1) := dcO tk_X2_hasRun_0 5 rfl
theorem dX2_hasRun_10 : decode cX2_hasRun 10 = .ok (.getfield 15, 3) := dcO tk_X2_hasRun_0 6 rfl
theorem dX2_hasRun_13 : decode cX2_hasRun 13 = .ok (.iload_n 1, 1) := dcO tk_X2_hasRun_0 7 rfl
theorem dX2_hasRun_14 : decode cX2_hasRun 14 = .ok (.iaload, 1) := dcO tk_X2_hasRun_0 8 rfl
theorem dX2_hasRun_15 : decode cX2_hasRun 15 = .ok (.if_icmp .gt 19, 3) := dcO tk_X2_hasRun_0 9 rfl
theorem dX2_hasRun_18 : decode cX2_hasRun 18 = .ok (.iload_n 2, 1) := dcO tk_X2_hasRun_0 10 rfl
theorem dX2_hasRun_19 : decode cX2_hasRun 19 = .ok (.aload_n 0, 1) := dcO tk_X2_hasRun_0 11 rfl
theorem dX2_hasRun_20 : decode cX2_hasRun 20 = .ok (.getfield 15, 3) := dcO tk_X2_hasRun_0 12 rfl
theorem dX2_hasRun_23 : decode cX2_hasRun 23 = .ok (.iload_n 1, 1) := dcO tk_X2_hasRun_0 13 rfl
theorem dX2_hasRun_24 : decode cX2_hasRun 24 = .ok (.iaload, 1) := dcO tk_X2_hasRun_0 14 rfl
theorem dX2_hasRun_25 : decode cX2_hasRun 25 = .ok (.iload_n 3, 1) := dcO tk_X2_hasRun_0 15 rfl
theorem dX2_hasRun_26 : decode cX2_hasRun 26 = .ok (.isub, 1) := dcO tk_X2_hasRun_0 16 rfl
theorem dX2_hasRun_27 : decode cX2_hasRun 27 = .ok (.if_icmp .gt 7, 3) := dcO tk_X2_hasRun_0 17 rfl
theorem dX2_hasRun_30 : decode cX2_hasRun 30 = .ok (.iconst 1, 1) := dcO tk_X2_hasRun_0 18 rfl
theorem dX2_hasRun_31 : decode cX2_hasRun 31 = .ok (.goto 4, 3) := dcO tk_X2_hasRun_0 19 rfl
theorem dX2_hasRun_34 : decode cX2_hasRun 34 = .ok (.iconst 0, 1) := dcO tk_X2_hasRun_0 20 rfl
theorem dX2_hasRun_35 : decode cX2_hasRun 35 = .ok (.ireturn, 1) := dcO tk_X2_hasRun_0 21 rfl
abbrev tb_X2_carry_0 : List (Nat × Instr × Nat) := [(0, .aload_n 0, 1), (1, .getfield 18, 3), (4, .iload_n 1, 1), (5, .bipush 40, 2), (7, .imul, 1), (8, .iload_n 2, 1), (9, .iadd, 1), (10, .aload_n 0, 1), (11, .getfield 18, 3), (14, .iload_n 3, 1), (15, .bipush 40, 2), (17, .imul, 1), (18, .iload 4, 2), (20, .iadd, 1), (21, .iload 5, 2), (23, .invokestatic 21, 3), (26, .return_, 1)]
theorem tk_X2_carry_0 : dcA cX2_carry tb_X2_carry_0 = true := by decide +kernel
theorem dX2_carry_0 : decode cX2_carry 0 = .ok (.aload_n 0, 1) := dcO tk_X2_carry_0 0 rfl
theorem dX2_carry_1 : decode cX2_carry 1 = .ok (.getfield 18, 3) := dcO tk_X2_carry_0 1 rfl
theorem dX2_carry_4 : decode cX2_carry 4 = .ok (.iload_n 1, 1) := dcO tk_X2_carry_0 2 rfl
theorem dX2_carry_5 : decode cX2_carry 5 = .ok (.bipush 40, 2) := dcO tk_X2_carry_0 3 rfl
theorem dX2_carry_7 : decode cX2_carry 7 = .ok (.imul, 1) := dcO tk_X2_carry_0 4 rfl
theorem dX2_carry_8 : decode cX2_carry 8 = .ok (.iload_n 2, 1) := dcO tk_X2_carry_0 5 rfl
theorem dX2_carry_9 : decode cX2_carry 9 = .ok (.iadd, 1) := dcO tk_X2_carry_0 6 rfl
theorem dX2_carry_10 : decode cX2_carry 10 = .ok (.aload_n 0, 1) := dcO tk_X2_carry_0 7 rfl
theorem dX2_carry_11 : decode cX2_carry 11 = .ok (.getfield 18, 3) := dcO tk_X2_carry_0 8 rfl
theorem dX2_carry_14 : decode cX2_carry 14 = .ok (.iload_n 3, 1) := dcO tk_X2_carry_0 9 rfl
theorem dX2_carry_15 : decode cX2_carry 15 = .ok (.bipush 40, 2) := dcO tk_X2_carry_0 10 rfl
theorem dX2_carry_17 : decode cX2_carry 17 = .ok (.imul, 1) := dcO tk_X2_carry_0 11 rfl
theorem dX2_carry_18 : decode cX2_carry 18 = .ok (.iload 4, 2) := dcO tk_X2_carry_0 12 rfl
theorem dX2_carry_20 : decode cX2_carry 20 = .ok (.iadd, 1) := dcO tk_X2_carry_0 13 rfl
theorem dX2_carry_21 : decode cX2_carry 21 = .ok (.iload 5, 2) := dcO tk_X2_carry_0 14 rfl
theorem dX2_carry_23 : decode cX2_carry 23 = .ok (.invokestatic 21, 3) := dcO tk_X2_carry_0 15 rfl
theorem dX2_carry_26 : decode cX2_carry 26 = .ok (.return_, 1) := dcO tk_X2_carry_0 16 rfl
abbrev tb_X3_init_0 : List (Nat × Instr × Nat) := [(0, .aload_n 0, 1), (1, .invokespecial 3, 3), (4, .aload_n 0, 1), (5, .iconst 0, 1), (6, .putfield 9, 3), (9, .aload_n 0, 1), (10, .bipush 120, 2), (12, .newarray .int, 2), (14, .putfield 15, 3), (17, .aload_n 0, 1), (18, .bipush 121, 2), (20, .newarray .int, 2), (22, .putfield 19, 3), (25, .aload_n 0, 1), (26, .bipush 121, 2), (28, .newarray .int, 2), (30, .putfield 22, 3), (33, .aload_n 0, 1), (34, .bipush 121, 2), (36, .newarray .int, 2), (38, .putfield 25, 3), (41, .aload_n 0, 1), (42, .bipush 121, 2), (44, .newarray .int, 2), (46, .putfield 28, 3), (49, .aload_n 0, 1), (50, .iconst 0, 1), (51, .putfield 31, 3), (54, .return_, 1)]
theorem tk_X3_init_0 : dcA cX3_init tb_X3_init_0 = true := by decide +kernel
theorem dX3_init_0 : decode cX3_init 0 = .ok (.aload_n 0, 1) := dcO tk_X3_init_0 0 rfl
theorem dX3_init_1 : decode cX3_init 1 = .ok (.invokespecial 3, 3) := dcO tk_X3_init_0 1 rfl
theorem dX3_init_4 : decode cX3_init 4 = .ok (.aload_n 0, 1) := dcO tk_X3_init_0 2 rfl
theorem dX3_init_5 : decode cX3_init 5 = .ok (.iconst 0, 1) := dcO tk_X3_init_0 3 rfl
theorem dX3_init_6 : decode cX3_init 6 = .ok (.putfield 9, 3) := dcO tk_X3_init_0 4 rfl
theorem dX3_init_9 : decode cX3_init 9 = .ok (.aload_n 0, 1) := dcO tk_X3_init_0 5 rfl
theorem dX3_init_10 : decode cX3_init 10 = .ok (.bipush 120, 2) := dcO tk_X3_init_0 6 rfl
theorem dX3_init_12 : decode cX3_init 12 = .ok (.newarray .int, 2) := dcO tk_X3_init_0 7 rfl
theorem dX3_init_14 : decode cX3_init 14 = .ok (.putfield 15, 3) := dcO tk_X3_init_0 8 rfl
theorem dX3_init_17 : decode cX3_init 17 = .ok (.aload_n 0, 1) := dcO tk_X3_init_0 9 rfl
theorem dX3_init_18 : decode cX3_init 18 = .ok (.bipush 121, 2) := dcO tk_X3_init_0 10 rfl
theorem dX3_init_20 : decode cX3_init 20 = .ok (.newarray .int, 2) := dcO tk_X3_init_0 11 rfl
theorem dX3_init_22 : decode cX3_init 22 = .ok (.putfield 19, 3) := dcO tk_X3_init_0 12 rfl
theorem dX3_init_25 : decode cX3_init 25 = .ok (.aload_n 0, 1) := dcO tk_X3_init_0 13 rfl
theorem dX3_init_26 : decode cX3_init 26 = .ok (.bipush 121, 2) := dcO tk_X3_init_0 14 rfl
theorem dX3_init_28 : decode cX3_init 28 = .ok (.newarray .int, 2) := dcO tk_X3_init_0 15 rfl
theorem dX3_init_30 : decode cX3_init 30 = .ok (.putfield 22, 3) := dcO tk_X3_init_0 16 rfl
theorem dX3_init_33 : decode cX3_init 33 = .ok (.aload_n 0, 1) := dcO tk_X3_init_0 17 rfl
theorem dX3_init_34 : decode cX3_init 34 = .ok (.bipush 121, 2) := dcO tk_X3_init_0 18 rfl
theorem dX3_init_36 : decode cX3_init 36 = .ok (.newarray .int, 2) := dcO tk_X3_init_0 19 rfl
theorem dX3_init_38 : decode cX3_init 38 = .ok (.putfield 25, 3) := dcO tk_X3_init_0 20 rfl
theorem dX3_init_41 : decode cX3_init 41 = .ok (.aload_n 0, 1) := dcO tk_X3_init_0 21 rfl
theorem dX3_init_42 : decode cX3_init 42 = .ok (.bipush 121, 2) := dcO tk_X3_init_0 22 rfl
theorem dX3_init_44 : decode cX3_init 44 = .ok (.newarray .int, 2) := dcO tk_X3_init_0 23 rfl
theorem dX3_init_46 : decode cX3_init 46 = .ok (.putfield 28, 3) := dcO tk_X3_init_0 24 rfl
theorem dX3_init_49 : decode cX3_init 49 = .ok (.aload_n 0, 1) := dcO tk_X3_init_0 25 rfl
theorem dX3_init_50 : decode cX3_init 50 = .ok (.iconst 0, 1) := dcO tk_X3_init_0 26 rfl
theorem dX3_init_51 : decode cX3_init 51 = .ok (.putfield 31, 3) := dcO tk_X3_init_0 27 rfl
theorem dX3_init_54 : decode cX3_init 54 = .ok (.return_, 1) := dcO tk_X3_init_0 28 rfl
abbrev tb_X3_append_0 : List (Nat × Instr × Nat) := [(0, .aload_n 0, 1), (1, .getfield 9, 3), (4, .iload_n 2, 1), (5, .iadd, 1), (6, .bipush 120, 2), (8, .if_icmp .le 5, 3), (11, .iconst 0, 1), (12, .ireturn, 1), (13, .iload_n 2, 1), (14, .iconst 1, 1), (15, .isub, 1), (16, .istore_n 3, 1), (17, .iload_n 3, 1), (18, .ifCond .lt 38, 3), (21, .aload_n 0, 1), (22, .getfield 15, 3), (25, .aload_n 0, 1), (26, .getfield 9, 3), (29, .iload_n 1, 1), (30, .bipush 8, 2), (32, .iload_n 3, 1), (33, .imul, 1), (34, .ishr, 1), (35, .sipush 255, 3), (38, .iand, 1), (39, .iastore, 1), (40, .aload_n 0, 1), (41, .dup, 1), (42, .getfield 9, 3), (45, .iconst 1, 1), (46, .iadd, 1), (47, .putfield 9, 3), (50, .iinc 3 (-1), 3), (53, .goto (-36), 3), (56, .iconst 1, 1), (57, .ireturn, 1)]
theorem tk_X3_append_0 : dcA cX3_append tb_X3_append_0 = true := by decide +kernel
theorem dX3_append_0 : decode cX3_append 0 = .ok (.aload_n 0, 1) := dcO tk_X3_append_0 0 rfl
theorem dX3_append_1 : decode cX3_append 1 = .ok (.getfield 9, 3) := dcO tk_X3_append_0 1 rfl
theorem dX3_append_4 : decode cX3_append 4 = .ok (.iload_n 2, 1) := dcO tk_X3_append_0 2 rfl
theorem dX3_append_5 : decode cX3_append 5 = .ok (.iadd, 1) := dcO tk_X3_append_0 3 rfl
theorem dX3_append_6 : decode cX3_append 6 = .ok (.bipush 120, 2) := dcO tk_X3_append_0 4 rfl
theorem dX3_append_8 : decode cX3_append 8 = .ok (.if_icmp .le 5, 3) := dcO tk_X3_append_0 5 rfl
theorem dX3_append_11 : decode cX3_append 11 = .ok (.iconst 0, 1) := dcO tk_X3_append_0 6 rfl
theorem dX3_append_12 : decode cX3_append 12 = .ok (.ireturn, 1) := dcO tk_X3_append_0 7 rfl
theorem dX3_append_13 : decode cX3_append 13 = .ok (.iload_n 2, 1) := dcO tk_X3_append_0 8 rfl
theorem dX3_append_14 : decode cX3_append 14 = .ok (.iconst 1, 1) := dcO tk_X3_append_0 9 rfl
theorem dX3_append_15 : decode cX3_append 15 = .ok (.isub, 1) := dcO tk_X3_append_0 10 rfl
theorem dX3_append_16 : decode cX3_append 16 = .ok (.istore_n 3, 1) := dcO tk_X3_append_0 11 rfl
theorem dX3_append_17 : decode cX3_append 17 = .ok (.iload_n 3, 1) := dcO tk_X3_append_0 12 rfl
theorem dX3_append_18 : decode cX3_append 18 = .ok (.ifCond .lt 38, 3) := dcO tk_X3_append_0 13 rfl
theorem dX3_append_21 : decode cX3_append 21 = .ok (.aload_n 0, 1) := dcO tk_X3_append_0 14 rfl
theorem dX3_append_22 : decode cX3_append 22 = .ok (.getfield 15, 3) := dcO tk_X3_append_0 15 rfl
theorem dX3_append_25 : decode cX3_append 25 = .ok (.aload_n 0, 1) := dcO tk_X3_append_0 16 rfl
theorem dX3_append_26 : decode cX3_append 26 = .ok (.getfield 9, 3) := dcO tk_X3_append_0 17 rfl
theorem dX3_append_29 : decode cX3_append 29 = .ok (.iload_n 1, 1) := dcO tk_X3_append_0 18 rfl
theorem dX3_append_30 : decode cX3_append 30 = .ok (.bipush 8, 2) := dcO tk_X3_append_0 19 rfl
theorem dX3_append_32 : decode cX3_append 32 = .ok (.iload_n 3, 1) := dcO tk_X3_append_0 20 rfl
theorem dX3_append_33 : decode cX3_append 33 = .ok (.imul, 1) := dcO tk_X3_append_0 21 rfl
theorem dX3_append_34 : decode cX3_append 34 = .ok (.ishr, 1) := dcO tk_X3_append_0 22 rfl
theorem dX3_append_35 : decode cX3_append 35 = .ok (.sipush 255, 3) := dcO tk_X3_append_0 23 rfl
theorem dX3_append_38 : decode cX3_append 38 = .ok (.iand, 1) := dcO tk_X3_append_0 24 rfl
theorem dX3_append_39 : decode cX3_append 39 = .ok (.iastore, 1) := dcO tk_X3_append_0 25 rfl
theorem dX3_append_40 : decode cX3_append 40 = .ok (.aload_n 0, 1) := dcO tk_X3_append_0 26 rfl
theorem dX3_append_41 : decode cX3_append 41 = .ok (.dup, 1) := dcO tk_X3_append_0 27 rfl
theorem dX3_append_42 : decode cX3_append 42 = .ok (.getfield 9, 3) := dcO tk_X3_append_0 28 rfl
theorem dX3_append_45 : decode cX3_append 45 = .ok (.iconst 1, 1) := dcO tk_X3_append_0 29 rfl
theorem dX3_append_46 : decode cX3_append 46 = .ok (.iadd, 1) := dcO tk_X3_append_0 30 rfl
theorem dX3_append_47 : decode cX3_append 47 = .ok (.putfield 9, 3) := dcO tk_X3_append_0 31 rfl
theorem dX3_append_50 : decode cX3_append 50 = .ok (.iinc 3 (-1), 3) := dcO tk_X3_append_0 32 rfl
theorem dX3_append_53 : decode cX3_append 53 = .ok (.goto (-36), 3) := dcO tk_X3_append_0 33 rfl
theorem dX3_append_56 : decode cX3_append 56 = .ok (.iconst 1, 1) := dcO tk_X3_append_0 34 rfl
theorem dX3_append_57 : decode cX3_append 57 = .ok (.ireturn, 1) := dcO tk_X3_append_0 35 rfl
abbrev tb_X3_readInto_0 : List (Nat × Instr × Nat) := [(0, .aload_n 0, 1), (1, .invokevirtual 34, 3), (4, .aload_n 0, 1), (5, .iconst 0, 1), (6, .putfield 31, 3), (9, .iconst 1, 1), (10, .istore_n 2, 1), (11, .iload_n 2, 1), (12, .bipush 120, 2), (14, .if_icmp .gt 78, 3), (17, .aload_n 0, 1), (18, .aload_n 1, 1), (19, .invokevirtual 37, 3), (22, .ifCond .ne 15, 3), (25, .iconst (-1), 1), (26, .aload_n 0, 1), (27, .getfield 22, 3), (30, .aload_n 0, 1), (31, .getfield 31, 3), (34, .iaload, 1), (35, .isub, 1), (36, .ireturn, 1), (37, .aload_n 0, 1), (38, .getfield 19, 3), (41, .aload_n 0, 1), (42, .getfield 31, 3), (45, .iaload, 1), (46, .ifCond .ne 5, 3), (49, .iload_n 2, 1), (50, .ireturn, 1), (51, .aload_n 0, 1), (52, .getfield 19, 3), (55, .aload_n 0, 1), (56, .getfield 31, 3), (59, .iaload, 1), (60, .iconst 3, 1), (61, .if_icmp .eq 15, 3), (64, .iconst (-1), 1), (65, .aload_n 0, 1), (66, .getfield 22, 3)]
theorem tk_X3_readInto_0 : dcA cX3_readInto tb_X3_readInto_0 = true := by decide +kernel
theorem dX3_readInto_0 : decode cX3_readInto 0 = .ok (.aload_n 0, 1) := dcO tk_X3_readInto_0 0 rfl
theorem dX3_readInto_1 : decode cX3_readInto 1 = .ok (.invokevirtual 34, 3) := dcO tk_X3_readInto_0 1 rfl
theorem dX3_readInto_4 : decode cX3_readInto 4 = .ok (.aload_n 0, 1) := dcO tk_X3_readInto_0 2 rfl
theorem dX3_readInto_5 : decode cX3_readInto 5 = .ok (.iconst 0, 1) := dcO tk_X3_readInto_0 3 rfl
theorem dX3_readInto_6 : decode cX3_readInto 6 = .ok (.putfield 31, 3) := dcO tk_X3_readInto_0 4 rfl
theorem dX3_readInto_9 : decode cX3_readInto 9 = .ok (.iconst 1, 1) := dcO tk_X3_readInto_0 5 rfl
theorem dX3_readInto_10 : decode cX3_readInto 10 = .ok (.istore_n 2, 1) := dcO tk_X3_readInto_0 6 rfl
theorem dX3_readInto_11 : decode cX3_readInto 11 = .ok (.iload_n 2, 1) := dcO tk_X3_readInto_0 7 rfl
theorem dX3_readInto_12 : decode cX3_readInto 12 = .ok (.bipush 120, 2) := dcO tk_X3_readInto_0 8 rfl
theorem dX3_readInto_14 : decode cX3_readInto 14 = .ok (.if_icmp .gt 78, 3) := dcO tk_X3_readInto_0 9 rfl
theorem dX3_readInto_17 : decode cX3_readInto 17 = .ok (.aload_n 0, 1) := dcO tk_X3_readInto_0 10 rfl
theorem dX3_readInto_18 : decode cX3_readInto 18 = .ok (.aload_n 1, 1) := dcO tk_X3_readInto_0 11 rfl
theorem dX3_readInto_19 : decode cX3_readInto 19 = .ok (.invokevirtual 37, 3) := dcO tk_X3_readInto_0 12 rfl
theorem dX3_readInto_22 : decode cX3_readInto 22 = .ok (.ifCond .ne 15, 3) := dcO tk_X3_readInto_0 13 rfl
theorem dX3_readInto_25 : decode cX3_readInto 25 = .ok (.iconst (-1), 1) := dcO tk_X3_readInto_0 14 rfl
theorem dX3_readInto_26 : decode cX3_readInto 26 = .ok (.aload_n 0, 1) := dcO tk_X3_readInto_0 15 rfl
theorem dX3_readInto_27 : decode cX3_readInto 27 = .ok (.getfield 22, 3) := dcO tk_X3_readInto_0 16 rfl
theorem dX3_readInto_30 : decode cX3_readInto 30 = .ok (.aload_n 0, 1) := dcO tk_X3_readInto_0 17 rfl
theorem dX3_readInto_31 : decode cX3_readInto 31 = .ok (.getfield 31, 3) := dcO tk_X3_readInto_0 18 rfl
theorem dX3_readInto_34 : decode cX3_readInto 34 = .ok (.iaload, 1) := dcO tk_X3_readInto_0 19 rfl
theorem dX3_readInto_35 : decode cX3_readInto 35 = .ok (.isub, 1) := dcO tk_X3_readInto_0 20 rfl
theorem dX3_readInto_36 : decode cX3_readInto 36 = .ok (.ireturn, 1) := dcO tk_X3_readInto_0 21 rfl
theorem dX3_readInto_37 : decode cX3_readInto 37 = .ok (.aload_n 0, 1) := dcO tk_X3_readInto_0 22 rfl
theorem dX3_readInto_38 : decode cX3_readInto 38 = .ok (.getfield 19, 3) := dcO tk_X3_readInto_0 23 rfl
theorem dX3_readInto_41 : decode cX3_readInto 41 = .ok (.aload_n 0, 1) := dcO tk_X3_readInto_0 24 rfl
theorem dX3_readInto_42 : decode cX3_readInto 42 = .ok (.getfield 31, 3) := dcO tk_X3_readInto_0 25 rfl
theorem dX3_readInto_45 : decode cX3_readInto 45 = .ok (.iaload, 1) := dcO tk_X3_readInto_0 26 rfl
theorem dX3_readInto_46 : decode cX3_readInto 46 = .ok (.ifCond .ne 5, 3) := dcO tk_X3_readInto_0 27 rfl
theorem dX3_readInto_49 : decode cX3_readInto 49 = .ok (.iload_n 2, 1) := dcO tk_X3_readInto_0 28 rfl
theorem dX3_readInto_50 : decode cX3_readInto 50 = .ok (.ireturn, 1) := dcO tk_X3_readInto_0 29 rfl
theorem dX3_readInto_51 : decode cX3_readInto 51 = .ok (.aload_n 0, 1) := dcO tk_X3_readInto_0 30 rfl
theorem dX3_readInto_52 : decode cX3_readInto 52 = .ok (.getfield 19, 3) := dcO tk_X3_readInto_0 31 rfl
theorem dX3_readInto_55 : decode cX3_readInto 55 = .ok (.aload_n 0, 1) := dcO tk_X3_readInto_0 32 rfl
theorem dX3_readInto_56 : decode cX3_readInto 56 = .ok (.getfield 31, 3) := dcO tk_X3_readInto_0 33 rfl
theorem dX3_readInto_59 : decode cX3_readInto 59 = .ok (.iaload, 1) := dcO tk_X3_readInto_0 34 rfl
theorem dX3_readInto_60 : decode cX3_readInto 60 = .ok (.iconst 3, 1) := dcO tk_X3_readInto_0 35 rfl
theorem dX3_readInto_61 : decode cX3_readInto 61 = .ok (.if_icmp .eq 15, 3) := dcO tk_X3_readInto_0 36 rfl
theorem dX3_readInto_64 : decode cX3_readInto 64 = .ok (.iconst (-1), 1) := dcO tk_X3_readInto_0 37 rfl
theorem dX3_readInto_65 : decode cX3_readInto 65 = .ok (.aload_n 0, 1) := dcO tk_X3_readInto_0 38 rfl
theorem dX3_readInto_66 : decode cX3_readInto 66 = .ok (.getfield 22, 3) := dcO tk_X3_readInto_0 39 rfl
abbrev tb_X3_readInto_1 : List (Nat × Instr × Nat) := [(69, .aload_n 0, 1), (70, .getfield 31, 3), (73, .iaload, 1), (74, .isub, 1), (75, .ireturn, 1), (76, .aload_n 0, 1), (77, .dup, 1), (78, .getfield 31, 3), (81, .iconst 1, 1), (82, .iadd, 1), (83, .putfield 31, 3), (86, .iinc 2 1, 3), (89, .goto (-78), 3), (92, .iconst (-1), 1), (93, .aload_n 0, 1), (94, .getfield 22, 3), (97, .aload_n 0, 1), (98, .getfield 31, 3), (101, .iaload, 1), (102, .isub, 1), (103, .ireturn, 1)]
theorem tk_X3_readInto_1 : dcA cX3_readInto tb_X3_readInto_1 = true := by decide +kernel
theorem dX3_readInto_69 : decode cX3_readInto 69 = .ok (.aload_n 0, 1) := dcO tk_X3_readInto_1 0 rfl
theorem dX3_readInto_70 : decode cX3_readInto 70 = .ok (.getfield 31, 3) := dcO tk_X3_readInto_1 1 rfl
theorem dX3_readInto_73 : decode cX3_readInto 73 = .ok (.iaload, 1) := dcO tk_X3_readInto_1 2 rfl
theorem dX3_readInto_74 : decode cX3_readInto 74 = .ok (.isub, 1) := dcO tk_X3_readInto_1 3 rfl
theorem dX3_readInto_75 : decode cX3_readInto 75 = .ok (.ireturn, 1) := dcO tk_X3_readInto_1 4 rfl
theorem dX3_readInto_76 : decode cX3_readInto 76 = .ok (.aload_n 0, 1) := dcO tk_X3_readInto_1 5 rfl
theorem dX3_readInto_77 : decode cX3_readInto 77 = .ok (.dup, 1) := dcO tk_X3_readInto_1 6 rfl
theorem dX3_readInto_78 : decode cX3_readInto 78 = .ok (.getfield 31, 3) := dcO tk_X3_readInto_1 7 rfl
theorem dX3_readInto_81 : decode cX3_readInto 81 = .ok (.iconst 1, 1) := dcO tk_X3_readInto_1 8 rfl
theorem dX3_readInto_82 : decode cX3_readInto 82 = .ok (.iadd, 1) := dcO tk_X3_readInto_1 9 rfl
theorem dX3_readInto_83 : decode cX3_readInto 83 = .ok (.putfield 31, 3) := dcO tk_X3_readInto_1 10 rfl
theorem dX3_readInto_86 : decode cX3_readInto 86 = .ok (.iinc 2 1, 3) := dcO tk_X3_readInto_1 11 rfl
theorem dX3_readInto_89 : decode cX3_readInto 89 = .ok (.goto (-78), 3) := dcO tk_X3_readInto_1 12 rfl
theorem dX3_readInto_92 : decode cX3_readInto 92 = .ok (.iconst (-1), 1) := dcO tk_X3_readInto_1 13 rfl
theorem dX3_readInto_93 : decode cX3_readInto 93 = .ok (.aload_n 0, 1) := dcO tk_X3_readInto_1 14 rfl
theorem dX3_readInto_94 : decode cX3_readInto 94 = .ok (.getfield 22, 3) := dcO tk_X3_readInto_1 15 rfl
theorem dX3_readInto_97 : decode cX3_readInto 97 = .ok (.aload_n 0, 1) := dcO tk_X3_readInto_1 16 rfl
theorem dX3_readInto_98 : decode cX3_readInto 98 = .ok (.getfield 31, 3) := dcO tk_X3_readInto_1 17 rfl
theorem dX3_readInto_101 : decode cX3_readInto 101 = .ok (.iaload, 1) := dcO tk_X3_readInto_1 18 rfl
theorem dX3_readInto_102 : decode cX3_readInto 102 = .ok (.isub, 1) := dcO tk_X3_readInto_1 19 rfl
theorem dX3_readInto_103 : decode cX3_readInto 103 = .ok (.ireturn, 1) := dcO tk_X3_readInto_1 20 rfl
abbrev tb_X3_cutTokens_0 : List (Nat × Instr × Nat) := [(0, .iconst 0, 1), (1, .istore_n 1, 1), (2, .iconst 0, 1), (3, .istore_n 2, 1), (4, .iconst 0, 1), (5, .istore_n 3, 1), (6, .iload_n 3, 1), (7, .aload_n 0, 1), (8, .getfield 9, 3), (11, .if_icmp .ge 35, 3), (14, .iload_n 3, 1), (15, .iload_n 2, 1), (16, .if_icmp .lt 24, 3), (19, .aload_n 0, 1), (20, .getfield 15, 3), (23, .iload_n 3, 1), (24, .iaload, 1), (25, .bipush 32, 2), (27, .if_icmp .eq 13, 3), (30, .aload_n 0, 1), (31, .iload_n 1, 1), (32, .iload_n 3, 1), (33, .invokevirtual 41, 3), (36, .istore_n 2, 1), (37, .iinc 1 1, 3), (40, .iinc 3 1, 3), (43, .goto (-37), 3), (46, .aload_n 0, 1), (47, .getfield 19, 3), (50, .iload_n 1, 1), (51, .iconst 0, 1), (52, .iastore, 1), (53, .aload_n 0, 1), (54, .getfield 22, 3), (57, .iload_n 1, 1), (58, .aload_n 0, 1), (59, .getfield 9, 3), (62, .iastore, 1), (63, .aload_n 0, 1), (64, .getfield 25, 3)]
theorem tk_X3_cutTokens_0 : dcA cX3_cutTokens tb_X3_cutTokens_0 = true := by decide +kernel
theorem dX3_cutTokens_0 : decode cX3_cutTokens 0 = .ok (.iconst 0, 1) := dcO tk_X3_cutTokens_0 0 rfl
theorem dX3_cutTokens_1 : decode cX3_cutTokens 1 = .ok (.istore_n 1, 1) := dcO tk_X3_cutTokens_0 1 rfl
theorem dX3_cutTokens_2 : decode cX3_cutTokens 2 = .ok (.iconst 0, 1) := dcO tk_X3_cutTokens_0 2 rfl
theorem dX3_cutTokens_3 : decode cX3_cutTokens 3 = .ok (.istore_n 2, 1) := dcO tk_X3_cutTokens_0 3 rfl
theorem dX3_cutTokens_4 : decode cX3_cutTokens 4 = .ok (.iconst 0, 1) := dcO tk_X3_cutTokens_0 4 rfl
theorem dX3_cutTokens_5 : decode cX3_cutTokens 5 = .ok (.istore_n 3, 1) := dcO tk_X3_cutTokens_0 5 rfl
theorem dX3_cutTokens_6 : decode cX3_cutTokens 6 = .ok (.iload_n 3, 1) := dcO tk_X3_cutTokens_0 6 rfl
theorem dX3_cutTokens_7 : decode cX3_cutTokens 7 = .ok (.aload_n 0, 1) := dcO tk_X3_cutTokens_0 7 rfl
theorem dX3_cutTokens_8 : decode cX3_cutTokens 8 = .ok (.getfield 9, 3) := dcO tk_X3_cutTokens_0 8 rfl
theorem dX3_cutTokens_11 : decode cX3_cutTokens 11 = .ok (.if_icmp .ge 35, 3) := dcO tk_X3_cutTokens_0 9 rfl
theorem dX3_cutTokens_14 : decode cX3_cutTokens 14 = .ok (.iload_n 3, 1) := dcO tk_X3_cutTokens_0 10 rfl
theorem dX3_cutTokens_15 : decode cX3_cutTokens 15 = .ok (.iload_n 2, 1) := dcO tk_X3_cutTokens_0 11 rfl
theorem dX3_cutTokens_16 : decode cX3_cutTokens 16 = .ok (.if_icmp .lt 24, 3) := dcO tk_X3_cutTokens_0 12 rfl
theorem dX3_cutTokens_19 : decode cX3_cutTokens 19 = .ok (.aload_n 0, 1) := dcO tk_X3_cutTokens_0 13 rfl
theorem dX3_cutTokens_20 : decode cX3_cutTokens 20 = .ok (.getfield 15, 3) := dcO tk_X3_cutTokens_0 14 rfl
theorem dX3_cutTokens_23 : decode cX3_cutTokens 23 = .ok (.iload_n 3, 1) := dcO tk_X3_cutTokens_0 15 rfl
theorem dX3_cutTokens_24 : decode cX3_cutTokens 24 = .ok (.iaload, 1) := dcO tk_X3_cutTokens_0 16 rfl
theorem dX3_cutTokens_25 : decode cX3_cutTokens 25 = .ok (.bipush 32, 2) := dcO tk_X3_cutTokens_0 17 rfl
theorem dX3_cutTokens_27 : decode cX3_cutTokens 27 = .ok (.if_icmp .eq 13, 3) := dcO tk_X3_cutTokens_0 18 rfl
theorem dX3_cutTokens_30 : decode cX3_cutTokens 30 = .ok (.aload_n 0, 1) := dcO tk_X3_cutTokens_0 19 rfl
theorem dX3_cutTokens_31 : decode cX3_cutTokens 31 = .ok (.iload_n 1, 1) := dcO tk_X3_cutTokens_0 20 rfl
theorem dX3_cutTokens_32 : decode cX3_cutTokens 32 = .ok (.iload_n 3, 1) := dcO tk_X3_cutTokens_0 21 rfl
theorem dX3_cutTokens_33 : decode cX3_cutTokens 33 = .ok (.invokevirtual 41, 3) := dcO tk_X3_cutTokens_0 22 rfl
theorem dX3_cutTokens_36 : decode cX3_cutTokens 36 = .ok (.istore_n 2, 1) := dcO tk_X3_cutTokens_0 23 rfl
theorem dX3_cutTokens_37 : decode cX3_cutTokens 37 = .ok (.iinc 1 1, 3) := dcO tk_X3_cutTokens_0 24 rfl
theorem dX3_cutTokens_40 : decode cX3_cutTokens 40 = .ok (.iinc 3 1, 3) := dcO tk_X3_cutTokens_0 25 rfl
theorem dX3_cutTokens_43 : decode cX3_cutTokens 43 = .ok (.goto (-37), 3) := dcO tk_X3_cutTokens_0 26 rfl
theorem dX3_cutTokens_46 : decode cX3_cutTokens 46 = .ok (.aload_n 0, 1) := dcO tk_X3_cutTokens_0 27 rfl
theorem dX3_cutTokens_47 : decode cX3_cutTokens 47 = .ok (.getfield 19, 3) := dcO tk_X3_cutTokens_0 28 rfl
theorem dX3_cutTokens_50 : decode cX3_cutTokens 50 = .ok (.iload_n 1, 1) := dcO tk_X3_cutTokens_0 29 rfl
theorem dX3_cutTokens_51 : decode cX3_cutTokens 51 = .ok (.iconst 0, 1) := dcO tk_X3_cutTokens_0 30 rfl
theorem dX3_cutTokens_52 : decode cX3_cutTokens 52 = .ok (.iastore, 1) := dcO tk_X3_cutTokens_0 31 rfl
theorem dX3_cutTokens_53 : decode cX3_cutTokens 53 = .ok (.aload_n 0, 1) := dcO tk_X3_cutTokens_0 32 rfl
theorem dX3_cutTokens_54 : decode cX3_cutTokens 54 = .ok (.getfield 22, 3) := dcO tk_X3_cutTokens_0 33 rfl
theorem dX3_cutTokens_57 : decode cX3_cutTokens 57 = .ok (.iload_n 1, 1) := dcO tk_X3_cutTokens_0 34 rfl
theorem dX3_cutTokens_58 : decode cX3_cutTokens 58 = .ok (.aload_n 0, 1) := dcO tk_X3_cutTokens_0 35 rfl
theorem dX3_cutTokens_59 : decode cX3_cutTokens 59 = .ok (.getfield 9, 3) := dcO tk_X3_cutTokens_0 36 rfl
theorem dX3_cutTokens_62 : decode cX3_cutTokens 62 = .ok (.iastore, 1) := dcO tk_X3_cutTokens_0 37 rfl
theorem dX3_cutTokens_63 : decode cX3_cutTokens 63 = .ok (.aload_n 0, 1) := dcO tk_X3_cutTokens_0 38 rfl
theorem dX3_cutTokens_64 : decode cX3_cutTokens 64 = .ok (.getfield 25, 3) := dcO tk_X3_cutTokens_0 39 rfl
abbrev tb_X3_cutTokens_1 : List (Nat × Instr × Nat) := [(67, .iload_n 1, 1), (68, .aload_n 0, 1), (69, .getfield 9, 3), (72, .iastore, 1), (73, .return_, 1)]
theorem tk_X3_cutTokens_1 : dcA cX3_cutTokens tb_X3_cutTokens_1 = true := by decide +kernel
theorem dX3_cutTokens_67 : decode cX3_cutTokens 67 = .ok (.iload_n 1, 1) := dcO tk_X3_cutTokens_1 0 rfl
theorem dX3_cutTokens_68 : decode cX3_cutTokens 68 = .ok (.aload_n 0, 1) := dcO tk_X3_cutTokens_1 1 rfl
theorem dX3_cutTokens_69 : decode cX3_cutTokens 69 = .ok (.getfield 9, 3) := dcO tk_X3_cutTokens_1 2 rfl
theorem dX3_cutTokens_72 : decode cX3_cutTokens 72 = .ok (.iastore, 1) := dcO tk_X3_cutTokens_1 3 rfl
theorem dX3_cutTokens_73 : decode cX3_cutTokens 73 = .ok (.return_, 1) := dcO tk_X3_cutTokens_1 4 rfl
abbrev tb_X3_cutToken_0 : List (Nat × Instr × Nat) := [(0, .aload_n 0, 1), (1, .getfield 15, 3), (4, .iload_n 2, 1), (5, .iaload, 1), (6, .invokestatic 45, 3), (9, .istore_n 3, 1), (10, .iload_n 3, 1), (11, .iconst 1, 1), (12, .if_icmp .eq 8, 3), (15, .iload_n 3, 1), (16, .iconst 2, 1), (17, .if_icmp .ne 7, 3), (20, .iconst 1, 1), (21, .goto 4, 3), (24, .iconst 0, 1), (25, .istore 4, 2), (27, .iload_n 2, 1), (28, .iconst 1, 1), (29, .iadd, 1), (30, .istore 5, 2), (32, .iload 4, 2), (34, .ifCond .eq 32, 3), (37, .iload 5, 2), (39, .aload_n 0, 1), (40, .getfield 9, 3), (43, .if_icmp .ge 23, 3), (46, .aload_n 0, 1), (47, .getfield 15, 3), (50, .iload 5, 2), (52, .iaload, 1), (53, .invokestatic 45, 3), (56, .iload_n 3, 1), (57, .if_icmp .ne 9, 3), (60, .iinc 5 1, 3), (63, .goto (-31), 3), (66, .aload_n 0, 1), (67, .getfield 19, 3), (70, .iload_n 1, 1), (71, .iload_n 3, 1), (72, .iastore, 1)]
theorem tk_X3_cutToken_0 : dcA cX3_cutToken tb_X3_cutToken_0 = true := by decide +kernel
theorem dX3_cutToken_0 : decode cX3_cutToken 0 = .ok (.aload_n 0, 1) := dcO tk_X3_cutToken_0 0 rfl
theorem dX3_cutToken_1 : decode cX3_cutToken 1 = .ok (.getfield 15, 3) := dcO tk_X3_cutToken_0 1 rfl
theorem dX3_cutToken_4 : decode cX3_cutToken 4 = .ok (.iload_n 2, 1) := dcO tk_X3_cutToken_0 2 rfl
theorem dX3_cutToken_5 : decode cX3_cutToken 5 = .ok (.iaload, 1) := dcO tk_X3_cutToken_0 3 rfl
theorem dX3_cutToken_6 : decode cX3_cutToken 6 = .ok (.invokestatic 45, 3) := dcO tk_X3_cutToken_0 4 rfl
theorem dX3_cutToken_9 : decode cX3_cutToken 9 = .ok (.istore_n 3, 1) := dcO tk_X3_cutToken_0 5 rfl
theorem dX3_cutToken_10 : decode cX3_cutToken 10 = .ok (.iload_n 3, 1) := dcO tk_X3_cutToken_0 6 rfl
theorem dX3_cutToken_11 : decode cX3_cutToken 11 = .ok (.iconst 1, 1) := dcO tk_X3_cutToken_0 7 rfl
theorem dX3_cutToken_12 : decode cX3_cutToken 12 = .ok (.if_icmp .eq 8, 3) := dcO tk_X3_cutToken_0 8 rfl
theorem dX3_cutToken_15 : decode cX3_cutToken 15 = .ok (.iload_n 3, 1) := dcO tk_X3_cutToken_0 9 rfl
theorem dX3_cutToken_16 : decode cX3_cutToken 16 = .ok (.iconst 2, 1) := dcO tk_X3_cutToken_0 10 rfl
theorem dX3_cutToken_17 : decode cX3_cutToken 17 = .ok (.if_icmp .ne 7, 3) := dcO tk_X3_cutToken_0 11 rfl
theorem dX3_cutToken_20 : decode cX3_cutToken 20 = .ok (.iconst 1, 1) := dcO tk_X3_cutToken_0 12 rfl
theorem dX3_cutToken_21 : decode cX3_cutToken 21 = .ok (.goto 4, 3) := dcO tk_X3_cutToken_0 13 rfl
theorem dX3_cutToken_24 : decode cX3_cutToken 24 = .ok (.iconst 0, 1) := dcO tk_X3_cutToken_0 14 rfl
theorem dX3_cutToken_25 : decode cX3_cutToken 25 = .ok (.istore 4, 2) := dcO tk_X3_cutToken_0 15 rfl
theorem dX3_cutToken_27 : decode cX3_cutToken 27 = .ok (.iload_n 2, 1) := dcO tk_X3_cutToken_0 16 rfl
theorem dX3_cutToken_28 : decode cX3_cutToken 28 = .ok (.iconst 1, 1) := dcO tk_X3_cutToken_0 17 rfl
theorem dX3_cutToken_29 : decode cX3_cutToken 29 = .ok (.iadd, 1) := dcO tk_X3_cutToken_0 18 rfl
theorem dX3_cutToken_30 : decode cX3_cutToken 30 = .ok (.istore 5, 2) := dcO tk_X3_cutToken_0 19 rfl
theorem dX3_cutToken_32 : decode cX3_cutToken 32 = .ok (.iload 4, 2) := dcO tk_X3_cutToken_0 20 rfl
theorem dX3_cutToken_34 : decode cX3_cutToken 34 = .ok (.ifCond .eq 32, 3) := dcO tk_X3_cutToken_0 21 rfl
theorem dX3_cutToken_37 : decode cX3_cutToken 37 = .ok (.iload 5, 2) := dcO tk_X3_cutToken_0 22 rfl
theorem dX3_cutToken_39 : decode cX3_cutToken 39 = .ok (.aload_n 0, 1) := dcO tk_X3_cutToken_0 23 rfl
theorem dX3_cutToken_40 : decode cX3_cutToken 40 = .ok (.getfield 9, 3) := dcO tk_X3_cutToken_0 24 rfl
theorem dX3_cutToken_43 : decode cX3_cutToken 43 = .ok (.if_icmp .ge 23, 3) := dcO tk_X3_cutToken_0 25 rfl
theorem dX3_cutToken_46 : decode cX3_cutToken 46 = .ok (.aload_n 0, 1) := dcO tk_X3_cutToken_0 26 rfl
theorem dX3_cutToken_47 : decode cX3_cutToken 47 = .ok (.getfield 15, 3) := dcO tk_X3_cutToken_0 27 rfl
theorem dX3_cutToken_50 : decode cX3_cutToken 50 = .ok (.iload 5, 2) := dcO tk_X3_cutToken_0 28 rfl
theorem dX3_cutToken_52 : decode cX3_cutToken 52 = .ok (.iaload, 1) := dcO tk_X3_cutToken_0 29 rfl
theorem dX3_cutToken_53 : decode cX3_cutToken 53 = .ok (.invokestatic 45, 3) := dcO tk_X3_cutToken_0 30 rfl
theorem dX3_cutToken_56 : decode cX3_cutToken 56 = .ok (.iload_n 3, 1) := dcO tk_X3_cutToken_0 31 rfl
theorem dX3_cutToken_57 : decode cX3_cutToken 57 = .ok (.if_icmp .ne 9, 3) := dcO tk_X3_cutToken_0 32 rfl
theorem dX3_cutToken_60 : decode cX3_cutToken 60 = .ok (.iinc 5 1, 3) := dcO tk_X3_cutToken_0 33 rfl
theorem dX3_cutToken_63 : decode cX3_cutToken 63 = .ok (.goto (-31), 3) := dcO tk_X3_cutToken_0 34 rfl
theorem dX3_cutToken_66 : decode cX3_cutToken 66 = .ok (.aload_n 0, 1) := dcO tk_X3_cutToken_0 35 rfl
theorem dX3_cutToken_67 : decode cX3_cutToken 67 = .ok (.getfield 19, 3) := dcO tk_X3_cutToken_0 36 rfl
theorem dX3_cutToken_70 : decode cX3_cutToken 70 = .ok (.iload_n 1, 1) := dcO tk_X3_cutToken_0 37 rfl
theorem dX3_cutToken_71 : decode cX3_cutToken 71 = .ok (.iload_n 3, 1) := dcO tk_X3_cutToken_0 38 rfl
theorem dX3_cutToken_72 : decode cX3_cutToken 72 = .ok (.iastore, 1) := dcO tk_X3_cutToken_0 39 rfl
abbrev tb_X3_cutToken_1 : List (Nat × Instr × Nat) := [(73, .aload_n 0, 1), (74, .getfield 22, 3), (77, .iload_n 1, 1), (78, .iload_n 2, 1), (79, .iastore, 1), (80, .aload_n 0, 1), (81, .getfield 25, 3), (84, .iload_n 1, 1), (85, .iload 5, 2), (87, .iastore, 1), (88, .aload_n 0, 1), (89, .getfield 28, 3), (92, .iload_n 1, 1), (93, .iload_n 3, 1), (94, .iconst 2, 1), (95, .if_icmp .ne 13, 3), (98, .aload_n 0, 1), (99, .iload_n 2, 1), (100, .iload 5, 2), (102, .invokevirtual 49, 3), (105, .goto 4, 3), (108, .iconst 0, 1), (109, .iastore, 1), (110, .iload 5, 2), (112, .ireturn, 1)]
theorem tk_X3_cutToken_1 : dcA cX3_cutToken tb_X3_cutToken_1 = true := by decide +kernel
theorem dX3_cutToken_73 : decode cX3_cutToken 73 = .ok (.aload_n 0, 1) := dcO tk_X3_cutToken_1 0 rfl
theorem dX3_cutToken_74 : decode cX3_cutToken 74 = .ok (.getfield 22, 3) := dcO tk_X3_cutToken_1 1 rfl
theorem dX3_cutToken_77 : decode cX3_cutToken 77 = .ok (.iload_n 1, 1) := dcO tk_X3_cutToken_1 2 rfl
theorem dX3_cutToken_78 : decode cX3_cutToken 78 = .ok (.iload_n 2, 1) := dcO tk_X3_cutToken_1 3 rfl
theorem dX3_cutToken_79 : decode cX3_cutToken 79 = .ok (.iastore, 1) := dcO tk_X3_cutToken_1 4 rfl
theorem dX3_cutToken_80 : decode cX3_cutToken 80 = .ok (.aload_n 0, 1) := dcO tk_X3_cutToken_1 5 rfl
theorem dX3_cutToken_81 : decode cX3_cutToken 81 = .ok (.getfield 25, 3) := dcO tk_X3_cutToken_1 6 rfl
theorem dX3_cutToken_84 : decode cX3_cutToken 84 = .ok (.iload_n 1, 1) := dcO tk_X3_cutToken_1 7 rfl
theorem dX3_cutToken_85 : decode cX3_cutToken 85 = .ok (.iload 5, 2) := dcO tk_X3_cutToken_1 8 rfl
theorem dX3_cutToken_87 : decode cX3_cutToken 87 = .ok (.iastore, 1) := dcO tk_X3_cutToken_1 9 rfl
theorem dX3_cutToken_88 : decode cX3_cutToken 88 = .ok (.aload_n 0, 1) := dcO tk_X3_cutToken_1 10 rfl
theorem dX3_cutToken_89 : decode cX3_cutToken 89 = .ok (.getfield 28, 3) := dcO tk_X3_cutToken_1 11 rfl
theorem dX3_cutToken_92 : decode cX3_cutToken 92 = .ok (.iload_n 1, 1) := dcO tk_X3_cutToken_1 12 rfl
theorem dX3_cutToken_93 : decode cX3_cutToken 93 = .ok (.iload_n 3, 1) := dcO tk_X3_cutToken_1 13 rfl
theorem dX3_cutToken_94 : decode cX3_cutToken 94 = .ok (.iconst 2, 1) := dcO tk_X3_cutToken_1 14 rfl
theorem dX3_cutToken_95 : decode cX3_cutToken 95 = .ok (.if_icmp .ne 13, 3) := dcO tk_X3_cutToken_1 15 rfl
theorem dX3_cutToken_98 : decode cX3_cutToken 98 = .ok (.aload_n 0, 1) := dcO tk_X3_cutToken_1 16 rfl
theorem dX3_cutToken_99 : decode cX3_cutToken 99 = .ok (.iload_n 2, 1) := dcO tk_X3_cutToken_1 17 rfl
theorem dX3_cutToken_100 : decode cX3_cutToken 100 = .ok (.iload 5, 2) := dcO tk_X3_cutToken_1 18 rfl
theorem dX3_cutToken_102 : decode cX3_cutToken 102 = .ok (.invokevirtual 49, 3) := dcO tk_X3_cutToken_1 19 rfl
theorem dX3_cutToken_105 : decode cX3_cutToken 105 = .ok (.goto 4, 3) := dcO tk_X3_cutToken_1 20 rfl
theorem dX3_cutToken_108 : decode cX3_cutToken 108 = .ok (.iconst 0, 1) := dcO tk_X3_cutToken_1 21 rfl
theorem dX3_cutToken_109 : decode cX3_cutToken 109 = .ok (.iastore, 1) := dcO tk_X3_cutToken_1 22 rfl
theorem dX3_cutToken_110 : decode cX3_cutToken 110 = .ok (.iload 5, 2) := dcO tk_X3_cutToken_1 23 rfl
theorem dX3_cutToken_112 : decode cX3_cutToken 112 = .ok (.ireturn, 1) := dcO tk_X3_cutToken_1 24 rfl
abbrev tb_X3_sortOf_0 : List (Nat × Instr × Nat) := [(0, .iload_n 0, 1), (1, .bipush 97, 2), (3, .if_icmp .lt 11, 3), (6, .iload_n 0, 1), (7, .bipush 122, 2), (9, .if_icmp .gt 5, 3), (12, .iconst 1, 1), (13, .ireturn, 1), (14, .iload_n 0, 1), (15, .bipush 48, 2), (17, .if_icmp .lt 11, 3), (20, .iload_n 0, 1), (21, .bipush 57, 2), (23, .if_icmp .gt 5, 3), (26, .iconst 2, 1), (27, .ireturn, 1), (28, .iload_n 0, 1), (29, .bipush 59, 2), (31, .if_icmp .ne 7, 3), (34, .iconst 3, 1), (35, .goto 4, 3), (38, .iconst 4, 1), (39, .ireturn, 1)]
theorem tk_X3_sortOf_0 : dcA cX3_sortOf tb_X3_sortOf_0 = true := by decide +kernel
theorem dX3_sortOf_0 : decode cX3_sortOf 0 = .ok (.iload_n 0, 1) := dcO tk_X3_sortOf_0 0 rfl
theorem dX3_sortOf_1 : decode cX3_sortOf 1 = .ok (.bipush 97, 2) := dcO tk_X3_sortOf_0 1 rfl
theorem dX3_sortOf_3 : decode cX3_sortOf 3 = .ok (.if_icmp .lt 11, 3) := dcO tk_X3_sortOf_0 2 rfl
theorem dX3_sortOf_6 : decode cX3_sortOf 6 = .ok (.iload_n 0, 1) := dcO tk_X3_sortOf_0 3 rfl
theorem dX3_sortOf_7 : decode cX3_sortOf 7 = .ok (.bipush 122, 2) := dcO tk_X3_sortOf_0 4 rfl
theorem dX3_sortOf_9 : decode cX3_sortOf 9 = .ok (.if_icmp .gt 5, 3) := dcO tk_X3_sortOf_0 5 rfl
theorem dX3_sortOf_12 : decode cX3_sortOf 12 = .ok (.iconst 1, 1) := dcO tk_X3_sortOf_0 6 rfl
theorem dX3_sortOf_13 : decode cX3_sortOf 13 = .ok (.ireturn, 1) := dcO tk_X3_sortOf_0 7 rfl
theorem dX3_sortOf_14 : decode cX3_sortOf 14 = .ok (.iload_n 0, 1) := dcO tk_X3_sortOf_0 8 rfl
theorem dX3_sortOf_15 : decode cX3_sortOf 15 = .ok (.bipush 48, 2) := dcO tk_X3_sortOf_0 9 rfl
theorem dX3_sortOf_17 : decode cX3_sortOf 17 = .ok (.if_icmp .lt 11, 3) := dcO tk_X3_sortOf_0 10 rfl
theorem dX3_sortOf_20 : decode cX3_sortOf 20 = .ok (.iload_n 0, 1) := dcO tk_X3_sortOf_0 11 rfl
theorem dX3_sortOf_21 : decode cX3_sortOf 21 = .ok (.bipush 57, 2) := dcO tk_X3_sortOf_0 12 rfl
theorem dX3_sortOf_23 : decode cX3_sortOf 23 = .ok (.if_icmp .gt 5, 3) := dcO tk_X3_sortOf_0 13 rfl
theorem dX3_sortOf_26 : decode cX3_sortOf 26 = .ok (.iconst 2, 1) := dcO tk_X3_sortOf_0 14 rfl
theorem dX3_sortOf_27 : decode cX3_sortOf 27 = .ok (.ireturn, 1) := dcO tk_X3_sortOf_0 15 rfl
theorem dX3_sortOf_28 : decode cX3_sortOf 28 = .ok (.iload_n 0, 1) := dcO tk_X3_sortOf_0 16 rfl
theorem dX3_sortOf_29 : decode cX3_sortOf 29 = .ok (.bipush 59, 2) := dcO tk_X3_sortOf_0 17 rfl
theorem dX3_sortOf_31 : decode cX3_sortOf 31 = .ok (.if_icmp .ne 7, 3) := dcO tk_X3_sortOf_0 18 rfl
theorem dX3_sortOf_34 : decode cX3_sortOf 34 = .ok (.iconst 3, 1) := dcO tk_X3_sortOf_0 19 rfl
theorem dX3_sortOf_35 : decode cX3_sortOf 35 = .ok (.goto 4, 3) := dcO tk_X3_sortOf_0 20 rfl
theorem dX3_sortOf_38 : decode cX3_sortOf 38 = .ok (.iconst 4, 1) := dcO tk_X3_sortOf_0 21 rfl
theorem dX3_sortOf_39 : decode cX3_sortOf 39 = .ok (.ireturn, 1) := dcO tk_X3_sortOf_0 22 rfl
abbrev tb_X3_valueOf_0 : List (Nat × Instr × Nat) := [(0, .iconst 0, 1), (1, .istore_n 3, 1), (2, .iload_n 1, 1), (3, .istore 4, 2), (5, .iload 4, 2), (7, .iload_n 2, 1), (8, .if_icmp .ge 31, 3), (11, .iload_n 3, 1), (12, .bipush 10, 2), (14, .imul, 1), (15, .aload_n 0, 1), (16, .getfield 15, 3), (19, .iload 4, 2), (21, .iaload, 1), (22, .iadd, 1), (23, .bipush 48, 2), (25, .isub, 1), (26, .sipush 1000, 3), (29, .invokestatic 52, 3), (32, .istore_n 3, 1), (33, .iinc 4 1, 3), (36, .goto (-31), 3), (39, .iload_n 3, 1), (40, .ireturn, 1)]
theorem tk_X3_valueOf_0 : dcA cX3_valueOf tb_X3_valueOf_0 = true := by decide +kernel
theorem dX3_valueOf_0 : decode cX3_valueOf 0 = .ok (.iconst 0, 1) := dcO tk_X3_valueOf_0 0 rfl
theorem dX3_valueOf_1 : decode cX3_valueOf 1 = .ok (.istore_n 3, 1) := dcO tk_X3_valueOf_0 1 rfl
theorem dX3_valueOf_2 : decode cX3_valueOf 2 = .ok (.iload_n 1, 1) := dcO tk_X3_valueOf_0 2 rfl
theorem dX3_valueOf_3 : decode cX3_valueOf 3 = .ok (.istore 4, 2) := dcO tk_X3_valueOf_0 3 rfl
theorem dX3_valueOf_5 : decode cX3_valueOf 5 = .ok (.iload 4, 2) := dcO tk_X3_valueOf_0 4 rfl
theorem dX3_valueOf_7 : decode cX3_valueOf 7 = .ok (.iload_n 2, 1) := dcO tk_X3_valueOf_0 5 rfl
theorem dX3_valueOf_8 : decode cX3_valueOf 8 = .ok (.if_icmp .ge 31, 3) := dcO tk_X3_valueOf_0 6 rfl
theorem dX3_valueOf_11 : decode cX3_valueOf 11 = .ok (.iload_n 3, 1) := dcO tk_X3_valueOf_0 7 rfl
theorem dX3_valueOf_12 : decode cX3_valueOf 12 = .ok (.bipush 10, 2) := dcO tk_X3_valueOf_0 8 rfl
theorem dX3_valueOf_14 : decode cX3_valueOf 14 = .ok (.imul, 1) := dcO tk_X3_valueOf_0 9 rfl
theorem dX3_valueOf_15 : decode cX3_valueOf 15 = .ok (.aload_n 0, 1) := dcO tk_X3_valueOf_0 10 rfl
theorem dX3_valueOf_16 : decode cX3_valueOf 16 = .ok (.getfield 15, 3) := dcO tk_X3_valueOf_0 11 rfl
theorem dX3_valueOf_19 : decode cX3_valueOf 19 = .ok (.iload 4, 2) := dcO tk_X3_valueOf_0 12 rfl
theorem dX3_valueOf_21 : decode cX3_valueOf 21 = .ok (.iaload, 1) := dcO tk_X3_valueOf_0 13 rfl
theorem dX3_valueOf_22 : decode cX3_valueOf 22 = .ok (.iadd, 1) := dcO tk_X3_valueOf_0 14 rfl
theorem dX3_valueOf_23 : decode cX3_valueOf 23 = .ok (.bipush 48, 2) := dcO tk_X3_valueOf_0 15 rfl
theorem dX3_valueOf_25 : decode cX3_valueOf 25 = .ok (.isub, 1) := dcO tk_X3_valueOf_0 16 rfl
theorem dX3_valueOf_26 : decode cX3_valueOf 26 = .ok (.sipush 1000, 3) := dcO tk_X3_valueOf_0 17 rfl
theorem dX3_valueOf_29 : decode cX3_valueOf 29 = .ok (.invokestatic 52, 3) := dcO tk_X3_valueOf_0 18 rfl
theorem dX3_valueOf_32 : decode cX3_valueOf 32 = .ok (.istore_n 3, 1) := dcO tk_X3_valueOf_0 19 rfl
theorem dX3_valueOf_33 : decode cX3_valueOf 33 = .ok (.iinc 4 1, 3) := dcO tk_X3_valueOf_0 20 rfl
theorem dX3_valueOf_36 : decode cX3_valueOf 36 = .ok (.goto (-31), 3) := dcO tk_X3_valueOf_0 21 rfl
theorem dX3_valueOf_39 : decode cX3_valueOf 39 = .ok (.iload_n 3, 1) := dcO tk_X3_valueOf_0 22 rfl
theorem dX3_valueOf_40 : decode cX3_valueOf 40 = .ok (.ireturn, 1) := dcO tk_X3_valueOf_0 23 rfl
abbrev tb_X3_readItem_0 : List (Nat × Instr × Nat) := [(0, .aload_n 0, 1), (1, .invokevirtual 57, 3), (4, .istore_n 2, 1), (5, .iload_n 2, 1), (6, .ifCond .lt 10, 3), (9, .aload_n 0, 1), (10, .aload_n 1, 1), (11, .iload_n 2, 1), (12, .invokevirtual 61, 3), (15, .ireturn, 1), (16, .aload_n 0, 1), (17, .ldc 65, 2), (19, .invokevirtual 67, 3), (22, .ifCond .eq 9, 3), (25, .aload_n 0, 1), (26, .aload_n 1, 1), (27, .invokevirtual 71, 3), (30, .ireturn, 1), (31, .aload_n 0, 1), (32, .ldc 74, 2), (34, .invokevirtual 67, 3), (37, .ifCond .eq 9, 3), (40, .aload_n 0, 1), (41, .aload_n 1, 1), (42, .invokevirtual 76, 3), (45, .ireturn, 1), (46, .aload_n 0, 1), (47, .ldc 79, 2), (49, .invokevirtual 67, 3), (52, .ifCond .eq 9, 3), (55, .aload_n 0, 1), (56, .aload_n 1, 1), (57, .invokevirtual 81, 3), (60, .ireturn, 1), (61, .aload_n 0, 1), (62, .ldc 84, 2), (64, .invokevirtual 67, 3), (67, .ifCond .eq 9, 3), (70, .aload_n 0, 1), (71, .aload_n 1, 1)]
theorem tk_X3_readItem_0 : dcA cX3_readItem tb_X3_readItem_0 = true := by decide +kernel
theorem dX3_readItem_0 : decode cX3_readItem 0 = .ok (.aload_n 0, 1) := dcO tk_X3_readItem_0 0 rfl
theorem dX3_readItem_1 : decode cX3_readItem 1 = .ok (.invokevirtual 57, 3) := dcO tk_X3_readItem_0 1 rfl
theorem dX3_readItem_4 : decode cX3_readItem 4 = .ok (.istore_n 2, 1) := dcO tk_X3_readItem_0 2 rfl
theorem dX3_readItem_5 : decode cX3_readItem 5 = .ok (.iload_n 2, 1) := dcO tk_X3_readItem_0 3 rfl
theorem dX3_readItem_6 : decode cX3_readItem 6 = .ok (.ifCond .lt 10, 3) := dcO tk_X3_readItem_0 4 rfl
theorem dX3_readItem_9 : decode cX3_readItem 9 = .ok (.aload_n 0, 1) := dcO tk_X3_readItem_0 5 rfl
theorem dX3_readItem_10 : decode cX3_readItem 10 = .ok (.aload_n 1, 1) := dcO tk_X3_readItem_0 6 rfl
theorem dX3_readItem_11 : decode cX3_readItem 11 = .ok (.iload_n 2, 1) := dcO tk_X3_readItem_0 7 rfl
theorem dX3_readItem_12 : decode cX3_readItem 12 = .ok (.invokevirtual 61, 3) := dcO tk_X3_readItem_0 8 rfl
theorem dX3_readItem_15 : decode cX3_readItem 15 = .ok (.ireturn, 1) := dcO tk_X3_readItem_0 9 rfl
theorem dX3_readItem_16 : decode cX3_readItem 16 = .ok (.aload_n 0, 1) := dcO tk_X3_readItem_0 10 rfl
theorem dX3_readItem_17 : decode cX3_readItem 17 = .ok (.ldc 65, 2) := dcO tk_X3_readItem_0 11 rfl
theorem dX3_readItem_19 : decode cX3_readItem 19 = .ok (.invokevirtual 67, 3) := dcO tk_X3_readItem_0 12 rfl
theorem dX3_readItem_22 : decode cX3_readItem 22 = .ok (.ifCond .eq 9, 3) := dcO tk_X3_readItem_0 13 rfl
theorem dX3_readItem_25 : decode cX3_readItem 25 = .ok (.aload_n 0, 1) := dcO tk_X3_readItem_0 14 rfl
theorem dX3_readItem_26 : decode cX3_readItem 26 = .ok (.aload_n 1, 1) := dcO tk_X3_readItem_0 15 rfl
theorem dX3_readItem_27 : decode cX3_readItem 27 = .ok (.invokevirtual 71, 3) := dcO tk_X3_readItem_0 16 rfl
theorem dX3_readItem_30 : decode cX3_readItem 30 = .ok (.ireturn, 1) := dcO tk_X3_readItem_0 17 rfl
theorem dX3_readItem_31 : decode cX3_readItem 31 = .ok (.aload_n 0, 1) := dcO tk_X3_readItem_0 18 rfl
theorem dX3_readItem_32 : decode cX3_readItem 32 = .ok (.ldc 74, 2) := dcO tk_X3_readItem_0 19 rfl
theorem dX3_readItem_34 : decode cX3_readItem 34 = .ok (.invokevirtual 67, 3) := dcO tk_X3_readItem_0 20 rfl
theorem dX3_readItem_37 : decode cX3_readItem 37 = .ok (.ifCond .eq 9, 3) := dcO tk_X3_readItem_0 21 rfl
theorem dX3_readItem_40 : decode cX3_readItem 40 = .ok (.aload_n 0, 1) := dcO tk_X3_readItem_0 22 rfl
theorem dX3_readItem_41 : decode cX3_readItem 41 = .ok (.aload_n 1, 1) := dcO tk_X3_readItem_0 23 rfl
theorem dX3_readItem_42 : decode cX3_readItem 42 = .ok (.invokevirtual 76, 3) := dcO tk_X3_readItem_0 24 rfl
theorem dX3_readItem_45 : decode cX3_readItem 45 = .ok (.ireturn, 1) := dcO tk_X3_readItem_0 25 rfl
theorem dX3_readItem_46 : decode cX3_readItem 46 = .ok (.aload_n 0, 1) := dcO tk_X3_readItem_0 26 rfl
theorem dX3_readItem_47 : decode cX3_readItem 47 = .ok (.ldc 79, 2) := dcO tk_X3_readItem_0 27 rfl
theorem dX3_readItem_49 : decode cX3_readItem 49 = .ok (.invokevirtual 67, 3) := dcO tk_X3_readItem_0 28 rfl
theorem dX3_readItem_52 : decode cX3_readItem 52 = .ok (.ifCond .eq 9, 3) := dcO tk_X3_readItem_0 29 rfl
theorem dX3_readItem_55 : decode cX3_readItem 55 = .ok (.aload_n 0, 1) := dcO tk_X3_readItem_0 30 rfl
theorem dX3_readItem_56 : decode cX3_readItem 56 = .ok (.aload_n 1, 1) := dcO tk_X3_readItem_0 31 rfl
theorem dX3_readItem_57 : decode cX3_readItem 57 = .ok (.invokevirtual 81, 3) := dcO tk_X3_readItem_0 32 rfl
theorem dX3_readItem_60 : decode cX3_readItem 60 = .ok (.ireturn, 1) := dcO tk_X3_readItem_0 33 rfl
theorem dX3_readItem_61 : decode cX3_readItem 61 = .ok (.aload_n 0, 1) := dcO tk_X3_readItem_0 34 rfl
theorem dX3_readItem_62 : decode cX3_readItem 62 = .ok (.ldc 84, 2) := dcO tk_X3_readItem_0 35 rfl
theorem dX3_readItem_64 : decode cX3_readItem 64 = .ok (.invokevirtual 67, 3) := dcO tk_X3_readItem_0 36 rfl
theorem dX3_readItem_67 : decode cX3_readItem 67 = .ok (.ifCond .eq 9, 3) := dcO tk_X3_readItem_0 37 rfl
theorem dX3_readItem_70 : decode cX3_readItem 70 = .ok (.aload_n 0, 1) := dcO tk_X3_readItem_0 38 rfl
theorem dX3_readItem_71 : decode cX3_readItem 71 = .ok (.aload_n 1, 1) := dcO tk_X3_readItem_0 39 rfl
abbrev tb_X3_readItem_1 : List (Nat × Instr × Nat) := [(72, .invokevirtual 86, 3), (75, .ireturn, 1), (76, .aload_n 0, 1), (77, .ldc 89, 2), (79, .invokevirtual 67, 3), (82, .ifCond .eq 15, 3), (85, .aload_n 0, 1), (86, .aload_n 1, 1), (87, .invokevirtual 91, 3), (90, .ifCond .eq 7, 3), (93, .iconst 1, 1), (94, .goto 4, 3), (97, .iconst 0, 1), (98, .ireturn, 1)]
theorem tk_X3_readItem_1 : dcA cX3_readItem tb_X3_readItem_1 = true := by decide +kernel
theorem dX3_readItem_72 : decode cX3_readItem 72 = .ok (.invokevirtual 86, 3) := dcO tk_X3_readItem_1 0 rfl
theorem dX3_readItem_75 : decode cX3_readItem 75 = .ok (.ireturn, 1) := dcO tk_X3_readItem_1 1 rfl
theorem dX3_readItem_76 : decode cX3_readItem 76 = .ok (.aload_n 0, 1) := dcO tk_X3_readItem_1 2 rfl
theorem dX3_readItem_77 : decode cX3_readItem 77 = .ok (.ldc 89, 2) := dcO tk_X3_readItem_1 3 rfl
theorem dX3_readItem_79 : decode cX3_readItem 79 = .ok (.invokevirtual 67, 3) := dcO tk_X3_readItem_1 4 rfl
theorem dX3_readItem_82 : decode cX3_readItem 82 = .ok (.ifCond .eq 15, 3) := dcO tk_X3_readItem_1 5 rfl
theorem dX3_readItem_85 : decode cX3_readItem 85 = .ok (.aload_n 0, 1) := dcO tk_X3_readItem_1 6 rfl
theorem dX3_readItem_86 : decode cX3_readItem 86 = .ok (.aload_n 1, 1) := dcO tk_X3_readItem_1 7 rfl
theorem dX3_readItem_87 : decode cX3_readItem 87 = .ok (.invokevirtual 91, 3) := dcO tk_X3_readItem_1 8 rfl
theorem dX3_readItem_90 : decode cX3_readItem 90 = .ok (.ifCond .eq 7, 3) := dcO tk_X3_readItem_1 9 rfl
theorem dX3_readItem_93 : decode cX3_readItem 93 = .ok (.iconst 1, 1) := dcO tk_X3_readItem_1 10 rfl
theorem dX3_readItem_94 : decode cX3_readItem 94 = .ok (.goto 4, 3) := dcO tk_X3_readItem_1 11 rfl
theorem dX3_readItem_97 : decode cX3_readItem 97 = .ok (.iconst 0, 1) := dcO tk_X3_readItem_1 12 rfl
theorem dX3_readItem_98 : decode cX3_readItem 98 = .ok (.ireturn, 1) := dcO tk_X3_readItem_1 13 rfl
abbrev tb_X3_kindNamed_0 : List (Nat × Instr × Nat) := [(0, .aload_n 0, 1), (1, .ldc 94, 2), (3, .invokevirtual 96, 3), (6, .ifCond .eq 5, 3), (9, .iconst 0, 1), (10, .ireturn, 1), (11, .aload_n 0, 1), (12, .ldc 99, 2), (14, .invokevirtual 96, 3), (17, .ifCond .eq 5, 3), (20, .iconst 1, 1), (21, .ireturn, 1), (22, .aload_n 0, 1), (23, .ldc 101, 2), (25, .invokevirtual 96, 3), (28, .ifCond .eq 5, 3), (31, .iconst 2, 1), (32, .ireturn, 1), (33, .aload_n 0, 1), (34, .ldc 103, 2), (36, .invokevirtual 96, 3), (39, .ifCond .eq 5, 3), (42, .iconst 3, 1), (43, .ireturn, 1), (44, .aload_n 0, 1), (45, .ldc 105, 2), (47, .invokevirtual 96, 3), (50, .ifCond .eq 5, 3), (53, .iconst 4, 1), (54, .ireturn, 1), (55, .aload_n 0, 1), (56, .ldc 107, 2), (58, .invokevirtual 96, 3), (61, .ifCond .eq 5, 3), (64, .iconst 5, 1), (65, .ireturn, 1), (66, .aload_n 0, 1), (67, .ldc 109, 2), (69, .invokevirtual 96, 3), (72, .ifCond .eq 8, 3)]
theorem tk_X3_kindNamed_0 : dcA cX3_kindNamed tb_X3_kindNamed_0 = true := by decide +kernel
theorem dX3_kindNamed_0 : decode cX3_kindNamed 0 = .ok (.aload_n 0, 1) := dcO tk_X3_kindNamed_0 0 rfl
theorem dX3_kindNamed_1 : decode cX3_kindNamed 1 = .ok (.ldc 94, 2) := dcO tk_X3_kindNamed_0 1 rfl
theorem dX3_kindNamed_3 : decode cX3_kindNamed 3 = .ok (.invokevirtual 96, 3) := dcO tk_X3_kindNamed_0 2 rfl
theorem dX3_kindNamed_6 : decode cX3_kindNamed 6 = .ok (.ifCond .eq 5, 3) := dcO tk_X3_kindNamed_0 3 rfl
theorem dX3_kindNamed_9 : decode cX3_kindNamed 9 = .ok (.iconst 0, 1) := dcO tk_X3_kindNamed_0 4 rfl
theorem dX3_kindNamed_10 : decode cX3_kindNamed 10 = .ok (.ireturn, 1) := dcO tk_X3_kindNamed_0 5 rfl
theorem dX3_kindNamed_11 : decode cX3_kindNamed 11 = .ok (.aload_n 0, 1) := dcO tk_X3_kindNamed_0 6 rfl
theorem dX3_kindNamed_12 : decode cX3_kindNamed 12 = .ok (.ldc 99, 2) := dcO tk_X3_kindNamed_0 7 rfl
theorem dX3_kindNamed_14 : decode cX3_kindNamed 14 = .ok (.invokevirtual 96, 3) := dcO tk_X3_kindNamed_0 8 rfl
theorem dX3_kindNamed_17 : decode cX3_kindNamed 17 = .ok (.ifCond .eq 5, 3) := dcO tk_X3_kindNamed_0 9 rfl
theorem dX3_kindNamed_20 : decode cX3_kindNamed 20 = .ok (.iconst 1, 1) := dcO tk_X3_kindNamed_0 10 rfl
theorem dX3_kindNamed_21 : decode cX3_kindNamed 21 = .ok (.ireturn, 1) := dcO tk_X3_kindNamed_0 11 rfl
theorem dX3_kindNamed_22 : decode cX3_kindNamed 22 = .ok (.aload_n 0, 1) := dcO tk_X3_kindNamed_0 12 rfl
theorem dX3_kindNamed_23 : decode cX3_kindNamed 23 = .ok (.ldc 101, 2) := dcO tk_X3_kindNamed_0 13 rfl
theorem dX3_kindNamed_25 : decode cX3_kindNamed 25 = .ok (.invokevirtual 96, 3) := dcO tk_X3_kindNamed_0 14 rfl
theorem dX3_kindNamed_28 : decode cX3_kindNamed 28 = .ok (.ifCond .eq 5, 3) := dcO tk_X3_kindNamed_0 15 rfl
theorem dX3_kindNamed_31 : decode cX3_kindNamed 31 = .ok (.iconst 2, 1) := dcO tk_X3_kindNamed_0 16 rfl
theorem dX3_kindNamed_32 : decode cX3_kindNamed 32 = .ok (.ireturn, 1) := dcO tk_X3_kindNamed_0 17 rfl
theorem dX3_kindNamed_33 : decode cX3_kindNamed 33 = .ok (.aload_n 0, 1) := dcO tk_X3_kindNamed_0 18 rfl
theorem dX3_kindNamed_34 : decode cX3_kindNamed 34 = .ok (.ldc 103, 2) := dcO tk_X3_kindNamed_0 19 rfl
theorem dX3_kindNamed_36 : decode cX3_kindNamed 36 = .ok (.invokevirtual 96, 3) := dcO tk_X3_kindNamed_0 20 rfl
theorem dX3_kindNamed_39 : decode cX3_kindNamed 39 = .ok (.ifCond .eq 5, 3) := dcO tk_X3_kindNamed_0 21 rfl
theorem dX3_kindNamed_42 : decode cX3_kindNamed 42 = .ok (.iconst 3, 1) := dcO tk_X3_kindNamed_0 22 rfl
theorem dX3_kindNamed_43 : decode cX3_kindNamed 43 = .ok (.ireturn, 1) := dcO tk_X3_kindNamed_0 23 rfl
theorem dX3_kindNamed_44 : decode cX3_kindNamed 44 = .ok (.aload_n 0, 1) := dcO tk_X3_kindNamed_0 24 rfl
theorem dX3_kindNamed_45 : decode cX3_kindNamed 45 = .ok (.ldc 105, 2) := dcO tk_X3_kindNamed_0 25 rfl
theorem dX3_kindNamed_47 : decode cX3_kindNamed 47 = .ok (.invokevirtual 96, 3) := dcO tk_X3_kindNamed_0 26 rfl
theorem dX3_kindNamed_50 : decode cX3_kindNamed 50 = .ok (.ifCond .eq 5, 3) := dcO tk_X3_kindNamed_0 27 rfl
theorem dX3_kindNamed_53 : decode cX3_kindNamed 53 = .ok (.iconst 4, 1) := dcO tk_X3_kindNamed_0 28 rfl
theorem dX3_kindNamed_54 : decode cX3_kindNamed 54 = .ok (.ireturn, 1) := dcO tk_X3_kindNamed_0 29 rfl
theorem dX3_kindNamed_55 : decode cX3_kindNamed 55 = .ok (.aload_n 0, 1) := dcO tk_X3_kindNamed_0 30 rfl
theorem dX3_kindNamed_56 : decode cX3_kindNamed 56 = .ok (.ldc 107, 2) := dcO tk_X3_kindNamed_0 31 rfl
theorem dX3_kindNamed_58 : decode cX3_kindNamed 58 = .ok (.invokevirtual 96, 3) := dcO tk_X3_kindNamed_0 32 rfl
theorem dX3_kindNamed_61 : decode cX3_kindNamed 61 = .ok (.ifCond .eq 5, 3) := dcO tk_X3_kindNamed_0 33 rfl
theorem dX3_kindNamed_64 : decode cX3_kindNamed 64 = .ok (.iconst 5, 1) := dcO tk_X3_kindNamed_0 34 rfl
theorem dX3_kindNamed_65 : decode cX3_kindNamed 65 = .ok (.ireturn, 1) := dcO tk_X3_kindNamed_0 35 rfl
theorem dX3_kindNamed_66 : decode cX3_kindNamed 66 = .ok (.aload_n 0, 1) := dcO tk_X3_kindNamed_0 36 rfl
theorem dX3_kindNamed_67 : decode cX3_kindNamed 67 = .ok (.ldc 109, 2) := dcO tk_X3_kindNamed_0 37 rfl
theorem dX3_kindNamed_69 : decode cX3_kindNamed 69 = .ok (.invokevirtual 96, 3) := dcO tk_X3_kindNamed_0 38 rfl
theorem dX3_kindNamed_72 : decode cX3_kindNamed 72 = .ok (.ifCond .eq 8, 3) := dcO tk_X3_kindNamed_0 39 rfl
abbrev tb_X3_kindNamed_1 : List (Nat × Instr × Nat) := [(75, .bipush 6, 2), (77, .goto 4, 3), (80, .iconst (-1), 1), (81, .ireturn, 1)]
theorem tk_X3_kindNamed_1 : dcA cX3_kindNamed tb_X3_kindNamed_1 = true := by decide +kernel
theorem dX3_kindNamed_75 : decode cX3_kindNamed 75 = .ok (.bipush 6, 2) := dcO tk_X3_kindNamed_1 0 rfl
theorem dX3_kindNamed_77 : decode cX3_kindNamed 77 = .ok (.goto 4, 3) := dcO tk_X3_kindNamed_1 1 rfl
theorem dX3_kindNamed_80 : decode cX3_kindNamed 80 = .ok (.iconst (-1), 1) := dcO tk_X3_kindNamed_1 2 rfl
theorem dX3_kindNamed_81 : decode cX3_kindNamed 81 = .ok (.ireturn, 1) := dcO tk_X3_kindNamed_1 3 rfl
abbrev tb_X3_readSnail_0 : List (Nat × Instr × Nat) := [(0, .aload_n 1, 1), (1, .iload_n 2, 1), (2, .iconst 0, 1), (3, .invokevirtual 111, 3), (6, .istore_n 3, 1), (7, .iload_n 3, 1), (8, .ifCond .ge 5, 3), (11, .iconst 0, 1), (12, .ireturn, 1), (13, .aload_n 0, 1), (14, .dup, 1), (15, .getfield 31, 3), (18, .iconst 1, 1), (19, .iadd, 1), (20, .putfield 31, 3), (23, .aload_n 0, 1), (24, .ldc 116, 2), (26, .bipush 80, 2), (28, .iconst 0, 1), (29, .invokevirtual 117, 3), (32, .istore 4, 2), (34, .iload 4, 2), (36, .ifCond .ge 7, 3), (39, .iconst (-1), 1), (40, .goto 12, 3), (43, .aload_n 0, 1), (44, .ldc 121, 2), (46, .bipush 7, 2), (48, .iconst 0, 1), (49, .invokevirtual 117, 3), (52, .istore 5, 2), (54, .iload 5, 2), (56, .ifCond .ge 7, 3), (59, .iconst (-1), 1), (60, .goto 13, 3), (63, .aload_n 0, 1), (64, .ldc 123, 2), (66, .bipush 80, 2), (68, .bipush 80, 2), (70, .invokevirtual 117, 3)]
theorem tk_X3_readSnail_0 : dcA cX3_readSnail tb_X3_readSnail_0 = true := by decide +kernel
theorem dX3_readSnail_0 : decode cX3_readSnail 0 = .ok (.aload_n 1, 1) := dcO tk_X3_readSnail_0 0 rfl
theorem dX3_readSnail_1 : decode cX3_readSnail 1 = .ok (.iload_n 2, 1) := dcO tk_X3_readSnail_0 1 rfl
theorem dX3_readSnail_2 : decode cX3_readSnail 2 = .ok (.iconst 0, 1) := dcO tk_X3_readSnail_0 2 rfl
theorem dX3_readSnail_3 : decode cX3_readSnail 3 = .ok (.invokevirtual 111, 3) := dcO tk_X3_readSnail_0 3 rfl
theorem dX3_readSnail_6 : decode cX3_readSnail 6 = .ok (.istore_n 3, 1) := dcO tk_X3_readSnail_0 4 rfl
theorem dX3_readSnail_7 : decode cX3_readSnail 7 = .ok (.iload_n 3, 1) := dcO tk_X3_readSnail_0 5 rfl
theorem dX3_readSnail_8 : decode cX3_readSnail 8 = .ok (.ifCond .ge 5, 3) := dcO tk_X3_readSnail_0 6 rfl
theorem dX3_readSnail_11 : decode cX3_readSnail 11 = .ok (.iconst 0, 1) := dcO tk_X3_readSnail_0 7 rfl
theorem dX3_readSnail_12 : decode cX3_readSnail 12 = .ok (.ireturn, 1) := dcO tk_X3_readSnail_0 8 rfl
theorem dX3_readSnail_13 : decode cX3_readSnail 13 = .ok (.aload_n 0, 1) := dcO tk_X3_readSnail_0 9 rfl
theorem dX3_readSnail_14 : decode cX3_readSnail 14 = .ok (.dup, 1) := dcO tk_X3_readSnail_0 10 rfl
theorem dX3_readSnail_15 : decode cX3_readSnail 15 = .ok (.getfield 31, 3) := dcO tk_X3_readSnail_0 11 rfl
theorem dX3_readSnail_18 : decode cX3_readSnail 18 = .ok (.iconst 1, 1) := dcO tk_X3_readSnail_0 12 rfl
theorem dX3_readSnail_19 : decode cX3_readSnail 19 = .ok (.iadd, 1) := dcO tk_X3_readSnail_0 13 rfl
theorem dX3_readSnail_20 : decode cX3_readSnail 20 = .ok (.putfield 31, 3) := dcO tk_X3_readSnail_0 14 rfl
theorem dX3_readSnail_23 : decode cX3_readSnail 23 = .ok (.aload_n 0, 1) := dcO tk_X3_readSnail_0 15 rfl
theorem dX3_readSnail_24 : decode cX3_readSnail 24 = .ok (.ldc 116, 2) := dcO tk_X3_readSnail_0 16 rfl
theorem dX3_readSnail_26 : decode cX3_readSnail 26 = .ok (.bipush 80, 2) := dcO tk_X3_readSnail_0 17 rfl
theorem dX3_readSnail_28 : decode cX3_readSnail 28 = .ok (.iconst 0, 1) := dcO tk_X3_readSnail_0 18 rfl
theorem dX3_readSnail_29 : decode cX3_readSnail 29 = .ok (.invokevirtual 117, 3) := dcO tk_X3_readSnail_0 19 rfl
theorem dX3_readSnail_32 : decode cX3_readSnail 32 = .ok (.istore 4, 2) := dcO tk_X3_readSnail_0 20 rfl
theorem dX3_readSnail_34 : decode cX3_readSnail 34 = .ok (.iload 4, 2) := dcO tk_X3_readSnail_0 21 rfl
theorem dX3_readSnail_36 : decode cX3_readSnail 36 = .ok (.ifCond .ge 7, 3) := dcO tk_X3_readSnail_0 22 rfl
theorem dX3_readSnail_39 : decode cX3_readSnail 39 = .ok (.iconst (-1), 1) := dcO tk_X3_readSnail_0 23 rfl
theorem dX3_readSnail_40 : decode cX3_readSnail 40 = .ok (.goto 12, 3) := dcO tk_X3_readSnail_0 24 rfl
theorem dX3_readSnail_43 : decode cX3_readSnail 43 = .ok (.aload_n 0, 1) := dcO tk_X3_readSnail_0 25 rfl
theorem dX3_readSnail_44 : decode cX3_readSnail 44 = .ok (.ldc 121, 2) := dcO tk_X3_readSnail_0 26 rfl
theorem dX3_readSnail_46 : decode cX3_readSnail 46 = .ok (.bipush 7, 2) := dcO tk_X3_readSnail_0 27 rfl
theorem dX3_readSnail_48 : decode cX3_readSnail 48 = .ok (.iconst 0, 1) := dcO tk_X3_readSnail_0 28 rfl
theorem dX3_readSnail_49 : decode cX3_readSnail 49 = .ok (.invokevirtual 117, 3) := dcO tk_X3_readSnail_0 29 rfl
theorem dX3_readSnail_52 : decode cX3_readSnail 52 = .ok (.istore 5, 2) := dcO tk_X3_readSnail_0 30 rfl
theorem dX3_readSnail_54 : decode cX3_readSnail 54 = .ok (.iload 5, 2) := dcO tk_X3_readSnail_0 31 rfl
theorem dX3_readSnail_56 : decode cX3_readSnail 56 = .ok (.ifCond .ge 7, 3) := dcO tk_X3_readSnail_0 32 rfl
theorem dX3_readSnail_59 : decode cX3_readSnail 59 = .ok (.iconst (-1), 1) := dcO tk_X3_readSnail_0 33 rfl
theorem dX3_readSnail_60 : decode cX3_readSnail 60 = .ok (.goto 13, 3) := dcO tk_X3_readSnail_0 34 rfl
theorem dX3_readSnail_63 : decode cX3_readSnail 63 = .ok (.aload_n 0, 1) := dcO tk_X3_readSnail_0 35 rfl
theorem dX3_readSnail_64 : decode cX3_readSnail 64 = .ok (.ldc 123, 2) := dcO tk_X3_readSnail_0 36 rfl
theorem dX3_readSnail_66 : decode cX3_readSnail 66 = .ok (.bipush 80, 2) := dcO tk_X3_readSnail_0 37 rfl
theorem dX3_readSnail_68 : decode cX3_readSnail 68 = .ok (.bipush 80, 2) := dcO tk_X3_readSnail_0 38 rfl
theorem dX3_readSnail_70 : decode cX3_readSnail 70 = .ok (.invokevirtual 117, 3) := dcO tk_X3_readSnail_0 39 rfl
abbrev tb_X3_readSnail_1 : List (Nat × Instr × Nat) := [(73, .istore 6, 2), (75, .iload 6, 2), (77, .ifCond .ge 7, 3), (80, .iconst (-1), 1), (81, .goto 12, 3), (84, .aload_n 0, 1), (85, .ldc 125, 2), (87, .bipush 99, 2), (89, .iconst 1, 1), (90, .invokevirtual 117, 3), (93, .istore 7, 2), (95, .iload 7, 2), (97, .ifCond .ge 5, 3), (100, .iconst 0, 1), (101, .ireturn, 1), (102, .aload_n 1, 1), (103, .getfield 127, 3), (106, .iload_n 3, 1), (107, .iload 4, 2), (109, .iastore, 1), (110, .aload_n 1, 1), (111, .getfield 130, 3), (114, .iload_n 3, 1), (115, .iload 5, 2), (117, .iastore, 1), (118, .aload_n 1, 1), (119, .getfield 133, 3), (122, .iload_n 3, 1), (123, .iload 6, 2), (125, .iastore, 1), (126, .aload_n 1, 1), (127, .getfield 136, 3), (130, .iload_n 3, 1), (131, .iload 7, 2), (133, .iastore, 1), (134, .iconst 1, 1), (135, .ireturn, 1)]
theorem tk_X3_readSnail_1 : dcA cX3_readSnail tb_X3_readSnail_1 = true := by decide +kernel
theorem dX3_readSnail_73 : decode cX3_readSnail 73 = .ok (.istore 6, 2) := dcO tk_X3_readSnail_1 0 rfl
theorem dX3_readSnail_75 : decode cX3_readSnail 75 = .ok (.iload 6, 2) := dcO tk_X3_readSnail_1 1 rfl
theorem dX3_readSnail_77 : decode cX3_readSnail 77 = .ok (.ifCond .ge 7, 3) := dcO tk_X3_readSnail_1 2 rfl
theorem dX3_readSnail_80 : decode cX3_readSnail 80 = .ok (.iconst (-1), 1) := dcO tk_X3_readSnail_1 3 rfl
theorem dX3_readSnail_81 : decode cX3_readSnail 81 = .ok (.goto 12, 3) := dcO tk_X3_readSnail_1 4 rfl
theorem dX3_readSnail_84 : decode cX3_readSnail 84 = .ok (.aload_n 0, 1) := dcO tk_X3_readSnail_1 5 rfl
theorem dX3_readSnail_85 : decode cX3_readSnail 85 = .ok (.ldc 125, 2) := dcO tk_X3_readSnail_1 6 rfl
theorem dX3_readSnail_87 : decode cX3_readSnail 87 = .ok (.bipush 99, 2) := dcO tk_X3_readSnail_1 7 rfl
theorem dX3_readSnail_89 : decode cX3_readSnail 89 = .ok (.iconst 1, 1) := dcO tk_X3_readSnail_1 8 rfl
theorem dX3_readSnail_90 : decode cX3_readSnail 90 = .ok (.invokevirtual 117, 3) := dcO tk_X3_readSnail_1 9 rfl
theorem dX3_readSnail_93 : decode cX3_readSnail 93 = .ok (.istore 7, 2) := dcO tk_X3_readSnail_1 10 rfl
theorem dX3_readSnail_95 : decode cX3_readSnail 95 = .ok (.iload 7, 2) := dcO tk_X3_readSnail_1 11 rfl
theorem dX3_readSnail_97 : decode cX3_readSnail 97 = .ok (.ifCond .ge 5, 3) := dcO tk_X3_readSnail_1 12 rfl
theorem dX3_readSnail_100 : decode cX3_readSnail 100 = .ok (.iconst 0, 1) := dcO tk_X3_readSnail_1 13 rfl
theorem dX3_readSnail_101 : decode cX3_readSnail 101 = .ok (.ireturn, 1) := dcO tk_X3_readSnail_1 14 rfl
theorem dX3_readSnail_102 : decode cX3_readSnail 102 = .ok (.aload_n 1, 1) := dcO tk_X3_readSnail_1 15 rfl
theorem dX3_readSnail_103 : decode cX3_readSnail 103 = .ok (.getfield 127, 3) := dcO tk_X3_readSnail_1 16 rfl
theorem dX3_readSnail_106 : decode cX3_readSnail 106 = .ok (.iload_n 3, 1) := dcO tk_X3_readSnail_1 17 rfl
theorem dX3_readSnail_107 : decode cX3_readSnail 107 = .ok (.iload 4, 2) := dcO tk_X3_readSnail_1 18 rfl
theorem dX3_readSnail_109 : decode cX3_readSnail 109 = .ok (.iastore, 1) := dcO tk_X3_readSnail_1 19 rfl
theorem dX3_readSnail_110 : decode cX3_readSnail 110 = .ok (.aload_n 1, 1) := dcO tk_X3_readSnail_1 20 rfl
theorem dX3_readSnail_111 : decode cX3_readSnail 111 = .ok (.getfield 130, 3) := dcO tk_X3_readSnail_1 21 rfl
theorem dX3_readSnail_114 : decode cX3_readSnail 114 = .ok (.iload_n 3, 1) := dcO tk_X3_readSnail_1 22 rfl
theorem dX3_readSnail_115 : decode cX3_readSnail 115 = .ok (.iload 5, 2) := dcO tk_X3_readSnail_1 23 rfl
theorem dX3_readSnail_117 : decode cX3_readSnail 117 = .ok (.iastore, 1) := dcO tk_X3_readSnail_1 24 rfl
theorem dX3_readSnail_118 : decode cX3_readSnail 118 = .ok (.aload_n 1, 1) := dcO tk_X3_readSnail_1 25 rfl
theorem dX3_readSnail_119 : decode cX3_readSnail 119 = .ok (.getfield 133, 3) := dcO tk_X3_readSnail_1 26 rfl
theorem dX3_readSnail_122 : decode cX3_readSnail 122 = .ok (.iload_n 3, 1) := dcO tk_X3_readSnail_1 27 rfl
theorem dX3_readSnail_123 : decode cX3_readSnail 123 = .ok (.iload 6, 2) := dcO tk_X3_readSnail_1 28 rfl
theorem dX3_readSnail_125 : decode cX3_readSnail 125 = .ok (.iastore, 1) := dcO tk_X3_readSnail_1 29 rfl
theorem dX3_readSnail_126 : decode cX3_readSnail 126 = .ok (.aload_n 1, 1) := dcO tk_X3_readSnail_1 30 rfl
theorem dX3_readSnail_127 : decode cX3_readSnail 127 = .ok (.getfield 136, 3) := dcO tk_X3_readSnail_1 31 rfl
theorem dX3_readSnail_130 : decode cX3_readSnail 130 = .ok (.iload_n 3, 1) := dcO tk_X3_readSnail_1 32 rfl
theorem dX3_readSnail_131 : decode cX3_readSnail 131 = .ok (.iload 7, 2) := dcO tk_X3_readSnail_1 33 rfl
theorem dX3_readSnail_133 : decode cX3_readSnail 133 = .ok (.iastore, 1) := dcO tk_X3_readSnail_1 34 rfl
theorem dX3_readSnail_134 : decode cX3_readSnail 134 = .ok (.iconst 1, 1) := dcO tk_X3_readSnail_1 35 rfl
theorem dX3_readSnail_135 : decode cX3_readSnail 135 = .ok (.ireturn, 1) := dcO tk_X3_readSnail_1 36 rfl
abbrev tb_X3_readHedge_0 : List (Nat × Instr × Nat) := [(0, .aload_n 0, 1), (1, .bipush 80, 2), (3, .invokevirtual 139, 3), (6, .istore_n 2, 1), (7, .iload_n 2, 1), (8, .ifCond .ge 5, 3), (11, .iconst 0, 1), (12, .ireturn, 1), (13, .aload_n 1, 1), (14, .getfield 142, 3), (17, .iload_n 2, 1), (18, .iconst 1, 1), (19, .iastore, 1), (20, .iconst 1, 1), (21, .ireturn, 1)]
theorem tk_X3_readHedge_0 : dcA cX3_readHedge tb_X3_readHedge_0 = true := by decide +kernel
theorem dX3_readHedge_0 : decode cX3_readHedge 0 = .ok (.aload_n 0, 1) := dcO tk_X3_readHedge_0 0 rfl
theorem dX3_readHedge_1 : decode cX3_readHedge 1 = .ok (.bipush 80, 2) := dcO tk_X3_readHedge_0 1 rfl
theorem dX3_readHedge_3 : decode cX3_readHedge 3 = .ok (.invokevirtual 139, 3) := dcO tk_X3_readHedge_0 2 rfl
theorem dX3_readHedge_6 : decode cX3_readHedge 6 = .ok (.istore_n 2, 1) := dcO tk_X3_readHedge_0 3 rfl
theorem dX3_readHedge_7 : decode cX3_readHedge 7 = .ok (.iload_n 2, 1) := dcO tk_X3_readHedge_0 4 rfl
theorem dX3_readHedge_8 : decode cX3_readHedge 8 = .ok (.ifCond .ge 5, 3) := dcO tk_X3_readHedge_0 5 rfl
theorem dX3_readHedge_11 : decode cX3_readHedge 11 = .ok (.iconst 0, 1) := dcO tk_X3_readHedge_0 6 rfl
theorem dX3_readHedge_12 : decode cX3_readHedge 12 = .ok (.ireturn, 1) := dcO tk_X3_readHedge_0 7 rfl
theorem dX3_readHedge_13 : decode cX3_readHedge 13 = .ok (.aload_n 1, 1) := dcO tk_X3_readHedge_0 8 rfl
theorem dX3_readHedge_14 : decode cX3_readHedge 14 = .ok (.getfield 142, 3) := dcO tk_X3_readHedge_0 9 rfl
theorem dX3_readHedge_17 : decode cX3_readHedge 17 = .ok (.iload_n 2, 1) := dcO tk_X3_readHedge_0 10 rfl
theorem dX3_readHedge_18 : decode cX3_readHedge 18 = .ok (.iconst 1, 1) := dcO tk_X3_readHedge_0 11 rfl
theorem dX3_readHedge_19 : decode cX3_readHedge 19 = .ok (.iastore, 1) := dcO tk_X3_readHedge_0 12 rfl
theorem dX3_readHedge_20 : decode cX3_readHedge 20 = .ok (.iconst 1, 1) := dcO tk_X3_readHedge_0 13 rfl
theorem dX3_readHedge_21 : decode cX3_readHedge 21 = .ok (.ireturn, 1) := dcO tk_X3_readHedge_0 14 rfl
abbrev tb_X3_readGreens_0 : List (Nat × Instr × Nat) := [(0, .aload_n 0, 1), (1, .bipush 80, 2), (3, .invokevirtual 139, 3), (6, .istore_n 2, 1), (7, .iload_n 2, 1), (8, .ifCond .ge 7, 3), (11, .iconst (-1), 1), (12, .goto 9, 3), (15, .aload_n 0, 1), (16, .bipush 9, 2), (18, .invokevirtual 139, 3), (21, .istore_n 3, 1), (22, .iload_n 3, 1), (23, .ifCond .ge 5, 3), (26, .iconst 0, 1), (27, .ireturn, 1), (28, .aload_n 1, 1), (29, .getfield 145, 3), (32, .iload_n 2, 1), (33, .iload_n 3, 1), (34, .iastore, 1), (35, .iconst 1, 1), (36, .ireturn, 1)]
theorem tk_X3_readGreens_0 : dcA cX3_readGreens tb_X3_readGreens_0 = true := by decide +kernel
theorem dX3_readGreens_0 : decode cX3_readGreens 0 = .ok (.aload_n 0, 1) := dcO tk_X3_readGreens_0 0 rfl
theorem dX3_readGreens_1 : decode cX3_readGreens 1 = .ok (.bipush 80, 2) := dcO tk_X3_readGreens_0 1 rfl
theorem dX3_readGreens_3 : decode cX3_readGreens 3 = .ok (.invokevirtual 139, 3) := dcO tk_X3_readGreens_0 2 rfl
theorem dX3_readGreens_6 : decode cX3_readGreens 6 = .ok (.istore_n 2, 1) := dcO tk_X3_readGreens_0 3 rfl
theorem dX3_readGreens_7 : decode cX3_readGreens 7 = .ok (.iload_n 2, 1) := dcO tk_X3_readGreens_0 4 rfl
theorem dX3_readGreens_8 : decode cX3_readGreens 8 = .ok (.ifCond .ge 7, 3) := dcO tk_X3_readGreens_0 5 rfl
theorem dX3_readGreens_11 : decode cX3_readGreens 11 = .ok (.iconst (-1), 1) := dcO tk_X3_readGreens_0 6 rfl
theorem dX3_readGreens_12 : decode cX3_readGreens 12 = .ok (.goto 9, 3) := dcO tk_X3_readGreens_0 7 rfl
theorem dX3_readGreens_15 : decode cX3_readGreens 15 = .ok (.aload_n 0, 1) := dcO tk_X3_readGreens_0 8 rfl
theorem dX3_readGreens_16 : decode cX3_readGreens 16 = .ok (.bipush 9, 2) := dcO tk_X3_readGreens_0 9 rfl
theorem dX3_readGreens_18 : decode cX3_readGreens 18 = .ok (.invokevirtual 139, 3) := dcO tk_X3_readGreens_0 10 rfl
theorem dX3_readGreens_21 : decode cX3_readGreens 21 = .ok (.istore_n 3, 1) := dcO tk_X3_readGreens_0 11 rfl
theorem dX3_readGreens_22 : decode cX3_readGreens 22 = .ok (.iload_n 3, 1) := dcO tk_X3_readGreens_0 12 rfl
theorem dX3_readGreens_23 : decode cX3_readGreens 23 = .ok (.ifCond .ge 5, 3) := dcO tk_X3_readGreens_0 13 rfl
theorem dX3_readGreens_26 : decode cX3_readGreens 26 = .ok (.iconst 0, 1) := dcO tk_X3_readGreens_0 14 rfl
theorem dX3_readGreens_27 : decode cX3_readGreens 27 = .ok (.ireturn, 1) := dcO tk_X3_readGreens_0 15 rfl
theorem dX3_readGreens_28 : decode cX3_readGreens 28 = .ok (.aload_n 1, 1) := dcO tk_X3_readGreens_0 16 rfl
theorem dX3_readGreens_29 : decode cX3_readGreens 29 = .ok (.getfield 145, 3) := dcO tk_X3_readGreens_0 17 rfl
theorem dX3_readGreens_32 : decode cX3_readGreens 32 = .ok (.iload_n 2, 1) := dcO tk_X3_readGreens_0 18 rfl
theorem dX3_readGreens_33 : decode cX3_readGreens 33 = .ok (.iload_n 3, 1) := dcO tk_X3_readGreens_0 19 rfl
theorem dX3_readGreens_34 : decode cX3_readGreens 34 = .ok (.iastore, 1) := dcO tk_X3_readGreens_0 20 rfl
theorem dX3_readGreens_35 : decode cX3_readGreens 35 = .ok (.iconst 1, 1) := dcO tk_X3_readGreens_0 21 rfl
theorem dX3_readGreens_36 : decode cX3_readGreens 36 = .ok (.ireturn, 1) := dcO tk_X3_readGreens_0 22 rfl
abbrev tb_X3_readBans_0 : List (Nat × Instr × Nat) := [(0, .aload_n 0, 1), (1, .bipush 7, 2), (3, .invokevirtual 139, 3), (6, .istore_n 2, 1), (7, .iload_n 2, 1), (8, .ifCond .ge 7, 3), (11, .iconst (-1), 1), (12, .goto 10, 3), (15, .aload_n 0, 1), (16, .sipush 255, 3), (19, .invokevirtual 139, 3), (22, .istore_n 3, 1), (23, .iload_n 3, 1), (24, .ifCond .ge 5, 3), (27, .iconst 0, 1), (28, .ireturn, 1), (29, .aload_n 1, 1), (30, .getfield 148, 3), (33, .iload_n 2, 1), (34, .iload_n 3, 1), (35, .iastore, 1), (36, .iconst 1, 1), (37, .ireturn, 1)]
theorem tk_X3_readBans_0 : dcA cX3_readBans tb_X3_readBans_0 = true := by decide +kernel
theorem dX3_readBans_0 : decode cX3_readBans 0 = .ok (.aload_n 0, 1) := dcO tk_X3_readBans_0 0 rfl
theorem dX3_readBans_1 : decode cX3_readBans 1 = .ok (.bipush 7, 2) := dcO tk_X3_readBans_0 1 rfl
theorem dX3_readBans_3 : decode cX3_readBans 3 = .ok (.invokevirtual 139, 3) := dcO tk_X3_readBans_0 2 rfl
theorem dX3_readBans_6 : decode cX3_readBans 6 = .ok (.istore_n 2, 1) := dcO tk_X3_readBans_0 3 rfl
theorem dX3_readBans_7 : decode cX3_readBans 7 = .ok (.iload_n 2, 1) := dcO tk_X3_readBans_0 4 rfl
theorem dX3_readBans_8 : decode cX3_readBans 8 = .ok (.ifCond .ge 7, 3) := dcO tk_X3_readBans_0 5 rfl
theorem dX3_readBans_11 : decode cX3_readBans 11 = .ok (.iconst (-1), 1) := dcO tk_X3_readBans_0 6 rfl
theorem dX3_readBans_12 : decode cX3_readBans 12 = .ok (.goto 10, 3) := dcO tk_X3_readBans_0 7 rfl
theorem dX3_readBans_15 : decode cX3_readBans 15 = .ok (.aload_n 0, 1) := dcO tk_X3_readBans_0 8 rfl
theorem dX3_readBans_16 : decode cX3_readBans 16 = .ok (.sipush 255, 3) := dcO tk_X3_readBans_0 9 rfl
theorem dX3_readBans_19 : decode cX3_readBans 19 = .ok (.invokevirtual 139, 3) := dcO tk_X3_readBans_0 10 rfl
theorem dX3_readBans_22 : decode cX3_readBans 22 = .ok (.istore_n 3, 1) := dcO tk_X3_readBans_0 11 rfl
theorem dX3_readBans_23 : decode cX3_readBans 23 = .ok (.iload_n 3, 1) := dcO tk_X3_readBans_0 12 rfl
theorem dX3_readBans_24 : decode cX3_readBans 24 = .ok (.ifCond .ge 5, 3) := dcO tk_X3_readBans_0 13 rfl
theorem dX3_readBans_27 : decode cX3_readBans 27 = .ok (.iconst 0, 1) := dcO tk_X3_readBans_0 14 rfl
theorem dX3_readBans_28 : decode cX3_readBans 28 = .ok (.ireturn, 1) := dcO tk_X3_readBans_0 15 rfl
theorem dX3_readBans_29 : decode cX3_readBans 29 = .ok (.aload_n 1, 1) := dcO tk_X3_readBans_0 16 rfl
theorem dX3_readBans_30 : decode cX3_readBans 30 = .ok (.getfield 148, 3) := dcO tk_X3_readBans_0 17 rfl
theorem dX3_readBans_33 : decode cX3_readBans 33 = .ok (.iload_n 2, 1) := dcO tk_X3_readBans_0 18 rfl
theorem dX3_readBans_34 : decode cX3_readBans 34 = .ok (.iload_n 3, 1) := dcO tk_X3_readBans_0 19 rfl
theorem dX3_readBans_35 : decode cX3_readBans 35 = .ok (.iastore, 1) := dcO tk_X3_readBans_0 20 rfl
theorem dX3_readBans_36 : decode cX3_readBans 36 = .ok (.iconst 1, 1) := dcO tk_X3_readBans_0 21 rfl
theorem dX3_readBans_37 : decode cX3_readBans 37 = .ok (.ireturn, 1) := dcO tk_X3_readBans_0 22 rfl
abbrev tb_X3_readWet_0 : List (Nat × Instr × Nat) := [(0, .aload_n 0, 1), (1, .bipush 9, 2), (3, .invokevirtual 139, 3), (6, .istore_n 2, 1), (7, .iload_n 2, 1), (8, .ifCond .ge 5, 3), (11, .iconst 0, 1), (12, .ireturn, 1), (13, .aload_n 1, 1), (14, .iload_n 2, 1), (15, .putfield 151, 3), (18, .iconst 1, 1), (19, .ireturn, 1)]
theorem tk_X3_readWet_0 : dcA cX3_readWet tb_X3_readWet_0 = true := by decide +kernel
theorem dX3_readWet_0 : decode cX3_readWet 0 = .ok (.aload_n 0, 1) := dcO tk_X3_readWet_0 0 rfl
theorem dX3_readWet_1 : decode cX3_readWet 1 = .ok (.bipush 9, 2) := dcO tk_X3_readWet_0 1 rfl
theorem dX3_readWet_3 : decode cX3_readWet 3 = .ok (.invokevirtual 139, 3) := dcO tk_X3_readWet_0 2 rfl
theorem dX3_readWet_6 : decode cX3_readWet 6 = .ok (.istore_n 2, 1) := dcO tk_X3_readWet_0 3 rfl
theorem dX3_readWet_7 : decode cX3_readWet 7 = .ok (.iload_n 2, 1) := dcO tk_X3_readWet_0 4 rfl
theorem dX3_readWet_8 : decode cX3_readWet 8 = .ok (.ifCond .ge 5, 3) := dcO tk_X3_readWet_0 5 rfl
theorem dX3_readWet_11 : decode cX3_readWet 11 = .ok (.iconst 0, 1) := dcO tk_X3_readWet_0 6 rfl
theorem dX3_readWet_12 : decode cX3_readWet 12 = .ok (.ireturn, 1) := dcO tk_X3_readWet_0 7 rfl
theorem dX3_readWet_13 : decode cX3_readWet 13 = .ok (.aload_n 1, 1) := dcO tk_X3_readWet_0 8 rfl
theorem dX3_readWet_14 : decode cX3_readWet 14 = .ok (.iload_n 2, 1) := dcO tk_X3_readWet_0 9 rfl
theorem dX3_readWet_15 : decode cX3_readWet 15 = .ok (.putfield 151, 3) := dcO tk_X3_readWet_0 10 rfl
theorem dX3_readWet_18 : decode cX3_readWet 18 = .ok (.iconst 1, 1) := dcO tk_X3_readWet_0 11 rfl
theorem dX3_readWet_19 : decode cX3_readWet 19 = .ok (.ireturn, 1) := dcO tk_X3_readWet_0 12 rfl
abbrev tb_X3_readThrush_0 : List (Nat × Instr × Nat) := [(0, .aload_n 0, 1), (1, .bipush 20, 2), (3, .invokevirtual 139, 3), (6, .istore_n 2, 1), (7, .iload_n 2, 1), (8, .ifCond .ge 5, 3), (11, .iconst 0, 1), (12, .ireturn, 1), (13, .aload_n 1, 1), (14, .iload_n 2, 1), (15, .putfield 153, 3), (18, .iconst 1, 1), (19, .ireturn, 1)]
theorem tk_X3_readThrush_0 : dcA cX3_readThrush tb_X3_readThrush_0 = true := by decide +kernel
theorem dX3_readThrush_0 : decode cX3_readThrush 0 = .ok (.aload_n 0, 1) := dcO tk_X3_readThrush_0 0 rfl
theorem dX3_readThrush_1 : decode cX3_readThrush 1 = .ok (.bipush 20, 2) := dcO tk_X3_readThrush_0 1 rfl
theorem dX3_readThrush_3 : decode cX3_readThrush 3 = .ok (.invokevirtual 139, 3) := dcO tk_X3_readThrush_0 2 rfl
theorem dX3_readThrush_6 : decode cX3_readThrush 6 = .ok (.istore_n 2, 1) := dcO tk_X3_readThrush_0 3 rfl
theorem dX3_readThrush_7 : decode cX3_readThrush 7 = .ok (.iload_n 2, 1) := dcO tk_X3_readThrush_0 4 rfl
theorem dX3_readThrush_8 : decode cX3_readThrush 8 = .ok (.ifCond .ge 5, 3) := dcO tk_X3_readThrush_0 5 rfl
theorem dX3_readThrush_11 : decode cX3_readThrush 11 = .ok (.iconst 0, 1) := dcO tk_X3_readThrush_0 6 rfl
theorem dX3_readThrush_12 : decode cX3_readThrush 12 = .ok (.ireturn, 1) := dcO tk_X3_readThrush_0 7 rfl
theorem dX3_readThrush_13 : decode cX3_readThrush 13 = .ok (.aload_n 1, 1) := dcO tk_X3_readThrush_0 8 rfl
theorem dX3_readThrush_14 : decode cX3_readThrush 14 = .ok (.iload_n 2, 1) := dcO tk_X3_readThrush_0 9 rfl
theorem dX3_readThrush_15 : decode cX3_readThrush 15 = .ok (.putfield 153, 3) := dcO tk_X3_readThrush_0 10 rfl
theorem dX3_readThrush_18 : decode cX3_readThrush 18 = .ok (.iconst 1, 1) := dcO tk_X3_readThrush_0 11 rfl
theorem dX3_readThrush_19 : decode cX3_readThrush 19 = .ok (.ireturn, 1) := dcO tk_X3_readThrush_0 12 rfl
abbrev tb_X3_isWord_0 : List (Nat × Instr × Nat) := [(0, .aload_n 0, 1), (1, .getfield 22, 3), (4, .aload_n 0, 1), (5, .getfield 31, 3), (8, .iaload, 1), (9, .istore_n 2, 1), (10, .aload_n 0, 1), (11, .getfield 19, 3), (14, .aload_n 0, 1), (15, .getfield 31, 3), (18, .iaload, 1), (19, .iconst 1, 1), (20, .if_icmp .ne 21, 3), (23, .aload_n 0, 1), (24, .getfield 25, 3), (27, .aload_n 0, 1), (28, .getfield 31, 3), (31, .iaload, 1), (32, .iload_n 2, 1), (33, .isub, 1), (34, .aload_n 1, 1), (35, .invokevirtual 155, 3), (38, .if_icmp .eq 5, 3), (41, .iconst 0, 1), (42, .ireturn, 1), (43, .iconst 0, 1), (44, .istore_n 3, 1), (45, .iload_n 3, 1), (46, .aload_n 1, 1), (47, .invokevirtual 155, 3), (50, .if_icmp .ge 27, 3), (53, .aload_n 0, 1), (54, .getfield 15, 3), (57, .iload_n 2, 1), (58, .iload_n 3, 1), (59, .iadd, 1), (60, .iaload, 1), (61, .aload_n 1, 1), (62, .iload_n 3, 1), (63, .invokevirtual 160, 3)]
theorem tk_X3_isWord_0 : dcA cX3_isWord tb_X3_isWord_0 = true := by decide +kernel
theorem dX3_isWord_0 : decode cX3_isWord 0 = .ok (.aload_n 0, 1) := dcO tk_X3_isWord_0 0 rfl
theorem dX3_isWord_1 : decode cX3_isWord 1 = .ok (.getfield 22, 3) := dcO tk_X3_isWord_0 1 rfl
theorem dX3_isWord_4 : decode cX3_isWord 4 = .ok (.aload_n 0, 1) := dcO tk_X3_isWord_0 2 rfl
theorem dX3_isWord_5 : decode cX3_isWord 5 = .ok (.getfield 31, 3) := dcO tk_X3_isWord_0 3 rfl
theorem dX3_isWord_8 : decode cX3_isWord 8 = .ok (.iaload, 1) := dcO tk_X3_isWord_0 4 rfl
theorem dX3_isWord_9 : decode cX3_isWord 9 = .ok (.istore_n 2, 1) := dcO tk_X3_isWord_0 5 rfl
theorem dX3_isWord_10 : decode cX3_isWord 10 = .ok (.aload_n 0, 1) := dcO tk_X3_isWord_0 6 rfl
theorem dX3_isWord_11 : decode cX3_isWord 11 = .ok (.getfield 19, 3) := dcO tk_X3_isWord_0 7 rfl
theorem dX3_isWord_14 : decode cX3_isWord 14 = .ok (.aload_n 0, 1) := dcO tk_X3_isWord_0 8 rfl
theorem dX3_isWord_15 : decode cX3_isWord 15 = .ok (.getfield 31, 3) := dcO tk_X3_isWord_0 9 rfl
theorem dX3_isWord_18 : decode cX3_isWord 18 = .ok (.iaload, 1) := dcO tk_X3_isWord_0 10 rfl
theorem dX3_isWord_19 : decode cX3_isWord 19 = .ok (.iconst 1, 1) := dcO tk_X3_isWord_0 11 rfl
theorem dX3_isWord_20 : decode cX3_isWord 20 = .ok (.if_icmp .ne 21, 3) := dcO tk_X3_isWord_0 12 rfl
theorem dX3_isWord_23 : decode cX3_isWord 23 = .ok (.aload_n 0, 1) := dcO tk_X3_isWord_0 13 rfl
theorem dX3_isWord_24 : decode cX3_isWord 24 = .ok (.getfield 25, 3) := dcO tk_X3_isWord_0 14 rfl
theorem dX3_isWord_27 : decode cX3_isWord 27 = .ok (.aload_n 0, 1) := dcO tk_X3_isWord_0 15 rfl
theorem dX3_isWord_28 : decode cX3_isWord 28 = .ok (.getfield 31, 3) := dcO tk_X3_isWord_0 16 rfl
theorem dX3_isWord_31 : decode cX3_isWord 31 = .ok (.iaload, 1) := dcO tk_X3_isWord_0 17 rfl
theorem dX3_isWord_32 : decode cX3_isWord 32 = .ok (.iload_n 2, 1) := dcO tk_X3_isWord_0 18 rfl
theorem dX3_isWord_33 : decode cX3_isWord 33 = .ok (.isub, 1) := dcO tk_X3_isWord_0 19 rfl
theorem dX3_isWord_34 : decode cX3_isWord 34 = .ok (.aload_n 1, 1) := dcO tk_X3_isWord_0 20 rfl
theorem dX3_isWord_35 : decode cX3_isWord 35 = .ok (.invokevirtual 155, 3) := dcO tk_X3_isWord_0 21 rfl
theorem dX3_isWord_38 : decode cX3_isWord 38 = .ok (.if_icmp .eq 5, 3) := dcO tk_X3_isWord_0 22 rfl
theorem dX3_isWord_41 : decode cX3_isWord 41 = .ok (.iconst 0, 1) := dcO tk_X3_isWord_0 23 rfl
theorem dX3_isWord_42 : decode cX3_isWord 42 = .ok (.ireturn, 1) := dcO tk_X3_isWord_0 24 rfl
theorem dX3_isWord_43 : decode cX3_isWord 43 = .ok (.iconst 0, 1) := dcO tk_X3_isWord_0 25 rfl
theorem dX3_isWord_44 : decode cX3_isWord 44 = .ok (.istore_n 3, 1) := dcO tk_X3_isWord_0 26 rfl
theorem dX3_isWord_45 : decode cX3_isWord 45 = .ok (.iload_n 3, 1) := dcO tk_X3_isWord_0 27 rfl
theorem dX3_isWord_46 : decode cX3_isWord 46 = .ok (.aload_n 1, 1) := dcO tk_X3_isWord_0 28 rfl
theorem dX3_isWord_47 : decode cX3_isWord 47 = .ok (.invokevirtual 155, 3) := dcO tk_X3_isWord_0 29 rfl
theorem dX3_isWord_50 : decode cX3_isWord 50 = .ok (.if_icmp .ge 27, 3) := dcO tk_X3_isWord_0 30 rfl
theorem dX3_isWord_53 : decode cX3_isWord 53 = .ok (.aload_n 0, 1) := dcO tk_X3_isWord_0 31 rfl
theorem dX3_isWord_54 : decode cX3_isWord 54 = .ok (.getfield 15, 3) := dcO tk_X3_isWord_0 32 rfl
theorem dX3_isWord_57 : decode cX3_isWord 57 = .ok (.iload_n 2, 1) := dcO tk_X3_isWord_0 33 rfl
theorem dX3_isWord_58 : decode cX3_isWord 58 = .ok (.iload_n 3, 1) := dcO tk_X3_isWord_0 34 rfl
theorem dX3_isWord_59 : decode cX3_isWord 59 = .ok (.iadd, 1) := dcO tk_X3_isWord_0 35 rfl
theorem dX3_isWord_60 : decode cX3_isWord 60 = .ok (.iaload, 1) := dcO tk_X3_isWord_0 36 rfl
theorem dX3_isWord_61 : decode cX3_isWord 61 = .ok (.aload_n 1, 1) := dcO tk_X3_isWord_0 37 rfl
theorem dX3_isWord_62 : decode cX3_isWord 62 = .ok (.iload_n 3, 1) := dcO tk_X3_isWord_0 38 rfl
theorem dX3_isWord_63 : decode cX3_isWord 63 = .ok (.invokevirtual 160, 3) := dcO tk_X3_isWord_0 39 rfl
abbrev tb_X3_isWord_1 : List (Nat × Instr × Nat) := [(66, .if_icmp .eq 5, 3), (69, .iconst 0, 1), (70, .ireturn, 1), (71, .iinc 3 1, 3), (74, .goto (-29), 3), (77, .iconst 1, 1), (78, .ireturn, 1)]
theorem tk_X3_isWord_1 : dcA cX3_isWord tb_X3_isWord_1 = true := by decide +kernel
theorem dX3_isWord_66 : decode cX3_isWord 66 = .ok (.if_icmp .eq 5, 3) := dcO tk_X3_isWord_1 0 rfl
theorem dX3_isWord_69 : decode cX3_isWord 69 = .ok (.iconst 0, 1) := dcO tk_X3_isWord_1 1 rfl
theorem dX3_isWord_70 : decode cX3_isWord 70 = .ok (.ireturn, 1) := dcO tk_X3_isWord_1 2 rfl
theorem dX3_isWord_71 : decode cX3_isWord 71 = .ok (.iinc 3 1, 3) := dcO tk_X3_isWord_1 3 rfl
theorem dX3_isWord_74 : decode cX3_isWord 74 = .ok (.goto (-29), 3) := dcO tk_X3_isWord_1 4 rfl
theorem dX3_isWord_77 : decode cX3_isWord 77 = .ok (.iconst 1, 1) := dcO tk_X3_isWord_1 5 rfl
theorem dX3_isWord_78 : decode cX3_isWord 78 = .ok (.ireturn, 1) := dcO tk_X3_isWord_1 6 rfl
abbrev tb_X3_skipWord_0 : List (Nat × Instr × Nat) := [(0, .aload_n 0, 1), (1, .aload_n 1, 1), (2, .invokevirtual 96, 3), (5, .ifCond .ne 5, 3), (8, .iconst 0, 1), (9, .ireturn, 1), (10, .aload_n 0, 1), (11, .dup, 1), (12, .getfield 31, 3), (15, .iconst 1, 1), (16, .iadd, 1), (17, .putfield 31, 3), (20, .iconst 1, 1), (21, .ireturn, 1)]
theorem tk_X3_skipWord_0 : dcA cX3_skipWord tb_X3_skipWord_0 = true := by decide +kernel
theorem dX3_skipWord_0 : decode cX3_skipWord 0 = .ok (.aload_n 0, 1) := dcO tk_X3_skipWord_0 0 rfl
theorem dX3_skipWord_1 : decode cX3_skipWord 1 = .ok (.aload_n 1, 1) := dcO tk_X3_skipWord_0 1 rfl
theorem dX3_skipWord_2 : decode cX3_skipWord 2 = .ok (.invokevirtual 96, 3) := dcO tk_X3_skipWord_0 2 rfl
theorem dX3_skipWord_5 : decode cX3_skipWord 5 = .ok (.ifCond .ne 5, 3) := dcO tk_X3_skipWord_0 3 rfl
theorem dX3_skipWord_8 : decode cX3_skipWord 8 = .ok (.iconst 0, 1) := dcO tk_X3_skipWord_0 4 rfl
theorem dX3_skipWord_9 : decode cX3_skipWord 9 = .ok (.ireturn, 1) := dcO tk_X3_skipWord_0 5 rfl
theorem dX3_skipWord_10 : decode cX3_skipWord 10 = .ok (.aload_n 0, 1) := dcO tk_X3_skipWord_0 6 rfl
theorem dX3_skipWord_11 : decode cX3_skipWord 11 = .ok (.dup, 1) := dcO tk_X3_skipWord_0 7 rfl
theorem dX3_skipWord_12 : decode cX3_skipWord 12 = .ok (.getfield 31, 3) := dcO tk_X3_skipWord_0 8 rfl
theorem dX3_skipWord_15 : decode cX3_skipWord 15 = .ok (.iconst 1, 1) := dcO tk_X3_skipWord_0 9 rfl
theorem dX3_skipWord_16 : decode cX3_skipWord 16 = .ok (.iadd, 1) := dcO tk_X3_skipWord_0 10 rfl
theorem dX3_skipWord_17 : decode cX3_skipWord 17 = .ok (.putfield 31, 3) := dcO tk_X3_skipWord_0 11 rfl
theorem dX3_skipWord_20 : decode cX3_skipWord 20 = .ok (.iconst 1, 1) := dcO tk_X3_skipWord_0 12 rfl
theorem dX3_skipWord_21 : decode cX3_skipWord 21 = .ok (.ireturn, 1) := dcO tk_X3_skipWord_0 13 rfl
abbrev tb_X3_takeNumber_0 : List (Nat × Instr × Nat) := [(0, .aload_n 0, 1), (1, .getfield 19, 3), (4, .aload_n 0, 1), (5, .getfield 31, 3), (8, .iaload, 1), (9, .iconst 2, 1), (10, .if_icmp .ne 16, 3), (13, .aload_n 0, 1), (14, .getfield 28, 3), (17, .aload_n 0, 1), (18, .getfield 31, 3), (21, .iaload, 1), (22, .iload_n 1, 1), (23, .if_icmp .le 5, 3), (26, .iconst (-1), 1), (27, .ireturn, 1), (28, .aload_n 0, 1), (29, .getfield 28, 3), (32, .aload_n 0, 1), (33, .getfield 31, 3), (36, .iaload, 1), (37, .istore_n 2, 1), (38, .aload_n 0, 1), (39, .dup, 1), (40, .getfield 31, 3), (43, .iconst 1, 1), (44, .iadd, 1), (45, .putfield 31, 3), (48, .iload_n 2, 1), (49, .ireturn, 1)]
theorem tk_X3_takeNumber_0 : dcA cX3_takeNumber tb_X3_takeNumber_0 = true := by decide +kernel
theorem dX3_takeNumber_0 : decode cX3_takeNumber 0 = .ok (.aload_n 0, 1) := dcO tk_X3_takeNumber_0 0 rfl
theorem dX3_takeNumber_1 : decode cX3_takeNumber 1 = .ok (.getfield 19, 3) := dcO tk_X3_takeNumber_0 1 rfl
theorem dX3_takeNumber_4 : decode cX3_takeNumber 4 = .ok (.aload_n 0, 1) := dcO tk_X3_takeNumber_0 2 rfl
theorem dX3_takeNumber_5 : decode cX3_takeNumber 5 = .ok (.getfield 31, 3) := dcO tk_X3_takeNumber_0 3 rfl
theorem dX3_takeNumber_8 : decode cX3_takeNumber 8 = .ok (.iaload, 1) := dcO tk_X3_takeNumber_0 4 rfl
theorem dX3_takeNumber_9 : decode cX3_takeNumber 9 = .ok (.iconst 2, 1) := dcO tk_X3_takeNumber_0 5 rfl
theorem dX3_takeNumber_10 : decode cX3_takeNumber 10 = .ok (.if_icmp .ne 16, 3) := dcO tk_X3_takeNumber_0 6 rfl
theorem dX3_takeNumber_13 : decode cX3_takeNumber 13 = .ok (.aload_n 0, 1) := dcO tk_X3_takeNumber_0 7 rfl
theorem dX3_takeNumber_14 : decode cX3_takeNumber 14 = .ok (.getfield 28, 3) := dcO tk_X3_takeNumber_0 8 rfl
theorem dX3_takeNumber_17 : decode cX3_takeNumber 17 = .ok (.aload_n 0, 1) := dcO tk_X3_takeNumber_0 9 rfl
theorem dX3_takeNumber_18 : decode cX3_takeNumber 18 = .ok (.getfield 31, 3) := dcO tk_X3_takeNumber_0 10 rfl
theorem dX3_takeNumber_21 : decode cX3_takeNumber 21 = .ok (.iaload, 1) := dcO tk_X3_takeNumber_0 11 rfl
theorem dX3_takeNumber_22 : decode cX3_takeNumber 22 = .ok (.iload_n 1, 1) := dcO tk_X3_takeNumber_0 12 rfl
theorem dX3_takeNumber_23 : decode cX3_takeNumber 23 = .ok (.if_icmp .le 5, 3) := dcO tk_X3_takeNumber_0 13 rfl
theorem dX3_takeNumber_26 : decode cX3_takeNumber 26 = .ok (.iconst (-1), 1) := dcO tk_X3_takeNumber_0 14 rfl
theorem dX3_takeNumber_27 : decode cX3_takeNumber 27 = .ok (.ireturn, 1) := dcO tk_X3_takeNumber_0 15 rfl
theorem dX3_takeNumber_28 : decode cX3_takeNumber 28 = .ok (.aload_n 0, 1) := dcO tk_X3_takeNumber_0 16 rfl
theorem dX3_takeNumber_29 : decode cX3_takeNumber 29 = .ok (.getfield 28, 3) := dcO tk_X3_takeNumber_0 17 rfl
theorem dX3_takeNumber_32 : decode cX3_takeNumber 32 = .ok (.aload_n 0, 1) := dcO tk_X3_takeNumber_0 18 rfl
theorem dX3_takeNumber_33 : decode cX3_takeNumber 33 = .ok (.getfield 31, 3) := dcO tk_X3_takeNumber_0 19 rfl
theorem dX3_takeNumber_36 : decode cX3_takeNumber 36 = .ok (.iaload, 1) := dcO tk_X3_takeNumber_0 20 rfl
theorem dX3_takeNumber_37 : decode cX3_takeNumber 37 = .ok (.istore_n 2, 1) := dcO tk_X3_takeNumber_0 21 rfl
theorem dX3_takeNumber_38 : decode cX3_takeNumber 38 = .ok (.aload_n 0, 1) := dcO tk_X3_takeNumber_0 22 rfl
theorem dX3_takeNumber_39 : decode cX3_takeNumber 39 = .ok (.dup, 1) := dcO tk_X3_takeNumber_0 23 rfl
theorem dX3_takeNumber_40 : decode cX3_takeNumber 40 = .ok (.getfield 31, 3) := dcO tk_X3_takeNumber_0 24 rfl
theorem dX3_takeNumber_43 : decode cX3_takeNumber 43 = .ok (.iconst 1, 1) := dcO tk_X3_takeNumber_0 25 rfl
theorem dX3_takeNumber_44 : decode cX3_takeNumber 44 = .ok (.iadd, 1) := dcO tk_X3_takeNumber_0 26 rfl
theorem dX3_takeNumber_45 : decode cX3_takeNumber 45 = .ok (.putfield 31, 3) := dcO tk_X3_takeNumber_0 27 rfl
theorem dX3_takeNumber_48 : decode cX3_takeNumber 48 = .ok (.iload_n 2, 1) := dcO tk_X3_takeNumber_0 28 rfl
theorem dX3_takeNumber_49 : decode cX3_takeNumber 49 = .ok (.ireturn, 1) := dcO tk_X3_takeNumber_0 29 rfl
abbrev tb_X3_takePart_0 : List (Nat × Instr × Nat) := [(0, .aload_n 0, 1), (1, .aload_n 1, 1), (2, .invokevirtual 67, 3), (5, .ifCond .eq 11, 3), (8, .aload_n 0, 1), (9, .iload_n 2, 1), (10, .invokevirtual 139, 3), (13, .goto 4, 3), (16, .iload_n 3, 1), (17, .ireturn, 1)]
theorem tk_X3_takePart_0 : dcA cX3_takePart tb_X3_takePart_0 = true := by decide +kernel
theorem dX3_takePart_0 : decode cX3_takePart 0 = .ok (.aload_n 0, 1) := dcO tk_X3_takePart_0 0 rfl
theorem dX3_takePart_1 : decode cX3_takePart 1 = .ok (.aload_n 1, 1) := dcO tk_X3_takePart_0 1 rfl
theorem dX3_takePart_2 : decode cX3_takePart 2 = .ok (.invokevirtual 67, 3) := dcO tk_X3_takePart_0 2 rfl
theorem dX3_takePart_5 : decode cX3_takePart 5 = .ok (.ifCond .eq 11, 3) := dcO tk_X3_takePart_0 3 rfl
theorem dX3_takePart_8 : decode cX3_takePart 8 = .ok (.aload_n 0, 1) := dcO tk_X3_takePart_0 4 rfl
theorem dX3_takePart_9 : decode cX3_takePart 9 = .ok (.iload_n 2, 1) := dcO tk_X3_takePart_0 5 rfl
theorem dX3_takePart_10 : decode cX3_takePart 10 = .ok (.invokevirtual 139, 3) := dcO tk_X3_takePart_0 6 rfl
theorem dX3_takePart_13 : decode cX3_takePart 13 = .ok (.goto 4, 3) := dcO tk_X3_takePart_0 7 rfl
theorem dX3_takePart_16 : decode cX3_takePart 16 = .ok (.iload_n 3, 1) := dcO tk_X3_takePart_0 8 rfl
theorem dX3_takePart_17 : decode cX3_takePart 17 = .ok (.ireturn, 1) := dcO tk_X3_takePart_0 9 rfl
abbrev tb_X4_init_0 : List (Nat × Instr × Nat) := [(0, .aload_n 0, 1), (1, .invokespecial 3, 3), (4, .aload_n 0, 1), (5, .bipush 81, 2), (7, .newarray .int, 2), (9, .putfield 9, 3), (12, .aload_n 0, 1), (13, .bipush 81, 2), (15, .newarray .boolean, 2), (17, .putfield 15, 3), (20, .aload_n 0, 1), (21, .bipush 81, 2), (23, .newarray .int, 2), (25, .putfield 19, 3), (28, .aload_n 0, 1), (29, .sipush 648, 3), (32, .newarray .int, 2), (34, .putfield 22, 3), (37, .aload_n 0, 1), (38, .sipush 648, 3), (41, .newarray .int, 2), (43, .putfield 25, 3), (46, .return_, 1)]
theorem tk_X4_init_0 : dcA cX4_init tb_X4_init_0 = true := by decide +kernel
theorem dX4_init_0 : decode cX4_init 0 = .ok (.aload_n 0, 1) := dcO tk_X4_init_0 0 rfl
theorem dX4_init_1 : decode cX4_init 1 = .ok (.invokespecial 3, 3) := dcO tk_X4_init_0 1 rfl
theorem dX4_init_4 : decode cX4_init 4 = .ok (.aload_n 0, 1) := dcO tk_X4_init_0 2 rfl
theorem dX4_init_5 : decode cX4_init 5 = .ok (.bipush 81, 2) := dcO tk_X4_init_0 3 rfl
theorem dX4_init_7 : decode cX4_init 7 = .ok (.newarray .int, 2) := dcO tk_X4_init_0 4 rfl
theorem dX4_init_9 : decode cX4_init 9 = .ok (.putfield 9, 3) := dcO tk_X4_init_0 5 rfl
theorem dX4_init_12 : decode cX4_init 12 = .ok (.aload_n 0, 1) := dcO tk_X4_init_0 6 rfl
theorem dX4_init_13 : decode cX4_init 13 = .ok (.bipush 81, 2) := dcO tk_X4_init_0 7 rfl
theorem dX4_init_15 : decode cX4_init 15 = .ok (.newarray .boolean, 2) := dcO tk_X4_init_0 8 rfl
theorem dX4_init_17 : decode cX4_init 17 = .ok (.putfield 15, 3) := dcO tk_X4_init_0 9 rfl
theorem dX4_init_20 : decode cX4_init 20 = .ok (.aload_n 0, 1) := dcO tk_X4_init_0 10 rfl
theorem dX4_init_21 : decode cX4_init 21 = .ok (.bipush 81, 2) := dcO tk_X4_init_0 11 rfl
theorem dX4_init_23 : decode cX4_init 23 = .ok (.newarray .int, 2) := dcO tk_X4_init_0 12 rfl
theorem dX4_init_25 : decode cX4_init 25 = .ok (.putfield 19, 3) := dcO tk_X4_init_0 13 rfl
theorem dX4_init_28 : decode cX4_init 28 = .ok (.aload_n 0, 1) := dcO tk_X4_init_0 14 rfl
theorem dX4_init_29 : decode cX4_init 29 = .ok (.sipush 648, 3) := dcO tk_X4_init_0 15 rfl
theorem dX4_init_32 : decode cX4_init 32 = .ok (.newarray .int, 2) := dcO tk_X4_init_0 16 rfl
theorem dX4_init_34 : decode cX4_init 34 = .ok (.putfield 22, 3) := dcO tk_X4_init_0 17 rfl
theorem dX4_init_37 : decode cX4_init 37 = .ok (.aload_n 0, 1) := dcO tk_X4_init_0 18 rfl
theorem dX4_init_38 : decode cX4_init 38 = .ok (.sipush 648, 3) := dcO tk_X4_init_0 19 rfl
theorem dX4_init_41 : decode cX4_init 41 = .ok (.newarray .int, 2) := dcO tk_X4_init_0 20 rfl
theorem dX4_init_43 : decode cX4_init 43 = .ok (.putfield 25, 3) := dcO tk_X4_init_0 21 rfl
theorem dX4_init_46 : decode cX4_init 46 = .ok (.return_, 1) := dcO tk_X4_init_0 22 rfl
abbrev tb_X4_openLand_0 : List (Nat × Instr × Nat) := [(0, .iconst 0, 1), (1, .istore_n 2, 1), (2, .iload_n 2, 1), (3, .bipush 81, 2), (5, .if_icmp .ge 29, 3), (8, .aload_n 0, 1), (9, .getfield 15, 3), (12, .iload_n 2, 1), (13, .aload_n 1, 1), (14, .getfield 28, 3), (17, .iload_n 2, 1), (18, .iaload, 1), (19, .ifCond .ne 7, 3), (22, .iconst 1, 1), (23, .goto 4, 3), (26, .iconst 0, 1), (27, .bastore, 1), (28, .iinc 2 1, 3), (31, .goto (-29), 3), (34, .return_, 1)]
theorem tk_X4_openLand_0 : dcA cX4_openLand tb_X4_openLand_0 = true := by decide +kernel
theorem dX4_openLand_0 : decode cX4_openLand 0 = .ok (.iconst 0, 1) := dcO tk_X4_openLand_0 0 rfl
theorem dX4_openLand_1 : decode cX4_openLand 1 = .ok (.istore_n 2, 1) := dcO tk_X4_openLand_0 1 rfl
theorem dX4_openLand_2 : decode cX4_openLand 2 = .ok (.iload_n 2, 1) := dcO tk_X4_openLand_0 2 rfl
theorem dX4_openLand_3 : decode cX4_openLand 3 = .ok (.bipush 81, 2) := dcO tk_X4_openLand_0 3 rfl
theorem dX4_openLand_5 : decode cX4_openLand 5 = .ok (.if_icmp .ge 29, 3) := dcO tk_X4_openLand_0 4 rfl
theorem dX4_openLand_8 : decode cX4_openLand 8 = .ok (.aload_n 0, 1) := dcO tk_X4_openLand_0 5 rfl
theorem dX4_openLand_9 : decode cX4_openLand 9 = .ok (.getfield 15, 3) := dcO tk_X4_openLand_0 6 rfl
theorem dX4_openLand_12 : decode cX4_openLand 12 = .ok (.iload_n 2, 1) := dcO tk_X4_openLand_0 7 rfl
theorem dX4_openLand_13 : decode cX4_openLand 13 = .ok (.aload_n 1, 1) := dcO tk_X4_openLand_0 8 rfl
theorem dX4_openLand_14 : decode cX4_openLand 14 = .ok (.getfield 28, 3) := dcO tk_X4_openLand_0 9 rfl
theorem dX4_openLand_17 : decode cX4_openLand 17 = .ok (.iload_n 2, 1) := dcO tk_X4_openLand_0 10 rfl
theorem dX4_openLand_18 : decode cX4_openLand 18 = .ok (.iaload, 1) := dcO tk_X4_openLand_0 11 rfl
theorem dX4_openLand_19 : decode cX4_openLand 19 = .ok (.ifCond .ne 7, 3) := dcO tk_X4_openLand_0 12 rfl
theorem dX4_openLand_22 : decode cX4_openLand 22 = .ok (.iconst 1, 1) := dcO tk_X4_openLand_0 13 rfl
theorem dX4_openLand_23 : decode cX4_openLand 23 = .ok (.goto 4, 3) := dcO tk_X4_openLand_0 14 rfl
theorem dX4_openLand_26 : decode cX4_openLand 26 = .ok (.iconst 0, 1) := dcO tk_X4_openLand_0 15 rfl
theorem dX4_openLand_27 : decode cX4_openLand 27 = .ok (.bastore, 1) := dcO tk_X4_openLand_0 16 rfl
theorem dX4_openLand_28 : decode cX4_openLand 28 = .ok (.iinc 2 1, 3) := dcO tk_X4_openLand_0 17 rfl
theorem dX4_openLand_31 : decode cX4_openLand 31 = .ok (.goto (-29), 3) := dcO tk_X4_openLand_0 18 rfl
theorem dX4_openLand_34 : decode cX4_openLand 34 = .ok (.return_, 1) := dcO tk_X4_openLand_0 19 rfl
abbrev tb_X4_openFor_0 : List (Nat × Instr × Nat) := [(0, .iconst 0, 1), (1, .istore_n 3, 1), (2, .iload_n 3, 1), (3, .bipush 81, 2), (5, .if_icmp .ge 38, 3), (8, .aload_n 0, 1), (9, .getfield 15, 3), (12, .iload_n 3, 1), (13, .aload_n 1, 1), (14, .getfield 28, 3), (17, .iload_n 3, 1), (18, .iaload, 1), (19, .ifCond .ne 16, 3), (22, .aload_n 1, 1), (23, .iload_n 3, 1), (24, .iload_n 2, 1), (25, .invokevirtual 33, 3), (28, .ifCond .eq 7, 3), (31, .iconst 1, 1), (32, .goto 4, 3), (35, .iconst 0, 1), (36, .bastore, 1), (37, .iinc 3 1, 3), (40, .goto (-38), 3), (43, .return_, 1)]
theorem tk_X4_openFor_0 : dcA cX4_openFor tb_X4_openFor_0 = true := by decide +kernel
theorem dX4_openFor_0 : decode cX4_openFor 0 = .ok (.iconst 0, 1) := dcO tk_X4_openFor_0 0 rfl
theorem dX4_openFor_1 : decode cX4_openFor 1 = .ok (.istore_n 3, 1) := dcO tk_X4_openFor_0 1 rfl
theorem dX4_openFor_2 : decode cX4_openFor 2 = .ok (.iload_n 3, 1) := dcO tk_X4_openFor_0 2 rfl
theorem dX4_openFor_3 : decode cX4_openFor 3 = .ok (.bipush 81, 2) := dcO tk_X4_openFor_0 3 rfl
theorem dX4_openFor_5 : decode cX4_openFor 5 = .ok (.if_icmp .ge 38, 3) := dcO tk_X4_openFor_0 4 rfl
theorem dX4_openFor_8 : decode cX4_openFor 8 = .ok (.aload_n 0, 1) := dcO tk_X4_openFor_0 5 rfl
theorem dX4_openFor_9 : decode cX4_openFor 9 = .ok (.getfield 15, 3) := dcO tk_X4_openFor_0 6 rfl
theorem dX4_openFor_12 : decode cX4_openFor 12 = .ok (.iload_n 3, 1) := dcO tk_X4_openFor_0 7 rfl
theorem dX4_openFor_13 : decode cX4_openFor 13 = .ok (.aload_n 1, 1) := dcO tk_X4_openFor_0 8 rfl
theorem dX4_openFor_14 : decode cX4_openFor 14 = .ok (.getfield 28, 3) := dcO tk_X4_openFor_0 9 rfl
theorem dX4_openFor_17 : decode cX4_openFor 17 = .ok (.iload_n 3, 1) := dcO tk_X4_openFor_0 10 rfl
theorem dX4_openFor_18 : decode cX4_openFor 18 = .ok (.iaload, 1) := dcO tk_X4_openFor_0 11 rfl
theorem dX4_openFor_19 : decode cX4_openFor 19 = .ok (.ifCond .ne 16, 3) := dcO tk_X4_openFor_0 12 rfl
theorem dX4_openFor_22 : decode cX4_openFor 22 = .ok (.aload_n 1, 1) := dcO tk_X4_openFor_0 13 rfl
theorem dX4_openFor_23 : decode cX4_openFor 23 = .ok (.iload_n 3, 1) := dcO tk_X4_openFor_0 14 rfl
theorem dX4_openFor_24 : decode cX4_openFor 24 = .ok (.iload_n 2, 1) := dcO tk_X4_openFor_0 15 rfl
theorem dX4_openFor_25 : decode cX4_openFor 25 = .ok (.invokevirtual 33, 3) := dcO tk_X4_openFor_0 16 rfl
theorem dX4_openFor_28 : decode cX4_openFor 28 = .ok (.ifCond .eq 7, 3) := dcO tk_X4_openFor_0 17 rfl
theorem dX4_openFor_31 : decode cX4_openFor 31 = .ok (.iconst 1, 1) := dcO tk_X4_openFor_0 18 rfl
theorem dX4_openFor_32 : decode cX4_openFor 32 = .ok (.goto 4, 3) := dcO tk_X4_openFor_0 19 rfl
theorem dX4_openFor_35 : decode cX4_openFor 35 = .ok (.iconst 0, 1) := dcO tk_X4_openFor_0 20 rfl
theorem dX4_openFor_36 : decode cX4_openFor 36 = .ok (.bastore, 1) := dcO tk_X4_openFor_0 21 rfl
theorem dX4_openFor_37 : decode cX4_openFor 37 = .ok (.iinc 3 1, 3) := dcO tk_X4_openFor_0 22 rfl
theorem dX4_openFor_40 : decode cX4_openFor 40 = .ok (.goto (-38), 3) := dcO tk_X4_openFor_0 23 rfl
theorem dX4_openFor_43 : decode cX4_openFor 43 = .ok (.return_, 1) := dcO tk_X4_openFor_0 24 rfl
abbrev tb_X4_measure_0 : List (Nat × Instr × Nat) := [(0, .aload_n 0, 1), (1, .getfield 9, 3), (4, .bipush 99, 2), (6, .invokestatic 37, 3), (9, .aload_n 0, 1), (10, .getfield 15, 3), (13, .iload_n 1, 1), (14, .baload, 1), (15, .ifCond .ne 4, 3), (18, .return_, 1), (19, .aload_n 0, 1), (20, .getfield 9, 3), (23, .iload_n 1, 1), (24, .iconst 0, 1), (25, .iastore, 1), (26, .aload_n 0, 1), (27, .getfield 19, 3), (30, .iconst 0, 1), (31, .iload_n 1, 1), (32, .iastore, 1), (33, .iconst 1, 1), (34, .istore_n 2, 1), (35, .iconst 0, 1), (36, .istore_n 3, 1), (37, .iload_n 3, 1), (38, .iload_n 2, 1), (39, .if_icmp .ge 27, 3), (42, .iload_n 3, 1), (43, .bipush 81, 2), (45, .if_icmp .ge 21, 3), (48, .aload_n 0, 1), (49, .aload_n 0, 1), (50, .getfield 19, 3), (53, .iload_n 3, 1), (54, .iaload, 1), (55, .iload_n 2, 1), (56, .invokevirtual 43, 3), (59, .istore_n 2, 1), (60, .iinc 3 1, 3), (63, .goto (-26), 3)]
theorem tk_X4_measure_0 : dcA cX4_measure tb_X4_measure_0 = true := by decide +kernel
theorem dX4_measure_0 : decode cX4_measure 0 = .ok (.aload_n 0, 1) := dcO tk_X4_measure_0 0 rfl
theorem dX4_measure_1 : decode cX4_measure 1 = .ok (.getfield 9, 3) := dcO tk_X4_measure_0 1 rfl
theorem dX4_measure_4 : decode cX4_measure 4 = .ok (.bipush 99, 2) := dcO tk_X4_measure_0 2 rfl
theorem dX4_measure_6 : decode cX4_measure 6 = .ok (.invokestatic 37, 3) := dcO tk_X4_measure_0 3 rfl
theorem dX4_measure_9 : decode cX4_measure 9 = .ok (.aload_n 0, 1) := dcO tk_X4_measure_0 4 rfl
theorem dX4_measure_10 : decode cX4_measure 10 = .ok (.getfield 15, 3) := dcO tk_X4_measure_0 5 rfl
theorem dX4_measure_13 : decode cX4_measure 13 = .ok (.iload_n 1, 1) := dcO tk_X4_measure_0 6 rfl
theorem dX4_measure_14 : decode cX4_measure 14 = .ok (.baload, 1) := dcO tk_X4_measure_0 7 rfl
theorem dX4_measure_15 : decode cX4_measure 15 = .ok (.ifCond .ne 4, 3) := dcO tk_X4_measure_0 8 rfl
theorem dX4_measure_18 : decode cX4_measure 18 = .ok (.return_, 1) := dcO tk_X4_measure_0 9 rfl
theorem dX4_measure_19 : decode cX4_measure 19 = .ok (.aload_n 0, 1) := dcO tk_X4_measure_0 10 rfl
theorem dX4_measure_20 : decode cX4_measure 20 = .ok (.getfield 9, 3) := dcO tk_X4_measure_0 11 rfl
theorem dX4_measure_23 : decode cX4_measure 23 = .ok (.iload_n 1, 1) := dcO tk_X4_measure_0 12 rfl
theorem dX4_measure_24 : decode cX4_measure 24 = .ok (.iconst 0, 1) := dcO tk_X4_measure_0 13 rfl
theorem dX4_measure_25 : decode cX4_measure 25 = .ok (.iastore, 1) := dcO tk_X4_measure_0 14 rfl
theorem dX4_measure_26 : decode cX4_measure 26 = .ok (.aload_n 0, 1) := dcO tk_X4_measure_0 15 rfl
theorem dX4_measure_27 : decode cX4_measure 27 = .ok (.getfield 19, 3) := dcO tk_X4_measure_0 16 rfl
theorem dX4_measure_30 : decode cX4_measure 30 = .ok (.iconst 0, 1) := dcO tk_X4_measure_0 17 rfl
theorem dX4_measure_31 : decode cX4_measure 31 = .ok (.iload_n 1, 1) := dcO tk_X4_measure_0 18 rfl
theorem dX4_measure_32 : decode cX4_measure 32 = .ok (.iastore, 1) := dcO tk_X4_measure_0 19 rfl
theorem dX4_measure_33 : decode cX4_measure 33 = .ok (.iconst 1, 1) := dcO tk_X4_measure_0 20 rfl
theorem dX4_measure_34 : decode cX4_measure 34 = .ok (.istore_n 2, 1) := dcO tk_X4_measure_0 21 rfl
theorem dX4_measure_35 : decode cX4_measure 35 = .ok (.iconst 0, 1) := dcO tk_X4_measure_0 22 rfl
theorem dX4_measure_36 : decode cX4_measure 36 = .ok (.istore_n 3, 1) := dcO tk_X4_measure_0 23 rfl
theorem dX4_measure_37 : decode cX4_measure 37 = .ok (.iload_n 3, 1) := dcO tk_X4_measure_0 24 rfl
theorem dX4_measure_38 : decode cX4_measure 38 = .ok (.iload_n 2, 1) := dcO tk_X4_measure_0 25 rfl
theorem dX4_measure_39 : decode cX4_measure 39 = .ok (.if_icmp .ge 27, 3) := dcO tk_X4_measure_0 26 rfl
theorem dX4_measure_42 : decode cX4_measure 42 = .ok (.iload_n 3, 1) := dcO tk_X4_measure_0 27 rfl
theorem dX4_measure_43 : decode cX4_measure 43 = .ok (.bipush 81, 2) := dcO tk_X4_measure_0 28 rfl
theorem dX4_measure_45 : decode cX4_measure 45 = .ok (.if_icmp .ge 21, 3) := dcO tk_X4_measure_0 29 rfl
theorem dX4_measure_48 : decode cX4_measure 48 = .ok (.aload_n 0, 1) := dcO tk_X4_measure_0 30 rfl
theorem dX4_measure_49 : decode cX4_measure 49 = .ok (.aload_n 0, 1) := dcO tk_X4_measure_0 31 rfl
theorem dX4_measure_50 : decode cX4_measure 50 = .ok (.getfield 19, 3) := dcO tk_X4_measure_0 32 rfl
theorem dX4_measure_53 : decode cX4_measure 53 = .ok (.iload_n 3, 1) := dcO tk_X4_measure_0 33 rfl
theorem dX4_measure_54 : decode cX4_measure 54 = .ok (.iaload, 1) := dcO tk_X4_measure_0 34 rfl
theorem dX4_measure_55 : decode cX4_measure 55 = .ok (.iload_n 2, 1) := dcO tk_X4_measure_0 35 rfl
theorem dX4_measure_56 : decode cX4_measure 56 = .ok (.invokevirtual 43, 3) := dcO tk_X4_measure_0 36 rfl
theorem dX4_measure_59 : decode cX4_measure 59 = .ok (.istore_n 2, 1) := dcO tk_X4_measure_0 37 rfl
theorem dX4_measure_60 : decode cX4_measure 60 = .ok (.iinc 3 1, 3) := dcO tk_X4_measure_0 38 rfl
theorem dX4_measure_63 : decode cX4_measure 63 = .ok (.goto (-26), 3) := dcO tk_X4_measure_0 39 rfl
abbrev tb_X4_measure_1 : List (Nat × Instr × Nat) := [(66, .return_, 1)]
theorem tk_X4_measure_1 : dcA cX4_measure tb_X4_measure_1 = true := by decide +kernel
theorem dX4_measure_66 : decode cX4_measure 66 = .ok (.return_, 1) := dcO tk_X4_measure_1 0 rfl
abbrev tb_X4_spreadFrom_0 : List (Nat × Instr × Nat) := [(0, .iload_n 2, 1), (1, .istore_n 3, 1), (2, .iconst 0, 1), (3, .istore 4, 2), (5, .iload 4, 2), (7, .iconst 4, 1), (8, .if_icmp .ge 76, 3), (11, .iload_n 1, 1), (12, .iload 4, 2), (14, .invokestatic 47, 3), (17, .istore 5, 2), (19, .iload 5, 2), (21, .ifCond .lt 57, 3), (24, .aload_n 0, 1), (25, .getfield 15, 3), (28, .iload 5, 2), (30, .baload, 1), (31, .ifCond .eq 47, 3), (34, .aload_n 0, 1), (35, .getfield 9, 3), (38, .iload 5, 2), (40, .iaload, 1), (41, .bipush 99, 2), (43, .if_icmp .ne 35, 3), (46, .iload_n 3, 1), (47, .bipush 81, 2), (49, .if_icmp .ge 29, 3), (52, .aload_n 0, 1), (53, .getfield 9, 3), (56, .iload 5, 2), (58, .aload_n 0, 1), (59, .getfield 9, 3), (62, .iload_n 1, 1), (63, .iaload, 1), (64, .iconst 1, 1), (65, .iadd, 1), (66, .iastore, 1), (67, .aload_n 0, 1), (68, .getfield 19, 3), (71, .iload_n 3, 1)]
theorem tk_X4_spreadFrom_0 : dcA cX4_spreadFrom tb_X4_spreadFrom_0 = true := by decide +kernel
theorem dX4_spreadFrom_0 : decode cX4_spreadFrom 0 = .ok (.iload_n 2, 1) := dcO tk_X4_spreadFrom_0 0 rfl
theorem dX4_spreadFrom_1 : decode cX4_spreadFrom 1 = .ok (.istore_n 3, 1) := dcO tk_X4_spreadFrom_0 1 rfl
theorem dX4_spreadFrom_2 : decode cX4_spreadFrom 2 = .ok (.iconst 0, 1) := dcO tk_X4_spreadFrom_0 2 rfl
theorem dX4_spreadFrom_3 : decode cX4_spreadFrom 3 = .ok (.istore 4, 2) := dcO tk_X4_spreadFrom_0 3 rfl
theorem dX4_spreadFrom_5 : decode cX4_spreadFrom 5 = .ok (.iload 4, 2) := dcO tk_X4_spreadFrom_0 4 rfl
theorem dX4_spreadFrom_7 : decode cX4_spreadFrom 7 = .ok (.iconst 4, 1) := dcO tk_X4_spreadFrom_0 5 rfl
theorem dX4_spreadFrom_8 : decode cX4_spreadFrom 8 = .ok (.if_icmp .ge 76, 3) := dcO tk_X4_spreadFrom_0 6 rfl
theorem dX4_spreadFrom_11 : decode cX4_spreadFrom 11 = .ok (.iload_n 1, 1) := dcO tk_X4_spreadFrom_0 7 rfl
theorem dX4_spreadFrom_12 : decode cX4_spreadFrom 12 = .ok (.iload 4, 2) := dcO tk_X4_spreadFrom_0 8 rfl
theorem dX4_spreadFrom_14 : decode cX4_spreadFrom 14 = .ok (.invokestatic 47, 3) := dcO tk_X4_spreadFrom_0 9 rfl
theorem dX4_spreadFrom_17 : decode cX4_spreadFrom 17 = .ok (.istore 5, 2) := dcO tk_X4_spreadFrom_0 10 rfl
theorem dX4_spreadFrom_19 : decode cX4_spreadFrom 19 = .ok (.iload 5, 2) := dcO tk_X4_spreadFrom_0 11 rfl
theorem dX4_spreadFrom_21 : decode cX4_spreadFrom 21 = .ok (.ifCond .lt 57, 3) := dcO tk_X4_spreadFrom_0 12 rfl
theorem dX4_spreadFrom_24 : decode cX4_spreadFrom 24 = .ok (.aload_n 0, 1) := dcO tk_X4_spreadFrom_0 13 rfl
theorem dX4_spreadFrom_25 : decode cX4_spreadFrom 25 = .ok (.getfield 15, 3) := dcO tk_X4_spreadFrom_0 14 rfl
theorem dX4_spreadFrom_28 : decode cX4_spreadFrom 28 = .ok (.iload 5, 2) := dcO tk_X4_spreadFrom_0 15 rfl
theorem dX4_spreadFrom_30 : decode cX4_spreadFrom 30 = .ok (.baload, 1) := dcO tk_X4_spreadFrom_0 16 rfl
theorem dX4_spreadFrom_31 : decode cX4_spreadFrom 31 = .ok (.ifCond .eq 47, 3) := dcO tk_X4_spreadFrom_0 17 rfl
theorem dX4_spreadFrom_34 : decode cX4_spreadFrom 34 = .ok (.aload_n 0, 1) := dcO tk_X4_spreadFrom_0 18 rfl
theorem dX4_spreadFrom_35 : decode cX4_spreadFrom 35 = .ok (.getfield 9, 3) := dcO tk_X4_spreadFrom_0 19 rfl
theorem dX4_spreadFrom_38 : decode cX4_spreadFrom 38 = .ok (.iload 5, 2) := dcO tk_X4_spreadFrom_0 20 rfl
theorem dX4_spreadFrom_40 : decode cX4_spreadFrom 40 = .ok (.iaload, 1) := dcO tk_X4_spreadFrom_0 21 rfl
theorem dX4_spreadFrom_41 : decode cX4_spreadFrom 41 = .ok (.bipush 99, 2) := dcO tk_X4_spreadFrom_0 22 rfl
theorem dX4_spreadFrom_43 : decode cX4_spreadFrom 43 = .ok (.if_icmp .ne 35, 3) := dcO tk_X4_spreadFrom_0 23 rfl
theorem dX4_spreadFrom_46 : decode cX4_spreadFrom 46 = .ok (.iload_n 3, 1) := dcO tk_X4_spreadFrom_0 24 rfl
theorem dX4_spreadFrom_47 : decode cX4_spreadFrom 47 = .ok (.bipush 81, 2) := dcO tk_X4_spreadFrom_0 25 rfl
theorem dX4_spreadFrom_49 : decode cX4_spreadFrom 49 = .ok (.if_icmp .ge 29, 3) := dcO tk_X4_spreadFrom_0 26 rfl
theorem dX4_spreadFrom_52 : decode cX4_spreadFrom 52 = .ok (.aload_n 0, 1) := dcO tk_X4_spreadFrom_0 27 rfl
theorem dX4_spreadFrom_53 : decode cX4_spreadFrom 53 = .ok (.getfield 9, 3) := dcO tk_X4_spreadFrom_0 28 rfl
theorem dX4_spreadFrom_56 : decode cX4_spreadFrom 56 = .ok (.iload 5, 2) := dcO tk_X4_spreadFrom_0 29 rfl
theorem dX4_spreadFrom_58 : decode cX4_spreadFrom 58 = .ok (.aload_n 0, 1) := dcO tk_X4_spreadFrom_0 30 rfl
theorem dX4_spreadFrom_59 : decode cX4_spreadFrom 59 = .ok (.getfield 9, 3) := dcO tk_X4_spreadFrom_0 31 rfl
theorem dX4_spreadFrom_62 : decode cX4_spreadFrom 62 = .ok (.iload_n 1, 1) := dcO tk_X4_spreadFrom_0 32 rfl
theorem dX4_spreadFrom_63 : decode cX4_spreadFrom 63 = .ok (.iaload, 1) := dcO tk_X4_spreadFrom_0 33 rfl
theorem dX4_spreadFrom_64 : decode cX4_spreadFrom 64 = .ok (.iconst 1, 1) := dcO tk_X4_spreadFrom_0 34 rfl
theorem dX4_spreadFrom_65 : decode cX4_spreadFrom 65 = .ok (.iadd, 1) := dcO tk_X4_spreadFrom_0 35 rfl
theorem dX4_spreadFrom_66 : decode cX4_spreadFrom 66 = .ok (.iastore, 1) := dcO tk_X4_spreadFrom_0 36 rfl
theorem dX4_spreadFrom_67 : decode cX4_spreadFrom 67 = .ok (.aload_n 0, 1) := dcO tk_X4_spreadFrom_0 37 rfl
theorem dX4_spreadFrom_68 : decode cX4_spreadFrom 68 = .ok (.getfield 19, 3) := dcO tk_X4_spreadFrom_0 38 rfl
theorem dX4_spreadFrom_71 : decode cX4_spreadFrom 71 = .ok (.iload_n 3, 1) := dcO tk_X4_spreadFrom_0 39 rfl
abbrev tb_X4_spreadFrom_1 : List (Nat × Instr × Nat) := [(72, .iload 5, 2), (74, .iastore, 1), (75, .iinc 3 1, 3), (78, .iinc 4 1, 3), (81, .goto (-76), 3), (84, .iload_n 3, 1), (85, .ireturn, 1)]
theorem tk_X4_spreadFrom_1 : dcA cX4_spreadFrom tb_X4_spreadFrom_1 = true := by decide +kernel
theorem dX4_spreadFrom_72 : decode cX4_spreadFrom 72 = .ok (.iload 5, 2) := dcO tk_X4_spreadFrom_1 0 rfl
theorem dX4_spreadFrom_74 : decode cX4_spreadFrom 74 = .ok (.iastore, 1) := dcO tk_X4_spreadFrom_1 1 rfl
theorem dX4_spreadFrom_75 : decode cX4_spreadFrom 75 = .ok (.iinc 3 1, 3) := dcO tk_X4_spreadFrom_1 2 rfl
theorem dX4_spreadFrom_78 : decode cX4_spreadFrom 78 = .ok (.iinc 4 1, 3) := dcO tk_X4_spreadFrom_1 3 rfl
theorem dX4_spreadFrom_81 : decode cX4_spreadFrom 81 = .ok (.goto (-76), 3) := dcO tk_X4_spreadFrom_1 4 rfl
theorem dX4_spreadFrom_84 : decode cX4_spreadFrom 84 = .ok (.iload_n 3, 1) := dcO tk_X4_spreadFrom_1 5 rfl
theorem dX4_spreadFrom_85 : decode cX4_spreadFrom 85 = .ok (.ireturn, 1) := dcO tk_X4_spreadFrom_1 6 rfl
abbrev tb_X4_survey_0 : List (Nat × Instr × Nat) := [(0, .aload_n 0, 1), (1, .aload_n 1, 1), (2, .invokevirtual 50, 3), (5, .iconst 0, 1), (6, .istore_n 2, 1), (7, .iload_n 2, 1), (8, .aload_n 1, 1), (9, .getfield 54, 3), (12, .if_icmp .ge 66, 3), (15, .aload_n 0, 1), (16, .aload_n 1, 1), (17, .getfield 58, 3), (20, .iload_n 2, 1), (21, .iaload, 1), (22, .invokevirtual 61, 3), (25, .iconst 0, 1), (26, .istore_n 3, 1), (27, .iload_n 3, 1), (28, .bipush 81, 2), (30, .if_icmp .ge 42, 3), (33, .aload_n 0, 1), (34, .getfield 22, 3), (37, .iload_n 2, 1), (38, .bipush 81, 2), (40, .imul, 1), (41, .iload_n 3, 1), (42, .iadd, 1), (43, .aload_n 0, 1), (44, .getfield 9, 3), (47, .iload_n 3, 1), (48, .iaload, 1), (49, .iastore, 1), (50, .aload_n 0, 1), (51, .getfield 25, 3), (54, .iload_n 2, 1), (55, .bipush 81, 2), (57, .imul, 1), (58, .iload_n 3, 1), (59, .iadd, 1), (60, .aload_n 0, 1)]
theorem tk_X4_survey_0 : dcA cX4_survey tb_X4_survey_0 = true := by decide +kernel
theorem dX4_survey_0 : decode cX4_survey 0 = .ok (.aload_n 0, 1) := dcO tk_X4_survey_0 0 rfl
theorem dX4_survey_1 : decode cX4_survey 1 = .ok (.aload_n 1, 1) := dcO tk_X4_survey_0 1 rfl
theorem dX4_survey_2 : decode cX4_survey 2 = .ok (.invokevirtual 50, 3) := dcO tk_X4_survey_0 2 rfl
theorem dX4_survey_5 : decode cX4_survey 5 = .ok (.iconst 0, 1) := dcO tk_X4_survey_0 3 rfl
theorem dX4_survey_6 : decode cX4_survey 6 = .ok (.istore_n 2, 1) := dcO tk_X4_survey_0 4 rfl
theorem dX4_survey_7 : decode cX4_survey 7 = .ok (.iload_n 2, 1) := dcO tk_X4_survey_0 5 rfl
theorem dX4_survey_8 : decode cX4_survey 8 = .ok (.aload_n 1, 1) := dcO tk_X4_survey_0 6 rfl
theorem dX4_survey_9 : decode cX4_survey 9 = .ok (.getfield 54, 3) := dcO tk_X4_survey_0 7 rfl
theorem dX4_survey_12 : decode cX4_survey 12 = .ok (.if_icmp .ge 66, 3) := dcO tk_X4_survey_0 8 rfl
theorem dX4_survey_15 : decode cX4_survey 15 = .ok (.aload_n 0, 1) := dcO tk_X4_survey_0 9 rfl
theorem dX4_survey_16 : decode cX4_survey 16 = .ok (.aload_n 1, 1) := dcO tk_X4_survey_0 10 rfl
theorem dX4_survey_17 : decode cX4_survey 17 = .ok (.getfield 58, 3) := dcO tk_X4_survey_0 11 rfl
theorem dX4_survey_20 : decode cX4_survey 20 = .ok (.iload_n 2, 1) := dcO tk_X4_survey_0 12 rfl
theorem dX4_survey_21 : decode cX4_survey 21 = .ok (.iaload, 1) := dcO tk_X4_survey_0 13 rfl
theorem dX4_survey_22 : decode cX4_survey 22 = .ok (.invokevirtual 61, 3) := dcO tk_X4_survey_0 14 rfl
theorem dX4_survey_25 : decode cX4_survey 25 = .ok (.iconst 0, 1) := dcO tk_X4_survey_0 15 rfl
theorem dX4_survey_26 : decode cX4_survey 26 = .ok (.istore_n 3, 1) := dcO tk_X4_survey_0 16 rfl
theorem dX4_survey_27 : decode cX4_survey 27 = .ok (.iload_n 3, 1) := dcO tk_X4_survey_0 17 rfl
theorem dX4_survey_28 : decode cX4_survey 28 = .ok (.bipush 81, 2) := dcO tk_X4_survey_0 18 rfl
theorem dX4_survey_30 : decode cX4_survey 30 = .ok (.if_icmp .ge 42, 3) := dcO tk_X4_survey_0 19 rfl
theorem dX4_survey_33 : decode cX4_survey 33 = .ok (.aload_n 0, 1) := dcO tk_X4_survey_0 20 rfl
theorem dX4_survey_34 : decode cX4_survey 34 = .ok (.getfield 22, 3) := dcO tk_X4_survey_0 21 rfl
theorem dX4_survey_37 : decode cX4_survey 37 = .ok (.iload_n 2, 1) := dcO tk_X4_survey_0 22 rfl
theorem dX4_survey_38 : decode cX4_survey 38 = .ok (.bipush 81, 2) := dcO tk_X4_survey_0 23 rfl
theorem dX4_survey_40 : decode cX4_survey 40 = .ok (.imul, 1) := dcO tk_X4_survey_0 24 rfl
theorem dX4_survey_41 : decode cX4_survey 41 = .ok (.iload_n 3, 1) := dcO tk_X4_survey_0 25 rfl
theorem dX4_survey_42 : decode cX4_survey 42 = .ok (.iadd, 1) := dcO tk_X4_survey_0 26 rfl
theorem dX4_survey_43 : decode cX4_survey 43 = .ok (.aload_n 0, 1) := dcO tk_X4_survey_0 27 rfl
theorem dX4_survey_44 : decode cX4_survey 44 = .ok (.getfield 9, 3) := dcO tk_X4_survey_0 28 rfl
theorem dX4_survey_47 : decode cX4_survey 47 = .ok (.iload_n 3, 1) := dcO tk_X4_survey_0 29 rfl
theorem dX4_survey_48 : decode cX4_survey 48 = .ok (.iaload, 1) := dcO tk_X4_survey_0 30 rfl
theorem dX4_survey_49 : decode cX4_survey 49 = .ok (.iastore, 1) := dcO tk_X4_survey_0 31 rfl
theorem dX4_survey_50 : decode cX4_survey 50 = .ok (.aload_n 0, 1) := dcO tk_X4_survey_0 32 rfl
theorem dX4_survey_51 : decode cX4_survey 51 = .ok (.getfield 25, 3) := dcO tk_X4_survey_0 33 rfl
theorem dX4_survey_54 : decode cX4_survey 54 = .ok (.iload_n 2, 1) := dcO tk_X4_survey_0 34 rfl
theorem dX4_survey_55 : decode cX4_survey 55 = .ok (.bipush 81, 2) := dcO tk_X4_survey_0 35 rfl
theorem dX4_survey_57 : decode cX4_survey 57 = .ok (.imul, 1) := dcO tk_X4_survey_0 36 rfl
theorem dX4_survey_58 : decode cX4_survey 58 = .ok (.iload_n 3, 1) := dcO tk_X4_survey_0 37 rfl
theorem dX4_survey_59 : decode cX4_survey 59 = .ok (.iadd, 1) := dcO tk_X4_survey_0 38 rfl
theorem dX4_survey_60 : decode cX4_survey 60 = .ok (.aload_n 0, 1) := dcO tk_X4_survey_0 39 rfl
abbrev tb_X4_survey_1 : List (Nat × Instr × Nat) := [(61, .iload_n 3, 1), (62, .invokevirtual 65, 3), (65, .iastore, 1), (66, .iinc 3 1, 3), (69, .goto (-42), 3), (72, .iinc 2 1, 3), (75, .goto (-68), 3), (78, .return_, 1)]
theorem tk_X4_survey_1 : dcA cX4_survey tb_X4_survey_1 = true := by decide +kernel
theorem dX4_survey_61 : decode cX4_survey 61 = .ok (.iload_n 3, 1) := dcO tk_X4_survey_1 0 rfl
theorem dX4_survey_62 : decode cX4_survey 62 = .ok (.invokevirtual 65, 3) := dcO tk_X4_survey_1 1 rfl
theorem dX4_survey_65 : decode cX4_survey 65 = .ok (.iastore, 1) := dcO tk_X4_survey_1 2 rfl
theorem dX4_survey_66 : decode cX4_survey 66 = .ok (.iinc 3 1, 3) := dcO tk_X4_survey_1 3 rfl
theorem dX4_survey_69 : decode cX4_survey 69 = .ok (.goto (-42), 3) := dcO tk_X4_survey_1 4 rfl
theorem dX4_survey_72 : decode cX4_survey 72 = .ok (.iinc 2 1, 3) := dcO tk_X4_survey_1 5 rfl
theorem dX4_survey_75 : decode cX4_survey 75 = .ok (.goto (-68), 3) := dcO tk_X4_survey_1 6 rfl
theorem dX4_survey_78 : decode cX4_survey 78 = .ok (.return_, 1) := dcO tk_X4_survey_1 7 rfl
abbrev tb_X4_nearerThan_0 : List (Nat × Instr × Nat) := [(0, .aload_n 0, 1), (1, .getfield 15, 3), (4, .iload_n 1, 1), (5, .baload, 1), (6, .ifCond .ne 5, 3), (9, .iload_n 1, 1), (10, .ireturn, 1), (11, .iconst 0, 1), (12, .istore_n 2, 1), (13, .iload_n 2, 1), (14, .iconst 4, 1), (15, .if_icmp .ge 36, 3), (18, .iload_n 1, 1), (19, .iload_n 2, 1), (20, .invokestatic 47, 3), (23, .istore_n 3, 1), (24, .iload_n 3, 1), (25, .ifCond .lt 20, 3), (28, .aload_n 0, 1), (29, .getfield 9, 3), (32, .iload_n 3, 1), (33, .iaload, 1), (34, .aload_n 0, 1), (35, .getfield 9, 3), (38, .iload_n 1, 1), (39, .iaload, 1), (40, .if_icmp .ge 5, 3), (43, .iload_n 3, 1), (44, .ireturn, 1), (45, .iinc 2 1, 3), (48, .goto (-35), 3), (51, .iload_n 1, 1), (52, .ireturn, 1)]
theorem tk_X4_nearerThan_0 : dcA cX4_nearerThan tb_X4_nearerThan_0 = true := by decide +kernel
theorem dX4_nearerThan_0 : decode cX4_nearerThan 0 = .ok (.aload_n 0, 1) := dcO tk_X4_nearerThan_0 0 rfl
theorem dX4_nearerThan_1 : decode cX4_nearerThan 1 = .ok (.getfield 15, 3) := dcO tk_X4_nearerThan_0 1 rfl
theorem dX4_nearerThan_4 : decode cX4_nearerThan 4 = .ok (.iload_n 1, 1) := dcO tk_X4_nearerThan_0 2 rfl
theorem dX4_nearerThan_5 : decode cX4_nearerThan 5 = .ok (.baload, 1) := dcO tk_X4_nearerThan_0 3 rfl
theorem dX4_nearerThan_6 : decode cX4_nearerThan 6 = .ok (.ifCond .ne 5, 3) := dcO tk_X4_nearerThan_0 4 rfl
theorem dX4_nearerThan_9 : decode cX4_nearerThan 9 = .ok (.iload_n 1, 1) := dcO tk_X4_nearerThan_0 5 rfl
theorem dX4_nearerThan_10 : decode cX4_nearerThan 10 = .ok (.ireturn, 1) := dcO tk_X4_nearerThan_0 6 rfl
theorem dX4_nearerThan_11 : decode cX4_nearerThan 11 = .ok (.iconst 0, 1) := dcO tk_X4_nearerThan_0 7 rfl
theorem dX4_nearerThan_12 : decode cX4_nearerThan 12 = .ok (.istore_n 2, 1) := dcO tk_X4_nearerThan_0 8 rfl
theorem dX4_nearerThan_13 : decode cX4_nearerThan 13 = .ok (.iload_n 2, 1) := dcO tk_X4_nearerThan_0 9 rfl
theorem dX4_nearerThan_14 : decode cX4_nearerThan 14 = .ok (.iconst 4, 1) := dcO tk_X4_nearerThan_0 10 rfl
theorem dX4_nearerThan_15 : decode cX4_nearerThan 15 = .ok (.if_icmp .ge 36, 3) := dcO tk_X4_nearerThan_0 11 rfl
theorem dX4_nearerThan_18 : decode cX4_nearerThan 18 = .ok (.iload_n 1, 1) := dcO tk_X4_nearerThan_0 12 rfl
theorem dX4_nearerThan_19 : decode cX4_nearerThan 19 = .ok (.iload_n 2, 1) := dcO tk_X4_nearerThan_0 13 rfl
theorem dX4_nearerThan_20 : decode cX4_nearerThan 20 = .ok (.invokestatic 47, 3) := dcO tk_X4_nearerThan_0 14 rfl
theorem dX4_nearerThan_23 : decode cX4_nearerThan 23 = .ok (.istore_n 3, 1) := dcO tk_X4_nearerThan_0 15 rfl
theorem dX4_nearerThan_24 : decode cX4_nearerThan 24 = .ok (.iload_n 3, 1) := dcO tk_X4_nearerThan_0 16 rfl
theorem dX4_nearerThan_25 : decode cX4_nearerThan 25 = .ok (.ifCond .lt 20, 3) := dcO tk_X4_nearerThan_0 17 rfl
theorem dX4_nearerThan_28 : decode cX4_nearerThan 28 = .ok (.aload_n 0, 1) := dcO tk_X4_nearerThan_0 18 rfl
theorem dX4_nearerThan_29 : decode cX4_nearerThan 29 = .ok (.getfield 9, 3) := dcO tk_X4_nearerThan_0 19 rfl
theorem dX4_nearerThan_32 : decode cX4_nearerThan 32 = .ok (.iload_n 3, 1) := dcO tk_X4_nearerThan_0 20 rfl
theorem dX4_nearerThan_33 : decode cX4_nearerThan 33 = .ok (.iaload, 1) := dcO tk_X4_nearerThan_0 21 rfl
theorem dX4_nearerThan_34 : decode cX4_nearerThan 34 = .ok (.aload_n 0, 1) := dcO tk_X4_nearerThan_0 22 rfl
theorem dX4_nearerThan_35 : decode cX4_nearerThan 35 = .ok (.getfield 9, 3) := dcO tk_X4_nearerThan_0 23 rfl
theorem dX4_nearerThan_38 : decode cX4_nearerThan 38 = .ok (.iload_n 1, 1) := dcO tk_X4_nearerThan_0 24 rfl
theorem dX4_nearerThan_39 : decode cX4_nearerThan 39 = .ok (.iaload, 1) := dcO tk_X4_nearerThan_0 25 rfl
theorem dX4_nearerThan_40 : decode cX4_nearerThan 40 = .ok (.if_icmp .ge 5, 3) := dcO tk_X4_nearerThan_0 26 rfl
theorem dX4_nearerThan_43 : decode cX4_nearerThan 43 = .ok (.iload_n 3, 1) := dcO tk_X4_nearerThan_0 27 rfl
theorem dX4_nearerThan_44 : decode cX4_nearerThan 44 = .ok (.ireturn, 1) := dcO tk_X4_nearerThan_0 28 rfl
theorem dX4_nearerThan_45 : decode cX4_nearerThan 45 = .ok (.iinc 2 1, 3) := dcO tk_X4_nearerThan_0 29 rfl
theorem dX4_nearerThan_48 : decode cX4_nearerThan 48 = .ok (.goto (-35), 3) := dcO tk_X4_nearerThan_0 30 rfl
theorem dX4_nearerThan_51 : decode cX4_nearerThan 51 = .ok (.iload_n 1, 1) := dcO tk_X4_nearerThan_0 31 rfl
theorem dX4_nearerThan_52 : decode cX4_nearerThan 52 = .ok (.ireturn, 1) := dcO tk_X4_nearerThan_0 32 rfl
abbrev tb_X4_gateStepsOf_0 : List (Nat × Instr × Nat) := [(0, .aload_n 0, 1), (1, .getfield 22, 3), (4, .iload_n 1, 1), (5, .bipush 81, 2), (7, .imul, 1), (8, .iload_n 2, 1), (9, .iadd, 1), (10, .iaload, 1), (11, .ireturn, 1)]
theorem tk_X4_gateStepsOf_0 : dcA cX4_gateStepsOf tb_X4_gateStepsOf_0 = true := by decide +kernel
theorem dX4_gateStepsOf_0 : decode cX4_gateStepsOf 0 = .ok (.aload_n 0, 1) := dcO tk_X4_gateStepsOf_0 0 rfl
theorem dX4_gateStepsOf_1 : decode cX4_gateStepsOf 1 = .ok (.getfield 22, 3) := dcO tk_X4_gateStepsOf_0 1 rfl
theorem dX4_gateStepsOf_4 : decode cX4_gateStepsOf 4 = .ok (.iload_n 1, 1) := dcO tk_X4_gateStepsOf_0 2 rfl
theorem dX4_gateStepsOf_5 : decode cX4_gateStepsOf 5 = .ok (.bipush 81, 2) := dcO tk_X4_gateStepsOf_0 3 rfl
theorem dX4_gateStepsOf_7 : decode cX4_gateStepsOf 7 = .ok (.imul, 1) := dcO tk_X4_gateStepsOf_0 4 rfl
theorem dX4_gateStepsOf_8 : decode cX4_gateStepsOf 8 = .ok (.iload_n 2, 1) := dcO tk_X4_gateStepsOf_0 5 rfl
theorem dX4_gateStepsOf_9 : decode cX4_gateStepsOf 9 = .ok (.iadd, 1) := dcO tk_X4_gateStepsOf_0 6 rfl
theorem dX4_gateStepsOf_10 : decode cX4_gateStepsOf 10 = .ok (.iaload, 1) := dcO tk_X4_gateStepsOf_0 7 rfl
theorem dX4_gateStepsOf_11 : decode cX4_gateStepsOf 11 = .ok (.ireturn, 1) := dcO tk_X4_gateStepsOf_0 8 rfl
abbrev tb_X4_nextOf_0 : List (Nat × Instr × Nat) := [(0, .aload_n 0, 1), (1, .getfield 25, 3), (4, .iload_n 1, 1), (5, .bipush 81, 2), (7, .imul, 1), (8, .iload_n 2, 1), (9, .iadd, 1), (10, .iaload, 1), (11, .ireturn, 1)]
theorem tk_X4_nextOf_0 : dcA cX4_nextOf tb_X4_nextOf_0 = true := by decide +kernel
theorem dX4_nextOf_0 : decode cX4_nextOf 0 = .ok (.aload_n 0, 1) := dcO tk_X4_nextOf_0 0 rfl
theorem dX4_nextOf_1 : decode cX4_nextOf 1 = .ok (.getfield 25, 3) := dcO tk_X4_nextOf_0 1 rfl
theorem dX4_nextOf_4 : decode cX4_nextOf 4 = .ok (.iload_n 1, 1) := dcO tk_X4_nextOf_0 2 rfl
theorem dX4_nextOf_5 : decode cX4_nextOf 5 = .ok (.bipush 81, 2) := dcO tk_X4_nextOf_0 3 rfl
theorem dX4_nextOf_7 : decode cX4_nextOf 7 = .ok (.imul, 1) := dcO tk_X4_nextOf_0 4 rfl
theorem dX4_nextOf_8 : decode cX4_nextOf 8 = .ok (.iload_n 2, 1) := dcO tk_X4_nextOf_0 5 rfl
theorem dX4_nextOf_9 : decode cX4_nextOf 9 = .ok (.iadd, 1) := dcO tk_X4_nextOf_0 6 rfl
theorem dX4_nextOf_10 : decode cX4_nextOf 10 = .ok (.iaload, 1) := dcO tk_X4_nextOf_0 7 rfl
theorem dX4_nextOf_11 : decode cX4_nextOf 11 = .ok (.ireturn, 1) := dcO tk_X4_nextOf_0 8 rfl
abbrev tb_X5_init_0 : List (Nat × Instr × Nat) := [(0, .aload_n 0, 1), (1, .invokespecial 3, 3), (4, .aload_n 0, 1), (5, .new 9, 3), (8, .dup, 1), (9, .invokespecial 11, 3), (12, .putfield 12, 3), (15, .aload_n 0, 1), (16, .new 9, 3), (19, .dup, 1), (20, .invokespecial 11, 3), (23, .putfield 16, 3), (26, .aload_n 0, 1), (27, .new 19, 3), (30, .dup, 1), (31, .invokespecial 21, 3), (34, .putfield 22, 3), (37, .aload_n 0, 1), (38, .new 26, 3), (41, .dup, 1), (42, .invokespecial 28, 3), (45, .putfield 29, 3), (48, .aload_n 0, 1), (49, .new 33, 3), (52, .dup, 1), (53, .invokespecial 35, 3), (56, .putfield 36, 3), (59, .aload_n 0, 1), (60, .new 40, 3), (63, .dup, 1), (64, .invokespecial 42, 3), (67, .putfield 43, 3), (70, .aload_n 0, 1), (71, .bipush 7, 2), (73, .newarray .int, 2), (75, .putfield 47, 3), (78, .aload_n 0, 1), (79, .iconst 0, 1), (80, .putfield 51, 3), (83, .return_, 1)]
theorem tk_X5_init_0 : dcA cX5_init tb_X5_init_0 = true := by decide +kernel
theorem dX5_init_0 : decode cX5_init 0 = .ok (.aload_n 0, 1) := dcO tk_X5_init_0 0 rfl
theorem dX5_init_1 : decode cX5_init 1 = .ok (.invokespecial 3, 3) := dcO tk_X5_init_0 1 rfl
theorem dX5_init_4 : decode cX5_init 4 = .ok (.aload_n 0, 1) := dcO tk_X5_init_0 2 rfl
theorem dX5_init_5 : decode cX5_init 5 = .ok (.new 9, 3) := dcO tk_X5_init_0 3 rfl
theorem dX5_init_8 : decode cX5_init 8 = .ok (.dup, 1) := dcO tk_X5_init_0 4 rfl
theorem dX5_init_9 : decode cX5_init 9 = .ok (.invokespecial 11, 3) := dcO tk_X5_init_0 5 rfl
theorem dX5_init_12 : decode cX5_init 12 = .ok (.putfield 12, 3) := dcO tk_X5_init_0 6 rfl
theorem dX5_init_15 : decode cX5_init 15 = .ok (.aload_n 0, 1) := dcO tk_X5_init_0 7 rfl
theorem dX5_init_16 : decode cX5_init 16 = .ok (.new 9, 3) := dcO tk_X5_init_0 8 rfl
theorem dX5_init_19 : decode cX5_init 19 = .ok (.dup, 1) := dcO tk_X5_init_0 9 rfl
theorem dX5_init_20 : decode cX5_init 20 = .ok (.invokespecial 11, 3) := dcO tk_X5_init_0 10 rfl
theorem dX5_init_23 : decode cX5_init 23 = .ok (.putfield 16, 3) := dcO tk_X5_init_0 11 rfl
theorem dX5_init_26 : decode cX5_init 26 = .ok (.aload_n 0, 1) := dcO tk_X5_init_0 12 rfl
theorem dX5_init_27 : decode cX5_init 27 = .ok (.new 19, 3) := dcO tk_X5_init_0 13 rfl
theorem dX5_init_30 : decode cX5_init 30 = .ok (.dup, 1) := dcO tk_X5_init_0 14 rfl
theorem dX5_init_31 : decode cX5_init 31 = .ok (.invokespecial 21, 3) := dcO tk_X5_init_0 15 rfl
theorem dX5_init_34 : decode cX5_init 34 = .ok (.putfield 22, 3) := dcO tk_X5_init_0 16 rfl
theorem dX5_init_37 : decode cX5_init 37 = .ok (.aload_n 0, 1) := dcO tk_X5_init_0 17 rfl
theorem dX5_init_38 : decode cX5_init 38 = .ok (.new 26, 3) := dcO tk_X5_init_0 18 rfl
theorem dX5_init_41 : decode cX5_init 41 = .ok (.dup, 1) := dcO tk_X5_init_0 19 rfl
theorem dX5_init_42 : decode cX5_init 42 = .ok (.invokespecial 28, 3) := dcO tk_X5_init_0 20 rfl
theorem dX5_init_45 : decode cX5_init 45 = .ok (.putfield 29, 3) := dcO tk_X5_init_0 21 rfl
theorem dX5_init_48 : decode cX5_init 48 = .ok (.aload_n 0, 1) := dcO tk_X5_init_0 22 rfl
theorem dX5_init_49 : decode cX5_init 49 = .ok (.new 33, 3) := dcO tk_X5_init_0 23 rfl
theorem dX5_init_52 : decode cX5_init 52 = .ok (.dup, 1) := dcO tk_X5_init_0 24 rfl
theorem dX5_init_53 : decode cX5_init 53 = .ok (.invokespecial 35, 3) := dcO tk_X5_init_0 25 rfl
theorem dX5_init_56 : decode cX5_init 56 = .ok (.putfield 36, 3) := dcO tk_X5_init_0 26 rfl
theorem dX5_init_59 : decode cX5_init 59 = .ok (.aload_n 0, 1) := dcO tk_X5_init_0 27 rfl
theorem dX5_init_60 : decode cX5_init 60 = .ok (.new 40, 3) := dcO tk_X5_init_0 28 rfl
theorem dX5_init_63 : decode cX5_init 63 = .ok (.dup, 1) := dcO tk_X5_init_0 29 rfl
theorem dX5_init_64 : decode cX5_init 64 = .ok (.invokespecial 42, 3) := dcO tk_X5_init_0 30 rfl
theorem dX5_init_67 : decode cX5_init 67 = .ok (.putfield 43, 3) := dcO tk_X5_init_0 31 rfl
theorem dX5_init_70 : decode cX5_init 70 = .ok (.aload_n 0, 1) := dcO tk_X5_init_0 32 rfl
theorem dX5_init_71 : decode cX5_init 71 = .ok (.bipush 7, 2) := dcO tk_X5_init_0 33 rfl
theorem dX5_init_73 : decode cX5_init 73 = .ok (.newarray .int, 2) := dcO tk_X5_init_0 34 rfl
theorem dX5_init_75 : decode cX5_init 75 = .ok (.putfield 47, 3) := dcO tk_X5_init_0 35 rfl
theorem dX5_init_78 : decode cX5_init 78 = .ok (.aload_n 0, 1) := dcO tk_X5_init_0 36 rfl
theorem dX5_init_79 : decode cX5_init 79 = .ok (.iconst 0, 1) := dcO tk_X5_init_0 37 rfl
theorem dX5_init_80 : decode cX5_init 80 = .ok (.putfield 51, 3) := dcO tk_X5_init_0 38 rfl
theorem dX5_init_83 : decode cX5_init 83 = .ok (.return_, 1) := dcO tk_X5_init_0 39 rfl
abbrev tb_X5_hedge_0 : List (Nat × Instr × Nat) := [(0, .iload_n 1, 1), (1, .invokestatic 55, 3), (4, .ifCond .eq 11, 3), (7, .iload_n 2, 1), (8, .iconst 1, 1), (9, .invokestatic 59, 3), (12, .ifCond .ne 10, 3), (15, .aload_n 0, 1), (16, .ldc 63, 2), (18, .invokevirtual 64, 3), (21, .ireturn, 1), (22, .aload_n 0, 1), (23, .getfield 12, 3), (26, .getfield 68, 3), (29, .iload_n 1, 1), (30, .iaload, 1), (31, .istore_n 3, 1), (32, .aload_n 0, 1), (33, .getfield 12, 3), (36, .getfield 68, 3), (39, .iload_n 1, 1), (40, .iload_n 2, 1), (41, .iastore, 1), (42, .iload_n 3, 1), (43, .iload_n 2, 1), (44, .if_icmp .ne 7, 3), (47, .iconst 0, 1), (48, .goto 4, 3), (51, .iconst 1, 1), (52, .ireturn, 1)]
theorem tk_X5_hedge_0 : dcA cX5_hedge tb_X5_hedge_0 = true := by decide +kernel
theorem dX5_hedge_0 : decode cX5_hedge 0 = .ok (.iload_n 1, 1) := dcO tk_X5_hedge_0 0 rfl
theorem dX5_hedge_1 : decode cX5_hedge 1 = .ok (.invokestatic 55, 3) := dcO tk_X5_hedge_0 1 rfl
theorem dX5_hedge_4 : decode cX5_hedge 4 = .ok (.ifCond .eq 11, 3) := dcO tk_X5_hedge_0 2 rfl
theorem dX5_hedge_7 : decode cX5_hedge 7 = .ok (.iload_n 2, 1) := dcO tk_X5_hedge_0 3 rfl
theorem dX5_hedge_8 : decode cX5_hedge 8 = .ok (.iconst 1, 1) := dcO tk_X5_hedge_0 4 rfl
theorem dX5_hedge_9 : decode cX5_hedge 9 = .ok (.invokestatic 59, 3) := dcO tk_X5_hedge_0 5 rfl
theorem dX5_hedge_12 : decode cX5_hedge 12 = .ok (.ifCond .ne 10, 3) := dcO tk_X5_hedge_0 6 rfl
theorem dX5_hedge_15 : decode cX5_hedge 15 = .ok (.aload_n 0, 1) := dcO tk_X5_hedge_0 7 rfl
theorem dX5_hedge_16 : decode cX5_hedge 16 = .ok (.ldc 63, 2) := dcO tk_X5_hedge_0 8 rfl
theorem dX5_hedge_18 : decode cX5_hedge 18 = .ok (.invokevirtual 64, 3) := dcO tk_X5_hedge_0 9 rfl
theorem dX5_hedge_21 : decode cX5_hedge 21 = .ok (.ireturn, 1) := dcO tk_X5_hedge_0 10 rfl
theorem dX5_hedge_22 : decode cX5_hedge 22 = .ok (.aload_n 0, 1) := dcO tk_X5_hedge_0 11 rfl
theorem dX5_hedge_23 : decode cX5_hedge 23 = .ok (.getfield 12, 3) := dcO tk_X5_hedge_0 12 rfl
theorem dX5_hedge_26 : decode cX5_hedge 26 = .ok (.getfield 68, 3) := dcO tk_X5_hedge_0 13 rfl
theorem dX5_hedge_29 : decode cX5_hedge 29 = .ok (.iload_n 1, 1) := dcO tk_X5_hedge_0 14 rfl
theorem dX5_hedge_30 : decode cX5_hedge 30 = .ok (.iaload, 1) := dcO tk_X5_hedge_0 15 rfl
theorem dX5_hedge_31 : decode cX5_hedge 31 = .ok (.istore_n 3, 1) := dcO tk_X5_hedge_0 16 rfl
theorem dX5_hedge_32 : decode cX5_hedge 32 = .ok (.aload_n 0, 1) := dcO tk_X5_hedge_0 17 rfl
theorem dX5_hedge_33 : decode cX5_hedge 33 = .ok (.getfield 12, 3) := dcO tk_X5_hedge_0 18 rfl
theorem dX5_hedge_36 : decode cX5_hedge 36 = .ok (.getfield 68, 3) := dcO tk_X5_hedge_0 19 rfl
theorem dX5_hedge_39 : decode cX5_hedge 39 = .ok (.iload_n 1, 1) := dcO tk_X5_hedge_0 20 rfl
theorem dX5_hedge_40 : decode cX5_hedge 40 = .ok (.iload_n 2, 1) := dcO tk_X5_hedge_0 21 rfl
theorem dX5_hedge_41 : decode cX5_hedge 41 = .ok (.iastore, 1) := dcO tk_X5_hedge_0 22 rfl
theorem dX5_hedge_42 : decode cX5_hedge 42 = .ok (.iload_n 3, 1) := dcO tk_X5_hedge_0 23 rfl
theorem dX5_hedge_43 : decode cX5_hedge 43 = .ok (.iload_n 2, 1) := dcO tk_X5_hedge_0 24 rfl
theorem dX5_hedge_44 : decode cX5_hedge 44 = .ok (.if_icmp .ne 7, 3) := dcO tk_X5_hedge_0 25 rfl
theorem dX5_hedge_47 : decode cX5_hedge 47 = .ok (.iconst 0, 1) := dcO tk_X5_hedge_0 26 rfl
theorem dX5_hedge_48 : decode cX5_hedge 48 = .ok (.goto 4, 3) := dcO tk_X5_hedge_0 27 rfl
theorem dX5_hedge_51 : decode cX5_hedge 51 = .ok (.iconst 1, 1) := dcO tk_X5_hedge_0 28 rfl
theorem dX5_hedge_52 : decode cX5_hedge 52 = .ok (.ireturn, 1) := dcO tk_X5_hedge_0 29 rfl
abbrev tb_X5_greens_0 : List (Nat × Instr × Nat) := [(0, .iload_n 1, 1), (1, .invokestatic 55, 3), (4, .ifCond .eq 12, 3), (7, .iload_n 2, 1), (8, .bipush 9, 2), (10, .invokestatic 59, 3), (13, .ifCond .ne 10, 3), (16, .aload_n 0, 1), (17, .ldc 63, 2), (19, .invokevirtual 64, 3), (22, .ireturn, 1), (23, .aload_n 0, 1), (24, .getfield 12, 3), (27, .getfield 71, 3), (30, .iload_n 1, 1), (31, .iaload, 1), (32, .istore_n 3, 1), (33, .aload_n 0, 1), (34, .getfield 12, 3), (37, .getfield 71, 3), (40, .iload_n 1, 1), (41, .iload_n 2, 1), (42, .iastore, 1), (43, .iload_n 3, 1), (44, .ireturn, 1)]
theorem tk_X5_greens_0 : dcA cX5_greens tb_X5_greens_0 = true := by decide +kernel
theorem dX5_greens_0 : decode cX5_greens 0 = .ok (.iload_n 1, 1) := dcO tk_X5_greens_0 0 rfl
theorem dX5_greens_1 : decode cX5_greens 1 = .ok (.invokestatic 55, 3) := dcO tk_X5_greens_0 1 rfl
theorem dX5_greens_4 : decode cX5_greens 4 = .ok (.ifCond .eq 12, 3) := dcO tk_X5_greens_0 2 rfl
theorem dX5_greens_7 : decode cX5_greens 7 = .ok (.iload_n 2, 1) := dcO tk_X5_greens_0 3 rfl
theorem dX5_greens_8 : decode cX5_greens 8 = .ok (.bipush 9, 2) := dcO tk_X5_greens_0 4 rfl
theorem dX5_greens_10 : decode cX5_greens 10 = .ok (.invokestatic 59, 3) := dcO tk_X5_greens_0 5 rfl
theorem dX5_greens_13 : decode cX5_greens 13 = .ok (.ifCond .ne 10, 3) := dcO tk_X5_greens_0 6 rfl
theorem dX5_greens_16 : decode cX5_greens 16 = .ok (.aload_n 0, 1) := dcO tk_X5_greens_0 7 rfl
theorem dX5_greens_17 : decode cX5_greens 17 = .ok (.ldc 63, 2) := dcO tk_X5_greens_0 8 rfl
theorem dX5_greens_19 : decode cX5_greens 19 = .ok (.invokevirtual 64, 3) := dcO tk_X5_greens_0 9 rfl
theorem dX5_greens_22 : decode cX5_greens 22 = .ok (.ireturn, 1) := dcO tk_X5_greens_0 10 rfl
theorem dX5_greens_23 : decode cX5_greens 23 = .ok (.aload_n 0, 1) := dcO tk_X5_greens_0 11 rfl
theorem dX5_greens_24 : decode cX5_greens 24 = .ok (.getfield 12, 3) := dcO tk_X5_greens_0 12 rfl
theorem dX5_greens_27 : decode cX5_greens 27 = .ok (.getfield 71, 3) := dcO tk_X5_greens_0 13 rfl
theorem dX5_greens_30 : decode cX5_greens 30 = .ok (.iload_n 1, 1) := dcO tk_X5_greens_0 14 rfl
theorem dX5_greens_31 : decode cX5_greens 31 = .ok (.iaload, 1) := dcO tk_X5_greens_0 15 rfl
theorem dX5_greens_32 : decode cX5_greens 32 = .ok (.istore_n 3, 1) := dcO tk_X5_greens_0 16 rfl
theorem dX5_greens_33 : decode cX5_greens 33 = .ok (.aload_n 0, 1) := dcO tk_X5_greens_0 17 rfl
theorem dX5_greens_34 : decode cX5_greens 34 = .ok (.getfield 12, 3) := dcO tk_X5_greens_0 18 rfl
theorem dX5_greens_37 : decode cX5_greens 37 = .ok (.getfield 71, 3) := dcO tk_X5_greens_0 19 rfl
theorem dX5_greens_40 : decode cX5_greens 40 = .ok (.iload_n 1, 1) := dcO tk_X5_greens_0 20 rfl
theorem dX5_greens_41 : decode cX5_greens 41 = .ok (.iload_n 2, 1) := dcO tk_X5_greens_0 21 rfl
theorem dX5_greens_42 : decode cX5_greens 42 = .ok (.iastore, 1) := dcO tk_X5_greens_0 22 rfl
theorem dX5_greens_43 : decode cX5_greens 43 = .ok (.iload_n 3, 1) := dcO tk_X5_greens_0 23 rfl
theorem dX5_greens_44 : decode cX5_greens 44 = .ok (.ireturn, 1) := dcO tk_X5_greens_0 24 rfl
abbrev tb_X5_land_0 : List (Nat × Instr × Nat) := [(0, .iload_n 1, 1), (1, .invokestatic 55, 3), (4, .ifCond .ne 10, 3), (7, .aload_n 0, 1), (8, .ldc 63, 2), (10, .invokevirtual 64, 3), (13, .ireturn, 1), (14, .iload_n 2, 1), (15, .tableswitch 55 0 2 #[25, 35, 45], 25), (40, .aload_n 0, 1), (41, .getfield 12, 3), (44, .getfield 68, 3), (47, .iload_n 1, 1), (48, .iaload, 1), (49, .ireturn, 1), (50, .aload_n 0, 1), (51, .getfield 12, 3), (54, .getfield 71, 3), (57, .iload_n 1, 1), (58, .iaload, 1), (59, .ireturn, 1), (60, .aload_n 0, 1), (61, .getfield 12, 3), (64, .getfield 74, 3), (67, .iload_n 1, 1), (68, .iaload, 1), (69, .ireturn, 1), (70, .aload_n 0, 1), (71, .ldc 63, 2), (73, .invokevirtual 64, 3), (76, .ireturn, 1)]
theorem tk_X5_land_0 : dcA cX5_land tb_X5_land_0 = true := by decide +kernel
theorem dX5_land_0 : decode cX5_land 0 = .ok (.iload_n 1, 1) := dcO tk_X5_land_0 0 rfl
theorem dX5_land_1 : decode cX5_land 1 = .ok (.invokestatic 55, 3) := dcO tk_X5_land_0 1 rfl
theorem dX5_land_4 : decode cX5_land 4 = .ok (.ifCond .ne 10, 3) := dcO tk_X5_land_0 2 rfl
theorem dX5_land_7 : decode cX5_land 7 = .ok (.aload_n 0, 1) := dcO tk_X5_land_0 3 rfl
theorem dX5_land_8 : decode cX5_land 8 = .ok (.ldc 63, 2) := dcO tk_X5_land_0 4 rfl
theorem dX5_land_10 : decode cX5_land 10 = .ok (.invokevirtual 64, 3) := dcO tk_X5_land_0 5 rfl
theorem dX5_land_13 : decode cX5_land 13 = .ok (.ireturn, 1) := dcO tk_X5_land_0 6 rfl
theorem dX5_land_14 : decode cX5_land 14 = .ok (.iload_n 2, 1) := dcO tk_X5_land_0 7 rfl
theorem dX5_land_15 : decode cX5_land 15 = .ok (.tableswitch 55 0 2 #[25, 35, 45], 25) := dcO tk_X5_land_0 8 rfl
theorem dX5_land_40 : decode cX5_land 40 = .ok (.aload_n 0, 1) := dcO tk_X5_land_0 9 rfl
theorem dX5_land_41 : decode cX5_land 41 = .ok (.getfield 12, 3) := dcO tk_X5_land_0 10 rfl
theorem dX5_land_44 : decode cX5_land 44 = .ok (.getfield 68, 3) := dcO tk_X5_land_0 11 rfl
theorem dX5_land_47 : decode cX5_land 47 = .ok (.iload_n 1, 1) := dcO tk_X5_land_0 12 rfl
theorem dX5_land_48 : decode cX5_land 48 = .ok (.iaload, 1) := dcO tk_X5_land_0 13 rfl
theorem dX5_land_49 : decode cX5_land 49 = .ok (.ireturn, 1) := dcO tk_X5_land_0 14 rfl
theorem dX5_land_50 : decode cX5_land 50 = .ok (.aload_n 0, 1) := dcO tk_X5_land_0 15 rfl
theorem dX5_land_51 : decode cX5_land 51 = .ok (.getfield 12, 3) := dcO tk_X5_land_0 16 rfl
theorem dX5_land_54 : decode cX5_land 54 = .ok (.getfield 71, 3) := dcO tk_X5_land_0 17 rfl
theorem dX5_land_57 : decode cX5_land 57 = .ok (.iload_n 1, 1) := dcO tk_X5_land_0 18 rfl
theorem dX5_land_58 : decode cX5_land 58 = .ok (.iaload, 1) := dcO tk_X5_land_0 19 rfl
theorem dX5_land_59 : decode cX5_land 59 = .ok (.ireturn, 1) := dcO tk_X5_land_0 20 rfl
theorem dX5_land_60 : decode cX5_land 60 = .ok (.aload_n 0, 1) := dcO tk_X5_land_0 21 rfl
theorem dX5_land_61 : decode cX5_land 61 = .ok (.getfield 12, 3) := dcO tk_X5_land_0 22 rfl
theorem dX5_land_64 : decode cX5_land 64 = .ok (.getfield 74, 3) := dcO tk_X5_land_0 23 rfl
theorem dX5_land_67 : decode cX5_land 67 = .ok (.iload_n 1, 1) := dcO tk_X5_land_0 24 rfl
theorem dX5_land_68 : decode cX5_land 68 = .ok (.iaload, 1) := dcO tk_X5_land_0 25 rfl
theorem dX5_land_69 : decode cX5_land 69 = .ok (.ireturn, 1) := dcO tk_X5_land_0 26 rfl
theorem dX5_land_70 : decode cX5_land 70 = .ok (.aload_n 0, 1) := dcO tk_X5_land_0 27 rfl
theorem dX5_land_71 : decode cX5_land 71 = .ok (.ldc 63, 2) := dcO tk_X5_land_0 28 rfl
theorem dX5_land_73 : decode cX5_land 73 = .ok (.invokevirtual 64, 3) := dcO tk_X5_land_0 29 rfl
theorem dX5_land_76 : decode cX5_land 76 = .ok (.ireturn, 1) := dcO tk_X5_land_0 30 rfl
abbrev tb_X5_far_0 : List (Nat × Instr × Nat) := [(0, .iload_n 1, 1), (1, .invokestatic 55, 3), (4, .ifCond .eq 10, 3), (7, .iload_n 2, 1), (8, .invokestatic 55, 3), (11, .ifCond .ne 10, 3), (14, .aload_n 0, 1), (15, .ldc 63, 2), (17, .invokevirtual 64, 3), (20, .ireturn, 1), (21, .aload_n 0, 1), (22, .getfield 29, 3), (25, .aload_n 0, 1), (26, .getfield 12, 3), (29, .invokevirtual 77, 3), (32, .aload_n 0, 1), (33, .getfield 29, 3), (36, .iload_n 2, 1), (37, .invokevirtual 81, 3), (40, .aload_n 0, 1), (41, .getfield 29, 3), (44, .getfield 85, 3), (47, .iload_n 1, 1), (48, .iaload, 1), (49, .ireturn, 1)]
theorem tk_X5_far_0 : dcA cX5_far tb_X5_far_0 = true := by decide +kernel
theorem dX5_far_0 : decode cX5_far 0 = .ok (.iload_n 1, 1) := dcO tk_X5_far_0 0 rfl
theorem dX5_far_1 : decode cX5_far 1 = .ok (.invokestatic 55, 3) := dcO tk_X5_far_0 1 rfl
theorem dX5_far_4 : decode cX5_far 4 = .ok (.ifCond .eq 10, 3) := dcO tk_X5_far_0 2 rfl
theorem dX5_far_7 : decode cX5_far 7 = .ok (.iload_n 2, 1) := dcO tk_X5_far_0 3 rfl
theorem dX5_far_8 : decode cX5_far 8 = .ok (.invokestatic 55, 3) := dcO tk_X5_far_0 4 rfl
theorem dX5_far_11 : decode cX5_far 11 = .ok (.ifCond .ne 10, 3) := dcO tk_X5_far_0 5 rfl
theorem dX5_far_14 : decode cX5_far 14 = .ok (.aload_n 0, 1) := dcO tk_X5_far_0 6 rfl
theorem dX5_far_15 : decode cX5_far 15 = .ok (.ldc 63, 2) := dcO tk_X5_far_0 7 rfl
theorem dX5_far_17 : decode cX5_far 17 = .ok (.invokevirtual 64, 3) := dcO tk_X5_far_0 8 rfl
theorem dX5_far_20 : decode cX5_far 20 = .ok (.ireturn, 1) := dcO tk_X5_far_0 9 rfl
theorem dX5_far_21 : decode cX5_far 21 = .ok (.aload_n 0, 1) := dcO tk_X5_far_0 10 rfl
theorem dX5_far_22 : decode cX5_far 22 = .ok (.getfield 29, 3) := dcO tk_X5_far_0 11 rfl
theorem dX5_far_25 : decode cX5_far 25 = .ok (.aload_n 0, 1) := dcO tk_X5_far_0 12 rfl
theorem dX5_far_26 : decode cX5_far 26 = .ok (.getfield 12, 3) := dcO tk_X5_far_0 13 rfl
theorem dX5_far_29 : decode cX5_far 29 = .ok (.invokevirtual 77, 3) := dcO tk_X5_far_0 14 rfl
theorem dX5_far_32 : decode cX5_far 32 = .ok (.aload_n 0, 1) := dcO tk_X5_far_0 15 rfl
theorem dX5_far_33 : decode cX5_far 33 = .ok (.getfield 29, 3) := dcO tk_X5_far_0 16 rfl
theorem dX5_far_36 : decode cX5_far 36 = .ok (.iload_n 2, 1) := dcO tk_X5_far_0 17 rfl
theorem dX5_far_37 : decode cX5_far 37 = .ok (.invokevirtual 81, 3) := dcO tk_X5_far_0 18 rfl
theorem dX5_far_40 : decode cX5_far 40 = .ok (.aload_n 0, 1) := dcO tk_X5_far_0 19 rfl
theorem dX5_far_41 : decode cX5_far 41 = .ok (.getfield 29, 3) := dcO tk_X5_far_0 20 rfl
theorem dX5_far_44 : decode cX5_far 44 = .ok (.getfield 85, 3) := dcO tk_X5_far_0 21 rfl
theorem dX5_far_47 : decode cX5_far 47 = .ok (.iload_n 1, 1) := dcO tk_X5_far_0 22 rfl
theorem dX5_far_48 : decode cX5_far 48 = .ok (.iaload, 1) := dcO tk_X5_far_0 23 rfl
theorem dX5_far_49 : decode cX5_far 49 = .ok (.ireturn, 1) := dcO tk_X5_far_0 24 rfl
abbrev tb_X5_snail_0 : List (Nat × Instr × Nat) := [(0, .iload_n 1, 1), (1, .bipush 6, 2), (3, .invokestatic 59, 3), (6, .ifCond .eq 10, 3), (9, .iload_n 2, 1), (10, .invokestatic 55, 3), (13, .ifCond .ne 10, 3), (16, .aload_n 0, 1), (17, .ldc 63, 2), (19, .invokevirtual 64, 3), (22, .ireturn, 1), (23, .aload_n 0, 1), (24, .getfield 12, 3), (27, .iload_n 1, 1), (28, .iload_n 2, 1), (29, .invokevirtual 88, 3), (32, .istore_n 3, 1), (33, .iload_n 3, 1), (34, .ifCond .ge 12, 3), (37, .aload_n 0, 1), (38, .ldc 92, 2), (40, .invokevirtual 64, 3), (43, .goto 4, 3), (46, .iload_n 3, 1), (47, .ireturn, 1)]
theorem tk_X5_snail_0 : dcA cX5_snail tb_X5_snail_0 = true := by decide +kernel
theorem dX5_snail_0 : decode cX5_snail 0 = .ok (.iload_n 1, 1) := dcO tk_X5_snail_0 0 rfl
theorem dX5_snail_1 : decode cX5_snail 1 = .ok (.bipush 6, 2) := dcO tk_X5_snail_0 1 rfl
theorem dX5_snail_3 : decode cX5_snail 3 = .ok (.invokestatic 59, 3) := dcO tk_X5_snail_0 2 rfl
theorem dX5_snail_6 : decode cX5_snail 6 = .ok (.ifCond .eq 10, 3) := dcO tk_X5_snail_0 3 rfl
theorem dX5_snail_9 : decode cX5_snail 9 = .ok (.iload_n 2, 1) := dcO tk_X5_snail_0 4 rfl
theorem dX5_snail_10 : decode cX5_snail 10 = .ok (.invokestatic 55, 3) := dcO tk_X5_snail_0 5 rfl
theorem dX5_snail_13 : decode cX5_snail 13 = .ok (.ifCond .ne 10, 3) := dcO tk_X5_snail_0 6 rfl
theorem dX5_snail_16 : decode cX5_snail 16 = .ok (.aload_n 0, 1) := dcO tk_X5_snail_0 7 rfl
theorem dX5_snail_17 : decode cX5_snail 17 = .ok (.ldc 63, 2) := dcO tk_X5_snail_0 8 rfl
theorem dX5_snail_19 : decode cX5_snail 19 = .ok (.invokevirtual 64, 3) := dcO tk_X5_snail_0 9 rfl
theorem dX5_snail_22 : decode cX5_snail 22 = .ok (.ireturn, 1) := dcO tk_X5_snail_0 10 rfl
theorem dX5_snail_23 : decode cX5_snail 23 = .ok (.aload_n 0, 1) := dcO tk_X5_snail_0 11 rfl
theorem dX5_snail_24 : decode cX5_snail 24 = .ok (.getfield 12, 3) := dcO tk_X5_snail_0 12 rfl
theorem dX5_snail_27 : decode cX5_snail 27 = .ok (.iload_n 1, 1) := dcO tk_X5_snail_0 13 rfl
theorem dX5_snail_28 : decode cX5_snail 28 = .ok (.iload_n 2, 1) := dcO tk_X5_snail_0 14 rfl
theorem dX5_snail_29 : decode cX5_snail 29 = .ok (.invokevirtual 88, 3) := dcO tk_X5_snail_0 15 rfl
theorem dX5_snail_32 : decode cX5_snail 32 = .ok (.istore_n 3, 1) := dcO tk_X5_snail_0 16 rfl
theorem dX5_snail_33 : decode cX5_snail 33 = .ok (.iload_n 3, 1) := dcO tk_X5_snail_0 17 rfl
theorem dX5_snail_34 : decode cX5_snail 34 = .ok (.ifCond .ge 12, 3) := dcO tk_X5_snail_0 18 rfl
theorem dX5_snail_37 : decode cX5_snail 37 = .ok (.aload_n 0, 1) := dcO tk_X5_snail_0 19 rfl
theorem dX5_snail_38 : decode cX5_snail 38 = .ok (.ldc 92, 2) := dcO tk_X5_snail_0 20 rfl
theorem dX5_snail_40 : decode cX5_snail 40 = .ok (.invokevirtual 64, 3) := dcO tk_X5_snail_0 21 rfl
theorem dX5_snail_43 : decode cX5_snail 43 = .ok (.goto 4, 3) := dcO tk_X5_snail_0 22 rfl
theorem dX5_snail_46 : decode cX5_snail 46 = .ok (.iload_n 3, 1) := dcO tk_X5_snail_0 23 rfl
theorem dX5_snail_47 : decode cX5_snail 47 = .ok (.ireturn, 1) := dcO tk_X5_snail_0 24 rfl
abbrev tb_X5_of_0 : List (Nat × Instr × Nat) := [(0, .aload_n 0, 1), (1, .iload_n 1, 1), (2, .invokevirtual 93, 3), (5, .ifCond .eq 12, 3), (8, .iload_n 2, 1), (9, .bipush 6, 2), (11, .invokestatic 59, 3), (14, .ifCond .ne 10, 3), (17, .aload_n 0, 1), (18, .ldc 63, 2), (20, .invokevirtual 64, 3), (23, .ireturn, 1), (24, .iload_n 2, 1), (25, .iconst 5, 1), (26, .if_icmp .ne 12, 3), (29, .aload_n 0, 1), (30, .getfield 12, 3), (33, .iload_n 1, 1), (34, .invokevirtual 96, 3), (37, .ireturn, 1), (38, .iload_n 2, 1), (39, .bipush 6, 2), (41, .if_icmp .ne 48, 3), (44, .aload_n 0, 1), (45, .getfield 29, 3), (48, .aload_n 0, 1), (49, .getfield 12, 3), (52, .invokevirtual 77, 3), (55, .aload_n 0, 1), (56, .getfield 29, 3), (59, .aload_n 0, 1), (60, .getfield 12, 3), (63, .getfield 99, 3), (66, .iload_n 1, 1), (67, .iaload, 1), (68, .invokevirtual 81, 3), (71, .aload_n 0, 1), (72, .getfield 29, 3), (75, .getfield 85, 3), (78, .aload_n 0, 1)]
theorem tk_X5_of_0 : dcA cX5_of tb_X5_of_0 = true := by decide +kernel
theorem dX5_of_0 : decode cX5_of 0 = .ok (.aload_n 0, 1) := dcO tk_X5_of_0 0 rfl
theorem dX5_of_1 : decode cX5_of 1 = .ok (.iload_n 1, 1) := dcO tk_X5_of_0 1 rfl
theorem dX5_of_2 : decode cX5_of 2 = .ok (.invokevirtual 93, 3) := dcO tk_X5_of_0 2 rfl
theorem dX5_of_5 : decode cX5_of 5 = .ok (.ifCond .eq 12, 3) := dcO tk_X5_of_0 3 rfl
theorem dX5_of_8 : decode cX5_of 8 = .ok (.iload_n 2, 1) := dcO tk_X5_of_0 4 rfl
theorem dX5_of_9 : decode cX5_of 9 = .ok (.bipush 6, 2) := dcO tk_X5_of_0 5 rfl
theorem dX5_of_11 : decode cX5_of 11 = .ok (.invokestatic 59, 3) := dcO tk_X5_of_0 6 rfl
theorem dX5_of_14 : decode cX5_of 14 = .ok (.ifCond .ne 10, 3) := dcO tk_X5_of_0 7 rfl
theorem dX5_of_17 : decode cX5_of 17 = .ok (.aload_n 0, 1) := dcO tk_X5_of_0 8 rfl
theorem dX5_of_18 : decode cX5_of 18 = .ok (.ldc 63, 2) := dcO tk_X5_of_0 9 rfl
theorem dX5_of_20 : decode cX5_of 20 = .ok (.invokevirtual 64, 3) := dcO tk_X5_of_0 10 rfl
theorem dX5_of_23 : decode cX5_of 23 = .ok (.ireturn, 1) := dcO tk_X5_of_0 11 rfl
theorem dX5_of_24 : decode cX5_of 24 = .ok (.iload_n 2, 1) := dcO tk_X5_of_0 12 rfl
theorem dX5_of_25 : decode cX5_of 25 = .ok (.iconst 5, 1) := dcO tk_X5_of_0 13 rfl
theorem dX5_of_26 : decode cX5_of 26 = .ok (.if_icmp .ne 12, 3) := dcO tk_X5_of_0 14 rfl
theorem dX5_of_29 : decode cX5_of 29 = .ok (.aload_n 0, 1) := dcO tk_X5_of_0 15 rfl
theorem dX5_of_30 : decode cX5_of 30 = .ok (.getfield 12, 3) := dcO tk_X5_of_0 16 rfl
theorem dX5_of_33 : decode cX5_of 33 = .ok (.iload_n 1, 1) := dcO tk_X5_of_0 17 rfl
theorem dX5_of_34 : decode cX5_of 34 = .ok (.invokevirtual 96, 3) := dcO tk_X5_of_0 18 rfl
theorem dX5_of_37 : decode cX5_of 37 = .ok (.ireturn, 1) := dcO tk_X5_of_0 19 rfl
theorem dX5_of_38 : decode cX5_of 38 = .ok (.iload_n 2, 1) := dcO tk_X5_of_0 20 rfl
theorem dX5_of_39 : decode cX5_of 39 = .ok (.bipush 6, 2) := dcO tk_X5_of_0 21 rfl
theorem dX5_of_41 : decode cX5_of 41 = .ok (.if_icmp .ne 48, 3) := dcO tk_X5_of_0 22 rfl
theorem dX5_of_44 : decode cX5_of 44 = .ok (.aload_n 0, 1) := dcO tk_X5_of_0 23 rfl
theorem dX5_of_45 : decode cX5_of 45 = .ok (.getfield 29, 3) := dcO tk_X5_of_0 24 rfl
theorem dX5_of_48 : decode cX5_of 48 = .ok (.aload_n 0, 1) := dcO tk_X5_of_0 25 rfl
theorem dX5_of_49 : decode cX5_of 49 = .ok (.getfield 12, 3) := dcO tk_X5_of_0 26 rfl
theorem dX5_of_52 : decode cX5_of 52 = .ok (.invokevirtual 77, 3) := dcO tk_X5_of_0 27 rfl
theorem dX5_of_55 : decode cX5_of 55 = .ok (.aload_n 0, 1) := dcO tk_X5_of_0 28 rfl
theorem dX5_of_56 : decode cX5_of 56 = .ok (.getfield 29, 3) := dcO tk_X5_of_0 29 rfl
theorem dX5_of_59 : decode cX5_of 59 = .ok (.aload_n 0, 1) := dcO tk_X5_of_0 30 rfl
theorem dX5_of_60 : decode cX5_of 60 = .ok (.getfield 12, 3) := dcO tk_X5_of_0 31 rfl
theorem dX5_of_63 : decode cX5_of 63 = .ok (.getfield 99, 3) := dcO tk_X5_of_0 32 rfl
theorem dX5_of_66 : decode cX5_of 66 = .ok (.iload_n 1, 1) := dcO tk_X5_of_0 33 rfl
theorem dX5_of_67 : decode cX5_of 67 = .ok (.iaload, 1) := dcO tk_X5_of_0 34 rfl
theorem dX5_of_68 : decode cX5_of 68 = .ok (.invokevirtual 81, 3) := dcO tk_X5_of_0 35 rfl
theorem dX5_of_71 : decode cX5_of 71 = .ok (.aload_n 0, 1) := dcO tk_X5_of_0 36 rfl
theorem dX5_of_72 : decode cX5_of 72 = .ok (.getfield 29, 3) := dcO tk_X5_of_0 37 rfl
theorem dX5_of_75 : decode cX5_of 75 = .ok (.getfield 85, 3) := dcO tk_X5_of_0 38 rfl
theorem dX5_of_78 : decode cX5_of 78 = .ok (.aload_n 0, 1) := dcO tk_X5_of_0 39 rfl
abbrev tb_X5_of_1 : List (Nat × Instr × Nat) := [(79, .getfield 12, 3), (82, .getfield 102, 3), (85, .iload_n 1, 1), (86, .iaload, 1), (87, .iaload, 1), (88, .ireturn, 1), (89, .aload_n 0, 1), (90, .getfield 12, 3), (93, .iload_n 2, 1), (94, .invokevirtual 105, 3), (97, .iload_n 1, 1), (98, .iaload, 1), (99, .ireturn, 1)]
theorem tk_X5_of_1 : dcA cX5_of tb_X5_of_1 = true := by decide +kernel
theorem dX5_of_79 : decode cX5_of 79 = .ok (.getfield 12, 3) := dcO tk_X5_of_1 0 rfl
theorem dX5_of_82 : decode cX5_of 82 = .ok (.getfield 102, 3) := dcO tk_X5_of_1 1 rfl
theorem dX5_of_85 : decode cX5_of 85 = .ok (.iload_n 1, 1) := dcO tk_X5_of_1 2 rfl
theorem dX5_of_86 : decode cX5_of 86 = .ok (.iaload, 1) := dcO tk_X5_of_1 3 rfl
theorem dX5_of_87 : decode cX5_of 87 = .ok (.iaload, 1) := dcO tk_X5_of_1 4 rfl
theorem dX5_of_88 : decode cX5_of 88 = .ok (.ireturn, 1) := dcO tk_X5_of_1 5 rfl
theorem dX5_of_89 : decode cX5_of 89 = .ok (.aload_n 0, 1) := dcO tk_X5_of_1 6 rfl
theorem dX5_of_90 : decode cX5_of 90 = .ok (.getfield 12, 3) := dcO tk_X5_of_1 7 rfl
theorem dX5_of_93 : decode cX5_of 93 = .ok (.iload_n 2, 1) := dcO tk_X5_of_1 8 rfl
theorem dX5_of_94 : decode cX5_of 94 = .ok (.invokevirtual 105, 3) := dcO tk_X5_of_1 9 rfl
theorem dX5_of_97 : decode cX5_of 97 = .ok (.iload_n 1, 1) := dcO tk_X5_of_1 10 rfl
theorem dX5_of_98 : decode cX5_of 98 = .ok (.iaload, 1) := dcO tk_X5_of_1 11 rfl
theorem dX5_of_99 : decode cX5_of 99 = .ok (.ireturn, 1) := dcO tk_X5_of_1 12 rfl
abbrev tb_X5_change_0 : List (Nat × Instr × Nat) := [(0, .aload_n 0, 1), (1, .iload_n 1, 1), (2, .invokevirtual 93, 3), (5, .ifCond .eq 28, 3), (8, .iload_n 2, 1), (9, .getstatic 109, 3), (12, .arraylength, 1), (13, .iconst 1, 1), (14, .isub, 1), (15, .invokestatic 59, 3), (18, .ifCond .eq 15, 3), (21, .iload_n 3, 1), (22, .getstatic 109, 3), (25, .iload_n 2, 1), (26, .iaload, 1), (27, .invokestatic 59, 3), (30, .ifCond .ne 10, 3), (33, .aload_n 0, 1), (34, .ldc 63, 2), (36, .invokevirtual 64, 3), (39, .ireturn, 1), (40, .aload_n 0, 1), (41, .getfield 12, 3), (44, .iload_n 2, 1), (45, .invokevirtual 105, 3), (48, .astore 4, 2), (50, .aload 4, 2), (52, .iload_n 1, 1), (53, .iaload, 1), (54, .istore 5, 2), (56, .aload 4, 2), (58, .iload_n 1, 1), (59, .iload_n 3, 1), (60, .iastore, 1), (61, .iload 5, 2), (63, .ireturn, 1)]
theorem tk_X5_change_0 : dcA cX5_change tb_X5_change_0 = true := by decide +kernel
theorem dX5_change_0 : decode cX5_change 0 = .ok (.aload_n 0, 1) := dcO tk_X5_change_0 0 rfl
theorem dX5_change_1 : decode cX5_change 1 = .ok (.iload_n 1, 1) := dcO tk_X5_change_0 1 rfl
theorem dX5_change_2 : decode cX5_change 2 = .ok (.invokevirtual 93, 3) := dcO tk_X5_change_0 2 rfl
theorem dX5_change_5 : decode cX5_change 5 = .ok (.ifCond .eq 28, 3) := dcO tk_X5_change_0 3 rfl
theorem dX5_change_8 : decode cX5_change 8 = .ok (.iload_n 2, 1) := dcO tk_X5_change_0 4 rfl
theorem dX5_change_9 : decode cX5_change 9 = .ok (.getstatic 109, 3) := dcO tk_X5_change_0 5 rfl
theorem dX5_change_12 : decode cX5_change 12 = .ok (.arraylength, 1) := dcO tk_X5_change_0 6 rfl
theorem dX5_change_13 : decode cX5_change 13 = .ok (.iconst 1, 1) := dcO tk_X5_change_0 7 rfl
theorem dX5_change_14 : decode cX5_change 14 = .ok (.isub, 1) := dcO tk_X5_change_0 8 rfl
theorem dX5_change_15 : decode cX5_change 15 = .ok (.invokestatic 59, 3) := dcO tk_X5_change_0 9 rfl
theorem dX5_change_18 : decode cX5_change 18 = .ok (.ifCond .eq 15, 3) := dcO tk_X5_change_0 10 rfl
theorem dX5_change_21 : decode cX5_change 21 = .ok (.iload_n 3, 1) := dcO tk_X5_change_0 11 rfl
theorem dX5_change_22 : decode cX5_change 22 = .ok (.getstatic 109, 3) := dcO tk_X5_change_0 12 rfl
theorem dX5_change_25 : decode cX5_change 25 = .ok (.iload_n 2, 1) := dcO tk_X5_change_0 13 rfl
theorem dX5_change_26 : decode cX5_change 26 = .ok (.iaload, 1) := dcO tk_X5_change_0 14 rfl
theorem dX5_change_27 : decode cX5_change 27 = .ok (.invokestatic 59, 3) := dcO tk_X5_change_0 15 rfl
theorem dX5_change_30 : decode cX5_change 30 = .ok (.ifCond .ne 10, 3) := dcO tk_X5_change_0 16 rfl
theorem dX5_change_33 : decode cX5_change 33 = .ok (.aload_n 0, 1) := dcO tk_X5_change_0 17 rfl
theorem dX5_change_34 : decode cX5_change 34 = .ok (.ldc 63, 2) := dcO tk_X5_change_0 18 rfl
theorem dX5_change_36 : decode cX5_change 36 = .ok (.invokevirtual 64, 3) := dcO tk_X5_change_0 19 rfl
theorem dX5_change_39 : decode cX5_change 39 = .ok (.ireturn, 1) := dcO tk_X5_change_0 20 rfl
theorem dX5_change_40 : decode cX5_change 40 = .ok (.aload_n 0, 1) := dcO tk_X5_change_0 21 rfl
theorem dX5_change_41 : decode cX5_change 41 = .ok (.getfield 12, 3) := dcO tk_X5_change_0 22 rfl
theorem dX5_change_44 : decode cX5_change 44 = .ok (.iload_n 2, 1) := dcO tk_X5_change_0 23 rfl
theorem dX5_change_45 : decode cX5_change 45 = .ok (.invokevirtual 105, 3) := dcO tk_X5_change_0 24 rfl
theorem dX5_change_48 : decode cX5_change 48 = .ok (.astore 4, 2) := dcO tk_X5_change_0 25 rfl
theorem dX5_change_50 : decode cX5_change 50 = .ok (.aload 4, 2) := dcO tk_X5_change_0 26 rfl
theorem dX5_change_52 : decode cX5_change 52 = .ok (.iload_n 1, 1) := dcO tk_X5_change_0 27 rfl
theorem dX5_change_53 : decode cX5_change 53 = .ok (.iaload, 1) := dcO tk_X5_change_0 28 rfl
theorem dX5_change_54 : decode cX5_change 54 = .ok (.istore 5, 2) := dcO tk_X5_change_0 29 rfl
theorem dX5_change_56 : decode cX5_change 56 = .ok (.aload 4, 2) := dcO tk_X5_change_0 30 rfl
theorem dX5_change_58 : decode cX5_change 58 = .ok (.iload_n 1, 1) := dcO tk_X5_change_0 31 rfl
theorem dX5_change_59 : decode cX5_change 59 = .ok (.iload_n 3, 1) := dcO tk_X5_change_0 32 rfl
theorem dX5_change_60 : decode cX5_change 60 = .ok (.iastore, 1) := dcO tk_X5_change_0 33 rfl
theorem dX5_change_61 : decode cX5_change 61 = .ok (.iload 5, 2) := dcO tk_X5_change_0 34 rfl
theorem dX5_change_63 : decode cX5_change 63 = .ok (.ireturn, 1) := dcO tk_X5_change_0 35 rfl
abbrev tb_X5_bans_0 : List (Nat × Instr × Nat) := [(0, .iload_n 1, 1), (1, .invokestatic 112, 3), (4, .ifCond .eq 13, 3), (7, .iload_n 2, 1), (8, .sipush 255, 3), (11, .invokestatic 59, 3), (14, .ifCond .ne 10, 3), (17, .aload_n 0, 1), (18, .ldc 63, 2), (20, .invokevirtual 64, 3), (23, .ireturn, 1), (24, .aload_n 0, 1), (25, .getfield 12, 3), (28, .getfield 115, 3), (31, .iload_n 1, 1), (32, .iaload, 1), (33, .istore_n 3, 1), (34, .aload_n 0, 1), (35, .getfield 12, 3), (38, .getfield 115, 3), (41, .iload_n 1, 1), (42, .iload_n 2, 1), (43, .iastore, 1), (44, .iload_n 3, 1), (45, .ireturn, 1)]
theorem tk_X5_bans_0 : dcA cX5_bans tb_X5_bans_0 = true := by decide +kernel
theorem dX5_bans_0 : decode cX5_bans 0 = .ok (.iload_n 1, 1) := dcO tk_X5_bans_0 0 rfl
theorem dX5_bans_1 : decode cX5_bans 1 = .ok (.invokestatic 112, 3) := dcO tk_X5_bans_0 1 rfl
theorem dX5_bans_4 : decode cX5_bans 4 = .ok (.ifCond .eq 13, 3) := dcO tk_X5_bans_0 2 rfl
theorem dX5_bans_7 : decode cX5_bans 7 = .ok (.iload_n 2, 1) := dcO tk_X5_bans_0 3 rfl
theorem dX5_bans_8 : decode cX5_bans 8 = .ok (.sipush 255, 3) := dcO tk_X5_bans_0 4 rfl
theorem dX5_bans_11 : decode cX5_bans 11 = .ok (.invokestatic 59, 3) := dcO tk_X5_bans_0 5 rfl
theorem dX5_bans_14 : decode cX5_bans 14 = .ok (.ifCond .ne 10, 3) := dcO tk_X5_bans_0 6 rfl
theorem dX5_bans_17 : decode cX5_bans 17 = .ok (.aload_n 0, 1) := dcO tk_X5_bans_0 7 rfl
theorem dX5_bans_18 : decode cX5_bans 18 = .ok (.ldc 63, 2) := dcO tk_X5_bans_0 8 rfl
theorem dX5_bans_20 : decode cX5_bans 20 = .ok (.invokevirtual 64, 3) := dcO tk_X5_bans_0 9 rfl
theorem dX5_bans_23 : decode cX5_bans 23 = .ok (.ireturn, 1) := dcO tk_X5_bans_0 10 rfl
theorem dX5_bans_24 : decode cX5_bans 24 = .ok (.aload_n 0, 1) := dcO tk_X5_bans_0 11 rfl
theorem dX5_bans_25 : decode cX5_bans 25 = .ok (.getfield 12, 3) := dcO tk_X5_bans_0 12 rfl
theorem dX5_bans_28 : decode cX5_bans 28 = .ok (.getfield 115, 3) := dcO tk_X5_bans_0 13 rfl
theorem dX5_bans_31 : decode cX5_bans 31 = .ok (.iload_n 1, 1) := dcO tk_X5_bans_0 14 rfl
theorem dX5_bans_32 : decode cX5_bans 32 = .ok (.iaload, 1) := dcO tk_X5_bans_0 15 rfl
theorem dX5_bans_33 : decode cX5_bans 33 = .ok (.istore_n 3, 1) := dcO tk_X5_bans_0 16 rfl
theorem dX5_bans_34 : decode cX5_bans 34 = .ok (.aload_n 0, 1) := dcO tk_X5_bans_0 17 rfl
theorem dX5_bans_35 : decode cX5_bans 35 = .ok (.getfield 12, 3) := dcO tk_X5_bans_0 18 rfl
theorem dX5_bans_38 : decode cX5_bans 38 = .ok (.getfield 115, 3) := dcO tk_X5_bans_0 19 rfl
theorem dX5_bans_41 : decode cX5_bans 41 = .ok (.iload_n 1, 1) := dcO tk_X5_bans_0 20 rfl
theorem dX5_bans_42 : decode cX5_bans 42 = .ok (.iload_n 2, 1) := dcO tk_X5_bans_0 21 rfl
theorem dX5_bans_43 : decode cX5_bans 43 = .ok (.iastore, 1) := dcO tk_X5_bans_0 22 rfl
theorem dX5_bans_44 : decode cX5_bans 44 = .ok (.iload_n 3, 1) := dcO tk_X5_bans_0 23 rfl
theorem dX5_bans_45 : decode cX5_bans 45 = .ok (.ireturn, 1) := dcO tk_X5_bans_0 24 rfl
abbrev tb_X5_set_0 : List (Nat × Instr × Nat) := [(0, .iload_n 1, 1), (1, .ifCond .ne 30, 3), (4, .iload_n 2, 1), (5, .bipush 9, 2), (7, .invokestatic 59, 3), (10, .ifCond .eq 21, 3), (13, .aload_n 0, 1), (14, .getfield 12, 3), (17, .getfield 118, 3), (20, .istore_n 3, 1), (21, .aload_n 0, 1), (22, .getfield 12, 3), (25, .iload_n 2, 1), (26, .putfield 118, 3), (29, .iload_n 3, 1), (30, .ireturn, 1), (31, .iload_n 1, 1), (32, .iconst 1, 1), (33, .if_icmp .ne 30, 3), (36, .iload_n 2, 1), (37, .bipush 20, 2), (39, .invokestatic 59, 3), (42, .ifCond .eq 21, 3), (45, .aload_n 0, 1), (46, .getfield 12, 3), (49, .getfield 122, 3), (52, .istore_n 3, 1), (53, .aload_n 0, 1), (54, .getfield 12, 3), (57, .iload_n 2, 1), (58, .putfield 122, 3), (61, .iload_n 3, 1), (62, .ireturn, 1), (63, .aload_n 0, 1), (64, .ldc 63, 2), (66, .invokevirtual 64, 3), (69, .ireturn, 1)]
theorem tk_X5_set_0 : dcA cX5_set tb_X5_set_0 = true := by decide +kernel
theorem dX5_set_0 : decode cX5_set 0 = .ok (.iload_n 1, 1) := dcO tk_X5_set_0 0 rfl
theorem dX5_set_1 : decode cX5_set 1 = .ok (.ifCond .ne 30, 3) := dcO tk_X5_set_0 1 rfl
theorem dX5_set_4 : decode cX5_set 4 = .ok (.iload_n 2, 1) := dcO tk_X5_set_0 2 rfl
theorem dX5_set_5 : decode cX5_set 5 = .ok (.bipush 9, 2) := dcO tk_X5_set_0 3 rfl
theorem dX5_set_7 : decode cX5_set 7 = .ok (.invokestatic 59, 3) := dcO tk_X5_set_0 4 rfl
theorem dX5_set_10 : decode cX5_set 10 = .ok (.ifCond .eq 21, 3) := dcO tk_X5_set_0 5 rfl
theorem dX5_set_13 : decode cX5_set 13 = .ok (.aload_n 0, 1) := dcO tk_X5_set_0 6 rfl
theorem dX5_set_14 : decode cX5_set 14 = .ok (.getfield 12, 3) := dcO tk_X5_set_0 7 rfl
theorem dX5_set_17 : decode cX5_set 17 = .ok (.getfield 118, 3) := dcO tk_X5_set_0 8 rfl
theorem dX5_set_20 : decode cX5_set 20 = .ok (.istore_n 3, 1) := dcO tk_X5_set_0 9 rfl
theorem dX5_set_21 : decode cX5_set 21 = .ok (.aload_n 0, 1) := dcO tk_X5_set_0 10 rfl
theorem dX5_set_22 : decode cX5_set 22 = .ok (.getfield 12, 3) := dcO tk_X5_set_0 11 rfl
theorem dX5_set_25 : decode cX5_set 25 = .ok (.iload_n 2, 1) := dcO tk_X5_set_0 12 rfl
theorem dX5_set_26 : decode cX5_set 26 = .ok (.putfield 118, 3) := dcO tk_X5_set_0 13 rfl
theorem dX5_set_29 : decode cX5_set 29 = .ok (.iload_n 3, 1) := dcO tk_X5_set_0 14 rfl
theorem dX5_set_30 : decode cX5_set 30 = .ok (.ireturn, 1) := dcO tk_X5_set_0 15 rfl
theorem dX5_set_31 : decode cX5_set 31 = .ok (.iload_n 1, 1) := dcO tk_X5_set_0 16 rfl
theorem dX5_set_32 : decode cX5_set 32 = .ok (.iconst 1, 1) := dcO tk_X5_set_0 17 rfl
theorem dX5_set_33 : decode cX5_set 33 = .ok (.if_icmp .ne 30, 3) := dcO tk_X5_set_0 18 rfl
theorem dX5_set_36 : decode cX5_set 36 = .ok (.iload_n 2, 1) := dcO tk_X5_set_0 19 rfl
theorem dX5_set_37 : decode cX5_set 37 = .ok (.bipush 20, 2) := dcO tk_X5_set_0 20 rfl
theorem dX5_set_39 : decode cX5_set 39 = .ok (.invokestatic 59, 3) := dcO tk_X5_set_0 21 rfl
theorem dX5_set_42 : decode cX5_set 42 = .ok (.ifCond .eq 21, 3) := dcO tk_X5_set_0 22 rfl
theorem dX5_set_45 : decode cX5_set 45 = .ok (.aload_n 0, 1) := dcO tk_X5_set_0 23 rfl
theorem dX5_set_46 : decode cX5_set 46 = .ok (.getfield 12, 3) := dcO tk_X5_set_0 24 rfl
theorem dX5_set_49 : decode cX5_set 49 = .ok (.getfield 122, 3) := dcO tk_X5_set_0 25 rfl
theorem dX5_set_52 : decode cX5_set 52 = .ok (.istore_n 3, 1) := dcO tk_X5_set_0 26 rfl
theorem dX5_set_53 : decode cX5_set 53 = .ok (.aload_n 0, 1) := dcO tk_X5_set_0 27 rfl
theorem dX5_set_54 : decode cX5_set 54 = .ok (.getfield 12, 3) := dcO tk_X5_set_0 28 rfl
theorem dX5_set_57 : decode cX5_set 57 = .ok (.iload_n 2, 1) := dcO tk_X5_set_0 29 rfl
theorem dX5_set_58 : decode cX5_set 58 = .ok (.putfield 122, 3) := dcO tk_X5_set_0 30 rfl
theorem dX5_set_61 : decode cX5_set 61 = .ok (.iload_n 3, 1) := dcO tk_X5_set_0 31 rfl
theorem dX5_set_62 : decode cX5_set 62 = .ok (.ireturn, 1) := dcO tk_X5_set_0 32 rfl
theorem dX5_set_63 : decode cX5_set 63 = .ok (.aload_n 0, 1) := dcO tk_X5_set_0 33 rfl
theorem dX5_set_64 : decode cX5_set 64 = .ok (.ldc 63, 2) := dcO tk_X5_set_0 34 rfl
theorem dX5_set_66 : decode cX5_set 66 = .ok (.invokevirtual 64, 3) := dcO tk_X5_set_0 35 rfl
theorem dX5_set_69 : decode cX5_set 69 = .ok (.ireturn, 1) := dcO tk_X5_set_0 36 rfl
abbrev tb_X5_go_0 : List (Nat × Instr × Nat) := [(0, .iload_n 1, 1), (1, .iconst 1, 1), (2, .if_icmp .lt 9, 3), (5, .iload_n 1, 1), (6, .bipush 40, 2), (8, .if_icmp .le 10, 3), (11, .aload_n 0, 1), (12, .ldc 63, 2), (14, .invokevirtual 64, 3), (17, .ireturn, 1), (18, .aload_n 0, 1), (19, .getfield 12, 3), (22, .getfield 125, 3), (25, .iload_n 1, 1), (26, .iadd, 1), (27, .ldc 128, 2), (29, .if_icmp .le 10, 3), (32, .aload_n 0, 1), (33, .ldc 129, 2), (35, .invokevirtual 64, 3), (38, .ireturn, 1), (39, .aload_n 0, 1), (40, .getfield 29, 3), (43, .aload_n 0, 1), (44, .getfield 12, 3), (47, .invokevirtual 130, 3), (50, .aload_n 0, 1), (51, .getfield 12, 3), (54, .aload_n 0, 1), (55, .getfield 29, 3), (58, .sipush 255, 3), (61, .iload_n 1, 1), (62, .invokevirtual 133, 3), (65, .aload_n 0, 1), (66, .getfield 12, 3), (69, .getfield 137, 3), (72, .ireturn, 1)]
theorem tk_X5_go_0 : dcA cX5_go tb_X5_go_0 = true := by decide +kernel
theorem dX5_go_0 : decode cX5_go 0 = .ok (.iload_n 1, 1) := dcO tk_X5_go_0 0 rfl
theorem dX5_go_1 : decode cX5_go 1 = .ok (.iconst 1, 1) := dcO tk_X5_go_0 1 rfl
theorem dX5_go_2 : decode cX5_go 2 = .ok (.if_icmp .lt 9, 3) := dcO tk_X5_go_0 2 rfl
theorem dX5_go_5 : decode cX5_go 5 = .ok (.iload_n 1, 1) := dcO tk_X5_go_0 3 rfl
theorem dX5_go_6 : decode cX5_go 6 = .ok (.bipush 40, 2) := dcO tk_X5_go_0 4 rfl
theorem dX5_go_8 : decode cX5_go 8 = .ok (.if_icmp .le 10, 3) := dcO tk_X5_go_0 5 rfl
theorem dX5_go_11 : decode cX5_go 11 = .ok (.aload_n 0, 1) := dcO tk_X5_go_0 6 rfl
theorem dX5_go_12 : decode cX5_go 12 = .ok (.ldc 63, 2) := dcO tk_X5_go_0 7 rfl
theorem dX5_go_14 : decode cX5_go 14 = .ok (.invokevirtual 64, 3) := dcO tk_X5_go_0 8 rfl
theorem dX5_go_17 : decode cX5_go 17 = .ok (.ireturn, 1) := dcO tk_X5_go_0 9 rfl
theorem dX5_go_18 : decode cX5_go 18 = .ok (.aload_n 0, 1) := dcO tk_X5_go_0 10 rfl
theorem dX5_go_19 : decode cX5_go 19 = .ok (.getfield 12, 3) := dcO tk_X5_go_0 11 rfl
theorem dX5_go_22 : decode cX5_go 22 = .ok (.getfield 125, 3) := dcO tk_X5_go_0 12 rfl
theorem dX5_go_25 : decode cX5_go 25 = .ok (.iload_n 1, 1) := dcO tk_X5_go_0 13 rfl
theorem dX5_go_26 : decode cX5_go 26 = .ok (.iadd, 1) := dcO tk_X5_go_0 14 rfl
theorem dX5_go_27 : decode cX5_go 27 = .ok (.ldc 128, 2) := dcO tk_X5_go_0 15 rfl
theorem dX5_go_29 : decode cX5_go 29 = .ok (.if_icmp .le 10, 3) := dcO tk_X5_go_0 16 rfl
theorem dX5_go_32 : decode cX5_go 32 = .ok (.aload_n 0, 1) := dcO tk_X5_go_0 17 rfl
theorem dX5_go_33 : decode cX5_go 33 = .ok (.ldc 129, 2) := dcO tk_X5_go_0 18 rfl
theorem dX5_go_35 : decode cX5_go 35 = .ok (.invokevirtual 64, 3) := dcO tk_X5_go_0 19 rfl
theorem dX5_go_38 : decode cX5_go 38 = .ok (.ireturn, 1) := dcO tk_X5_go_0 20 rfl
theorem dX5_go_39 : decode cX5_go 39 = .ok (.aload_n 0, 1) := dcO tk_X5_go_0 21 rfl
theorem dX5_go_40 : decode cX5_go 40 = .ok (.getfield 29, 3) := dcO tk_X5_go_0 22 rfl
theorem dX5_go_43 : decode cX5_go 43 = .ok (.aload_n 0, 1) := dcO tk_X5_go_0 23 rfl
theorem dX5_go_44 : decode cX5_go 44 = .ok (.getfield 12, 3) := dcO tk_X5_go_0 24 rfl
theorem dX5_go_47 : decode cX5_go 47 = .ok (.invokevirtual 130, 3) := dcO tk_X5_go_0 25 rfl
theorem dX5_go_50 : decode cX5_go 50 = .ok (.aload_n 0, 1) := dcO tk_X5_go_0 26 rfl
theorem dX5_go_51 : decode cX5_go 51 = .ok (.getfield 12, 3) := dcO tk_X5_go_0 27 rfl
theorem dX5_go_54 : decode cX5_go 54 = .ok (.aload_n 0, 1) := dcO tk_X5_go_0 28 rfl
theorem dX5_go_55 : decode cX5_go 55 = .ok (.getfield 29, 3) := dcO tk_X5_go_0 29 rfl
theorem dX5_go_58 : decode cX5_go 58 = .ok (.sipush 255, 3) := dcO tk_X5_go_0 30 rfl
theorem dX5_go_61 : decode cX5_go 61 = .ok (.iload_n 1, 1) := dcO tk_X5_go_0 31 rfl
theorem dX5_go_62 : decode cX5_go 62 = .ok (.invokevirtual 133, 3) := dcO tk_X5_go_0 32 rfl
theorem dX5_go_65 : decode cX5_go 65 = .ok (.aload_n 0, 1) := dcO tk_X5_go_0 33 rfl
theorem dX5_go_66 : decode cX5_go 66 = .ok (.getfield 12, 3) := dcO tk_X5_go_0 34 rfl
theorem dX5_go_69 : decode cX5_go 69 = .ok (.getfield 137, 3) := dcO tk_X5_go_0 35 rfl
theorem dX5_go_72 : decode cX5_go 72 = .ok (.ireturn, 1) := dcO tk_X5_go_0 36 rfl
abbrev tb_X5_now_0 : List (Nat × Instr × Nat) := [(0, .iload_n 1, 1), (1, .tableswitch 87 0 5 #[39, 47, 55, 63, 71, 79], 39), (40, .aload_n 0, 1), (41, .getfield 12, 3), (44, .getfield 125, 3), (47, .ireturn, 1), (48, .aload_n 0, 1), (49, .getfield 12, 3), (52, .getfield 137, 3), (55, .ireturn, 1), (56, .aload_n 0, 1), (57, .getfield 12, 3), (60, .invokevirtual 140, 3), (63, .ireturn, 1), (64, .aload_n 0, 1), (65, .getfield 12, 3), (68, .invokevirtual 144, 3), (71, .ireturn, 1), (72, .aload_n 0, 1), (73, .getfield 12, 3), (76, .getfield 118, 3), (79, .ireturn, 1), (80, .aload_n 0, 1), (81, .getfield 12, 3), (84, .invokevirtual 147, 3), (87, .ireturn, 1), (88, .aload_n 0, 1), (89, .ldc 63, 2), (91, .invokevirtual 64, 3), (94, .ireturn, 1)]
theorem tk_X5_now_0 : dcA cX5_now tb_X5_now_0 = true := by decide +kernel
theorem dX5_now_0 : decode cX5_now 0 = .ok (.iload_n 1, 1) := dcO tk_X5_now_0 0 rfl
theorem dX5_now_1 : decode cX5_now 1 = .ok (.tableswitch 87 0 5 #[39, 47, 55, 63, 71, 79], 39) := dcO tk_X5_now_0 1 rfl
theorem dX5_now_40 : decode cX5_now 40 = .ok (.aload_n 0, 1) := dcO tk_X5_now_0 2 rfl
theorem dX5_now_41 : decode cX5_now 41 = .ok (.getfield 12, 3) := dcO tk_X5_now_0 3 rfl
theorem dX5_now_44 : decode cX5_now 44 = .ok (.getfield 125, 3) := dcO tk_X5_now_0 4 rfl
theorem dX5_now_47 : decode cX5_now 47 = .ok (.ireturn, 1) := dcO tk_X5_now_0 5 rfl
theorem dX5_now_48 : decode cX5_now 48 = .ok (.aload_n 0, 1) := dcO tk_X5_now_0 6 rfl
theorem dX5_now_49 : decode cX5_now 49 = .ok (.getfield 12, 3) := dcO tk_X5_now_0 7 rfl
theorem dX5_now_52 : decode cX5_now 52 = .ok (.getfield 137, 3) := dcO tk_X5_now_0 8 rfl
theorem dX5_now_55 : decode cX5_now 55 = .ok (.ireturn, 1) := dcO tk_X5_now_0 9 rfl
theorem dX5_now_56 : decode cX5_now 56 = .ok (.aload_n 0, 1) := dcO tk_X5_now_0 10 rfl
theorem dX5_now_57 : decode cX5_now 57 = .ok (.getfield 12, 3) := dcO tk_X5_now_0 11 rfl
theorem dX5_now_60 : decode cX5_now 60 = .ok (.invokevirtual 140, 3) := dcO tk_X5_now_0 12 rfl
theorem dX5_now_63 : decode cX5_now 63 = .ok (.ireturn, 1) := dcO tk_X5_now_0 13 rfl
theorem dX5_now_64 : decode cX5_now 64 = .ok (.aload_n 0, 1) := dcO tk_X5_now_0 14 rfl
theorem dX5_now_65 : decode cX5_now 65 = .ok (.getfield 12, 3) := dcO tk_X5_now_0 15 rfl
theorem dX5_now_68 : decode cX5_now 68 = .ok (.invokevirtual 144, 3) := dcO tk_X5_now_0 16 rfl
theorem dX5_now_71 : decode cX5_now 71 = .ok (.ireturn, 1) := dcO tk_X5_now_0 17 rfl
theorem dX5_now_72 : decode cX5_now 72 = .ok (.aload_n 0, 1) := dcO tk_X5_now_0 18 rfl
theorem dX5_now_73 : decode cX5_now 73 = .ok (.getfield 12, 3) := dcO tk_X5_now_0 19 rfl
theorem dX5_now_76 : decode cX5_now 76 = .ok (.getfield 118, 3) := dcO tk_X5_now_0 20 rfl
theorem dX5_now_79 : decode cX5_now 79 = .ok (.ireturn, 1) := dcO tk_X5_now_0 21 rfl
theorem dX5_now_80 : decode cX5_now 80 = .ok (.aload_n 0, 1) := dcO tk_X5_now_0 22 rfl
theorem dX5_now_81 : decode cX5_now 81 = .ok (.getfield 12, 3) := dcO tk_X5_now_0 23 rfl
theorem dX5_now_84 : decode cX5_now 84 = .ok (.invokevirtual 147, 3) := dcO tk_X5_now_0 24 rfl
theorem dX5_now_87 : decode cX5_now 87 = .ok (.ireturn, 1) := dcO tk_X5_now_0 25 rfl
theorem dX5_now_88 : decode cX5_now 88 = .ok (.aload_n 0, 1) := dcO tk_X5_now_0 26 rfl
theorem dX5_now_89 : decode cX5_now 89 = .ok (.ldc 63, 2) := dcO tk_X5_now_0 27 rfl
theorem dX5_now_91 : decode cX5_now 91 = .ok (.invokevirtual 64, 3) := dcO tk_X5_now_0 28 rfl
theorem dX5_now_94 : decode cX5_now 94 = .ok (.ireturn, 1) := dcO tk_X5_now_0 29 rfl
abbrev tb_X5_realm_0 : List (Nat × Instr × Nat) := [(0, .iload_n 1, 1), (1, .invokestatic 112, 3), (4, .ifCond .ne 10, 3), (7, .aload_n 0, 1), (8, .ldc 63, 2), (10, .invokevirtual 64, 3), (13, .ireturn, 1), (14, .aload_n 0, 1), (15, .getfield 12, 3), (18, .iload_n 1, 1), (19, .invokevirtual 150, 3), (22, .ireturn, 1)]
theorem tk_X5_realm_0 : dcA cX5_realm tb_X5_realm_0 = true := by decide +kernel
theorem dX5_realm_0 : decode cX5_realm 0 = .ok (.iload_n 1, 1) := dcO tk_X5_realm_0 0 rfl
theorem dX5_realm_1 : decode cX5_realm 1 = .ok (.invokestatic 112, 3) := dcO tk_X5_realm_0 1 rfl
theorem dX5_realm_4 : decode cX5_realm 4 = .ok (.ifCond .ne 10, 3) := dcO tk_X5_realm_0 2 rfl
theorem dX5_realm_7 : decode cX5_realm 7 = .ok (.aload_n 0, 1) := dcO tk_X5_realm_0 3 rfl
theorem dX5_realm_8 : decode cX5_realm 8 = .ok (.ldc 63, 2) := dcO tk_X5_realm_0 4 rfl
theorem dX5_realm_10 : decode cX5_realm 10 = .ok (.invokevirtual 64, 3) := dcO tk_X5_realm_0 5 rfl
theorem dX5_realm_13 : decode cX5_realm 13 = .ok (.ireturn, 1) := dcO tk_X5_realm_0 6 rfl
theorem dX5_realm_14 : decode cX5_realm 14 = .ok (.aload_n 0, 1) := dcO tk_X5_realm_0 7 rfl
theorem dX5_realm_15 : decode cX5_realm 15 = .ok (.getfield 12, 3) := dcO tk_X5_realm_0 8 rfl
theorem dX5_realm_18 : decode cX5_realm 18 = .ok (.iload_n 1, 1) := dcO tk_X5_realm_0 9 rfl
theorem dX5_realm_19 : decode cX5_realm 19 = .ok (.invokevirtual 150, 3) := dcO tk_X5_realm_0 10 rfl
theorem dX5_realm_22 : decode cX5_realm 22 = .ok (.ireturn, 1) := dcO tk_X5_realm_0 11 rfl
abbrev tb_X5_repeals_0 : List (Nat × Instr × Nat) := [(0, .aload_n 0, 1), (1, .getfield 12, 3), (4, .invokevirtual 140, 3), (7, .istore_n 1, 1), (8, .aload_n 0, 1), (9, .getfield 12, 3), (12, .getfield 74, 3), (15, .iconst (-1), 1), (16, .invokestatic 153, 3), (19, .iload_n 1, 1), (20, .ireturn, 1)]
theorem tk_X5_repeals_0 : dcA cX5_repeals tb_X5_repeals_0 = true := by decide +kernel
theorem dX5_repeals_0 : decode cX5_repeals 0 = .ok (.aload_n 0, 1) := dcO tk_X5_repeals_0 0 rfl
theorem dX5_repeals_1 : decode cX5_repeals 1 = .ok (.getfield 12, 3) := dcO tk_X5_repeals_0 1 rfl
theorem dX5_repeals_4 : decode cX5_repeals 4 = .ok (.invokevirtual 140, 3) := dcO tk_X5_repeals_0 2 rfl
theorem dX5_repeals_7 : decode cX5_repeals 7 = .ok (.istore_n 1, 1) := dcO tk_X5_repeals_0 3 rfl
theorem dX5_repeals_8 : decode cX5_repeals 8 = .ok (.aload_n 0, 1) := dcO tk_X5_repeals_0 4 rfl
theorem dX5_repeals_9 : decode cX5_repeals 9 = .ok (.getfield 12, 3) := dcO tk_X5_repeals_0 5 rfl
theorem dX5_repeals_12 : decode cX5_repeals 12 = .ok (.getfield 74, 3) := dcO tk_X5_repeals_0 6 rfl
theorem dX5_repeals_15 : decode cX5_repeals 15 = .ok (.iconst (-1), 1) := dcO tk_X5_repeals_0 7 rfl
theorem dX5_repeals_16 : decode cX5_repeals 16 = .ok (.invokestatic 153, 3) := dcO tk_X5_repeals_0 8 rfl
theorem dX5_repeals_19 : decode cX5_repeals 19 = .ok (.iload_n 1, 1) := dcO tk_X5_repeals_0 9 rfl
theorem dX5_repeals_20 : decode cX5_repeals 20 = .ok (.ireturn, 1) := dcO tk_X5_repeals_0 10 rfl
abbrev tb_X5_may_0 : List (Nat × Instr × Nat) := [(0, .iload_n 1, 1), (1, .invokestatic 55, 3), (4, .ifCond .eq 10, 3), (7, .iload_n 2, 1), (8, .invokestatic 159, 3), (11, .ifCond .ne 10, 3), (14, .aload_n 0, 1), (15, .ldc 63, 2), (17, .invokevirtual 64, 3), (20, .ireturn, 1), (21, .aload_n 0, 1), (22, .getfield 12, 3), (25, .iload_n 1, 1), (26, .iload_n 2, 1), (27, .invokevirtual 162, 3), (30, .ifCond .eq 7, 3), (33, .iconst 1, 1), (34, .goto 4, 3), (37, .iconst 0, 1), (38, .ireturn, 1)]
theorem tk_X5_may_0 : dcA cX5_may tb_X5_may_0 = true := by decide +kernel
theorem dX5_may_0 : decode cX5_may 0 = .ok (.iload_n 1, 1) := dcO tk_X5_may_0 0 rfl
theorem dX5_may_1 : decode cX5_may 1 = .ok (.invokestatic 55, 3) := dcO tk_X5_may_0 1 rfl
theorem dX5_may_4 : decode cX5_may 4 = .ok (.ifCond .eq 10, 3) := dcO tk_X5_may_0 2 rfl
theorem dX5_may_7 : decode cX5_may 7 = .ok (.iload_n 2, 1) := dcO tk_X5_may_0 3 rfl
theorem dX5_may_8 : decode cX5_may 8 = .ok (.invokestatic 159, 3) := dcO tk_X5_may_0 4 rfl
theorem dX5_may_11 : decode cX5_may 11 = .ok (.ifCond .ne 10, 3) := dcO tk_X5_may_0 5 rfl
theorem dX5_may_14 : decode cX5_may 14 = .ok (.aload_n 0, 1) := dcO tk_X5_may_0 6 rfl
theorem dX5_may_15 : decode cX5_may 15 = .ok (.ldc 63, 2) := dcO tk_X5_may_0 7 rfl
theorem dX5_may_17 : decode cX5_may 17 = .ok (.invokevirtual 64, 3) := dcO tk_X5_may_0 8 rfl
theorem dX5_may_20 : decode cX5_may 20 = .ok (.ireturn, 1) := dcO tk_X5_may_0 9 rfl
theorem dX5_may_21 : decode cX5_may 21 = .ok (.aload_n 0, 1) := dcO tk_X5_may_0 10 rfl
theorem dX5_may_22 : decode cX5_may 22 = .ok (.getfield 12, 3) := dcO tk_X5_may_0 11 rfl
theorem dX5_may_25 : decode cX5_may 25 = .ok (.iload_n 1, 1) := dcO tk_X5_may_0 12 rfl
theorem dX5_may_26 : decode cX5_may 26 = .ok (.iload_n 2, 1) := dcO tk_X5_may_0 13 rfl
theorem dX5_may_27 : decode cX5_may 27 = .ok (.invokevirtual 162, 3) := dcO tk_X5_may_0 14 rfl
theorem dX5_may_30 : decode cX5_may 30 = .ok (.ifCond .eq 7, 3) := dcO tk_X5_may_0 15 rfl
theorem dX5_may_33 : decode cX5_may 33 = .ok (.iconst 1, 1) := dcO tk_X5_may_0 16 rfl
theorem dX5_may_34 : decode cX5_may 34 = .ok (.goto 4, 3) := dcO tk_X5_may_0 17 rfl
theorem dX5_may_37 : decode cX5_may 37 = .ok (.iconst 0, 1) := dcO tk_X5_may_0 18 rfl
theorem dX5_may_38 : decode cX5_may 38 = .ok (.ireturn, 1) := dcO tk_X5_may_0 19 rfl
abbrev tb_X5_where_0 : List (Nat × Instr × Nat) := [(0, .iload_n 1, 1), (1, .invokestatic 159, 3), (4, .ifCond .ne 10, 3), (7, .aload_n 0, 1), (8, .ldc 63, 2), (10, .invokevirtual 64, 3), (13, .ireturn, 1), (14, .aload_n 0, 1), (15, .getfield 12, 3), (18, .iload_n 1, 1), (19, .invokevirtual 165, 3), (22, .ireturn, 1)]
theorem tk_X5_where_0 : dcA cX5_where tb_X5_where_0 = true := by decide +kernel
theorem dX5_where_0 : decode cX5_where 0 = .ok (.iload_n 1, 1) := dcO tk_X5_where_0 0 rfl
theorem dX5_where_1 : decode cX5_where 1 = .ok (.invokestatic 159, 3) := dcO tk_X5_where_0 1 rfl
theorem dX5_where_4 : decode cX5_where 4 = .ok (.ifCond .ne 10, 3) := dcO tk_X5_where_0 2 rfl
theorem dX5_where_7 : decode cX5_where 7 = .ok (.aload_n 0, 1) := dcO tk_X5_where_0 3 rfl
theorem dX5_where_8 : decode cX5_where 8 = .ok (.ldc 63, 2) := dcO tk_X5_where_0 4 rfl
theorem dX5_where_10 : decode cX5_where 10 = .ok (.invokevirtual 64, 3) := dcO tk_X5_where_0 5 rfl
theorem dX5_where_13 : decode cX5_where 13 = .ok (.ireturn, 1) := dcO tk_X5_where_0 6 rfl
theorem dX5_where_14 : decode cX5_where 14 = .ok (.aload_n 0, 1) := dcO tk_X5_where_0 7 rfl
theorem dX5_where_15 : decode cX5_where 15 = .ok (.getfield 12, 3) := dcO tk_X5_where_0 8 rfl
theorem dX5_where_18 : decode cX5_where 18 = .ok (.iload_n 1, 1) := dcO tk_X5_where_0 9 rfl
theorem dX5_where_19 : decode cX5_where 19 = .ok (.invokevirtual 165, 3) := dcO tk_X5_where_0 10 rfl
theorem dX5_where_22 : decode cX5_where 22 = .ok (.ireturn, 1) := dcO tk_X5_where_0 11 rfl
abbrev tb_X5_route_0 : List (Nat × Instr × Nat) := [(0, .iload_n 1, 1), (1, .invokestatic 55, 3), (4, .ifCond .eq 17, 3), (7, .iload_n 2, 1), (8, .invokestatic 55, 3), (11, .ifCond .eq 10, 3), (14, .iload_n 3, 1), (15, .invokestatic 159, 3), (18, .ifCond .ne 10, 3), (21, .aload_n 0, 1), (22, .ldc 63, 2), (24, .invokevirtual 64, 3), (27, .ireturn, 1), (28, .aload_n 0, 1), (29, .getfield 29, 3), (32, .aload_n 0, 1), (33, .getfield 12, 3), (36, .iload_n 3, 1), (37, .invokevirtual 168, 3), (40, .aload_n 0, 1), (41, .getfield 29, 3), (44, .iload_n 2, 1), (45, .invokevirtual 81, 3), (48, .aload_n 0, 1), (49, .getfield 29, 3), (52, .getfield 85, 3), (55, .iload_n 1, 1), (56, .iaload, 1), (57, .bipush 99, 2), (59, .if_icmp .ne 12, 3), (62, .aload_n 0, 1), (63, .ldc 172, 2), (65, .invokevirtual 64, 3), (68, .goto 12, 3), (71, .aload_n 0, 1), (72, .getfield 29, 3), (75, .getfield 85, 3), (78, .iload_n 1, 1), (79, .iaload, 1), (80, .ireturn, 1)]
theorem tk_X5_route_0 : dcA cX5_route tb_X5_route_0 = true := by decide +kernel
theorem dX5_route_0 : decode cX5_route 0 = .ok (.iload_n 1, 1) := dcO tk_X5_route_0 0 rfl
theorem dX5_route_1 : decode cX5_route 1 = .ok (.invokestatic 55, 3) := dcO tk_X5_route_0 1 rfl
theorem dX5_route_4 : decode cX5_route 4 = .ok (.ifCond .eq 17, 3) := dcO tk_X5_route_0 2 rfl
theorem dX5_route_7 : decode cX5_route 7 = .ok (.iload_n 2, 1) := dcO tk_X5_route_0 3 rfl
theorem dX5_route_8 : decode cX5_route 8 = .ok (.invokestatic 55, 3) := dcO tk_X5_route_0 4 rfl
theorem dX5_route_11 : decode cX5_route 11 = .ok (.ifCond .eq 10, 3) := dcO tk_X5_route_0 5 rfl
theorem dX5_route_14 : decode cX5_route 14 = .ok (.iload_n 3, 1) := dcO tk_X5_route_0 6 rfl
theorem dX5_route_15 : decode cX5_route 15 = .ok (.invokestatic 159, 3) := dcO tk_X5_route_0 7 rfl
theorem dX5_route_18 : decode cX5_route 18 = .ok (.ifCond .ne 10, 3) := dcO tk_X5_route_0 8 rfl
theorem dX5_route_21 : decode cX5_route 21 = .ok (.aload_n 0, 1) := dcO tk_X5_route_0 9 rfl
theorem dX5_route_22 : decode cX5_route 22 = .ok (.ldc 63, 2) := dcO tk_X5_route_0 10 rfl
theorem dX5_route_24 : decode cX5_route 24 = .ok (.invokevirtual 64, 3) := dcO tk_X5_route_0 11 rfl
theorem dX5_route_27 : decode cX5_route 27 = .ok (.ireturn, 1) := dcO tk_X5_route_0 12 rfl
theorem dX5_route_28 : decode cX5_route 28 = .ok (.aload_n 0, 1) := dcO tk_X5_route_0 13 rfl
theorem dX5_route_29 : decode cX5_route 29 = .ok (.getfield 29, 3) := dcO tk_X5_route_0 14 rfl
theorem dX5_route_32 : decode cX5_route 32 = .ok (.aload_n 0, 1) := dcO tk_X5_route_0 15 rfl
theorem dX5_route_33 : decode cX5_route 33 = .ok (.getfield 12, 3) := dcO tk_X5_route_0 16 rfl
theorem dX5_route_36 : decode cX5_route 36 = .ok (.iload_n 3, 1) := dcO tk_X5_route_0 17 rfl
theorem dX5_route_37 : decode cX5_route 37 = .ok (.invokevirtual 168, 3) := dcO tk_X5_route_0 18 rfl
theorem dX5_route_40 : decode cX5_route 40 = .ok (.aload_n 0, 1) := dcO tk_X5_route_0 19 rfl
theorem dX5_route_41 : decode cX5_route 41 = .ok (.getfield 29, 3) := dcO tk_X5_route_0 20 rfl
theorem dX5_route_44 : decode cX5_route 44 = .ok (.iload_n 2, 1) := dcO tk_X5_route_0 21 rfl
theorem dX5_route_45 : decode cX5_route 45 = .ok (.invokevirtual 81, 3) := dcO tk_X5_route_0 22 rfl
theorem dX5_route_48 : decode cX5_route 48 = .ok (.aload_n 0, 1) := dcO tk_X5_route_0 23 rfl
theorem dX5_route_49 : decode cX5_route 49 = .ok (.getfield 29, 3) := dcO tk_X5_route_0 24 rfl
theorem dX5_route_52 : decode cX5_route 52 = .ok (.getfield 85, 3) := dcO tk_X5_route_0 25 rfl
theorem dX5_route_55 : decode cX5_route 55 = .ok (.iload_n 1, 1) := dcO tk_X5_route_0 26 rfl
theorem dX5_route_56 : decode cX5_route 56 = .ok (.iaload, 1) := dcO tk_X5_route_0 27 rfl
theorem dX5_route_57 : decode cX5_route 57 = .ok (.bipush 99, 2) := dcO tk_X5_route_0 28 rfl
theorem dX5_route_59 : decode cX5_route 59 = .ok (.if_icmp .ne 12, 3) := dcO tk_X5_route_0 29 rfl
theorem dX5_route_62 : decode cX5_route 62 = .ok (.aload_n 0, 1) := dcO tk_X5_route_0 30 rfl
theorem dX5_route_63 : decode cX5_route 63 = .ok (.ldc 172, 2) := dcO tk_X5_route_0 31 rfl
theorem dX5_route_65 : decode cX5_route 65 = .ok (.invokevirtual 64, 3) := dcO tk_X5_route_0 32 rfl
theorem dX5_route_68 : decode cX5_route 68 = .ok (.goto 12, 3) := dcO tk_X5_route_0 33 rfl
theorem dX5_route_71 : decode cX5_route 71 = .ok (.aload_n 0, 1) := dcO tk_X5_route_0 34 rfl
theorem dX5_route_72 : decode cX5_route 72 = .ok (.getfield 29, 3) := dcO tk_X5_route_0 35 rfl
theorem dX5_route_75 : decode cX5_route 75 = .ok (.getfield 85, 3) := dcO tk_X5_route_0 36 rfl
theorem dX5_route_78 : decode cX5_route 78 = .ok (.iload_n 1, 1) := dcO tk_X5_route_0 37 rfl
theorem dX5_route_79 : decode cX5_route 79 = .ok (.iaload, 1) := dcO tk_X5_route_0 38 rfl
theorem dX5_route_80 : decode cX5_route 80 = .ok (.ireturn, 1) := dcO tk_X5_route_0 39 rfl
abbrev tb_X5_free_0 : List (Nat × Instr × Nat) := [(0, .aload_n 0, 1), (1, .getfield 12, 3), (4, .invokevirtual 173, 3), (7, .ireturn, 1)]
theorem tk_X5_free_0 : dcA cX5_free tb_X5_free_0 = true := by decide +kernel
theorem dX5_free_0 : decode cX5_free 0 = .ok (.aload_n 0, 1) := dcO tk_X5_free_0 0 rfl
theorem dX5_free_1 : decode cX5_free 1 = .ok (.getfield 12, 3) := dcO tk_X5_free_0 1 rfl
theorem dX5_free_4 : decode cX5_free 4 = .ok (.invokevirtual 173, 3) := dcO tk_X5_free_0 2 rfl
theorem dX5_free_7 : decode cX5_free 7 = .ok (.ireturn, 1) := dcO tk_X5_free_0 3 rfl
abbrev tb_X5_ahead_0 : List (Nat × Instr × Nat) := [(0, .aload_n 0, 1), (1, .iload_n 1, 1), (2, .invokevirtual 93, 3), (5, .ifCond .eq 12, 3), (8, .iload_n 2, 1), (9, .bipush 100, 2), (11, .invokestatic 59, 3), (14, .ifCond .ne 10, 3), (17, .aload_n 0, 1), (18, .ldc 63, 2), (20, .invokevirtual 64, 3), (23, .ireturn, 1), (24, .aload_n 0, 1), (25, .getfield 22, 3), (28, .aload_n 0, 1), (29, .getfield 12, 3), (32, .iload_n 2, 1), (33, .invokevirtual 176, 3), (36, .getfield 102, 3), (39, .iload_n 1, 1), (40, .iaload, 1), (41, .ireturn, 1)]
theorem tk_X5_ahead_0 : dcA cX5_ahead tb_X5_ahead_0 = true := by decide +kernel
theorem dX5_ahead_0 : decode cX5_ahead 0 = .ok (.aload_n 0, 1) := dcO tk_X5_ahead_0 0 rfl
theorem dX5_ahead_1 : decode cX5_ahead 1 = .ok (.iload_n 1, 1) := dcO tk_X5_ahead_0 1 rfl
theorem dX5_ahead_2 : decode cX5_ahead 2 = .ok (.invokevirtual 93, 3) := dcO tk_X5_ahead_0 2 rfl
theorem dX5_ahead_5 : decode cX5_ahead 5 = .ok (.ifCond .eq 12, 3) := dcO tk_X5_ahead_0 3 rfl
theorem dX5_ahead_8 : decode cX5_ahead 8 = .ok (.iload_n 2, 1) := dcO tk_X5_ahead_0 4 rfl
theorem dX5_ahead_9 : decode cX5_ahead 9 = .ok (.bipush 100, 2) := dcO tk_X5_ahead_0 5 rfl
theorem dX5_ahead_11 : decode cX5_ahead 11 = .ok (.invokestatic 59, 3) := dcO tk_X5_ahead_0 6 rfl
theorem dX5_ahead_14 : decode cX5_ahead 14 = .ok (.ifCond .ne 10, 3) := dcO tk_X5_ahead_0 7 rfl
theorem dX5_ahead_17 : decode cX5_ahead 17 = .ok (.aload_n 0, 1) := dcO tk_X5_ahead_0 8 rfl
theorem dX5_ahead_18 : decode cX5_ahead 18 = .ok (.ldc 63, 2) := dcO tk_X5_ahead_0 9 rfl
theorem dX5_ahead_20 : decode cX5_ahead 20 = .ok (.invokevirtual 64, 3) := dcO tk_X5_ahead_0 10 rfl
theorem dX5_ahead_23 : decode cX5_ahead 23 = .ok (.ireturn, 1) := dcO tk_X5_ahead_0 11 rfl
theorem dX5_ahead_24 : decode cX5_ahead 24 = .ok (.aload_n 0, 1) := dcO tk_X5_ahead_0 12 rfl
theorem dX5_ahead_25 : decode cX5_ahead 25 = .ok (.getfield 22, 3) := dcO tk_X5_ahead_0 13 rfl
theorem dX5_ahead_28 : decode cX5_ahead 28 = .ok (.aload_n 0, 1) := dcO tk_X5_ahead_0 14 rfl
theorem dX5_ahead_29 : decode cX5_ahead 29 = .ok (.getfield 12, 3) := dcO tk_X5_ahead_0 15 rfl
theorem dX5_ahead_32 : decode cX5_ahead 32 = .ok (.iload_n 2, 1) := dcO tk_X5_ahead_0 16 rfl
theorem dX5_ahead_33 : decode cX5_ahead 33 = .ok (.invokevirtual 176, 3) := dcO tk_X5_ahead_0 17 rfl
theorem dX5_ahead_36 : decode cX5_ahead 36 = .ok (.getfield 102, 3) := dcO tk_X5_ahead_0 18 rfl
theorem dX5_ahead_39 : decode cX5_ahead 39 = .ok (.iload_n 1, 1) := dcO tk_X5_ahead_0 19 rfl
theorem dX5_ahead_40 : decode cX5_ahead 40 = .ok (.iaload, 1) := dcO tk_X5_ahead_0 20 rfl
theorem dX5_ahead_41 : decode cX5_ahead 41 = .ok (.ireturn, 1) := dcO tk_X5_ahead_0 21 rfl
abbrev tb_X5_lawAt_0 : List (Nat × Instr × Nat) := [(0, .iload_n 1, 1), (1, .invokestatic 55, 3), (4, .ifCond .eq 12, 3), (7, .iload_n 2, 1), (8, .bipush 100, 2), (10, .invokestatic 59, 3), (13, .ifCond .ne 10, 3), (16, .aload_n 0, 1), (17, .ldc 63, 2), (19, .invokevirtual 64, 3), (22, .ireturn, 1), (23, .aload_n 0, 1), (24, .getfield 22, 3), (27, .aload_n 0, 1), (28, .getfield 12, 3), (31, .iload_n 2, 1), (32, .invokevirtual 176, 3), (35, .getfield 74, 3), (38, .iload_n 1, 1), (39, .iaload, 1), (40, .ireturn, 1)]
theorem tk_X5_lawAt_0 : dcA cX5_lawAt tb_X5_lawAt_0 = true := by decide +kernel
theorem dX5_lawAt_0 : decode cX5_lawAt 0 = .ok (.iload_n 1, 1) := dcO tk_X5_lawAt_0 0 rfl
theorem dX5_lawAt_1 : decode cX5_lawAt 1 = .ok (.invokestatic 55, 3) := dcO tk_X5_lawAt_0 1 rfl
theorem dX5_lawAt_4 : decode cX5_lawAt 4 = .ok (.ifCond .eq 12, 3) := dcO tk_X5_lawAt_0 2 rfl
theorem dX5_lawAt_7 : decode cX5_lawAt 7 = .ok (.iload_n 2, 1) := dcO tk_X5_lawAt_0 3 rfl
theorem dX5_lawAt_8 : decode cX5_lawAt 8 = .ok (.bipush 100, 2) := dcO tk_X5_lawAt_0 4 rfl
theorem dX5_lawAt_10 : decode cX5_lawAt 10 = .ok (.invokestatic 59, 3) := dcO tk_X5_lawAt_0 5 rfl
theorem dX5_lawAt_13 : decode cX5_lawAt 13 = .ok (.ifCond .ne 10, 3) := dcO tk_X5_lawAt_0 6 rfl
theorem dX5_lawAt_16 : decode cX5_lawAt 16 = .ok (.aload_n 0, 1) := dcO tk_X5_lawAt_0 7 rfl
theorem dX5_lawAt_17 : decode cX5_lawAt 17 = .ok (.ldc 63, 2) := dcO tk_X5_lawAt_0 8 rfl
theorem dX5_lawAt_19 : decode cX5_lawAt 19 = .ok (.invokevirtual 64, 3) := dcO tk_X5_lawAt_0 9 rfl
theorem dX5_lawAt_22 : decode cX5_lawAt 22 = .ok (.ireturn, 1) := dcO tk_X5_lawAt_0 10 rfl
theorem dX5_lawAt_23 : decode cX5_lawAt 23 = .ok (.aload_n 0, 1) := dcO tk_X5_lawAt_0 11 rfl
theorem dX5_lawAt_24 : decode cX5_lawAt 24 = .ok (.getfield 22, 3) := dcO tk_X5_lawAt_0 12 rfl
theorem dX5_lawAt_27 : decode cX5_lawAt 27 = .ok (.aload_n 0, 1) := dcO tk_X5_lawAt_0 13 rfl
theorem dX5_lawAt_28 : decode cX5_lawAt 28 = .ok (.getfield 12, 3) := dcO tk_X5_lawAt_0 14 rfl
theorem dX5_lawAt_31 : decode cX5_lawAt 31 = .ok (.iload_n 2, 1) := dcO tk_X5_lawAt_0 15 rfl
theorem dX5_lawAt_32 : decode cX5_lawAt 32 = .ok (.invokevirtual 176, 3) := dcO tk_X5_lawAt_0 16 rfl
theorem dX5_lawAt_35 : decode cX5_lawAt 35 = .ok (.getfield 74, 3) := dcO tk_X5_lawAt_0 17 rfl
theorem dX5_lawAt_38 : decode cX5_lawAt 38 = .ok (.iload_n 1, 1) := dcO tk_X5_lawAt_0 18 rfl
theorem dX5_lawAt_39 : decode cX5_lawAt 39 = .ok (.iaload, 1) := dcO tk_X5_lawAt_0 19 rfl
theorem dX5_lawAt_40 : decode cX5_lawAt 40 = .ok (.ireturn, 1) := dcO tk_X5_lawAt_0 20 rfl
abbrev tb_X5_reaches_0 : List (Nat × Instr × Nat) := [(0, .iload_n 1, 1), (1, .invokestatic 112, 3), (4, .ifCond .eq 10, 3), (7, .iload_n 2, 1), (8, .invokestatic 55, 3), (11, .ifCond .ne 10, 3), (14, .aload_n 0, 1), (15, .ldc 63, 2), (17, .invokevirtual 64, 3), (20, .ireturn, 1), (21, .aload_n 0, 1), (22, .getfield 22, 3), (25, .aload_n 0, 1), (26, .getfield 12, 3), (29, .iload_n 1, 1), (30, .iload_n 2, 1), (31, .aload_n 0, 1), (32, .getfield 12, 3), (35, .getfield 118, 3), (38, .invokevirtual 180, 3), (41, .istore_n 3, 1), (42, .iload_n 3, 1), (43, .bipush 101, 2), (45, .if_icmp .ne 12, 3), (48, .aload_n 0, 1), (49, .ldc 172, 2), (51, .invokevirtual 64, 3), (54, .goto 4, 3), (57, .iload_n 3, 1), (58, .ireturn, 1)]
theorem tk_X5_reaches_0 : dcA cX5_reaches tb_X5_reaches_0 = true := by decide +kernel
theorem dX5_reaches_0 : decode cX5_reaches 0 = .ok (.iload_n 1, 1) := dcO tk_X5_reaches_0 0 rfl
theorem dX5_reaches_1 : decode cX5_reaches 1 = .ok (.invokestatic 112, 3) := dcO tk_X5_reaches_0 1 rfl
theorem dX5_reaches_4 : decode cX5_reaches 4 = .ok (.ifCond .eq 10, 3) := dcO tk_X5_reaches_0 2 rfl
theorem dX5_reaches_7 : decode cX5_reaches 7 = .ok (.iload_n 2, 1) := dcO tk_X5_reaches_0 3 rfl
theorem dX5_reaches_8 : decode cX5_reaches 8 = .ok (.invokestatic 55, 3) := dcO tk_X5_reaches_0 4 rfl
theorem dX5_reaches_11 : decode cX5_reaches 11 = .ok (.ifCond .ne 10, 3) := dcO tk_X5_reaches_0 5 rfl
theorem dX5_reaches_14 : decode cX5_reaches 14 = .ok (.aload_n 0, 1) := dcO tk_X5_reaches_0 6 rfl
theorem dX5_reaches_15 : decode cX5_reaches 15 = .ok (.ldc 63, 2) := dcO tk_X5_reaches_0 7 rfl
theorem dX5_reaches_17 : decode cX5_reaches 17 = .ok (.invokevirtual 64, 3) := dcO tk_X5_reaches_0 8 rfl
theorem dX5_reaches_20 : decode cX5_reaches 20 = .ok (.ireturn, 1) := dcO tk_X5_reaches_0 9 rfl
theorem dX5_reaches_21 : decode cX5_reaches 21 = .ok (.aload_n 0, 1) := dcO tk_X5_reaches_0 10 rfl
theorem dX5_reaches_22 : decode cX5_reaches 22 = .ok (.getfield 22, 3) := dcO tk_X5_reaches_0 11 rfl
theorem dX5_reaches_25 : decode cX5_reaches 25 = .ok (.aload_n 0, 1) := dcO tk_X5_reaches_0 12 rfl
theorem dX5_reaches_26 : decode cX5_reaches 26 = .ok (.getfield 12, 3) := dcO tk_X5_reaches_0 13 rfl
theorem dX5_reaches_29 : decode cX5_reaches 29 = .ok (.iload_n 1, 1) := dcO tk_X5_reaches_0 14 rfl
theorem dX5_reaches_30 : decode cX5_reaches 30 = .ok (.iload_n 2, 1) := dcO tk_X5_reaches_0 15 rfl
theorem dX5_reaches_31 : decode cX5_reaches 31 = .ok (.aload_n 0, 1) := dcO tk_X5_reaches_0 16 rfl
theorem dX5_reaches_32 : decode cX5_reaches 32 = .ok (.getfield 12, 3) := dcO tk_X5_reaches_0 17 rfl
theorem dX5_reaches_35 : decode cX5_reaches 35 = .ok (.getfield 118, 3) := dcO tk_X5_reaches_0 18 rfl
theorem dX5_reaches_38 : decode cX5_reaches 38 = .ok (.invokevirtual 180, 3) := dcO tk_X5_reaches_0 19 rfl
theorem dX5_reaches_41 : decode cX5_reaches 41 = .ok (.istore_n 3, 1) := dcO tk_X5_reaches_0 20 rfl
theorem dX5_reaches_42 : decode cX5_reaches 42 = .ok (.iload_n 3, 1) := dcO tk_X5_reaches_0 21 rfl
theorem dX5_reaches_43 : decode cX5_reaches 43 = .ok (.bipush 101, 2) := dcO tk_X5_reaches_0 22 rfl
theorem dX5_reaches_45 : decode cX5_reaches 45 = .ok (.if_icmp .ne 12, 3) := dcO tk_X5_reaches_0 23 rfl
theorem dX5_reaches_48 : decode cX5_reaches 48 = .ok (.aload_n 0, 1) := dcO tk_X5_reaches_0 24 rfl
theorem dX5_reaches_49 : decode cX5_reaches 49 = .ok (.ldc 172, 2) := dcO tk_X5_reaches_0 25 rfl
theorem dX5_reaches_51 : decode cX5_reaches 51 = .ok (.invokevirtual 64, 3) := dcO tk_X5_reaches_0 26 rfl
theorem dX5_reaches_54 : decode cX5_reaches 54 = .ok (.goto 4, 3) := dcO tk_X5_reaches_0 27 rfl
theorem dX5_reaches_57 : decode cX5_reaches 57 = .ok (.iload_n 3, 1) := dcO tk_X5_reaches_0 28 rfl
theorem dX5_reaches_58 : decode cX5_reaches 58 = .ok (.ireturn, 1) := dcO tk_X5_reaches_0 29 rfl
abbrev tb_X5_wetFor_0 : List (Nat × Instr × Nat) := [(0, .iload_n 1, 1), (1, .invokestatic 112, 3), (4, .ifCond .eq 10, 3), (7, .iload_n 2, 1), (8, .invokestatic 55, 3), (11, .ifCond .ne 10, 3), (14, .aload_n 0, 1), (15, .ldc 63, 2), (17, .invokevirtual 64, 3), (20, .ireturn, 1), (21, .ldc 172, 2), (23, .istore_n 3, 1), (24, .bipush 101, 2), (26, .istore 4, 2), (28, .iconst 0, 1), (29, .istore 5, 2), (31, .iload 5, 2), (33, .bipush 9, 2), (35, .if_icmp .gt 40, 3), (38, .aload_n 0, 1), (39, .getfield 22, 3), (42, .aload_n 0, 1), (43, .getfield 12, 3), (46, .iload_n 1, 1), (47, .iload_n 2, 1), (48, .iload 5, 2), (50, .invokevirtual 180, 3), (53, .istore 6, 2), (55, .iload 6, 2), (57, .iload 4, 2), (59, .if_icmp .ge 10, 3), (62, .iload 6, 2), (64, .istore 4, 2), (66, .iload 5, 2), (68, .istore_n 3, 1), (69, .iinc 5 1, 3), (72, .goto (-41), 3), (75, .iload_n 3, 1), (76, .ldc 172, 2), (78, .if_icmp .ne 12, 3)]
theorem tk_X5_wetFor_0 : dcA cX5_wetFor tb_X5_wetFor_0 = true := by decide +kernel
theorem dX5_wetFor_0 : decode cX5_wetFor 0 = .ok (.iload_n 1, 1) := dcO tk_X5_wetFor_0 0 rfl
theorem dX5_wetFor_1 : decode cX5_wetFor 1 = .ok (.invokestatic 112, 3) := dcO tk_X5_wetFor_0 1 rfl
theorem dX5_wetFor_4 : decode cX5_wetFor 4 = .ok (.ifCond .eq 10, 3) := dcO tk_X5_wetFor_0 2 rfl
theorem dX5_wetFor_7 : decode cX5_wetFor 7 = .ok (.iload_n 2, 1) := dcO tk_X5_wetFor_0 3 rfl
theorem dX5_wetFor_8 : decode cX5_wetFor 8 = .ok (.invokestatic 55, 3) := dcO tk_X5_wetFor_0 4 rfl
theorem dX5_wetFor_11 : decode cX5_wetFor 11 = .ok (.ifCond .ne 10, 3) := dcO tk_X5_wetFor_0 5 rfl
theorem dX5_wetFor_14 : decode cX5_wetFor 14 = .ok (.aload_n 0, 1) := dcO tk_X5_wetFor_0 6 rfl
theorem dX5_wetFor_15 : decode cX5_wetFor 15 = .ok (.ldc 63, 2) := dcO tk_X5_wetFor_0 7 rfl
theorem dX5_wetFor_17 : decode cX5_wetFor 17 = .ok (.invokevirtual 64, 3) := dcO tk_X5_wetFor_0 8 rfl
theorem dX5_wetFor_20 : decode cX5_wetFor 20 = .ok (.ireturn, 1) := dcO tk_X5_wetFor_0 9 rfl
theorem dX5_wetFor_21 : decode cX5_wetFor 21 = .ok (.ldc 172, 2) := dcO tk_X5_wetFor_0 10 rfl
theorem dX5_wetFor_23 : decode cX5_wetFor 23 = .ok (.istore_n 3, 1) := dcO tk_X5_wetFor_0 11 rfl
theorem dX5_wetFor_24 : decode cX5_wetFor 24 = .ok (.bipush 101, 2) := dcO tk_X5_wetFor_0 12 rfl
theorem dX5_wetFor_26 : decode cX5_wetFor 26 = .ok (.istore 4, 2) := dcO tk_X5_wetFor_0 13 rfl
theorem dX5_wetFor_28 : decode cX5_wetFor 28 = .ok (.iconst 0, 1) := dcO tk_X5_wetFor_0 14 rfl
theorem dX5_wetFor_29 : decode cX5_wetFor 29 = .ok (.istore 5, 2) := dcO tk_X5_wetFor_0 15 rfl
theorem dX5_wetFor_31 : decode cX5_wetFor 31 = .ok (.iload 5, 2) := dcO tk_X5_wetFor_0 16 rfl
theorem dX5_wetFor_33 : decode cX5_wetFor 33 = .ok (.bipush 9, 2) := dcO tk_X5_wetFor_0 17 rfl
theorem dX5_wetFor_35 : decode cX5_wetFor 35 = .ok (.if_icmp .gt 40, 3) := dcO tk_X5_wetFor_0 18 rfl
theorem dX5_wetFor_38 : decode cX5_wetFor 38 = .ok (.aload_n 0, 1) := dcO tk_X5_wetFor_0 19 rfl
theorem dX5_wetFor_39 : decode cX5_wetFor 39 = .ok (.getfield 22, 3) := dcO tk_X5_wetFor_0 20 rfl
theorem dX5_wetFor_42 : decode cX5_wetFor 42 = .ok (.aload_n 0, 1) := dcO tk_X5_wetFor_0 21 rfl
theorem dX5_wetFor_43 : decode cX5_wetFor 43 = .ok (.getfield 12, 3) := dcO tk_X5_wetFor_0 22 rfl
theorem dX5_wetFor_46 : decode cX5_wetFor 46 = .ok (.iload_n 1, 1) := dcO tk_X5_wetFor_0 23 rfl
theorem dX5_wetFor_47 : decode cX5_wetFor 47 = .ok (.iload_n 2, 1) := dcO tk_X5_wetFor_0 24 rfl
theorem dX5_wetFor_48 : decode cX5_wetFor 48 = .ok (.iload 5, 2) := dcO tk_X5_wetFor_0 25 rfl
theorem dX5_wetFor_50 : decode cX5_wetFor 50 = .ok (.invokevirtual 180, 3) := dcO tk_X5_wetFor_0 26 rfl
theorem dX5_wetFor_53 : decode cX5_wetFor 53 = .ok (.istore 6, 2) := dcO tk_X5_wetFor_0 27 rfl
theorem dX5_wetFor_55 : decode cX5_wetFor 55 = .ok (.iload 6, 2) := dcO tk_X5_wetFor_0 28 rfl
theorem dX5_wetFor_57 : decode cX5_wetFor 57 = .ok (.iload 4, 2) := dcO tk_X5_wetFor_0 29 rfl
theorem dX5_wetFor_59 : decode cX5_wetFor 59 = .ok (.if_icmp .ge 10, 3) := dcO tk_X5_wetFor_0 30 rfl
theorem dX5_wetFor_62 : decode cX5_wetFor 62 = .ok (.iload 6, 2) := dcO tk_X5_wetFor_0 31 rfl
theorem dX5_wetFor_64 : decode cX5_wetFor 64 = .ok (.istore 4, 2) := dcO tk_X5_wetFor_0 32 rfl
theorem dX5_wetFor_66 : decode cX5_wetFor 66 = .ok (.iload 5, 2) := dcO tk_X5_wetFor_0 33 rfl
theorem dX5_wetFor_68 : decode cX5_wetFor 68 = .ok (.istore_n 3, 1) := dcO tk_X5_wetFor_0 34 rfl
theorem dX5_wetFor_69 : decode cX5_wetFor 69 = .ok (.iinc 5 1, 3) := dcO tk_X5_wetFor_0 35 rfl
theorem dX5_wetFor_72 : decode cX5_wetFor 72 = .ok (.goto (-41), 3) := dcO tk_X5_wetFor_0 36 rfl
theorem dX5_wetFor_75 : decode cX5_wetFor 75 = .ok (.iload_n 3, 1) := dcO tk_X5_wetFor_0 37 rfl
theorem dX5_wetFor_76 : decode cX5_wetFor 76 = .ok (.ldc 172, 2) := dcO tk_X5_wetFor_0 38 rfl
theorem dX5_wetFor_78 : decode cX5_wetFor 78 = .ok (.if_icmp .ne 12, 3) := dcO tk_X5_wetFor_0 39 rfl
abbrev tb_X5_wetFor_1 : List (Nat × Instr × Nat) := [(81, .aload_n 0, 1), (82, .ldc 172, 2), (84, .invokevirtual 64, 3), (87, .goto 4, 3), (90, .iload_n 3, 1), (91, .ireturn, 1)]
theorem tk_X5_wetFor_1 : dcA cX5_wetFor tb_X5_wetFor_1 = true := by decide +kernel
theorem dX5_wetFor_81 : decode cX5_wetFor 81 = .ok (.aload_n 0, 1) := dcO tk_X5_wetFor_1 0 rfl
theorem dX5_wetFor_82 : decode cX5_wetFor 82 = .ok (.ldc 172, 2) := dcO tk_X5_wetFor_1 1 rfl
theorem dX5_wetFor_84 : decode cX5_wetFor 84 = .ok (.invokevirtual 64, 3) := dcO tk_X5_wetFor_1 2 rfl
theorem dX5_wetFor_87 : decode cX5_wetFor 87 = .ok (.goto 4, 3) := dcO tk_X5_wetFor_1 3 rfl
theorem dX5_wetFor_90 : decode cX5_wetFor 90 = .ok (.iload_n 3, 1) := dcO tk_X5_wetFor_1 4 rfl
theorem dX5_wetFor_91 : decode cX5_wetFor 91 = .ok (.ireturn, 1) := dcO tk_X5_wetFor_1 5 rfl
abbrev tb_X5_comes_0 : List (Nat × Instr × Nat) := [(0, .aload_n 0, 1), (1, .iload_n 1, 1), (2, .invokevirtual 93, 3), (5, .ifCond .ne 10, 3), (8, .aload_n 0, 1), (9, .ldc 63, 2), (11, .invokevirtual 64, 3), (14, .ireturn, 1), (15, .aload_n 0, 1), (16, .getfield 22, 3), (19, .aload_n 0, 1), (20, .getfield 12, 3), (23, .iload_n 1, 1), (24, .aload_n 0, 1), (25, .getfield 12, 3), (28, .getfield 184, 3), (31, .iload_n 1, 1), (32, .iaload, 1), (33, .invokevirtual 187, 3), (36, .istore_n 2, 1), (37, .iload_n 2, 1), (38, .bipush 101, 2), (40, .if_icmp .ne 12, 3), (43, .aload_n 0, 1), (44, .ldc 172, 2), (46, .invokevirtual 64, 3), (49, .goto 4, 3), (52, .iload_n 2, 1), (53, .ireturn, 1)]
theorem tk_X5_comes_0 : dcA cX5_comes tb_X5_comes_0 = true := by decide +kernel
theorem dX5_comes_0 : decode cX5_comes 0 = .ok (.aload_n 0, 1) := dcO tk_X5_comes_0 0 rfl
theorem dX5_comes_1 : decode cX5_comes 1 = .ok (.iload_n 1, 1) := dcO tk_X5_comes_0 1 rfl
theorem dX5_comes_2 : decode cX5_comes 2 = .ok (.invokevirtual 93, 3) := dcO tk_X5_comes_0 2 rfl
theorem dX5_comes_5 : decode cX5_comes 5 = .ok (.ifCond .ne 10, 3) := dcO tk_X5_comes_0 3 rfl
theorem dX5_comes_8 : decode cX5_comes 8 = .ok (.aload_n 0, 1) := dcO tk_X5_comes_0 4 rfl
theorem dX5_comes_9 : decode cX5_comes 9 = .ok (.ldc 63, 2) := dcO tk_X5_comes_0 5 rfl
theorem dX5_comes_11 : decode cX5_comes 11 = .ok (.invokevirtual 64, 3) := dcO tk_X5_comes_0 6 rfl
theorem dX5_comes_14 : decode cX5_comes 14 = .ok (.ireturn, 1) := dcO tk_X5_comes_0 7 rfl
theorem dX5_comes_15 : decode cX5_comes 15 = .ok (.aload_n 0, 1) := dcO tk_X5_comes_0 8 rfl
theorem dX5_comes_16 : decode cX5_comes 16 = .ok (.getfield 22, 3) := dcO tk_X5_comes_0 9 rfl
theorem dX5_comes_19 : decode cX5_comes 19 = .ok (.aload_n 0, 1) := dcO tk_X5_comes_0 10 rfl
theorem dX5_comes_20 : decode cX5_comes 20 = .ok (.getfield 12, 3) := dcO tk_X5_comes_0 11 rfl
theorem dX5_comes_23 : decode cX5_comes 23 = .ok (.iload_n 1, 1) := dcO tk_X5_comes_0 12 rfl
theorem dX5_comes_24 : decode cX5_comes 24 = .ok (.aload_n 0, 1) := dcO tk_X5_comes_0 13 rfl
theorem dX5_comes_25 : decode cX5_comes 25 = .ok (.getfield 12, 3) := dcO tk_X5_comes_0 14 rfl
theorem dX5_comes_28 : decode cX5_comes 28 = .ok (.getfield 184, 3) := dcO tk_X5_comes_0 15 rfl
theorem dX5_comes_31 : decode cX5_comes 31 = .ok (.iload_n 1, 1) := dcO tk_X5_comes_0 16 rfl
theorem dX5_comes_32 : decode cX5_comes 32 = .ok (.iaload, 1) := dcO tk_X5_comes_0 17 rfl
theorem dX5_comes_33 : decode cX5_comes 33 = .ok (.invokevirtual 187, 3) := dcO tk_X5_comes_0 18 rfl
theorem dX5_comes_36 : decode cX5_comes 36 = .ok (.istore_n 2, 1) := dcO tk_X5_comes_0 19 rfl
theorem dX5_comes_37 : decode cX5_comes 37 = .ok (.iload_n 2, 1) := dcO tk_X5_comes_0 20 rfl
theorem dX5_comes_38 : decode cX5_comes 38 = .ok (.bipush 101, 2) := dcO tk_X5_comes_0 21 rfl
theorem dX5_comes_40 : decode cX5_comes 40 = .ok (.if_icmp .ne 12, 3) := dcO tk_X5_comes_0 22 rfl
theorem dX5_comes_43 : decode cX5_comes 43 = .ok (.aload_n 0, 1) := dcO tk_X5_comes_0 23 rfl
theorem dX5_comes_44 : decode cX5_comes 44 = .ok (.ldc 172, 2) := dcO tk_X5_comes_0 24 rfl
theorem dX5_comes_46 : decode cX5_comes 46 = .ok (.invokevirtual 64, 3) := dcO tk_X5_comes_0 25 rfl
theorem dX5_comes_49 : decode cX5_comes 49 = .ok (.goto 4, 3) := dcO tk_X5_comes_0 26 rfl
theorem dX5_comes_52 : decode cX5_comes 52 = .ok (.iload_n 2, 1) := dcO tk_X5_comes_0 27 rfl
theorem dX5_comes_53 : decode cX5_comes 53 = .ok (.ireturn, 1) := dcO tk_X5_comes_0 28 rfl
abbrev tb_X5_kindFor_0 : List (Nat × Instr × Nat) := [(0, .aload_n 0, 1), (1, .iload_n 1, 1), (2, .invokevirtual 93, 3), (5, .ifCond .ne 10, 3), (8, .aload_n 0, 1), (9, .ldc 63, 2), (11, .invokevirtual 64, 3), (14, .ireturn, 1), (15, .ldc 172, 2), (17, .istore_n 2, 1), (18, .bipush 101, 2), (20, .istore_n 3, 1), (21, .iconst 0, 1), (22, .istore 4, 2), (24, .iload 4, 2), (26, .bipush 7, 2), (28, .if_icmp .ge 37, 3), (31, .aload_n 0, 1), (32, .getfield 22, 3), (35, .aload_n 0, 1), (36, .getfield 12, 3), (39, .iload_n 1, 1), (40, .iload 4, 2), (42, .invokevirtual 187, 3), (45, .istore 5, 2), (47, .iload 5, 2), (49, .iload_n 3, 1), (50, .if_icmp .ge 9, 3), (53, .iload 5, 2), (55, .istore_n 3, 1), (56, .iload 4, 2), (58, .istore_n 2, 1), (59, .iinc 4 1, 3), (62, .goto (-38), 3), (65, .iload_n 2, 1), (66, .ldc 172, 2), (68, .if_icmp .ne 12, 3), (71, .aload_n 0, 1), (72, .ldc 172, 2), (74, .invokevirtual 64, 3)]
theorem tk_X5_kindFor_0 : dcA cX5_kindFor tb_X5_kindFor_0 = true := by decide +kernel
theorem dX5_kindFor_0 : decode cX5_kindFor 0 = .ok (.aload_n 0, 1) := dcO tk_X5_kindFor_0 0 rfl
theorem dX5_kindFor_1 : decode cX5_kindFor 1 = .ok (.iload_n 1, 1) := dcO tk_X5_kindFor_0 1 rfl
theorem dX5_kindFor_2 : decode cX5_kindFor 2 = .ok (.invokevirtual 93, 3) := dcO tk_X5_kindFor_0 2 rfl
theorem dX5_kindFor_5 : decode cX5_kindFor 5 = .ok (.ifCond .ne 10, 3) := dcO tk_X5_kindFor_0 3 rfl
theorem dX5_kindFor_8 : decode cX5_kindFor 8 = .ok (.aload_n 0, 1) := dcO tk_X5_kindFor_0 4 rfl
theorem dX5_kindFor_9 : decode cX5_kindFor 9 = .ok (.ldc 63, 2) := dcO tk_X5_kindFor_0 5 rfl
theorem dX5_kindFor_11 : decode cX5_kindFor 11 = .ok (.invokevirtual 64, 3) := dcO tk_X5_kindFor_0 6 rfl
theorem dX5_kindFor_14 : decode cX5_kindFor 14 = .ok (.ireturn, 1) := dcO tk_X5_kindFor_0 7 rfl
theorem dX5_kindFor_15 : decode cX5_kindFor 15 = .ok (.ldc 172, 2) := dcO tk_X5_kindFor_0 8 rfl
theorem dX5_kindFor_17 : decode cX5_kindFor 17 = .ok (.istore_n 2, 1) := dcO tk_X5_kindFor_0 9 rfl
theorem dX5_kindFor_18 : decode cX5_kindFor 18 = .ok (.bipush 101, 2) := dcO tk_X5_kindFor_0 10 rfl
theorem dX5_kindFor_20 : decode cX5_kindFor 20 = .ok (.istore_n 3, 1) := dcO tk_X5_kindFor_0 11 rfl
theorem dX5_kindFor_21 : decode cX5_kindFor 21 = .ok (.iconst 0, 1) := dcO tk_X5_kindFor_0 12 rfl
theorem dX5_kindFor_22 : decode cX5_kindFor 22 = .ok (.istore 4, 2) := dcO tk_X5_kindFor_0 13 rfl
theorem dX5_kindFor_24 : decode cX5_kindFor 24 = .ok (.iload 4, 2) := dcO tk_X5_kindFor_0 14 rfl
theorem dX5_kindFor_26 : decode cX5_kindFor 26 = .ok (.bipush 7, 2) := dcO tk_X5_kindFor_0 15 rfl
theorem dX5_kindFor_28 : decode cX5_kindFor 28 = .ok (.if_icmp .ge 37, 3) := dcO tk_X5_kindFor_0 16 rfl
theorem dX5_kindFor_31 : decode cX5_kindFor 31 = .ok (.aload_n 0, 1) := dcO tk_X5_kindFor_0 17 rfl
theorem dX5_kindFor_32 : decode cX5_kindFor 32 = .ok (.getfield 22, 3) := dcO tk_X5_kindFor_0 18 rfl
theorem dX5_kindFor_35 : decode cX5_kindFor 35 = .ok (.aload_n 0, 1) := dcO tk_X5_kindFor_0 19 rfl
theorem dX5_kindFor_36 : decode cX5_kindFor 36 = .ok (.getfield 12, 3) := dcO tk_X5_kindFor_0 20 rfl
theorem dX5_kindFor_39 : decode cX5_kindFor 39 = .ok (.iload_n 1, 1) := dcO tk_X5_kindFor_0 21 rfl
theorem dX5_kindFor_40 : decode cX5_kindFor 40 = .ok (.iload 4, 2) := dcO tk_X5_kindFor_0 22 rfl
theorem dX5_kindFor_42 : decode cX5_kindFor 42 = .ok (.invokevirtual 187, 3) := dcO tk_X5_kindFor_0 23 rfl
theorem dX5_kindFor_45 : decode cX5_kindFor 45 = .ok (.istore 5, 2) := dcO tk_X5_kindFor_0 24 rfl
theorem dX5_kindFor_47 : decode cX5_kindFor 47 = .ok (.iload 5, 2) := dcO tk_X5_kindFor_0 25 rfl
theorem dX5_kindFor_49 : decode cX5_kindFor 49 = .ok (.iload_n 3, 1) := dcO tk_X5_kindFor_0 26 rfl
theorem dX5_kindFor_50 : decode cX5_kindFor 50 = .ok (.if_icmp .ge 9, 3) := dcO tk_X5_kindFor_0 27 rfl
theorem dX5_kindFor_53 : decode cX5_kindFor 53 = .ok (.iload 5, 2) := dcO tk_X5_kindFor_0 28 rfl
theorem dX5_kindFor_55 : decode cX5_kindFor 55 = .ok (.istore_n 3, 1) := dcO tk_X5_kindFor_0 29 rfl
theorem dX5_kindFor_56 : decode cX5_kindFor 56 = .ok (.iload 4, 2) := dcO tk_X5_kindFor_0 30 rfl
theorem dX5_kindFor_58 : decode cX5_kindFor 58 = .ok (.istore_n 2, 1) := dcO tk_X5_kindFor_0 31 rfl
theorem dX5_kindFor_59 : decode cX5_kindFor 59 = .ok (.iinc 4 1, 3) := dcO tk_X5_kindFor_0 32 rfl
theorem dX5_kindFor_62 : decode cX5_kindFor 62 = .ok (.goto (-38), 3) := dcO tk_X5_kindFor_0 33 rfl
theorem dX5_kindFor_65 : decode cX5_kindFor 65 = .ok (.iload_n 2, 1) := dcO tk_X5_kindFor_0 34 rfl
theorem dX5_kindFor_66 : decode cX5_kindFor 66 = .ok (.ldc 172, 2) := dcO tk_X5_kindFor_0 35 rfl
theorem dX5_kindFor_68 : decode cX5_kindFor 68 = .ok (.if_icmp .ne 12, 3) := dcO tk_X5_kindFor_0 36 rfl
theorem dX5_kindFor_71 : decode cX5_kindFor 71 = .ok (.aload_n 0, 1) := dcO tk_X5_kindFor_0 37 rfl
theorem dX5_kindFor_72 : decode cX5_kindFor 72 = .ok (.ldc 172, 2) := dcO tk_X5_kindFor_0 38 rfl
theorem dX5_kindFor_74 : decode cX5_kindFor 74 = .ok (.invokevirtual 64, 3) := dcO tk_X5_kindFor_0 39 rfl
abbrev tb_X5_kindFor_1 : List (Nat × Instr × Nat) := [(77, .goto 4, 3), (80, .iload_n 2, 1), (81, .ireturn, 1)]
theorem tk_X5_kindFor_1 : dcA cX5_kindFor tb_X5_kindFor_1 = true := by decide +kernel
theorem dX5_kindFor_77 : decode cX5_kindFor 77 = .ok (.goto 4, 3) := dcO tk_X5_kindFor_1 0 rfl
theorem dX5_kindFor_80 : decode cX5_kindFor 80 = .ok (.iload_n 2, 1) := dcO tk_X5_kindFor_1 1 rfl
theorem dX5_kindFor_81 : decode cX5_kindFor 81 = .ok (.ireturn, 1) := dcO tk_X5_kindFor_1 2 rfl
abbrev tb_X5_overtakes_0 : List (Nat × Instr × Nat) := [(0, .aload_n 0, 1), (1, .iload_n 1, 1), (2, .invokevirtual 93, 3), (5, .ifCond .eq 16, 3), (8, .aload_n 0, 1), (9, .iload_n 2, 1), (10, .invokevirtual 93, 3), (13, .ifCond .eq 8, 3), (16, .iload_n 1, 1), (17, .iload_n 2, 1), (18, .if_icmp .ne 10, 3), (21, .aload_n 0, 1), (22, .ldc 63, 2), (24, .invokevirtual 64, 3), (27, .ireturn, 1), (28, .aload_n 0, 1), (29, .getfield 22, 3), (32, .aload_n 0, 1), (33, .getfield 12, 3), (36, .iload_n 1, 1), (37, .iload_n 2, 1), (38, .invokevirtual 191, 3), (41, .istore_n 3, 1), (42, .iload_n 3, 1), (43, .bipush 101, 2), (45, .if_icmp .ne 12, 3), (48, .aload_n 0, 1), (49, .ldc 172, 2), (51, .invokevirtual 64, 3), (54, .goto 4, 3), (57, .iload_n 3, 1), (58, .ireturn, 1)]
theorem tk_X5_overtakes_0 : dcA cX5_overtakes tb_X5_overtakes_0 = true := by decide +kernel
theorem dX5_overtakes_0 : decode cX5_overtakes 0 = .ok (.aload_n 0, 1) := dcO tk_X5_overtakes_0 0 rfl
theorem dX5_overtakes_1 : decode cX5_overtakes 1 = .ok (.iload_n 1, 1) := dcO tk_X5_overtakes_0 1 rfl
theorem dX5_overtakes_2 : decode cX5_overtakes 2 = .ok (.invokevirtual 93, 3) := dcO tk_X5_overtakes_0 2 rfl
theorem dX5_overtakes_5 : decode cX5_overtakes 5 = .ok (.ifCond .eq 16, 3) := dcO tk_X5_overtakes_0 3 rfl
theorem dX5_overtakes_8 : decode cX5_overtakes 8 = .ok (.aload_n 0, 1) := dcO tk_X5_overtakes_0 4 rfl
theorem dX5_overtakes_9 : decode cX5_overtakes 9 = .ok (.iload_n 2, 1) := dcO tk_X5_overtakes_0 5 rfl
theorem dX5_overtakes_10 : decode cX5_overtakes 10 = .ok (.invokevirtual 93, 3) := dcO tk_X5_overtakes_0 6 rfl
theorem dX5_overtakes_13 : decode cX5_overtakes 13 = .ok (.ifCond .eq 8, 3) := dcO tk_X5_overtakes_0 7 rfl
theorem dX5_overtakes_16 : decode cX5_overtakes 16 = .ok (.iload_n 1, 1) := dcO tk_X5_overtakes_0 8 rfl
theorem dX5_overtakes_17 : decode cX5_overtakes 17 = .ok (.iload_n 2, 1) := dcO tk_X5_overtakes_0 9 rfl
theorem dX5_overtakes_18 : decode cX5_overtakes 18 = .ok (.if_icmp .ne 10, 3) := dcO tk_X5_overtakes_0 10 rfl
theorem dX5_overtakes_21 : decode cX5_overtakes 21 = .ok (.aload_n 0, 1) := dcO tk_X5_overtakes_0 11 rfl
theorem dX5_overtakes_22 : decode cX5_overtakes 22 = .ok (.ldc 63, 2) := dcO tk_X5_overtakes_0 12 rfl
theorem dX5_overtakes_24 : decode cX5_overtakes 24 = .ok (.invokevirtual 64, 3) := dcO tk_X5_overtakes_0 13 rfl
theorem dX5_overtakes_27 : decode cX5_overtakes 27 = .ok (.ireturn, 1) := dcO tk_X5_overtakes_0 14 rfl
theorem dX5_overtakes_28 : decode cX5_overtakes 28 = .ok (.aload_n 0, 1) := dcO tk_X5_overtakes_0 15 rfl
theorem dX5_overtakes_29 : decode cX5_overtakes 29 = .ok (.getfield 22, 3) := dcO tk_X5_overtakes_0 16 rfl
theorem dX5_overtakes_32 : decode cX5_overtakes 32 = .ok (.aload_n 0, 1) := dcO tk_X5_overtakes_0 17 rfl
theorem dX5_overtakes_33 : decode cX5_overtakes 33 = .ok (.getfield 12, 3) := dcO tk_X5_overtakes_0 18 rfl
theorem dX5_overtakes_36 : decode cX5_overtakes 36 = .ok (.iload_n 1, 1) := dcO tk_X5_overtakes_0 19 rfl
theorem dX5_overtakes_37 : decode cX5_overtakes 37 = .ok (.iload_n 2, 1) := dcO tk_X5_overtakes_0 20 rfl
theorem dX5_overtakes_38 : decode cX5_overtakes 38 = .ok (.invokevirtual 191, 3) := dcO tk_X5_overtakes_0 21 rfl
theorem dX5_overtakes_41 : decode cX5_overtakes 41 = .ok (.istore_n 3, 1) := dcO tk_X5_overtakes_0 22 rfl
theorem dX5_overtakes_42 : decode cX5_overtakes 42 = .ok (.iload_n 3, 1) := dcO tk_X5_overtakes_0 23 rfl
theorem dX5_overtakes_43 : decode cX5_overtakes 43 = .ok (.bipush 101, 2) := dcO tk_X5_overtakes_0 24 rfl
theorem dX5_overtakes_45 : decode cX5_overtakes 45 = .ok (.if_icmp .ne 12, 3) := dcO tk_X5_overtakes_0 25 rfl
theorem dX5_overtakes_48 : decode cX5_overtakes 48 = .ok (.aload_n 0, 1) := dcO tk_X5_overtakes_0 26 rfl
theorem dX5_overtakes_49 : decode cX5_overtakes 49 = .ok (.ldc 172, 2) := dcO tk_X5_overtakes_0 27 rfl
theorem dX5_overtakes_51 : decode cX5_overtakes 51 = .ok (.invokevirtual 64, 3) := dcO tk_X5_overtakes_0 28 rfl
theorem dX5_overtakes_54 : decode cX5_overtakes 54 = .ok (.goto 4, 3) := dcO tk_X5_overtakes_0 29 rfl
theorem dX5_overtakes_57 : decode cX5_overtakes 57 = .ok (.iload_n 3, 1) := dcO tk_X5_overtakes_0 30 rfl
theorem dX5_overtakes_58 : decode cX5_overtakes 58 = .ok (.ireturn, 1) := dcO tk_X5_overtakes_0 31 rfl
abbrev tb_X5_lag_0 : List (Nat × Instr × Nat) := [(0, .iload_n 1, 1), (1, .invokestatic 112, 3), (4, .ifCond .eq 17, 3), (7, .iload_n 2, 1), (8, .invokestatic 112, 3), (11, .ifCond .eq 10, 3), (14, .iload_n 3, 1), (15, .invokestatic 55, 3), (18, .ifCond .ne 10, 3), (21, .aload_n 0, 1), (22, .ldc 63, 2), (24, .invokevirtual 64, 3), (27, .ireturn, 1), (28, .aload_n 0, 1), (29, .getfield 22, 3), (32, .aload_n 0, 1), (33, .getfield 12, 3), (36, .iload_n 1, 1), (37, .iload_n 3, 1), (38, .aload_n 0, 1), (39, .getfield 12, 3), (42, .getfield 118, 3), (45, .invokevirtual 180, 3), (48, .istore 4, 2), (50, .aload_n 0, 1), (51, .getfield 22, 3), (54, .aload_n 0, 1), (55, .getfield 12, 3), (58, .iload_n 2, 1), (59, .iload_n 3, 1), (60, .aload_n 0, 1), (61, .getfield 12, 3), (64, .getfield 118, 3), (67, .invokevirtual 180, 3), (70, .istore 5, 2), (72, .iload 4, 2), (74, .bipush 101, 2), (76, .if_icmp .eq 10, 3), (79, .iload 5, 2), (81, .bipush 101, 2)]
theorem tk_X5_lag_0 : dcA cX5_lag tb_X5_lag_0 = true := by decide +kernel
theorem dX5_lag_0 : decode cX5_lag 0 = .ok (.iload_n 1, 1) := dcO tk_X5_lag_0 0 rfl
theorem dX5_lag_1 : decode cX5_lag 1 = .ok (.invokestatic 112, 3) := dcO tk_X5_lag_0 1 rfl
theorem dX5_lag_4 : decode cX5_lag 4 = .ok (.ifCond .eq 17, 3) := dcO tk_X5_lag_0 2 rfl
theorem dX5_lag_7 : decode cX5_lag 7 = .ok (.iload_n 2, 1) := dcO tk_X5_lag_0 3 rfl
theorem dX5_lag_8 : decode cX5_lag 8 = .ok (.invokestatic 112, 3) := dcO tk_X5_lag_0 4 rfl
theorem dX5_lag_11 : decode cX5_lag 11 = .ok (.ifCond .eq 10, 3) := dcO tk_X5_lag_0 5 rfl
theorem dX5_lag_14 : decode cX5_lag 14 = .ok (.iload_n 3, 1) := dcO tk_X5_lag_0 6 rfl
theorem dX5_lag_15 : decode cX5_lag 15 = .ok (.invokestatic 55, 3) := dcO tk_X5_lag_0 7 rfl
theorem dX5_lag_18 : decode cX5_lag 18 = .ok (.ifCond .ne 10, 3) := dcO tk_X5_lag_0 8 rfl
theorem dX5_lag_21 : decode cX5_lag 21 = .ok (.aload_n 0, 1) := dcO tk_X5_lag_0 9 rfl
theorem dX5_lag_22 : decode cX5_lag 22 = .ok (.ldc 63, 2) := dcO tk_X5_lag_0 10 rfl
theorem dX5_lag_24 : decode cX5_lag 24 = .ok (.invokevirtual 64, 3) := dcO tk_X5_lag_0 11 rfl
theorem dX5_lag_27 : decode cX5_lag 27 = .ok (.ireturn, 1) := dcO tk_X5_lag_0 12 rfl
theorem dX5_lag_28 : decode cX5_lag 28 = .ok (.aload_n 0, 1) := dcO tk_X5_lag_0 13 rfl
theorem dX5_lag_29 : decode cX5_lag 29 = .ok (.getfield 22, 3) := dcO tk_X5_lag_0 14 rfl
theorem dX5_lag_32 : decode cX5_lag 32 = .ok (.aload_n 0, 1) := dcO tk_X5_lag_0 15 rfl
theorem dX5_lag_33 : decode cX5_lag 33 = .ok (.getfield 12, 3) := dcO tk_X5_lag_0 16 rfl
theorem dX5_lag_36 : decode cX5_lag 36 = .ok (.iload_n 1, 1) := dcO tk_X5_lag_0 17 rfl
theorem dX5_lag_37 : decode cX5_lag 37 = .ok (.iload_n 3, 1) := dcO tk_X5_lag_0 18 rfl
theorem dX5_lag_38 : decode cX5_lag 38 = .ok (.aload_n 0, 1) := dcO tk_X5_lag_0 19 rfl
theorem dX5_lag_39 : decode cX5_lag 39 = .ok (.getfield 12, 3) := dcO tk_X5_lag_0 20 rfl
theorem dX5_lag_42 : decode cX5_lag 42 = .ok (.getfield 118, 3) := dcO tk_X5_lag_0 21 rfl
theorem dX5_lag_45 : decode cX5_lag 45 = .ok (.invokevirtual 180, 3) := dcO tk_X5_lag_0 22 rfl
theorem dX5_lag_48 : decode cX5_lag 48 = .ok (.istore 4, 2) := dcO tk_X5_lag_0 23 rfl
theorem dX5_lag_50 : decode cX5_lag 50 = .ok (.aload_n 0, 1) := dcO tk_X5_lag_0 24 rfl
theorem dX5_lag_51 : decode cX5_lag 51 = .ok (.getfield 22, 3) := dcO tk_X5_lag_0 25 rfl
theorem dX5_lag_54 : decode cX5_lag 54 = .ok (.aload_n 0, 1) := dcO tk_X5_lag_0 26 rfl
theorem dX5_lag_55 : decode cX5_lag 55 = .ok (.getfield 12, 3) := dcO tk_X5_lag_0 27 rfl
theorem dX5_lag_58 : decode cX5_lag 58 = .ok (.iload_n 2, 1) := dcO tk_X5_lag_0 28 rfl
theorem dX5_lag_59 : decode cX5_lag 59 = .ok (.iload_n 3, 1) := dcO tk_X5_lag_0 29 rfl
theorem dX5_lag_60 : decode cX5_lag 60 = .ok (.aload_n 0, 1) := dcO tk_X5_lag_0 30 rfl
theorem dX5_lag_61 : decode cX5_lag 61 = .ok (.getfield 12, 3) := dcO tk_X5_lag_0 31 rfl
theorem dX5_lag_64 : decode cX5_lag 64 = .ok (.getfield 118, 3) := dcO tk_X5_lag_0 32 rfl
theorem dX5_lag_67 : decode cX5_lag 67 = .ok (.invokevirtual 180, 3) := dcO tk_X5_lag_0 33 rfl
theorem dX5_lag_70 : decode cX5_lag 70 = .ok (.istore 5, 2) := dcO tk_X5_lag_0 34 rfl
theorem dX5_lag_72 : decode cX5_lag 72 = .ok (.iload 4, 2) := dcO tk_X5_lag_0 35 rfl
theorem dX5_lag_74 : decode cX5_lag 74 = .ok (.bipush 101, 2) := dcO tk_X5_lag_0 36 rfl
theorem dX5_lag_76 : decode cX5_lag 76 = .ok (.if_icmp .eq 10, 3) := dcO tk_X5_lag_0 37 rfl
theorem dX5_lag_79 : decode cX5_lag 79 = .ok (.iload 5, 2) := dcO tk_X5_lag_0 38 rfl
theorem dX5_lag_81 : decode cX5_lag 81 = .ok (.bipush 101, 2) := dcO tk_X5_lag_0 39 rfl
abbrev tb_X5_lag_1 : List (Nat × Instr × Nat) := [(83, .if_icmp .ne 12, 3), (86, .aload_n 0, 1), (87, .ldc 172, 2), (89, .invokevirtual 64, 3), (92, .goto 8, 3), (95, .iload 4, 2), (97, .iload 5, 2), (99, .isub, 1), (100, .ireturn, 1)]
theorem tk_X5_lag_1 : dcA cX5_lag tb_X5_lag_1 = true := by decide +kernel
theorem dX5_lag_83 : decode cX5_lag 83 = .ok (.if_icmp .ne 12, 3) := dcO tk_X5_lag_1 0 rfl
theorem dX5_lag_86 : decode cX5_lag 86 = .ok (.aload_n 0, 1) := dcO tk_X5_lag_1 1 rfl
theorem dX5_lag_87 : decode cX5_lag 87 = .ok (.ldc 172, 2) := dcO tk_X5_lag_1 2 rfl
theorem dX5_lag_89 : decode cX5_lag 89 = .ok (.invokevirtual 64, 3) := dcO tk_X5_lag_1 3 rfl
theorem dX5_lag_92 : decode cX5_lag 92 = .ok (.goto 8, 3) := dcO tk_X5_lag_1 4 rfl
theorem dX5_lag_95 : decode cX5_lag 95 = .ok (.iload 4, 2) := dcO tk_X5_lag_1 5 rfl
theorem dX5_lag_97 : decode cX5_lag 97 = .ok (.iload 5, 2) := dcO tk_X5_lag_1 6 rfl
theorem dX5_lag_99 : decode cX5_lag 99 = .ok (.isub, 1) := dcO tk_X5_lag_1 7 rfl
theorem dX5_lag_100 : decode cX5_lag 100 = .ok (.ireturn, 1) := dcO tk_X5_lag_1 8 rfl
abbrev tb_X5_clash_0 : List (Nat × Instr × Nat) := [(0, .iload_n 1, 1), (1, .bipush 40, 2), (3, .invokestatic 59, 3), (6, .ifCond .ne 10, 3), (9, .aload_n 0, 1), (10, .ldc 63, 2), (12, .invokevirtual 64, 3), (15, .ireturn, 1), (16, .aload_n 0, 1), (17, .getfield 22, 3), (20, .aload_n 0, 1), (21, .getfield 12, 3), (24, .iload_n 1, 1), (25, .invokevirtual 194, 3), (28, .istore_n 2, 1), (29, .iload_n 2, 1), (30, .ldc 172, 2), (32, .if_icmp .ne 12, 3), (35, .aload_n 0, 1), (36, .ldc 172, 2), (38, .invokevirtual 64, 3), (41, .goto 4, 3), (44, .iload_n 2, 1), (45, .ireturn, 1)]
theorem tk_X5_clash_0 : dcA cX5_clash tb_X5_clash_0 = true := by decide +kernel
theorem dX5_clash_0 : decode cX5_clash 0 = .ok (.iload_n 1, 1) := dcO tk_X5_clash_0 0 rfl
theorem dX5_clash_1 : decode cX5_clash 1 = .ok (.bipush 40, 2) := dcO tk_X5_clash_0 1 rfl
theorem dX5_clash_3 : decode cX5_clash 3 = .ok (.invokestatic 59, 3) := dcO tk_X5_clash_0 2 rfl
theorem dX5_clash_6 : decode cX5_clash 6 = .ok (.ifCond .ne 10, 3) := dcO tk_X5_clash_0 3 rfl
theorem dX5_clash_9 : decode cX5_clash 9 = .ok (.aload_n 0, 1) := dcO tk_X5_clash_0 4 rfl
theorem dX5_clash_10 : decode cX5_clash 10 = .ok (.ldc 63, 2) := dcO tk_X5_clash_0 5 rfl
theorem dX5_clash_12 : decode cX5_clash 12 = .ok (.invokevirtual 64, 3) := dcO tk_X5_clash_0 6 rfl
theorem dX5_clash_15 : decode cX5_clash 15 = .ok (.ireturn, 1) := dcO tk_X5_clash_0 7 rfl
theorem dX5_clash_16 : decode cX5_clash 16 = .ok (.aload_n 0, 1) := dcO tk_X5_clash_0 8 rfl
theorem dX5_clash_17 : decode cX5_clash 17 = .ok (.getfield 22, 3) := dcO tk_X5_clash_0 9 rfl
theorem dX5_clash_20 : decode cX5_clash 20 = .ok (.aload_n 0, 1) := dcO tk_X5_clash_0 10 rfl
theorem dX5_clash_21 : decode cX5_clash 21 = .ok (.getfield 12, 3) := dcO tk_X5_clash_0 11 rfl
theorem dX5_clash_24 : decode cX5_clash 24 = .ok (.iload_n 1, 1) := dcO tk_X5_clash_0 12 rfl
theorem dX5_clash_25 : decode cX5_clash 25 = .ok (.invokevirtual 194, 3) := dcO tk_X5_clash_0 13 rfl
theorem dX5_clash_28 : decode cX5_clash 28 = .ok (.istore_n 2, 1) := dcO tk_X5_clash_0 14 rfl
theorem dX5_clash_29 : decode cX5_clash 29 = .ok (.iload_n 2, 1) := dcO tk_X5_clash_0 15 rfl
theorem dX5_clash_30 : decode cX5_clash 30 = .ok (.ldc 172, 2) := dcO tk_X5_clash_0 16 rfl
theorem dX5_clash_32 : decode cX5_clash 32 = .ok (.if_icmp .ne 12, 3) := dcO tk_X5_clash_0 17 rfl
theorem dX5_clash_35 : decode cX5_clash 35 = .ok (.aload_n 0, 1) := dcO tk_X5_clash_0 18 rfl
theorem dX5_clash_36 : decode cX5_clash 36 = .ok (.ldc 172, 2) := dcO tk_X5_clash_0 19 rfl
theorem dX5_clash_38 : decode cX5_clash 38 = .ok (.invokevirtual 64, 3) := dcO tk_X5_clash_0 20 rfl
theorem dX5_clash_41 : decode cX5_clash 41 = .ok (.goto 4, 3) := dcO tk_X5_clash_0 21 rfl
theorem dX5_clash_44 : decode cX5_clash 44 = .ok (.iload_n 2, 1) := dcO tk_X5_clash_0 22 rfl
theorem dX5_clash_45 : decode cX5_clash 45 = .ok (.ireturn, 1) := dcO tk_X5_clash_0 23 rfl
abbrev tb_X5_release_0 : List (Nat × Instr × Nat) := [(0, .iload_n 1, 1), (1, .invokestatic 112, 3), (4, .ifCond .eq 19, 3), (7, .iload_n 2, 1), (8, .invokestatic 55, 3), (11, .ifCond .eq 12, 3), (14, .iload_n 3, 1), (15, .bipush 40, 2), (17, .invokestatic 59, 3), (20, .ifCond .ne 10, 3), (23, .aload_n 0, 1), (24, .ldc 63, 2), (26, .invokevirtual 64, 3), (29, .ireturn, 1), (30, .aload_n 0, 1), (31, .getfield 22, 3), (34, .aload_n 0, 1), (35, .getfield 12, 3), (38, .iload_n 1, 1), (39, .iload_n 2, 1), (40, .iload_n 3, 1), (41, .invokevirtual 198, 3), (44, .istore 4, 2), (46, .iload 4, 2), (48, .ldc 172, 2), (50, .if_icmp .ne 12, 3), (53, .aload_n 0, 1), (54, .ldc 172, 2), (56, .invokevirtual 64, 3), (59, .goto 5, 3), (62, .iload 4, 2), (64, .ireturn, 1)]
theorem tk_X5_release_0 : dcA cX5_release tb_X5_release_0 = true := by decide +kernel
theorem dX5_release_0 : decode cX5_release 0 = .ok (.iload_n 1, 1) := dcO tk_X5_release_0 0 rfl
theorem dX5_release_1 : decode cX5_release 1 = .ok (.invokestatic 112, 3) := dcO tk_X5_release_0 1 rfl
theorem dX5_release_4 : decode cX5_release 4 = .ok (.ifCond .eq 19, 3) := dcO tk_X5_release_0 2 rfl
theorem dX5_release_7 : decode cX5_release 7 = .ok (.iload_n 2, 1) := dcO tk_X5_release_0 3 rfl
theorem dX5_release_8 : decode cX5_release 8 = .ok (.invokestatic 55, 3) := dcO tk_X5_release_0 4 rfl
theorem dX5_release_11 : decode cX5_release 11 = .ok (.ifCond .eq 12, 3) := dcO tk_X5_release_0 5 rfl
theorem dX5_release_14 : decode cX5_release 14 = .ok (.iload_n 3, 1) := dcO tk_X5_release_0 6 rfl
theorem dX5_release_15 : decode cX5_release 15 = .ok (.bipush 40, 2) := dcO tk_X5_release_0 7 rfl
theorem dX5_release_17 : decode cX5_release 17 = .ok (.invokestatic 59, 3) := dcO tk_X5_release_0 8 rfl
theorem dX5_release_20 : decode cX5_release 20 = .ok (.ifCond .ne 10, 3) := dcO tk_X5_release_0 9 rfl
theorem dX5_release_23 : decode cX5_release 23 = .ok (.aload_n 0, 1) := dcO tk_X5_release_0 10 rfl
theorem dX5_release_24 : decode cX5_release 24 = .ok (.ldc 63, 2) := dcO tk_X5_release_0 11 rfl
theorem dX5_release_26 : decode cX5_release 26 = .ok (.invokevirtual 64, 3) := dcO tk_X5_release_0 12 rfl
theorem dX5_release_29 : decode cX5_release 29 = .ok (.ireturn, 1) := dcO tk_X5_release_0 13 rfl
theorem dX5_release_30 : decode cX5_release 30 = .ok (.aload_n 0, 1) := dcO tk_X5_release_0 14 rfl
theorem dX5_release_31 : decode cX5_release 31 = .ok (.getfield 22, 3) := dcO tk_X5_release_0 15 rfl
theorem dX5_release_34 : decode cX5_release 34 = .ok (.aload_n 0, 1) := dcO tk_X5_release_0 16 rfl
theorem dX5_release_35 : decode cX5_release 35 = .ok (.getfield 12, 3) := dcO tk_X5_release_0 17 rfl
theorem dX5_release_38 : decode cX5_release 38 = .ok (.iload_n 1, 1) := dcO tk_X5_release_0 18 rfl
theorem dX5_release_39 : decode cX5_release 39 = .ok (.iload_n 2, 1) := dcO tk_X5_release_0 19 rfl
theorem dX5_release_40 : decode cX5_release 40 = .ok (.iload_n 3, 1) := dcO tk_X5_release_0 20 rfl
theorem dX5_release_41 : decode cX5_release 41 = .ok (.invokevirtual 198, 3) := dcO tk_X5_release_0 21 rfl
theorem dX5_release_44 : decode cX5_release 44 = .ok (.istore 4, 2) := dcO tk_X5_release_0 22 rfl
theorem dX5_release_46 : decode cX5_release 46 = .ok (.iload 4, 2) := dcO tk_X5_release_0 23 rfl
theorem dX5_release_48 : decode cX5_release 48 = .ok (.ldc 172, 2) := dcO tk_X5_release_0 24 rfl
theorem dX5_release_50 : decode cX5_release 50 = .ok (.if_icmp .ne 12, 3) := dcO tk_X5_release_0 25 rfl
theorem dX5_release_53 : decode cX5_release 53 = .ok (.aload_n 0, 1) := dcO tk_X5_release_0 26 rfl
theorem dX5_release_54 : decode cX5_release 54 = .ok (.ldc 172, 2) := dcO tk_X5_release_0 27 rfl
theorem dX5_release_56 : decode cX5_release 56 = .ok (.invokevirtual 64, 3) := dcO tk_X5_release_0 28 rfl
theorem dX5_release_59 : decode cX5_release 59 = .ok (.goto 5, 3) := dcO tk_X5_release_0 29 rfl
theorem dX5_release_62 : decode cX5_release 62 = .ok (.iload 4, 2) := dcO tk_X5_release_0 30 rfl
theorem dX5_release_64 : decode cX5_release 64 = .ok (.ireturn, 1) := dcO tk_X5_release_0 31 rfl
abbrev tb_X5_costs_0 : List (Nat × Instr × Nat) := [(0, .iload_n 1, 1), (1, .invokestatic 112, 3), (4, .ifCond .eq 19, 3), (7, .iload_n 2, 1), (8, .invokestatic 55, 3), (11, .ifCond .eq 12, 3), (14, .iload_n 3, 1), (15, .bipush 40, 2), (17, .invokestatic 59, 3), (20, .ifCond .ne 10, 3), (23, .aload_n 0, 1), (24, .ldc 63, 2), (26, .invokevirtual 64, 3), (29, .ireturn, 1), (30, .aload_n 0, 1), (31, .getfield 22, 3), (34, .aload_n 0, 1), (35, .getfield 12, 3), (38, .iload_n 1, 1), (39, .iload_n 2, 1), (40, .iload_n 3, 1), (41, .invokevirtual 198, 3), (44, .istore 4, 2), (46, .iload 4, 2), (48, .ldc 172, 2), (50, .if_icmp .ne 12, 3), (53, .aload_n 0, 1), (54, .ldc 172, 2), (56, .invokevirtual 64, 3), (59, .goto 12, 3), (62, .aload_n 0, 1), (63, .getfield 12, 3), (66, .iload 4, 2), (68, .invokevirtual 201, 3), (71, .ireturn, 1)]
theorem tk_X5_costs_0 : dcA cX5_costs tb_X5_costs_0 = true := by decide +kernel
theorem dX5_costs_0 : decode cX5_costs 0 = .ok (.iload_n 1, 1) := dcO tk_X5_costs_0 0 rfl
theorem dX5_costs_1 : decode cX5_costs 1 = .ok (.invokestatic 112, 3) := dcO tk_X5_costs_0 1 rfl
theorem dX5_costs_4 : decode cX5_costs 4 = .ok (.ifCond .eq 19, 3) := dcO tk_X5_costs_0 2 rfl
theorem dX5_costs_7 : decode cX5_costs 7 = .ok (.iload_n 2, 1) := dcO tk_X5_costs_0 3 rfl
theorem dX5_costs_8 : decode cX5_costs 8 = .ok (.invokestatic 55, 3) := dcO tk_X5_costs_0 4 rfl
theorem dX5_costs_11 : decode cX5_costs 11 = .ok (.ifCond .eq 12, 3) := dcO tk_X5_costs_0 5 rfl
theorem dX5_costs_14 : decode cX5_costs 14 = .ok (.iload_n 3, 1) := dcO tk_X5_costs_0 6 rfl
theorem dX5_costs_15 : decode cX5_costs 15 = .ok (.bipush 40, 2) := dcO tk_X5_costs_0 7 rfl
theorem dX5_costs_17 : decode cX5_costs 17 = .ok (.invokestatic 59, 3) := dcO tk_X5_costs_0 8 rfl
theorem dX5_costs_20 : decode cX5_costs 20 = .ok (.ifCond .ne 10, 3) := dcO tk_X5_costs_0 9 rfl
theorem dX5_costs_23 : decode cX5_costs 23 = .ok (.aload_n 0, 1) := dcO tk_X5_costs_0 10 rfl
theorem dX5_costs_24 : decode cX5_costs 24 = .ok (.ldc 63, 2) := dcO tk_X5_costs_0 11 rfl
theorem dX5_costs_26 : decode cX5_costs 26 = .ok (.invokevirtual 64, 3) := dcO tk_X5_costs_0 12 rfl
theorem dX5_costs_29 : decode cX5_costs 29 = .ok (.ireturn, 1) := dcO tk_X5_costs_0 13 rfl
theorem dX5_costs_30 : decode cX5_costs 30 = .ok (.aload_n 0, 1) := dcO tk_X5_costs_0 14 rfl
theorem dX5_costs_31 : decode cX5_costs 31 = .ok (.getfield 22, 3) := dcO tk_X5_costs_0 15 rfl
theorem dX5_costs_34 : decode cX5_costs 34 = .ok (.aload_n 0, 1) := dcO tk_X5_costs_0 16 rfl
theorem dX5_costs_35 : decode cX5_costs 35 = .ok (.getfield 12, 3) := dcO tk_X5_costs_0 17 rfl
theorem dX5_costs_38 : decode cX5_costs 38 = .ok (.iload_n 1, 1) := dcO tk_X5_costs_0 18 rfl
theorem dX5_costs_39 : decode cX5_costs 39 = .ok (.iload_n 2, 1) := dcO tk_X5_costs_0 19 rfl
theorem dX5_costs_40 : decode cX5_costs 40 = .ok (.iload_n 3, 1) := dcO tk_X5_costs_0 20 rfl
theorem dX5_costs_41 : decode cX5_costs 41 = .ok (.invokevirtual 198, 3) := dcO tk_X5_costs_0 21 rfl
theorem dX5_costs_44 : decode cX5_costs 44 = .ok (.istore 4, 2) := dcO tk_X5_costs_0 22 rfl
theorem dX5_costs_46 : decode cX5_costs 46 = .ok (.iload 4, 2) := dcO tk_X5_costs_0 23 rfl
theorem dX5_costs_48 : decode cX5_costs 48 = .ok (.ldc 172, 2) := dcO tk_X5_costs_0 24 rfl
theorem dX5_costs_50 : decode cX5_costs 50 = .ok (.if_icmp .ne 12, 3) := dcO tk_X5_costs_0 25 rfl
theorem dX5_costs_53 : decode cX5_costs 53 = .ok (.aload_n 0, 1) := dcO tk_X5_costs_0 26 rfl
theorem dX5_costs_54 : decode cX5_costs 54 = .ok (.ldc 172, 2) := dcO tk_X5_costs_0 27 rfl
theorem dX5_costs_56 : decode cX5_costs 56 = .ok (.invokevirtual 64, 3) := dcO tk_X5_costs_0 28 rfl
theorem dX5_costs_59 : decode cX5_costs 59 = .ok (.goto 12, 3) := dcO tk_X5_costs_0 29 rfl
theorem dX5_costs_62 : decode cX5_costs 62 = .ok (.aload_n 0, 1) := dcO tk_X5_costs_0 30 rfl
theorem dX5_costs_63 : decode cX5_costs 63 = .ok (.getfield 12, 3) := dcO tk_X5_costs_0 31 rfl
theorem dX5_costs_66 : decode cX5_costs 66 = .ok (.iload 4, 2) := dcO tk_X5_costs_0 32 rfl
theorem dX5_costs_68 : decode cX5_costs 68 = .ok (.invokevirtual 201, 3) := dcO tk_X5_costs_0 33 rfl
theorem dX5_costs_71 : decode cX5_costs 71 = .ok (.ireturn, 1) := dcO tk_X5_costs_0 34 rfl
abbrev tb_X5_farthest_0 : List (Nat × Instr × Nat) := [(0, .aload_n 0, 1), (1, .iload_n 1, 1), (2, .invokevirtual 93, 3), (5, .ifCond .eq 12, 3), (8, .iload_n 2, 1), (9, .bipush 40, 2), (11, .invokestatic 59, 3), (14, .ifCond .ne 10, 3), (17, .aload_n 0, 1), (18, .ldc 63, 2), (20, .invokevirtual 64, 3), (23, .ireturn, 1), (24, .aload_n 0, 1), (25, .getfield 12, 3), (28, .getfield 68, 3), (31, .aload_n 0, 1), (32, .getfield 12, 3), (35, .getfield 99, 3), (38, .iload_n 1, 1), (39, .iaload, 1), (40, .iaload, 1), (41, .iconst 1, 1), (42, .if_icmp .ne 10, 3), (45, .aload_n 0, 1), (46, .ldc 172, 2), (48, .invokevirtual 64, 3), (51, .ireturn, 1), (52, .aload_n 0, 1), (53, .getfield 22, 3), (56, .aload_n 0, 1), (57, .getfield 12, 3), (60, .iload_n 1, 1), (61, .iload_n 2, 1), (62, .invokevirtual 204, 3), (65, .ireturn, 1)]
theorem tk_X5_farthest_0 : dcA cX5_farthest tb_X5_farthest_0 = true := by decide +kernel
theorem dX5_farthest_0 : decode cX5_farthest 0 = .ok (.aload_n 0, 1) := dcO tk_X5_farthest_0 0 rfl
theorem dX5_farthest_1 : decode cX5_farthest 1 = .ok (.iload_n 1, 1) := dcO tk_X5_farthest_0 1 rfl
theorem dX5_farthest_2 : decode cX5_farthest 2 = .ok (.invokevirtual 93, 3) := dcO tk_X5_farthest_0 2 rfl
theorem dX5_farthest_5 : decode cX5_farthest 5 = .ok (.ifCond .eq 12, 3) := dcO tk_X5_farthest_0 3 rfl
theorem dX5_farthest_8 : decode cX5_farthest 8 = .ok (.iload_n 2, 1) := dcO tk_X5_farthest_0 4 rfl
theorem dX5_farthest_9 : decode cX5_farthest 9 = .ok (.bipush 40, 2) := dcO tk_X5_farthest_0 5 rfl
theorem dX5_farthest_11 : decode cX5_farthest 11 = .ok (.invokestatic 59, 3) := dcO tk_X5_farthest_0 6 rfl
theorem dX5_farthest_14 : decode cX5_farthest 14 = .ok (.ifCond .ne 10, 3) := dcO tk_X5_farthest_0 7 rfl
theorem dX5_farthest_17 : decode cX5_farthest 17 = .ok (.aload_n 0, 1) := dcO tk_X5_farthest_0 8 rfl
theorem dX5_farthest_18 : decode cX5_farthest 18 = .ok (.ldc 63, 2) := dcO tk_X5_farthest_0 9 rfl
theorem dX5_farthest_20 : decode cX5_farthest 20 = .ok (.invokevirtual 64, 3) := dcO tk_X5_farthest_0 10 rfl
theorem dX5_farthest_23 : decode cX5_farthest 23 = .ok (.ireturn, 1) := dcO tk_X5_farthest_0 11 rfl
theorem dX5_farthest_24 : decode cX5_farthest 24 = .ok (.aload_n 0, 1) := dcO tk_X5_farthest_0 12 rfl
theorem dX5_farthest_25 : decode cX5_farthest 25 = .ok (.getfield 12, 3) := dcO tk_X5_farthest_0 13 rfl
theorem dX5_farthest_28 : decode cX5_farthest 28 = .ok (.getfield 68, 3) := dcO tk_X5_farthest_0 14 rfl
theorem dX5_farthest_31 : decode cX5_farthest 31 = .ok (.aload_n 0, 1) := dcO tk_X5_farthest_0 15 rfl
theorem dX5_farthest_32 : decode cX5_farthest 32 = .ok (.getfield 12, 3) := dcO tk_X5_farthest_0 16 rfl
theorem dX5_farthest_35 : decode cX5_farthest 35 = .ok (.getfield 99, 3) := dcO tk_X5_farthest_0 17 rfl
theorem dX5_farthest_38 : decode cX5_farthest 38 = .ok (.iload_n 1, 1) := dcO tk_X5_farthest_0 18 rfl
theorem dX5_farthest_39 : decode cX5_farthest 39 = .ok (.iaload, 1) := dcO tk_X5_farthest_0 19 rfl
theorem dX5_farthest_40 : decode cX5_farthest 40 = .ok (.iaload, 1) := dcO tk_X5_farthest_0 20 rfl
theorem dX5_farthest_41 : decode cX5_farthest 41 = .ok (.iconst 1, 1) := dcO tk_X5_farthest_0 21 rfl
theorem dX5_farthest_42 : decode cX5_farthest 42 = .ok (.if_icmp .ne 10, 3) := dcO tk_X5_farthest_0 22 rfl
theorem dX5_farthest_45 : decode cX5_farthest 45 = .ok (.aload_n 0, 1) := dcO tk_X5_farthest_0 23 rfl
theorem dX5_farthest_46 : decode cX5_farthest 46 = .ok (.ldc 172, 2) := dcO tk_X5_farthest_0 24 rfl
theorem dX5_farthest_48 : decode cX5_farthest 48 = .ok (.invokevirtual 64, 3) := dcO tk_X5_farthest_0 25 rfl
theorem dX5_farthest_51 : decode cX5_farthest 51 = .ok (.ireturn, 1) := dcO tk_X5_farthest_0 26 rfl
theorem dX5_farthest_52 : decode cX5_farthest 52 = .ok (.aload_n 0, 1) := dcO tk_X5_farthest_0 27 rfl
theorem dX5_farthest_53 : decode cX5_farthest 53 = .ok (.getfield 22, 3) := dcO tk_X5_farthest_0 28 rfl
theorem dX5_farthest_56 : decode cX5_farthest 56 = .ok (.aload_n 0, 1) := dcO tk_X5_farthest_0 29 rfl
theorem dX5_farthest_57 : decode cX5_farthest 57 = .ok (.getfield 12, 3) := dcO tk_X5_farthest_0 30 rfl
theorem dX5_farthest_60 : decode cX5_farthest 60 = .ok (.iload_n 1, 1) := dcO tk_X5_farthest_0 31 rfl
theorem dX5_farthest_61 : decode cX5_farthest 61 = .ok (.iload_n 2, 1) := dcO tk_X5_farthest_0 32 rfl
theorem dX5_farthest_62 : decode cX5_farthest 62 = .ok (.invokevirtual 204, 3) := dcO tk_X5_farthest_0 33 rfl
theorem dX5_farthest_65 : decode cX5_farthest 65 = .ok (.ireturn, 1) := dcO tk_X5_farthest_0 34 rfl
abbrev tb_X5_fits_0 : List (Nat × Instr × Nat) := [(0, .aload_n 0, 1), (1, .iload_n 1, 1), (2, .iload_n 2, 1), (3, .invokevirtual 207, 3), (6, .istore_n 3, 1), (7, .iload_n 3, 1), (8, .ifCond .eq 9, 3), (11, .aload_n 0, 1), (12, .iload_n 3, 1), (13, .invokevirtual 64, 3), (16, .ireturn, 1), (17, .aload_n 0, 1), (18, .getfield 22, 3), (21, .aload_n 0, 1), (22, .getfield 12, 3), (25, .invokevirtual 210, 3), (28, .iconst 0, 1), (29, .istore 4, 2), (31, .iconst 0, 1), (32, .istore 5, 2), (34, .iload 5, 2), (36, .bipush 81, 2), (38, .if_icmp .ge 34, 3), (41, .aload_n 0, 1), (42, .getfield 22, 3), (45, .aload_n 0, 1), (46, .getfield 12, 3), (49, .iload_n 2, 1), (50, .iload 5, 2), (52, .aload_n 0, 1), (53, .getfield 43, 3), (56, .iload_n 1, 1), (57, .invokevirtual 211, 3), (60, .ifCond .eq 6, 3), (63, .iinc 4 1, 3), (66, .iinc 5 1, 3), (69, .goto (-35), 3), (72, .iload 4, 2), (74, .ireturn, 1)]
theorem tk_X5_fits_0 : dcA cX5_fits tb_X5_fits_0 = true := by decide +kernel
theorem dX5_fits_0 : decode cX5_fits 0 = .ok (.aload_n 0, 1) := dcO tk_X5_fits_0 0 rfl
theorem dX5_fits_1 : decode cX5_fits 1 = .ok (.iload_n 1, 1) := dcO tk_X5_fits_0 1 rfl
theorem dX5_fits_2 : decode cX5_fits 2 = .ok (.iload_n 2, 1) := dcO tk_X5_fits_0 2 rfl
theorem dX5_fits_3 : decode cX5_fits 3 = .ok (.invokevirtual 207, 3) := dcO tk_X5_fits_0 3 rfl
theorem dX5_fits_6 : decode cX5_fits 6 = .ok (.istore_n 3, 1) := dcO tk_X5_fits_0 4 rfl
theorem dX5_fits_7 : decode cX5_fits 7 = .ok (.iload_n 3, 1) := dcO tk_X5_fits_0 5 rfl
theorem dX5_fits_8 : decode cX5_fits 8 = .ok (.ifCond .eq 9, 3) := dcO tk_X5_fits_0 6 rfl
theorem dX5_fits_11 : decode cX5_fits 11 = .ok (.aload_n 0, 1) := dcO tk_X5_fits_0 7 rfl
theorem dX5_fits_12 : decode cX5_fits 12 = .ok (.iload_n 3, 1) := dcO tk_X5_fits_0 8 rfl
theorem dX5_fits_13 : decode cX5_fits 13 = .ok (.invokevirtual 64, 3) := dcO tk_X5_fits_0 9 rfl
theorem dX5_fits_16 : decode cX5_fits 16 = .ok (.ireturn, 1) := dcO tk_X5_fits_0 10 rfl
theorem dX5_fits_17 : decode cX5_fits 17 = .ok (.aload_n 0, 1) := dcO tk_X5_fits_0 11 rfl
theorem dX5_fits_18 : decode cX5_fits 18 = .ok (.getfield 22, 3) := dcO tk_X5_fits_0 12 rfl
theorem dX5_fits_21 : decode cX5_fits 21 = .ok (.aload_n 0, 1) := dcO tk_X5_fits_0 13 rfl
theorem dX5_fits_22 : decode cX5_fits 22 = .ok (.getfield 12, 3) := dcO tk_X5_fits_0 14 rfl
theorem dX5_fits_25 : decode cX5_fits 25 = .ok (.invokevirtual 210, 3) := dcO tk_X5_fits_0 15 rfl
theorem dX5_fits_28 : decode cX5_fits 28 = .ok (.iconst 0, 1) := dcO tk_X5_fits_0 16 rfl
theorem dX5_fits_29 : decode cX5_fits 29 = .ok (.istore 4, 2) := dcO tk_X5_fits_0 17 rfl
theorem dX5_fits_31 : decode cX5_fits 31 = .ok (.iconst 0, 1) := dcO tk_X5_fits_0 18 rfl
theorem dX5_fits_32 : decode cX5_fits 32 = .ok (.istore 5, 2) := dcO tk_X5_fits_0 19 rfl
theorem dX5_fits_34 : decode cX5_fits 34 = .ok (.iload 5, 2) := dcO tk_X5_fits_0 20 rfl
theorem dX5_fits_36 : decode cX5_fits 36 = .ok (.bipush 81, 2) := dcO tk_X5_fits_0 21 rfl
theorem dX5_fits_38 : decode cX5_fits 38 = .ok (.if_icmp .ge 34, 3) := dcO tk_X5_fits_0 22 rfl
theorem dX5_fits_41 : decode cX5_fits 41 = .ok (.aload_n 0, 1) := dcO tk_X5_fits_0 23 rfl
theorem dX5_fits_42 : decode cX5_fits 42 = .ok (.getfield 22, 3) := dcO tk_X5_fits_0 24 rfl
theorem dX5_fits_45 : decode cX5_fits 45 = .ok (.aload_n 0, 1) := dcO tk_X5_fits_0 25 rfl
theorem dX5_fits_46 : decode cX5_fits 46 = .ok (.getfield 12, 3) := dcO tk_X5_fits_0 26 rfl
theorem dX5_fits_49 : decode cX5_fits 49 = .ok (.iload_n 2, 1) := dcO tk_X5_fits_0 27 rfl
theorem dX5_fits_50 : decode cX5_fits 50 = .ok (.iload 5, 2) := dcO tk_X5_fits_0 28 rfl
theorem dX5_fits_52 : decode cX5_fits 52 = .ok (.aload_n 0, 1) := dcO tk_X5_fits_0 29 rfl
theorem dX5_fits_53 : decode cX5_fits 53 = .ok (.getfield 43, 3) := dcO tk_X5_fits_0 30 rfl
theorem dX5_fits_56 : decode cX5_fits 56 = .ok (.iload_n 1, 1) := dcO tk_X5_fits_0 31 rfl
theorem dX5_fits_57 : decode cX5_fits 57 = .ok (.invokevirtual 211, 3) := dcO tk_X5_fits_0 32 rfl
theorem dX5_fits_60 : decode cX5_fits 60 = .ok (.ifCond .eq 6, 3) := dcO tk_X5_fits_0 33 rfl
theorem dX5_fits_63 : decode cX5_fits 63 = .ok (.iinc 4 1, 3) := dcO tk_X5_fits_0 34 rfl
theorem dX5_fits_66 : decode cX5_fits 66 = .ok (.iinc 5 1, 3) := dcO tk_X5_fits_0 35 rfl
theorem dX5_fits_69 : decode cX5_fits 69 = .ok (.goto (-35), 3) := dcO tk_X5_fits_0 36 rfl
theorem dX5_fits_72 : decode cX5_fits 72 = .ok (.iload 4, 2) := dcO tk_X5_fits_0 37 rfl
theorem dX5_fits_74 : decode cX5_fits 74 = .ok (.ireturn, 1) := dcO tk_X5_fits_0 38 rfl
abbrev tb_X5_began_0 : List (Nat × Instr × Nat) := [(0, .aload_n 0, 1), (1, .iload_n 1, 1), (2, .iload_n 2, 1), (3, .invokevirtual 207, 3), (6, .istore_n 3, 1), (7, .iload_n 3, 1), (8, .ifCond .eq 9, 3), (11, .aload_n 0, 1), (12, .iload_n 3, 1), (13, .invokevirtual 64, 3), (16, .ireturn, 1), (17, .aload_n 0, 1), (18, .getfield 22, 3), (21, .aload_n 0, 1), (22, .getfield 12, 3), (25, .invokevirtual 210, 3), (28, .iconst 0, 1), (29, .istore 4, 2), (31, .iload 4, 2), (33, .bipush 81, 2), (35, .if_icmp .ge 34, 3), (38, .aload_n 0, 1), (39, .getfield 22, 3), (42, .aload_n 0, 1), (43, .getfield 12, 3), (46, .iload_n 2, 1), (47, .iload 4, 2), (49, .aload_n 0, 1), (50, .getfield 43, 3), (53, .iload_n 1, 1), (54, .invokevirtual 211, 3), (57, .ifCond .eq 6, 3), (60, .iload 4, 2), (62, .ireturn, 1), (63, .iinc 4 1, 3), (66, .goto (-35), 3), (69, .aload_n 0, 1), (70, .ldc 172, 2), (72, .invokevirtual 64, 3), (75, .ireturn, 1)]
theorem tk_X5_began_0 : dcA cX5_began tb_X5_began_0 = true := by decide +kernel
theorem dX5_began_0 : decode cX5_began 0 = .ok (.aload_n 0, 1) := dcO tk_X5_began_0 0 rfl
theorem dX5_began_1 : decode cX5_began 1 = .ok (.iload_n 1, 1) := dcO tk_X5_began_0 1 rfl
theorem dX5_began_2 : decode cX5_began 2 = .ok (.iload_n 2, 1) := dcO tk_X5_began_0 2 rfl
theorem dX5_began_3 : decode cX5_began 3 = .ok (.invokevirtual 207, 3) := dcO tk_X5_began_0 3 rfl
theorem dX5_began_6 : decode cX5_began 6 = .ok (.istore_n 3, 1) := dcO tk_X5_began_0 4 rfl
theorem dX5_began_7 : decode cX5_began 7 = .ok (.iload_n 3, 1) := dcO tk_X5_began_0 5 rfl
theorem dX5_began_8 : decode cX5_began 8 = .ok (.ifCond .eq 9, 3) := dcO tk_X5_began_0 6 rfl
theorem dX5_began_11 : decode cX5_began 11 = .ok (.aload_n 0, 1) := dcO tk_X5_began_0 7 rfl
theorem dX5_began_12 : decode cX5_began 12 = .ok (.iload_n 3, 1) := dcO tk_X5_began_0 8 rfl
theorem dX5_began_13 : decode cX5_began 13 = .ok (.invokevirtual 64, 3) := dcO tk_X5_began_0 9 rfl
theorem dX5_began_16 : decode cX5_began 16 = .ok (.ireturn, 1) := dcO tk_X5_began_0 10 rfl
theorem dX5_began_17 : decode cX5_began 17 = .ok (.aload_n 0, 1) := dcO tk_X5_began_0 11 rfl
theorem dX5_began_18 : decode cX5_began 18 = .ok (.getfield 22, 3) := dcO tk_X5_began_0 12 rfl
theorem dX5_began_21 : decode cX5_began 21 = .ok (.aload_n 0, 1) := dcO tk_X5_began_0 13 rfl
theorem dX5_began_22 : decode cX5_began 22 = .ok (.getfield 12, 3) := dcO tk_X5_began_0 14 rfl
theorem dX5_began_25 : decode cX5_began 25 = .ok (.invokevirtual 210, 3) := dcO tk_X5_began_0 15 rfl
theorem dX5_began_28 : decode cX5_began 28 = .ok (.iconst 0, 1) := dcO tk_X5_began_0 16 rfl
theorem dX5_began_29 : decode cX5_began 29 = .ok (.istore 4, 2) := dcO tk_X5_began_0 17 rfl
theorem dX5_began_31 : decode cX5_began 31 = .ok (.iload 4, 2) := dcO tk_X5_began_0 18 rfl
theorem dX5_began_33 : decode cX5_began 33 = .ok (.bipush 81, 2) := dcO tk_X5_began_0 19 rfl
theorem dX5_began_35 : decode cX5_began 35 = .ok (.if_icmp .ge 34, 3) := dcO tk_X5_began_0 20 rfl
theorem dX5_began_38 : decode cX5_began 38 = .ok (.aload_n 0, 1) := dcO tk_X5_began_0 21 rfl
theorem dX5_began_39 : decode cX5_began 39 = .ok (.getfield 22, 3) := dcO tk_X5_began_0 22 rfl
theorem dX5_began_42 : decode cX5_began 42 = .ok (.aload_n 0, 1) := dcO tk_X5_began_0 23 rfl
theorem dX5_began_43 : decode cX5_began 43 = .ok (.getfield 12, 3) := dcO tk_X5_began_0 24 rfl
theorem dX5_began_46 : decode cX5_began 46 = .ok (.iload_n 2, 1) := dcO tk_X5_began_0 25 rfl
theorem dX5_began_47 : decode cX5_began 47 = .ok (.iload 4, 2) := dcO tk_X5_began_0 26 rfl
theorem dX5_began_49 : decode cX5_began 49 = .ok (.aload_n 0, 1) := dcO tk_X5_began_0 27 rfl
theorem dX5_began_50 : decode cX5_began 50 = .ok (.getfield 43, 3) := dcO tk_X5_began_0 28 rfl
theorem dX5_began_53 : decode cX5_began 53 = .ok (.iload_n 1, 1) := dcO tk_X5_began_0 29 rfl
theorem dX5_began_54 : decode cX5_began 54 = .ok (.invokevirtual 211, 3) := dcO tk_X5_began_0 30 rfl
theorem dX5_began_57 : decode cX5_began 57 = .ok (.ifCond .eq 6, 3) := dcO tk_X5_began_0 31 rfl
theorem dX5_began_60 : decode cX5_began 60 = .ok (.iload 4, 2) := dcO tk_X5_began_0 32 rfl
theorem dX5_began_62 : decode cX5_began 62 = .ok (.ireturn, 1) := dcO tk_X5_began_0 33 rfl
theorem dX5_began_63 : decode cX5_began 63 = .ok (.iinc 4 1, 3) := dcO tk_X5_began_0 34 rfl
theorem dX5_began_66 : decode cX5_began 66 = .ok (.goto (-35), 3) := dcO tk_X5_began_0 35 rfl
theorem dX5_began_69 : decode cX5_began 69 = .ok (.aload_n 0, 1) := dcO tk_X5_began_0 36 rfl
theorem dX5_began_70 : decode cX5_began 70 = .ok (.ldc 172, 2) := dcO tk_X5_began_0 37 rfl
theorem dX5_began_72 : decode cX5_began 72 = .ok (.invokevirtual 64, 3) := dcO tk_X5_began_0 38 rfl
theorem dX5_began_75 : decode cX5_began 75 = .ok (.ireturn, 1) := dcO tk_X5_began_0 39 rfl
