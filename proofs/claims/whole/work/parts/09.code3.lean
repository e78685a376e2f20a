/-! the methods' code as data (written by wip/whole/gen/code.py) -/
set_option maxRecDepth 100000 in
theorem wd_X5_round : zwd q_X5_round := ⟨zw_in (p := (4, 59)) (by decide +kernel), zw_in (p := (1, 2)) (by decide +kernel), fun h => absurd h (by decide), fun _ => zw_in (p := (4, 57)) (by decide +kernel), fun _ => zw_in (p := (4, 58)) (by decide +kernel)⟩
def cal_X5_round : List zCal := [q_X0_finite, q_X2_answer, q_X0_plus, q_X5_measure, q_X7_exceeds, q_X7_copy]
def b_X5_round_198 : List zE := (198, .iconst 1, [1]) :: (199, .ireturn, []) :: []
def p_X5_round_198 : List (List (Nat × Nat)) := [] :: [] :: []
def b_X5_round_155 : List zE := (155, .iload 4, []) :: (157, .aload_n 1, []) :: (158, .getfield 50, [3, 3]) :: (161, .if_icmp .ge 37, [198, 0]) :: (164, .aload_n 0, []) :: (165, .getfield 40, [5, 8]) :: (168, .iload 4, []) :: (170, .aload_n 0, []) :: (171, .getfield 37, [5, 7]) :: (174, .iload 4, []) :: (176, .laload, []) :: (177, .lastore, []) :: (178, .aload_n 0, []) :: (179, .getfield 27, [5, 4]) :: (182, .iload 4, []) :: (184, .aload_n 0, []) :: (185, .getfield 31, [5, 5]) :: (188, .iload 4, []) :: (190, .laload, []) :: (191, .lastore, []) :: (192, .iinc 4 1, [1]) :: (195, .goto (-40), [155, 1]) :: []
def p_X5_round_155 : List (List (Nat × Nat)) := [] :: [] :: [(1, 221)] :: [] :: [] :: [(1, 63)] :: [] :: [] :: [(1, 62)] :: [] :: [] :: [] :: [] :: [(1, 59)] :: [] :: [] :: [(1, 60)] :: [] :: [] :: [] :: [] :: [] :: []
def b_X5_round_141 : List zE := (141, .aload_n 0, []) :: (142, .getfield 21, [5, 2]) :: (145, .aload_n 0, []) :: (146, .getfield 24, [5, 3]) :: (149, .invokevirtual 94, [5, 1, 7]) :: (152, .iconst 0, [0]) :: (153, .istore 4, []) :: (155, .nop, []) :: []
def p_X5_round_141 : List (List (Nat × Nat)) := [] :: [(1, 57)] :: [] :: [(1, 58)] :: [(4, 43)] :: [] :: [] :: [] :: []
def b_X5_round_107 : List zE := (107, .aload_n 0, []) :: (108, .aload_n 1, []) :: (109, .aload_n 0, []) :: (110, .getfield 37, [5, 7]) :: (113, .aload_n 3, []) :: (114, .aload_n 0, []) :: (115, .getfield 31, [5, 5]) :: (118, .aload_n 0, []) :: (119, .getfield 24, [5, 3]) :: (122, .invokevirtual 98, [3, 5, 5]) :: (125, .aload_n 0, []) :: (126, .getfield 21, [5, 2]) :: (129, .aload_n 0, []) :: (130, .getfield 24, [5, 3]) :: (133, .invokevirtual 90, [4, 1, 7]) :: (136, .ifCond .ne 5, [141, 0]) :: (139, .iconst 0, [0]) :: (140, .ireturn, []) :: []
def p_X5_round_107 : List (List (Nat × Nat)) := [] :: [] :: [] :: [(1, 62)] :: [] :: [] :: [(1, 60)] :: [] :: [(1, 58)] :: [(4, 35)] :: [] :: [(1, 57)] :: [] :: [(1, 58)] :: [(4, 39)] :: [] :: [] :: [] :: []
def b_X5_round_101 : List zE := (101, .iinc 4 1, [1]) :: (104, .goto (-51), [53, 1]) :: []
def p_X5_round_101 : List (List (Nat × Nat)) := [] :: [] :: []
def b_X5_round_53 : List zE := (53, .iload 4, []) :: (55, .aload_n 1, []) :: (56, .getfield 50, [3, 3]) :: (59, .if_icmp .ge 48, [107, 0]) :: (62, .aload_n 0, []) :: (63, .getfield 37, [5, 7]) :: (66, .iload 4, []) :: (68, .aload_n 0, []) :: (69, .getfield 40, [5, 8]) :: (72, .iload 4, []) :: (74, .laload, []) :: (75, .aload_n 0, []) :: (76, .getfield 34, [5, 6]) :: (79, .iload 4, []) :: (81, .laload, []) :: (82, .invokestatic 108, [2, 2]) :: (85, .lastore, []) :: (86, .aload_n 0, []) :: (87, .getfield 37, [5, 7]) :: (90, .iload 4, []) :: (92, .laload, []) :: (93, .invokestatic 77, [0, 1]) :: (96, .ifCond .ne 5, [101, 0]) :: (99, .iconst 0, [0]) :: (100, .ireturn, []) :: []
def p_X5_round_53 : List (List (Nat × Nat)) := [] :: [] :: [(1, 221)] :: [] :: [] :: [(1, 62)] :: [] :: [] :: [(1, 63)] :: [] :: [] :: [] :: [(1, 61)] :: [] :: [] :: [(4, 61)] :: [] :: [] :: [(1, 62)] :: [] :: [] :: [(4, 25)] :: [] :: [] :: [] :: []
def b_X5_round_50 : List zE := (50, .iconst 0, [0]) :: (51, .istore 4, []) :: (53, .nop, []) :: []
def p_X5_round_50 : List (List (Nat × Nat)) := [] :: [] :: [] :: []
def b_X5_round_33 : List zE := (33, .aload_n 2, []) :: (34, .aload_n 0, []) :: (35, .getfield 27, [5, 4]) :: (38, .aload_n 0, []) :: (39, .getfield 34, [5, 6]) :: (42, .invokevirtual 102, [1, 2, 2]) :: (45, .ifCond .ne 5, [50, 0]) :: (48, .iconst 0, [0]) :: (49, .ireturn, []) :: []
def p_X5_round_33 : List (List (Nat × Nat)) := [] :: [] :: [(1, 59)] :: [] :: [(1, 61)] :: [(4, 60)] :: [] :: [] :: [] :: []
def b_X5_round_27 : List zE := (27, .iinc 4 1, [1]) :: (30, .goto (-27), [3, 1]) :: []
def p_X5_round_27 : List (List (Nat × Nat)) := [] :: [] :: []
def b_X5_round_3 : List zE := (3, .iload 4, []) :: (5, .aload_n 1, []) :: (6, .getfield 87, [3, 2]) :: (9, .if_icmp .ge 24, [33, 0]) :: (12, .aload_n 0, []) :: (13, .getfield 27, [5, 4]) :: (16, .iload 4, []) :: (18, .laload, []) :: (19, .invokestatic 77, [0, 1]) :: (22, .ifCond .ne 5, [27, 0]) :: (25, .iconst 0, [0]) :: (26, .ireturn, []) :: []
def p_X5_round_3 : List (List (Nat × Nat)) := [] :: [] :: [(1, 218)] :: [] :: [] :: [(1, 59)] :: [] :: [] :: [(4, 25)] :: [] :: [] :: [] :: []
def b_X5_round_0 : List zE := (0, .iconst 0, [0]) :: (1, .istore 4, []) :: (3, .nop, []) :: []
def p_X5_round_0 : List (List (Nat × Nat)) := [] :: [] :: [] :: []
def bl_X5_round : List (Nat × List zE) := [(0, b_X5_round_0), (3, b_X5_round_3), (27, b_X5_round_27), (33, b_X5_round_33), (50, b_X5_round_50), (53, b_X5_round_53), (101, b_X5_round_101), (107, b_X5_round_107), (141, b_X5_round_141), (155, b_X5_round_155), (198, b_X5_round_198)]
def pl_X5_round : List (List (List (Nat × Nat))) := [p_X5_round_0, p_X5_round_3, p_X5_round_27, p_X5_round_33, p_X5_round_50, p_X5_round_53, p_X5_round_101, p_X5_round_107, p_X5_round_141, p_X5_round_155, p_X5_round_198]
theorem k_X5_round_0 : zlk 0 bl_X5_round = b_X5_round_0 := rfl
theorem k_X5_round_3 : zlk 3 bl_X5_round = b_X5_round_3 := rfl
theorem k_X5_round_27 : zlk 27 bl_X5_round = b_X5_round_27 := rfl
theorem k_X5_round_33 : zlk 33 bl_X5_round = b_X5_round_33 := rfl
theorem k_X5_round_50 : zlk 50 bl_X5_round = b_X5_round_50 := rfl
theorem k_X5_round_53 : zlk 53 bl_X5_round = b_X5_round_53 := rfl
theorem k_X5_round_101 : zlk 101 bl_X5_round = b_X5_round_101 := rfl
theorem k_X5_round_107 : zlk 107 bl_X5_round = b_X5_round_107 := rfl
theorem k_X5_round_141 : zlk 141 bl_X5_round = b_X5_round_141 := rfl
theorem k_X5_round_155 : zlk 155 bl_X5_round = b_X5_round_155 := rfl
theorem k_X5_round_198 : zlk 198 bl_X5_round = b_X5_round_198 := rfl
set_option maxRecDepth 100000 in
theorem ck_X5_round : zall q_X5_round.2.2.2.2.1 q_X5_round.2.1 5 false q_X5_round.2.2.1 cal_X5_round q_X5_round.2.2.2.1 bl_X5_round pl_X5_round = true := by decide +kernel
theorem nm_X5_round : plainName q_X5_round.1.cls = true ∧ zRX 5 = q_X5_round.1.cls ∧ (false = true → q_X5_round.1.name = "<init>") := ⟨by decide +kernel, rfl, fun h => by first | rfl | cases h⟩
set_option maxRecDepth 100000 in
theorem wd_X5_lack : zwd q_X5_lack := ⟨zw_in (p := (5, 49)) (by decide +kernel), zw_in (p := (1, 2)) (by decide +kernel), fun h => absurd h (by decide), fun _ => zw_in (p := (5, 48)) (by decide +kernel), fun _ => zw_in (p := (0, 39)) (by decide +kernel)⟩
def cal_X5_lack : List zCal := [q_X7_clear, q_X7_addNumber, q_X3_at, q_X7_addProduct, q_X7_settle]
def b_X5_lack_65 : List zE := (65, .aload_n 0, []) :: (66, .getfield 12, [5, 0]) :: (69, .invokevirtual 64, [4, 0, 7]) :: (72, .return_, []) :: []
def p_X5_lack_65 : List (List (Nat × Nat)) := [] :: [(1, 55)] :: [(4, 11)] :: [] :: []
def b_X5_lack_27 : List zE := (27, .iload 5, []) :: (29, .aload_n 1, []) :: (30, .getfield 50, [3, 3]) :: (33, .if_icmp .ge 32, [65, 0]) :: (36, .aload_n 0, []) :: (37, .getfield 12, [5, 0]) :: (40, .aload_n 1, []) :: (41, .iload_n 3, []) :: (42, .iload 5, []) :: (44, .invokevirtual 56, [2, 2, 3]) :: (47, .aload_n 2, []) :: (48, .iload 5, []) :: (50, .iload 4, []) :: (52, .invokevirtual 56, [2, 2, 3]) :: (55, .iconst 1, [1]) :: (56, .invokevirtual 60, [3, 3, 7]) :: (59, .iinc 5 1, [1]) :: (62, .goto (-35), [27, 1]) :: []
def p_X5_lack_27 : List (List (Nat × Nat)) := [] :: [] :: [(1, 221)] :: [] :: [] :: [(1, 55)] :: [] :: [] :: [] :: [(4, 4)] :: [] :: [] :: [] :: [(4, 4)] :: [] :: [(4, 5)] :: [] :: [] :: []
def b_X5_lack_24 : List zE := (24, .iconst 0, [0]) :: (25, .istore 5, []) :: (27, .nop, []) :: []
def p_X5_lack_24 : List (List (Nat × Nat)) := [] :: [] :: [] :: []
def b_X5_lack_0 : List zE := (0, .aload_n 0, []) :: (1, .getfield 12, [5, 0]) :: (4, .invokevirtual 43, [0, 0, 7]) :: (7, .iload_n 3, []) :: (8, .iload 4, []) :: (10, .if_icmp .ne 14, [24, 0]) :: (13, .aload_n 0, []) :: (14, .getfield 12, [5, 0]) :: (17, .ldc2_w 119, [4607182418800017408]) :: (20, .iconst 0, [0]) :: (21, .invokevirtual 46, [1, 2, 7]) :: (24, .nop, [0]) :: []
def p_X5_lack_0 : List (List (Nat × Nat)) := [] :: [(1, 55)] :: [(3, 224)] :: [] :: [] :: [] :: [] :: [(1, 55)] :: [(5, 50)] :: [] :: [(3, 228)] :: [] :: []
def bl_X5_lack : List (Nat × List zE) := [(0, b_X5_lack_0), (24, b_X5_lack_24), (27, b_X5_lack_27), (65, b_X5_lack_65)]
def pl_X5_lack : List (List (List (Nat × Nat))) := [p_X5_lack_0, p_X5_lack_24, p_X5_lack_27, p_X5_lack_65]
theorem k_X5_lack_0 : zlk 0 bl_X5_lack = b_X5_lack_0 := rfl
theorem k_X5_lack_24 : zlk 24 bl_X5_lack = b_X5_lack_24 := rfl
theorem k_X5_lack_27 : zlk 27 bl_X5_lack = b_X5_lack_27 := rfl
theorem k_X5_lack_65 : zlk 65 bl_X5_lack = b_X5_lack_65 := rfl
set_option maxRecDepth 100000 in
theorem ck_X5_lack : zall q_X5_lack.2.2.2.2.1 q_X5_lack.2.1 5 false q_X5_lack.2.2.1 cal_X5_lack q_X5_lack.2.2.2.1 bl_X5_lack pl_X5_lack = true := by decide +kernel
theorem nm_X5_lack : plainName q_X5_lack.1.cls = true ∧ zRX 5 = q_X5_lack.1.cls ∧ (false = true → q_X5_lack.1.name = "<init>") := ⟨by decide +kernel, rfl, fun h => by first | rfl | cases h⟩
set_option maxRecDepth 100000 in
theorem wd_X7_addSize : zwd q_X7_addSize := ⟨zw_in (p := (5, 54)) (by decide +kernel), zw_in (p := (1, 3)) (by decide +kernel), fun h => absurd h (by decide), fun _ => zw_in (p := (5, 52)) (by decide +kernel), fun _ => zw_in (p := (5, 53)) (by decide +kernel)⟩
def cal_X7_addSize : List zCal := []
def b_X7_addSize_34 : List zE := (34, .aload_n 0, []) :: (35, .aload_n 0, []) :: (36, .getfield 13, [7, 1]) :: (39, .aload_n 1, []) :: (40, .getfield 13, [7, 1]) :: (43, .invokestatic 30, [103]) :: (46, .putfield 13, [7, 1]) :: (49, .aload_n 0, []) :: (50, .aload_n 0, []) :: (51, .getfield 17, [7, 2]) :: (54, .aload_n 1, []) :: (55, .getfield 17, [7, 2]) :: (58, .invokestatic 36, [102]) :: (61, .putfield 17, [7, 2]) :: (64, .return_, []) :: []
def p_X7_addSize_34 : List (List (Nat × Nat)) := [] :: [] :: [(1, 42)] :: [] :: [(1, 42)] :: [(4, 0), (4, 1), (1, 14), (4, 2)] :: [(1, 42)] :: [] :: [] :: [(1, 43)] :: [] :: [(1, 43)] :: [(4, 3), (2, 197), (1, 14), (2, 198)] :: [(1, 43)] :: [] :: []
def b_X7_addSize_5 : List zE := (5, .iload_n 2, []) :: (6, .aload_n 1, []) :: (7, .getfield 17, [7, 2]) :: (10, .if_icmp .gt 24, [34, 0]) :: (13, .aload_n 0, []) :: (14, .getfield 9, [7, 0]) :: (17, .iload_n 2, []) :: (18, .dup2, []) :: (19, .laload, []) :: (20, .aload_n 1, []) :: (21, .getfield 9, [7, 0]) :: (24, .iload_n 2, []) :: (25, .laload, []) :: (26, .ladd, []) :: (27, .lastore, []) :: (28, .iinc 2 1, [1]) :: (31, .goto (-26), [5, 1]) :: []
def p_X7_addSize_5 : List (List (Nat × Nat)) := [] :: [] :: [(1, 43)] :: [] :: [] :: [(1, 41)] :: [] :: [] :: [] :: [] :: [(1, 41)] :: [] :: [] :: [] :: [] :: [] :: [] :: []
def b_X7_addSize_0 : List zE := (0, .aload_n 1, []) :: (1, .getfield 13, [7, 1]) :: (4, .istore_n 2, []) :: (5, .nop, []) :: []
def p_X7_addSize_0 : List (List (Nat × Nat)) := [] :: [(1, 42)] :: [] :: [] :: []
def bl_X7_addSize : List (Nat × List zE) := [(0, b_X7_addSize_0), (5, b_X7_addSize_5), (34, b_X7_addSize_34)]
def pl_X7_addSize : List (List (List (Nat × Nat))) := [p_X7_addSize_0, p_X7_addSize_5, p_X7_addSize_34]
theorem k_X7_addSize_0 : zlk 0 bl_X7_addSize = b_X7_addSize_0 := rfl
theorem k_X7_addSize_5 : zlk 5 bl_X7_addSize = b_X7_addSize_5 := rfl
theorem k_X7_addSize_34 : zlk 34 bl_X7_addSize = b_X7_addSize_34 := rfl
set_option maxRecDepth 100000 in
theorem ck_X7_addSize : zall q_X7_addSize.2.2.2.2.1 q_X7_addSize.2.1 7 false q_X7_addSize.2.2.1 cal_X7_addSize q_X7_addSize.2.2.2.1 bl_X7_addSize pl_X7_addSize = true := by decide +kernel
theorem nm_X7_addSize : plainName q_X7_addSize.1.cls = true ∧ zRX 7 = q_X7_addSize.1.cls ∧ (false = true → q_X7_addSize.1.name = "<init>") := ⟨by decide +kernel, rfl, fun h => by first | rfl | cases h⟩
set_option maxRecDepth 100000 in
theorem wd_X5_gapOf : zwd q_X5_gapOf := ⟨zw_in (p := (5, 45)) (by decide +kernel), zw_in (p := (1, 2)) (by decide +kernel), fun h => absurd h (by decide), fun _ => zw_in (p := (5, 43)) (by decide +kernel), fun _ => zw_in (p := (5, 44)) (by decide +kernel)⟩
def cal_X5_gapOf : List zCal := [q_X7_clear, q_X5_lack, q_X7_addSize, q_X7_settle, q_X7_exceeds, q_X7_copy, q_X7_toDouble]
def b_X5_gapOf_100 : List zE := (100, .aload_n 0, []) :: (101, .getfield 21, [5, 2]) :: (104, .iconst 1, [1]) :: (105, .invokevirtual 73, [6, 1, 7]) :: (108, .lreturn, []) :: []
def p_X5_gapOf_100 : List (List (Nat × Nat)) := [] :: [(1, 57)] :: [] :: [(4, 19)] :: [] :: []
def b_X5_gapOf_94 : List zE := (94, .iinc 3 1, [1]) :: (97, .goto (-88), [9, 1]) :: []
def p_X5_gapOf_94 : List (List (Nat × Nat)) := [] :: [] :: []
def b_X5_gapOf_62 : List zE := (62, .aload_n 0, []) :: (63, .getfield 18, [5, 1]) :: (66, .invokevirtual 64, [3, 0, 7]) :: (69, .aload_n 0, []) :: (70, .getfield 18, [5, 1]) :: (73, .aload_n 0, []) :: (74, .getfield 21, [5, 2]) :: (77, .invokevirtual 90, [4, 1, 7]) :: (80, .ifCond .eq 14, [94, 0]) :: (83, .aload_n 0, []) :: (84, .getfield 21, [5, 2]) :: (87, .aload_n 0, []) :: (88, .getfield 18, [5, 1]) :: (91, .invokevirtual 94, [5, 1, 7]) :: (94, .nop, [0]) :: []
def p_X5_gapOf_62 : List (List (Nat × Nat)) := [] :: [(1, 56)] :: [(4, 11)] :: [] :: [(1, 56)] :: [] :: [(1, 57)] :: [(4, 39)] :: [] :: [] :: [(1, 57)] :: [] :: [(1, 56)] :: [(4, 43)] :: [] :: []
def b_X5_gapOf_27 : List zE := (27, .iload 4, []) :: (29, .aload_n 2, []) :: (30, .getfield 50, [3, 3]) :: (33, .if_icmp .ge 29, [62, 0]) :: (36, .aload_n 0, []) :: (37, .aload_n 1, []) :: (38, .aload_n 2, []) :: (39, .iload_n 3, []) :: (40, .iload 4, []) :: (42, .invokevirtual 112, [1, 4, 5]) :: (45, .aload_n 0, []) :: (46, .getfield 18, [5, 1]) :: (49, .aload_n 0, []) :: (50, .getfield 12, [5, 0]) :: (53, .invokevirtual 116, [2, 1, 7]) :: (56, .iinc 4 1, [1]) :: (59, .goto (-32), [27, 1]) :: []
def p_X5_gapOf_27 : List (List (Nat × Nat)) := [] :: [] :: [(1, 221)] :: [] :: [] :: [] :: [] :: [] :: [] :: [(5, 46)] :: [] :: [(1, 56)] :: [] :: [(1, 55)] :: [(5, 51)] :: [] :: [] :: []
def b_X5_gapOf_9 : List zE := (9, .iload_n 3, []) :: (10, .aload_n 1, []) :: (11, .getfield 87, [3, 2]) :: (14, .if_icmp .ge 86, [100, 0]) :: (17, .aload_n 0, []) :: (18, .getfield 18, [5, 1]) :: (21, .invokevirtual 43, [0, 0, 7]) :: (24, .iconst 0, [0]) :: (25, .istore 4, []) :: (27, .nop, []) :: []
def p_X5_gapOf_9 : List (List (Nat × Nat)) := [] :: [] :: [(1, 218)] :: [] :: [] :: [(1, 56)] :: [(3, 224)] :: [] :: [] :: [] :: []
def b_X5_gapOf_0 : List zE := (0, .aload_n 0, []) :: (1, .getfield 21, [5, 2]) :: (4, .invokevirtual 43, [0, 0, 7]) :: (7, .iconst 0, [0]) :: (8, .istore_n 3, []) :: (9, .nop, []) :: []
def p_X5_gapOf_0 : List (List (Nat × Nat)) := [] :: [(1, 57)] :: [(3, 224)] :: [] :: [] :: [] :: []
def bl_X5_gapOf : List (Nat × List zE) := [(0, b_X5_gapOf_0), (9, b_X5_gapOf_9), (27, b_X5_gapOf_27), (62, b_X5_gapOf_62), (94, b_X5_gapOf_94), (100, b_X5_gapOf_100)]
def pl_X5_gapOf : List (List (List (Nat × Nat))) := [p_X5_gapOf_0, p_X5_gapOf_9, p_X5_gapOf_27, p_X5_gapOf_62, p_X5_gapOf_94, p_X5_gapOf_100]
theorem k_X5_gapOf_0 : zlk 0 bl_X5_gapOf = b_X5_gapOf_0 := rfl
theorem k_X5_gapOf_9 : zlk 9 bl_X5_gapOf = b_X5_gapOf_9 := rfl
theorem k_X5_gapOf_27 : zlk 27 bl_X5_gapOf = b_X5_gapOf_27 := rfl
theorem k_X5_gapOf_62 : zlk 62 bl_X5_gapOf = b_X5_gapOf_62 := rfl
theorem k_X5_gapOf_94 : zlk 94 bl_X5_gapOf = b_X5_gapOf_94 := rfl
theorem k_X5_gapOf_100 : zlk 100 bl_X5_gapOf = b_X5_gapOf_100 := rfl
set_option maxRecDepth 100000 in
theorem ck_X5_gapOf : zall q_X5_gapOf.2.2.2.2.1 q_X5_gapOf.2.1 5 false q_X5_gapOf.2.2.1 cal_X5_gapOf q_X5_gapOf.2.2.2.1 bl_X5_gapOf pl_X5_gapOf = true := by decide +kernel
theorem nm_X5_gapOf : plainName q_X5_gapOf.1.cls = true ∧ zRX 5 = q_X5_gapOf.1.cls ∧ (false = true → q_X5_gapOf.1.name = "<init>") := ⟨by decide +kernel, rfl, fun h => by first | rfl | cases h⟩
set_option maxRecDepth 100000 in
theorem wd_X5_sumAbove : zwd q_X5_sumAbove := ⟨zw_in (p := (5, 67)) (by decide +kernel), zw_in (p := (1, 2)) (by decide +kernel), fun _ => zw_in (p := (5, 66)) (by decide +kernel), fun h => absurd rfl h, fun h => absurd h (by decide)⟩
def cal_X5_sumAbove : List zCal := [q_X3_at, q_X0_magnitude, q_X0_plus, q_X0_above, q_X0_finite]
def b_X5_sumAbove_77 : List zE := (77, .lload_n 1, []) :: (78, .lreturn, []) :: []
def p_X5_sumAbove_77 : List (List (Nat × Nat)) := [] :: [] :: []
def b_X5_sumAbove_64 : List zE := (64, .lload_n 1, []) :: (65, .lload 4, []) :: (67, .invokestatic 127, [105]) :: (70, .lstore_n 1, []) :: (71, .iinc 3 1, [1]) :: (74, .goto (-70), [4, 1]) :: []
def p_X5_sumAbove_64 : List (List (Nat × Nat)) := [] :: [] :: [(5, 72), (3, 60), (1, 14), (3, 61)] :: [] :: [] :: [] :: []
def b_X5_sumAbove_58 : List zE := (58, .iinc 6 1, [1]) :: (61, .goto (-43), [18, 1]) :: []
def p_X5_sumAbove_58 : List (List (Nat × Nat)) := [] :: [] :: []
def b_X5_sumAbove_18 : List zE := (18, .iload 6, []) :: (20, .aload_n 0, []) :: (21, .getfield 50, [3, 3]) :: (24, .if_icmp .ge 40, [64, 0]) :: (27, .lload 4, []) :: (29, .aload_n 0, []) :: (30, .iload_n 3, []) :: (31, .iload 6, []) :: (33, .invokevirtual 56, [0, 2, 3]) :: (36, .invokestatic 121, [1, 1]) :: (39, .invokestatic 108, [2, 2]) :: (42, .invokestatic 124, [3, 1]) :: (45, .lstore 4, []) :: (47, .lload 4, []) :: (49, .invokestatic 77, [4, 1]) :: (52, .ifCond .ne 6, [58, 0]) :: (55, .lload 4, []) :: (57, .lreturn, []) :: []
def p_X5_sumAbove_18 : List (List (Nat × Nat)) := [] :: [] :: [(1, 221)] :: [] :: [] :: [] :: [] :: [] :: [(4, 4)] :: [(5, 68)] :: [(4, 61)] :: [(5, 69)] :: [] :: [] :: [(4, 25)] :: [] :: [] :: [] :: []
def b_X5_sumAbove_4 : List zE := (4, .iload_n 3, []) :: (5, .aload_n 0, []) :: (6, .getfield 87, [3, 2]) :: (9, .if_icmp .ge 68, [77, 0]) :: (12, .lconst 0, [0]) :: (13, .lstore 4, []) :: (15, .iconst 0, [0]) :: (16, .istore 6, []) :: (18, .nop, []) :: []
def p_X5_sumAbove_4 : List (List (Nat × Nat)) := [] :: [] :: [(1, 218)] :: [] :: [] :: [] :: [] :: [] :: [] :: []
def b_X5_sumAbove_0 : List zE := (0, .lconst 0, [0]) :: (1, .lstore_n 1, []) :: (2, .iconst 0, [0]) :: (3, .istore_n 3, []) :: (4, .nop, []) :: []
def p_X5_sumAbove_0 : List (List (Nat × Nat)) := [] :: [] :: [] :: [] :: [] :: []
def bl_X5_sumAbove : List (Nat × List zE) := [(0, b_X5_sumAbove_0), (4, b_X5_sumAbove_4), (18, b_X5_sumAbove_18), (58, b_X5_sumAbove_58), (64, b_X5_sumAbove_64), (77, b_X5_sumAbove_77)]
def pl_X5_sumAbove : List (List (List (Nat × Nat))) := [p_X5_sumAbove_0, p_X5_sumAbove_4, p_X5_sumAbove_18, p_X5_sumAbove_58, p_X5_sumAbove_64, p_X5_sumAbove_77]
theorem k_X5_sumAbove_0 : zlk 0 bl_X5_sumAbove = b_X5_sumAbove_0 := rfl
theorem k_X5_sumAbove_4 : zlk 4 bl_X5_sumAbove = b_X5_sumAbove_4 := rfl
theorem k_X5_sumAbove_18 : zlk 18 bl_X5_sumAbove = b_X5_sumAbove_18 := rfl
theorem k_X5_sumAbove_58 : zlk 58 bl_X5_sumAbove = b_X5_sumAbove_58 := rfl
theorem k_X5_sumAbove_64 : zlk 64 bl_X5_sumAbove = b_X5_sumAbove_64 := rfl
theorem k_X5_sumAbove_77 : zlk 77 bl_X5_sumAbove = b_X5_sumAbove_77 := rfl
set_option maxRecDepth 100000 in
theorem ck_X5_sumAbove : zall q_X5_sumAbove.2.2.2.2.1 q_X5_sumAbove.2.1 5 false q_X5_sumAbove.2.2.1 cal_X5_sumAbove q_X5_sumAbove.2.2.2.1 bl_X5_sumAbove pl_X5_sumAbove = true := by decide +kernel
theorem nm_X5_sumAbove : plainName q_X5_sumAbove.1.cls = true ∧ zRX 5 = q_X5_sumAbove.1.cls ∧ (false = true → q_X5_sumAbove.1.name = "<init>") := ⟨by decide +kernel, rfl, fun h => by first | rfl | cases h⟩
set_option maxRecDepth 100000 in
theorem wd_X5_boundOf : zwd q_X5_boundOf := ⟨zw_in (p := (5, 62)) (by decide +kernel), zw_in (p := (1, 2)) (by decide +kernel), fun h => absurd h (by decide), fun _ => zw_in (p := (5, 60)) (by decide +kernel), fun _ => zw_in (p := (5, 61)) (by decide +kernel)⟩
def cal_X5_boundOf : List zCal := [q_X5_gapOf, q_X5_sumAbove, q_X5_greatestUp, q_X0_finite, q_X0_plus, q_X0_times, q_X0_above, q_X0_over]
def b_X5_boundOf_125 : List zE := (125, .lreturn, []) :: []
def p_X5_boundOf_125 : List (List (Nat × Nat)) := [] :: []
def b_X5_boundOf_122 : List zE := (122, .ldc2_w 136, [13830554455654793216]) :: (125, .nop, [0]) :: []
def p_X5_boundOf_122 : List (List (Nat × Nat)) := [(5, 64)] :: [] :: []
def b_X5_boundOf_97 : List zE := (97, .lload 13, []) :: (99, .lload 11, []) :: (101, .invokestatic 151, [7, 2]) :: (104, .invokestatic 124, [6, 1]) :: (107, .lstore 15, []) :: (109, .lload 15, []) :: (111, .invokestatic 77, [3, 1]) :: (114, .ifCond .eq 8, [122, 0]) :: (117, .lload 15, []) :: (119, .goto 6, [125, 0]) :: []
def p_X5_boundOf_97 : List (List (Nat × Nat)) := [] :: [] :: [(5, 76)] :: [(5, 69)] :: [] :: [] :: [(4, 25)] :: [] :: [] :: [] :: []
def b_X5_boundOf_57 : List zE := (57, .ldc2_w 119, [4607182418800017408]) :: (60, .lload 5, []) :: (62, .ldc2_w 146, [9223372036854775808]) :: (65, .lxor, []) :: (66, .invokestatic 108, [4, 2]) :: (69, .lconst 1, [1]) :: (70, .lsub, []) :: (71, .lstore 11, []) :: (73, .lload 7, []) :: (75, .lload 9, []) :: (77, .invokestatic 148, [5, 2]) :: (80, .invokestatic 124, [6, 1]) :: (83, .lstore 13, []) :: (85, .lload 13, []) :: (87, .invokestatic 77, [3, 1]) :: (90, .ifCond .ne 7, [97, 0]) :: (93, .ldc2_w 136, [13830554455654793216]) :: (96, .lreturn, []) :: []
def p_X5_boundOf_57 : List (List (Nat × Nat)) := [(5, 50)] :: [] :: [(5, 74)] :: [] :: [(4, 61)] :: [] :: [] :: [] :: [] :: [] :: [(5, 75)] :: [(5, 69)] :: [] :: [] :: [(4, 25)] :: [] :: [(5, 64)] :: [] :: []
def b_X5_boundOf_53 : List zE := (53, .ldc2_w 136, [13830554455654793216]) :: (56, .lreturn, []) :: []
def p_X5_boundOf_53 : List (List (Nat × Nat)) := [(5, 64)] :: [] :: []
def b_X5_boundOf_21 : List zE := (21, .aload_n 1, []) :: (22, .invokestatic 138, [1, 1]) :: (25, .lstore 7, []) :: (27, .aload_n 0, []) :: (28, .aload_n 2, []) :: (29, .aload_n 3, []) :: (30, .aload 4, []) :: (32, .invokevirtual 142, [2, 3, 5]) :: (35, .lstore 9, []) :: (37, .lload 7, []) :: (39, .invokestatic 77, [3, 1]) :: (42, .ifCond .eq 11, [53, 0]) :: (45, .lload 9, []) :: (47, .invokestatic 77, [3, 1]) :: (50, .ifCond .ne 7, [57, 0]) :: (53, .nop, [0]) :: []
def p_X5_boundOf_21 : List (List (Nat × Nat)) := [] :: [(5, 65)] :: [] :: [] :: [] :: [] :: [] :: [(5, 73)] :: [] :: [] :: [(4, 25)] :: [] :: [] :: [(4, 25)] :: [] :: [] :: []
def b_X5_boundOf_0 : List zE := (0, .aload_n 0, []) :: (1, .aload_n 1, []) :: (2, .aload_n 2, []) :: (3, .invokevirtual 132, [0, 2, 5]) :: (6, .lstore 5, []) :: (8, .lload 5, []) :: (10, .ldc2_w 119, [4607182418800017408]) :: (13, .lcmp, []) :: (14, .ifCond .lt 7, [21, 0]) :: (17, .ldc2_w 136, [13830554455654793216]) :: (20, .lreturn, []) :: []
def p_X5_boundOf_0 : List (List (Nat × Nat)) := [] :: [] :: [] :: [(5, 63)] :: [] :: [] :: [(5, 50)] :: [] :: [] :: [(5, 64)] :: [] :: []
def bl_X5_boundOf : List (Nat × List zE) := [(0, b_X5_boundOf_0), (21, b_X5_boundOf_21), (53, b_X5_boundOf_53), (57, b_X5_boundOf_57), (97, b_X5_boundOf_97), (122, b_X5_boundOf_122), (125, b_X5_boundOf_125)]
def pl_X5_boundOf : List (List (List (Nat × Nat))) := [p_X5_boundOf_0, p_X5_boundOf_21, p_X5_boundOf_53, p_X5_boundOf_57, p_X5_boundOf_97, p_X5_boundOf_122, p_X5_boundOf_125]
theorem k_X5_boundOf_0 : zlk 0 bl_X5_boundOf = b_X5_boundOf_0 := rfl
theorem k_X5_boundOf_21 : zlk 21 bl_X5_boundOf = b_X5_boundOf_21 := rfl
theorem k_X5_boundOf_53 : zlk 53 bl_X5_boundOf = b_X5_boundOf_53 := rfl
theorem k_X5_boundOf_57 : zlk 57 bl_X5_boundOf = b_X5_boundOf_57 := rfl
theorem k_X5_boundOf_97 : zlk 97 bl_X5_boundOf = b_X5_boundOf_97 := rfl
theorem k_X5_boundOf_122 : zlk 122 bl_X5_boundOf = b_X5_boundOf_122 := rfl
theorem k_X5_boundOf_125 : zlk 125 bl_X5_boundOf = b_X5_boundOf_125 := rfl
set_option maxRecDepth 100000 in
theorem ck_X5_boundOf : zall q_X5_boundOf.2.2.2.2.1 q_X5_boundOf.2.1 5 false q_X5_boundOf.2.2.1 cal_X5_boundOf q_X5_boundOf.2.2.2.1 bl_X5_boundOf pl_X5_boundOf = true := by decide +kernel
theorem nm_X5_boundOf : plainName q_X5_boundOf.1.cls = true ∧ zRX 5 = q_X5_boundOf.1.cls ∧ (false = true → q_X5_boundOf.1.name = "<init>") := ⟨by decide +kernel, rfl, fun h => by first | rfl | cases h⟩
set_option maxRecDepth 100000 in
theorem wd_X6_init : zwd q_X6_init := ⟨zw_in (p := (1, 185)) (by decide +kernel), zw_in (p := (1, 7)) (by decide +kernel), fun h => absurd h (by decide), fun _ => zw_in (p := (1, 184)) (by decide +kernel), fun h => absurd h (by decide)⟩
def cal_X6_init : List zCal := []
def b_X6_init_0 : List zE := (0, .aload_n 0, []) :: (1, .invokespecial 3, []) :: (4, .aload_n 0, []) :: (5, .sipush 600, [600]) :: (8, .newarray .int, [20]) :: (10, .putfield 11, [6, 3]) :: (13, .aload_n 0, []) :: (14, .sipush 600, [600]) :: (17, .newarray .int, [20]) :: (19, .putfield 15, [6, 4]) :: (22, .return_, []) :: []
def p_X6_init_0 : List (List (Nat × Nat)) := [] :: [(1, 186), (1, 21), (1, 22)] :: [] :: [] :: [(1, 108)] :: [(1, 191)] :: [] :: [] :: [(1, 108)] :: [(1, 192)] :: [] :: []
def bl_X6_init : List (Nat × List zE) := [(0, b_X6_init_0)]
def pl_X6_init : List (List (List (Nat × Nat))) := [p_X6_init_0]
theorem k_X6_init_0 : zlk 0 bl_X6_init = b_X6_init_0 := rfl
set_option maxRecDepth 100000 in
theorem ck_X6_init : zall q_X6_init.2.2.2.2.1 q_X6_init.2.1 6 true q_X6_init.2.2.1 cal_X6_init q_X6_init.2.2.2.1 bl_X6_init pl_X6_init = true := by decide +kernel
theorem nm_X6_init : plainName q_X6_init.1.cls = true ∧ zRX 6 = q_X6_init.1.cls ∧ (true = true → q_X6_init.1.name = "<init>") := ⟨by decide +kernel, rfl, fun h => by first | rfl | cases h⟩
set_option maxRecDepth 100000 in
theorem wd_X6_hasRoom : zwd q_X6_hasRoom := ⟨zw_in (p := (5, 158)) (by decide +kernel), zw_in (p := (1, 7)) (by decide +kernel), fun h => absurd h (by decide), fun _ => zw_in (p := (5, 156)) (by decide +kernel), fun _ => zw_in (p := (5, 157)) (by decide +kernel)⟩
def cal_X6_hasRoom : List zCal := []
def b_X6_hasRoom_17 : List zE := (17, .ireturn, []) :: []
def p_X6_hasRoom_17 : List (List (Nat × Nat)) := [] :: []
def b_X6_hasRoom_16 : List zE := (16, .iconst 0, [0]) :: (17, .nop, [0]) :: []
def p_X6_hasRoom_16 : List (List (Nat × Nat)) := [] :: [] :: []
def b_X6_hasRoom_0 : List zE := (0, .aload_n 0, []) :: (1, .getfield 18, [6, 0]) :: (4, .iload_n 1, []) :: (5, .iadd, []) :: (6, .sipush 600, [600]) :: (9, .if_icmp .gt 7, [16, 0]) :: (12, .iconst 1, [1]) :: (13, .goto 4, [17, 0]) :: []
def p_X6_hasRoom_0 : List (List (Nat × Nat)) := [] :: [(1, 187)] :: [] :: [] :: [] :: [] :: [] :: [] :: []
def bl_X6_hasRoom : List (Nat × List zE) := [(0, b_X6_hasRoom_0), (16, b_X6_hasRoom_16), (17, b_X6_hasRoom_17)]
def pl_X6_hasRoom : List (List (List (Nat × Nat))) := [p_X6_hasRoom_0, p_X6_hasRoom_16, p_X6_hasRoom_17]
theorem k_X6_hasRoom_0 : zlk 0 bl_X6_hasRoom = b_X6_hasRoom_0 := rfl
theorem k_X6_hasRoom_16 : zlk 16 bl_X6_hasRoom = b_X6_hasRoom_16 := rfl
theorem k_X6_hasRoom_17 : zlk 17 bl_X6_hasRoom = b_X6_hasRoom_17 := rfl
set_option maxRecDepth 100000 in
theorem ck_X6_hasRoom : zall q_X6_hasRoom.2.2.2.2.1 q_X6_hasRoom.2.1 6 false q_X6_hasRoom.2.2.1 cal_X6_hasRoom q_X6_hasRoom.2.2.2.1 bl_X6_hasRoom pl_X6_hasRoom = true := by decide +kernel
theorem nm_X6_hasRoom : plainName q_X6_hasRoom.1.cls = true ∧ zRX 6 = q_X6_hasRoom.1.cls ∧ (false = true → q_X6_hasRoom.1.name = "<init>") := ⟨by decide +kernel, rfl, fun h => by first | rfl | cases h⟩
set_option maxRecDepth 100000 in
theorem wd_X6_append : zwd q_X6_append := ⟨zw_in (p := (5, 162)) (by decide +kernel), zw_in (p := (1, 7)) (by decide +kernel), fun h => absurd h (by decide), fun _ => zw_in (p := (5, 160)) (by decide +kernel), fun _ => zw_in (p := (5, 161)) (by decide +kernel)⟩
def cal_X6_append : List zCal := []
def b_X6_append_49 : List zE := (49, .return_, []) :: []
def p_X6_append_49 : List (List (Nat × Nat)) := [] :: []
def b_X6_append_3 : List zE := (3, .iload_n 2, []) :: (4, .ifCond .lt 45, [49, 0]) :: (7, .aload_n 0, []) :: (8, .getfield 18, [6, 0]) :: (11, .sipush 600, [600]) :: (14, .if_icmp .ge 35, [49, 0]) :: (17, .aload_n 0, []) :: (18, .getfield 11, [6, 3]) :: (21, .aload_n 0, []) :: (22, .getfield 18, [6, 0]) :: (25, .iload_n 1, []) :: (26, .iload_n 2, []) :: (27, .iushr, []) :: (28, .sipush 255, [255]) :: (31, .iand, []) :: (32, .iastore, []) :: (33, .aload_n 0, []) :: (34, .dup, []) :: (35, .getfield 18, [6, 0]) :: (38, .iconst 1, [1]) :: (39, .iadd, []) :: (40, .putfield 18, [6, 0]) :: (43, .iinc 2 (-8), [4294967288]) :: (46, .goto (-43), [3, 1]) :: []
def p_X6_append_3 : List (List (Nat × Nat)) := [] :: [] :: [] :: [(1, 187)] :: [] :: [] :: [] :: [(1, 191)] :: [] :: [(1, 187)] :: [] :: [] :: [] :: [] :: [] :: [] :: [] :: [] :: [(1, 187)] :: [] :: [] :: [(1, 187)] :: [] :: [] :: []
def b_X6_append_0 : List zE := (0, .bipush 24, [24]) :: (2, .istore_n 2, []) :: (3, .nop, []) :: []
def p_X6_append_0 : List (List (Nat × Nat)) := [] :: [] :: [] :: []
def bl_X6_append : List (Nat × List zE) := [(0, b_X6_append_0), (3, b_X6_append_3), (49, b_X6_append_49)]
def pl_X6_append : List (List (List (Nat × Nat))) := [p_X6_append_0, p_X6_append_3, p_X6_append_49]
theorem k_X6_append_0 : zlk 0 bl_X6_append = b_X6_append_0 := rfl
theorem k_X6_append_3 : zlk 3 bl_X6_append = b_X6_append_3 := rfl
theorem k_X6_append_49 : zlk 49 bl_X6_append = b_X6_append_49 := rfl
set_option maxRecDepth 100000 in
theorem ck_X6_append : zall q_X6_append.2.2.2.2.1 q_X6_append.2.1 6 false q_X6_append.2.2.1 cal_X6_append q_X6_append.2.2.2.1 bl_X6_append pl_X6_append = true := by decide +kernel
theorem nm_X6_append : plainName q_X6_append.1.cls = true ∧ zRX 6 = q_X6_append.1.cls ∧ (false = true → q_X6_append.1.name = "<init>") := ⟨by decide +kernel, rfl, fun h => by first | rfl | cases h⟩
set_option maxRecDepth 100000 in
theorem wd_X6_packedAt : zwd q_X6_packedAt := ⟨zw_in (p := (5, 150)) (by decide +kernel), zw_in (p := (1, 7)) (by decide +kernel), fun h => absurd h (by decide), fun _ => zw_in (p := (5, 148)) (by decide +kernel), fun _ => zw_in (p := (5, 149)) (by decide +kernel)⟩
def cal_X6_packedAt : List zCal := []
def b_X6_packedAt_22 : List zE := (22, .ireturn, []) :: []
def p_X6_packedAt_22 : List (List (Nat × Nat)) := [] :: []
def b_X6_packedAt_21 : List zE := (21, .iconst (-1), [4294967295]) :: (22, .nop, [0]) :: []
def p_X6_packedAt_21 : List (List (Nat × Nat)) := [] :: [] :: []
def b_X6_packedAt_0 : List zE := (0, .iload_n 1, []) :: (1, .ifCond .lt 20, [21, 0]) :: (4, .iload_n 1, []) :: (5, .aload_n 0, []) :: (6, .getfield 22, [6, 1]) :: (9, .if_icmp .ge 12, [21, 0]) :: (12, .aload_n 0, []) :: (13, .getfield 15, [6, 4]) :: (16, .iload_n 1, []) :: (17, .iaload, []) :: (18, .goto 4, [22, 0]) :: []
def p_X6_packedAt_0 : List (List (Nat × Nat)) := [] :: [] :: [] :: [] :: [(1, 189)] :: [] :: [] :: [(1, 192)] :: [] :: [] :: [] :: []
def bl_X6_packedAt : List (Nat × List zE) := [(0, b_X6_packedAt_0), (21, b_X6_packedAt_21), (22, b_X6_packedAt_22)]
def pl_X6_packedAt : List (List (List (Nat × Nat))) := [p_X6_packedAt_0, p_X6_packedAt_21, p_X6_packedAt_22]
theorem k_X6_packedAt_0 : zlk 0 bl_X6_packedAt = b_X6_packedAt_0 := rfl
theorem k_X6_packedAt_21 : zlk 21 bl_X6_packedAt = b_X6_packedAt_21 := rfl
theorem k_X6_packedAt_22 : zlk 22 bl_X6_packedAt = b_X6_packedAt_22 := rfl
set_option maxRecDepth 100000 in
theorem ck_X6_packedAt : zall q_X6_packedAt.2.2.2.2.1 q_X6_packedAt.2.1 6 false q_X6_packedAt.2.2.1 cal_X6_packedAt q_X6_packedAt.2.2.2.1 bl_X6_packedAt pl_X6_packedAt = true := by decide +kernel
theorem nm_X6_packedAt : plainName q_X6_packedAt.1.cls = true ∧ zRX 6 = q_X6_packedAt.1.cls ∧ (false = true → q_X6_packedAt.1.name = "<init>") := ⟨by decide +kernel, rfl, fun h => by first | rfl | cases h⟩
set_option maxRecDepth 100000 in
theorem wd_X6_takePacked : zwd q_X6_takePacked := ⟨zw_in (p := (5, 174)) (by decide +kernel), zw_in (p := (1, 7)) (by decide +kernel), fun h => absurd h (by decide), fun _ => zw_in (p := (5, 172)) (by decide +kernel), fun _ => zw_in (p := (5, 173)) (by decide +kernel)⟩
def cal_X6_takePacked : List zCal := []
def b_X6_takePacked_28 : List zE := (28, .aload_n 0, []) :: (29, .aload_n 0, []) :: (30, .getfield 22, [6, 1]) :: (33, .putfield 18, [6, 0]) :: (36, .aload_n 0, []) :: (37, .getfield 18, [6, 0]) :: (40, .ireturn, []) :: []
def p_X6_takePacked_28 : List (List (Nat × Nat)) := [] :: [] :: [(1, 189)] :: [(1, 187)] :: [] :: [(1, 187)] :: [] :: []
def b_X6_takePacked_2 : List zE := (2, .iload_n 1, []) :: (3, .aload_n 0, []) :: (4, .getfield 22, [6, 1]) :: (7, .if_icmp .ge 21, [28, 0]) :: (10, .aload_n 0, []) :: (11, .getfield 11, [6, 3]) :: (14, .iload_n 1, []) :: (15, .aload_n 0, []) :: (16, .getfield 15, [6, 4]) :: (19, .iload_n 1, []) :: (20, .iaload, []) :: (21, .iastore, []) :: (22, .iinc 1 1, [1]) :: (25, .goto (-23), [2, 1]) :: []
def p_X6_takePacked_2 : List (List (Nat × Nat)) := [] :: [] :: [(1, 189)] :: [] :: [] :: [(1, 191)] :: [] :: [] :: [(1, 192)] :: [] :: [] :: [] :: [] :: [] :: []
def b_X6_takePacked_0 : List zE := (0, .iconst 0, [0]) :: (1, .istore_n 1, []) :: (2, .nop, []) :: []
def p_X6_takePacked_0 : List (List (Nat × Nat)) := [] :: [] :: [] :: []
def bl_X6_takePacked : List (Nat × List zE) := [(0, b_X6_takePacked_0), (2, b_X6_takePacked_2), (28, b_X6_takePacked_28)]
def pl_X6_takePacked : List (List (List (Nat × Nat))) := [p_X6_takePacked_0, p_X6_takePacked_2, p_X6_takePacked_28]
theorem k_X6_takePacked_0 : zlk 0 bl_X6_takePacked = b_X6_takePacked_0 := rfl
theorem k_X6_takePacked_2 : zlk 2 bl_X6_takePacked = b_X6_takePacked_2 := rfl
theorem k_X6_takePacked_28 : zlk 28 bl_X6_takePacked = b_X6_takePacked_28 := rfl
set_option maxRecDepth 100000 in
theorem ck_X6_takePacked : zall q_X6_takePacked.2.2.2.2.1 q_X6_takePacked.2.1 6 false q_X6_takePacked.2.2.1 cal_X6_takePacked q_X6_takePacked.2.2.2.1 bl_X6_takePacked pl_X6_takePacked = true := by decide +kernel
theorem nm_X6_takePacked : plainName q_X6_takePacked.1.cls = true ∧ zRX 6 = q_X6_takePacked.1.cls ∧ (false = true → q_X6_takePacked.1.name = "<init>") := ⟨by decide +kernel, rfl, fun h => by first | rfl | cases h⟩
set_option maxRecDepth 100000 in
theorem wd_X6_write : zwd q_X6_write := ⟨zw_in (p := (5, 131)) (by decide +kernel), zw_in (p := (1, 7)) (by decide +kernel), fun h => absurd h (by decide), fun _ => zw_in (p := (5, 130)) (by decide +kernel), fun _ => zw_in (p := (0, 45)) (by decide +kernel)⟩
def cal_X6_write : List zCal := []
def b_X6_write_34 : List zE := (34, .return_, []) :: []
def p_X6_write_34 : List (List (Nat × Nat)) := [] :: []
def b_X6_write_0 : List zE := (0, .aload_n 0, []) :: (1, .getfield 22, [6, 1]) :: (4, .sipush 600, [600]) :: (7, .if_icmp .ge 27, [34, 0]) :: (10, .aload_n 0, []) :: (11, .getfield 15, [6, 4]) :: (14, .aload_n 0, []) :: (15, .getfield 22, [6, 1]) :: (18, .iload_n 1, []) :: (19, .sipush 255, [255]) :: (22, .iand, []) :: (23, .iastore, []) :: (24, .aload_n 0, []) :: (25, .dup, []) :: (26, .getfield 22, [6, 1]) :: (29, .iconst 1, [1]) :: (30, .iadd, []) :: (31, .putfield 22, [6, 1]) :: (34, .nop, [0]) :: []
def p_X6_write_0 : List (List (Nat × Nat)) := [] :: [(1, 189)] :: [] :: [] :: [] :: [(1, 192)] :: [] :: [(1, 189)] :: [] :: [] :: [] :: [] :: [] :: [] :: [(1, 189)] :: [] :: [] :: [(1, 189)] :: [] :: []
def bl_X6_write : List (Nat × List zE) := [(0, b_X6_write_0), (34, b_X6_write_34)]
def pl_X6_write : List (List (List (Nat × Nat))) := [p_X6_write_0, p_X6_write_34]
theorem k_X6_write_0 : zlk 0 bl_X6_write = b_X6_write_0 := rfl
theorem k_X6_write_34 : zlk 34 bl_X6_write = b_X6_write_34 := rfl
set_option maxRecDepth 100000 in
theorem ck_X6_write : zall q_X6_write.2.2.2.2.1 q_X6_write.2.1 6 false q_X6_write.2.2.1 cal_X6_write q_X6_write.2.2.2.1 bl_X6_write pl_X6_write = true := by decide +kernel
theorem nm_X6_write : plainName q_X6_write.1.cls = true ∧ zRX 6 = q_X6_write.1.cls ∧ (false = true → q_X6_write.1.name = "<init>") := ⟨by decide +kernel, rfl, fun h => by first | rfl | cases h⟩
set_option maxRecDepth 100000 in
theorem wd_X6_writeNumber : zwd q_X6_writeNumber := ⟨zw_in (p := (5, 137)) (by decide +kernel), zw_in (p := (1, 7)) (by decide +kernel), fun h => absurd h (by decide), fun _ => zw_in (p := (5, 136)) (by decide +kernel), fun _ => zw_in (p := (0, 46)) (by decide +kernel)⟩
def cal_X6_writeNumber : List zCal := [q_X6_write]
def b_X6_writeNumber_21 : List zE := (21, .return_, []) :: []
def p_X6_writeNumber_21 : List (List (Nat × Nat)) := [] :: []
def b_X6_writeNumber_3 : List zE := (3, .iload_n 3, []) :: (4, .ifCond .lt 17, [21, 0]) :: (7, .aload_n 0, []) :: (8, .lload_n 1, []) :: (9, .iload_n 3, []) :: (10, .lushr, []) :: (11, .l2i, []) :: (12, .invokevirtual 25, [0, 1, 6]) :: (15, .iinc 3 (-8), [4294967288]) :: (18, .goto (-15), [3, 1]) :: []
def p_X6_writeNumber_3 : List (List (Nat × Nat)) := [] :: [] :: [] :: [] :: [] :: [] :: [] :: [(5, 128)] :: [] :: [] :: []
def b_X6_writeNumber_0 : List zE := (0, .bipush 56, [56]) :: (2, .istore_n 3, []) :: (3, .nop, []) :: []
def p_X6_writeNumber_0 : List (List (Nat × Nat)) := [] :: [] :: [] :: []
def bl_X6_writeNumber : List (Nat × List zE) := [(0, b_X6_writeNumber_0), (3, b_X6_writeNumber_3), (21, b_X6_writeNumber_21)]
def pl_X6_writeNumber : List (List (List (Nat × Nat))) := [p_X6_writeNumber_0, p_X6_writeNumber_3, p_X6_writeNumber_21]
theorem k_X6_writeNumber_0 : zlk 0 bl_X6_writeNumber = b_X6_writeNumber_0 := rfl
theorem k_X6_writeNumber_3 : zlk 3 bl_X6_writeNumber = b_X6_writeNumber_3 := rfl
theorem k_X6_writeNumber_21 : zlk 21 bl_X6_writeNumber = b_X6_writeNumber_21 := rfl
set_option maxRecDepth 100000 in
theorem ck_X6_writeNumber : zall q_X6_writeNumber.2.2.2.2.1 q_X6_writeNumber.2.1 6 false q_X6_writeNumber.2.2.1 cal_X6_writeNumber q_X6_writeNumber.2.2.2.1 bl_X6_writeNumber pl_X6_writeNumber = true := by decide +kernel
theorem nm_X6_writeNumber : plainName q_X6_writeNumber.1.cls = true ∧ zRX 6 = q_X6_writeNumber.1.cls ∧ (false = true → q_X6_writeNumber.1.name = "<init>") := ⟨by decide +kernel, rfl, fun h => by first | rfl | cases h⟩
set_option maxRecDepth 100000 in
theorem wd_X6_checkOf : zwd q_X6_checkOf := ⟨zw_in (p := (5, 141)) (by decide +kernel), zw_in (p := (1, 7)) (by decide +kernel), fun _ => zw_in (p := (5, 140)) (by decide +kernel), fun h => absurd rfl h, fun h => absurd h (by decide)⟩
def cal_X6_checkOf : List zCal := []
def b_X6_checkOf_33 : List zE := (33, .iload_n 2, []) :: (34, .ireturn, []) :: []
def p_X6_checkOf_33 : List (List (Nat × Nat)) := [] :: [] :: []
def b_X6_checkOf_4 : List zE := (4, .iload_n 3, []) :: (5, .iload_n 1, []) :: (6, .if_icmp .ge 27, [33, 0]) :: (9, .iload_n 3, []) :: (10, .aload_n 0, []) :: (11, .arraylength, []) :: (12, .if_icmp .ge 21, [33, 0]) :: (15, .bipush 31, [31]) :: (17, .iload_n 2, []) :: (18, .imul, []) :: (19, .aload_n 0, []) :: (20, .iload_n 3, []) :: (21, .iaload, []) :: (22, .iadd, []) :: (23, .ldc 66, [65521]) :: (25, .irem, []) :: (26, .istore_n 2, []) :: (27, .iinc 3 1, [1]) :: (30, .goto (-26), [4, 1]) :: []
def p_X6_checkOf_4 : List (List (Nat × Nat)) := [] :: [] :: [] :: [] :: [] :: [] :: [] :: [] :: [] :: [] :: [] :: [] :: [] :: [] :: [(5, 142)] :: [] :: [] :: [] :: [] :: []
def b_X6_checkOf_0 : List zE := (0, .iconst 1, [1]) :: (1, .istore_n 2, []) :: (2, .iconst 0, [0]) :: (3, .istore_n 3, []) :: (4, .nop, []) :: []
def p_X6_checkOf_0 : List (List (Nat × Nat)) := [] :: [] :: [] :: [] :: [] :: []
def bl_X6_checkOf : List (Nat × List zE) := [(0, b_X6_checkOf_0), (4, b_X6_checkOf_4), (33, b_X6_checkOf_33)]
def pl_X6_checkOf : List (List (List (Nat × Nat))) := [p_X6_checkOf_0, p_X6_checkOf_4, p_X6_checkOf_33]
theorem k_X6_checkOf_0 : zlk 0 bl_X6_checkOf = b_X6_checkOf_0 := rfl
theorem k_X6_checkOf_4 : zlk 4 bl_X6_checkOf = b_X6_checkOf_4 := rfl
theorem k_X6_checkOf_33 : zlk 33 bl_X6_checkOf = b_X6_checkOf_33 := rfl
set_option maxRecDepth 100000 in
theorem ck_X6_checkOf : zall q_X6_checkOf.2.2.2.2.1 q_X6_checkOf.2.1 6 false q_X6_checkOf.2.2.1 cal_X6_checkOf q_X6_checkOf.2.2.2.1 bl_X6_checkOf pl_X6_checkOf = true := by decide +kernel
theorem nm_X6_checkOf : plainName q_X6_checkOf.1.cls = true ∧ zRX 6 = q_X6_checkOf.1.cls ∧ (false = true → q_X6_checkOf.1.name = "<init>") := ⟨by decide +kernel, rfl, fun h => by first | rfl | cases h⟩
set_option maxRecDepth 100000 in
theorem wd_X6_writeMatrix : zwd q_X6_writeMatrix := ⟨zw_in (p := (5, 127)) (by decide +kernel), zw_in (p := (1, 7)) (by decide +kernel), fun h => absurd h (by decide), fun _ => zw_in (p := (5, 125)) (by decide +kernel), fun _ => zw_in (p := (5, 126)) (by decide +kernel)⟩
def cal_X6_writeMatrix : List zCal := [q_X6_write, q_X3_filled, q_X3_at, q_X6_writeNumber, q_X3_hasPlace, q_X6_checkOf]
def b_X6_writeMatrix_177 : List zE := (177, .aload_n 0, []) :: (178, .getfield 15, [6, 4]) :: (181, .aload_n 0, []) :: (182, .getfield 22, [6, 1]) :: (185, .invokestatic 62, [5, 2]) :: (188, .istore_n 3, []) :: (189, .aload_n 0, []) :: (190, .iload_n 3, []) :: (191, .bipush 8, [8]) :: (193, .iushr, []) :: (194, .invokevirtual 25, [0, 1, 6]) :: (197, .aload_n 0, []) :: (198, .iload_n 3, []) :: (199, .invokevirtual 25, [0, 1, 6]) :: (202, .aload_n 0, []) :: (203, .getfield 22, [6, 1]) :: (206, .ireturn, []) :: []
def p_X6_writeMatrix_177 : List (List (Nat × Nat)) := [] :: [(1, 192)] :: [] :: [(1, 189)] :: [(5, 139)] :: [] :: [] :: [] :: [] :: [] :: [(5, 128)] :: [] :: [] :: [(5, 128)] :: [] :: [(1, 189)] :: [] :: []
def b_X6_writeMatrix_171 : List zE := (171, .iinc 3 1, [1]) :: (174, .goto (-95), [79, 1]) :: []
def p_X6_writeMatrix_171 : List (List (Nat × Nat)) := [] :: [] :: []
def b_X6_writeMatrix_165 : List zE := (165, .iinc 4 1, [1]) :: (168, .goto (-78), [90, 1]) :: []
def p_X6_writeMatrix_165 : List (List (Nat × Nat)) := [] :: [] :: []
def b_X6_writeMatrix_140 : List zE := (140, .iload_n 2, []) :: (141, .ifCond .ne 24, [165, 0]) :: (144, .aload_n 1, []) :: (145, .iload_n 3, []) :: (146, .iload 4, []) :: (148, .invokevirtual 58, [4, 2, 3]) :: (151, .ifCond .eq 14, [165, 0]) :: (154, .aload_n 0, []) :: (155, .aload_n 1, []) :: (156, .iload_n 3, []) :: (157, .iload 4, []) :: (159, .invokevirtual 50, [2, 2, 3]) :: (162, .invokevirtual 54, [3, 1, 6]) :: (165, .nop, [0]) :: []
def p_X6_writeMatrix_140 : List (List (Nat × Nat)) := [] :: [] :: [] :: [] :: [] :: [(5, 138)] :: [] :: [] :: [] :: [] :: [] :: [(5, 133)] :: [(5, 134)] :: [] :: []
def b_X6_writeMatrix_90 : List zE := (90, .iload 4, []) :: (92, .aload_n 1, []) :: (93, .getfield 37, [3, 3]) :: (96, .if_icmp .ge 75, [171, 0]) :: (99, .iload_n 2, []) :: (100, .ifCond .eq 40, [140, 0]) :: (103, .aload_n 1, []) :: (104, .iload_n 3, []) :: (105, .iload 4, []) :: (107, .invokevirtual 50, [2, 2, 3]) :: (110, .lconst 0, [0]) :: (111, .lcmp, []) :: (112, .ifCond .eq 28, [140, 0]) :: (115, .aload_n 0, []) :: (116, .iload_n 3, []) :: (117, .invokevirtual 25, [0, 1, 6]) :: (120, .aload_n 0, []) :: (121, .iload 4, []) :: (123, .invokevirtual 25, [0, 1, 6]) :: (126, .aload_n 0, []) :: (127, .aload_n 1, []) :: (128, .iload_n 3, []) :: (129, .iload 4, []) :: (131, .invokevirtual 50, [2, 2, 3]) :: (134, .invokevirtual 54, [3, 1, 6]) :: (137, .goto 28, [165, 0]) :: []
def p_X6_writeMatrix_90 : List (List (Nat × Nat)) := [] :: [] :: [(1, 225)] :: [] :: [] :: [] :: [] :: [] :: [] :: [(5, 133)] :: [] :: [] :: [] :: [] :: [] :: [(5, 128)] :: [] :: [] :: [(5, 128)] :: [] :: [] :: [] :: [] :: [(5, 133)] :: [(5, 134)] :: [] :: []
def b_X6_writeMatrix_79 : List zE := (79, .iload_n 3, []) :: (80, .aload_n 1, []) :: (81, .getfield 34, [3, 2]) :: (84, .if_icmp .ge 93, [177, 0]) :: (87, .iconst 0, [0]) :: (88, .istore 4, []) :: (90, .nop, []) :: []
def p_X6_writeMatrix_79 : List (List (Nat × Nat)) := [] :: [] :: [(1, 220)] :: [] :: [] :: [] :: [] :: []
def b_X6_writeMatrix_77 : List zE := (77, .iconst 0, [0]) :: (78, .istore_n 3, []) :: (79, .nop, []) :: []
def p_X6_writeMatrix_77 : List (List (Nat × Nat)) := [] :: [] :: [] :: []
def b_X6_writeMatrix_64 : List zE := (64, .istore_n 2, []) :: (65, .iload_n 2, []) :: (66, .ifCond .eq 11, [77, 0]) :: (69, .aload_n 0, []) :: (70, .aload_n 1, []) :: (71, .invokevirtual 46, [1, 0, 3]) :: (74, .invokevirtual 25, [0, 1, 6]) :: (77, .nop, [0]) :: []
def p_X6_writeMatrix_64 : List (List (Nat × Nat)) := [] :: [] :: [] :: [] :: [] :: [(5, 132)] :: [(5, 128)] :: [] :: []
def b_X6_writeMatrix_63 : List zE := (63, .iconst 0, [0]) :: (64, .nop, [0]) :: []
def p_X6_writeMatrix_63 : List (List (Nat × Nat)) := [] :: [] :: []
def b_X6_writeMatrix_0 : List zE := (0, .aload_n 0, []) :: (1, .iconst 0, [0]) :: (2, .putfield 22, [6, 1]) :: (5, .aload_n 0, []) :: (6, .bipush 77, [77]) :: (8, .invokevirtual 25, [0, 1, 6]) :: (11, .aload_n 0, []) :: (12, .aload_n 1, []) :: (13, .getfield 29, [3, 1]) :: (16, .invokevirtual 25, [0, 1, 6]) :: (19, .aload_n 0, []) :: (20, .aload_n 1, []) :: (21, .getfield 34, [3, 2]) :: (24, .invokevirtual 25, [0, 1, 6]) :: (27, .aload_n 0, []) :: (28, .aload_n 1, []) :: (29, .getfield 37, [3, 3]) :: (32, .invokevirtual 25, [0, 1, 6]) :: (35, .aload_n 0, []) :: (36, .aload_n 1, []) :: (37, .getfield 40, [3, 4]) :: (40, .invokevirtual 25, [0, 1, 6]) :: (43, .aload_n 0, []) :: (44, .aload_n 1, []) :: (45, .getfield 43, [3, 5]) :: (48, .invokevirtual 25, [0, 1, 6]) :: (51, .aload_n 1, []) :: (52, .getfield 29, [3, 1]) :: (55, .iconst 3, [3]) :: (56, .if_icmp .ne 7, [63, 0]) :: (59, .iconst 1, [1]) :: (60, .goto 4, [64, 0]) :: []
def p_X6_writeMatrix_0 : List (List (Nat × Nat)) := [] :: [] :: [(1, 189)] :: [] :: [] :: [(5, 128)] :: [] :: [] :: [(1, 213)] :: [(5, 128)] :: [] :: [] :: [(1, 220)] :: [(5, 128)] :: [] :: [] :: [(1, 225)] :: [(5, 128)] :: [] :: [] :: [(1, 228)] :: [(5, 128)] :: [] :: [] :: [(1, 231)] :: [(5, 128)] :: [] :: [(1, 213)] :: [] :: [] :: [] :: [] :: []
def bl_X6_writeMatrix : List (Nat × List zE) := [(0, b_X6_writeMatrix_0), (63, b_X6_writeMatrix_63), (64, b_X6_writeMatrix_64), (77, b_X6_writeMatrix_77), (79, b_X6_writeMatrix_79), (90, b_X6_writeMatrix_90), (140, b_X6_writeMatrix_140), (165, b_X6_writeMatrix_165), (171, b_X6_writeMatrix_171), (177, b_X6_writeMatrix_177)]
def pl_X6_writeMatrix : List (List (List (Nat × Nat))) := [p_X6_writeMatrix_0, p_X6_writeMatrix_63, p_X6_writeMatrix_64, p_X6_writeMatrix_77, p_X6_writeMatrix_79, p_X6_writeMatrix_90, p_X6_writeMatrix_140, p_X6_writeMatrix_165, p_X6_writeMatrix_171, p_X6_writeMatrix_177]
theorem k_X6_writeMatrix_0 : zlk 0 bl_X6_writeMatrix = b_X6_writeMatrix_0 := rfl
theorem k_X6_writeMatrix_63 : zlk 63 bl_X6_writeMatrix = b_X6_writeMatrix_63 := rfl
theorem k_X6_writeMatrix_64 : zlk 64 bl_X6_writeMatrix = b_X6_writeMatrix_64 := rfl
theorem k_X6_writeMatrix_77 : zlk 77 bl_X6_writeMatrix = b_X6_writeMatrix_77 := rfl
theorem k_X6_writeMatrix_79 : zlk 79 bl_X6_writeMatrix = b_X6_writeMatrix_79 := rfl
theorem k_X6_writeMatrix_90 : zlk 90 bl_X6_writeMatrix = b_X6_writeMatrix_90 := rfl
theorem k_X6_writeMatrix_140 : zlk 140 bl_X6_writeMatrix = b_X6_writeMatrix_140 := rfl
theorem k_X6_writeMatrix_165 : zlk 165 bl_X6_writeMatrix = b_X6_writeMatrix_165 := rfl
theorem k_X6_writeMatrix_171 : zlk 171 bl_X6_writeMatrix = b_X6_writeMatrix_171 := rfl
theorem k_X6_writeMatrix_177 : zlk 177 bl_X6_writeMatrix = b_X6_writeMatrix_177 := rfl
set_option maxRecDepth 100000 in
theorem ck_X6_writeMatrix : zall q_X6_writeMatrix.2.2.2.2.1 q_X6_writeMatrix.2.1 6 false q_X6_writeMatrix.2.2.1 cal_X6_writeMatrix q_X6_writeMatrix.2.2.2.1 bl_X6_writeMatrix pl_X6_writeMatrix = true := by decide +kernel
theorem nm_X6_writeMatrix : plainName q_X6_writeMatrix.1.cls = true ∧ zRX 6 = q_X6_writeMatrix.1.cls ∧ (false = true → q_X6_writeMatrix.1.name = "<init>") := ⟨by decide +kernel, rfl, fun h => by first | rfl | cases h⟩
set_option maxRecDepth 100000 in
theorem wd_X6_next : zwd q_X6_next := ⟨zw_in (p := (5, 186)) (by decide +kernel), zw_in (p := (1, 7)) (by decide +kernel), fun h => absurd h (by decide), fun _ => zw_in (p := (5, 185)) (by decide +kernel), fun _ => zw_in (p := (0, 47)) (by decide +kernel)⟩
def cal_X6_next : List zCal := []
def b_X6_next_13 : List zE := (13, .aload_n 0, []) :: (14, .dup, []) :: (15, .getfield 67, [6, 2]) :: (18, .iconst 1, [1]) :: (19, .iadd, []) :: (20, .putfield 67, [6, 2]) :: (23, .aload_n 0, []) :: (24, .getfield 11, [6, 3]) :: (27, .aload_n 0, []) :: (28, .getfield 67, [6, 2]) :: (31, .iconst 1, [1]) :: (32, .isub, []) :: (33, .iaload, []) :: (34, .ireturn, []) :: []
def p_X6_next_13 : List (List (Nat × Nat)) := [] :: [] :: [(1, 190)] :: [] :: [] :: [(1, 190)] :: [] :: [(1, 191)] :: [] :: [(1, 190)] :: [] :: [] :: [] :: [] :: []
def b_X6_next_0 : List zE := (0, .aload_n 0, []) :: (1, .getfield 67, [6, 2]) :: (4, .aload_n 0, []) :: (5, .getfield 18, [6, 0]) :: (8, .if_icmp .lt 5, [13, 0]) :: (11, .iconst (-1), [4294967295]) :: (12, .ireturn, []) :: []
def p_X6_next_0 : List (List (Nat × Nat)) := [] :: [(1, 190)] :: [] :: [(1, 187)] :: [] :: [] :: [] :: []
def bl_X6_next : List (Nat × List zE) := [(0, b_X6_next_0), (13, b_X6_next_13)]
def pl_X6_next : List (List (List (Nat × Nat))) := [p_X6_next_0, p_X6_next_13]
theorem k_X6_next_0 : zlk 0 bl_X6_next = b_X6_next_0 := rfl
theorem k_X6_next_13 : zlk 13 bl_X6_next = b_X6_next_13 := rfl
set_option maxRecDepth 100000 in
theorem ck_X6_next : zall q_X6_next.2.2.2.2.1 q_X6_next.2.1 6 false q_X6_next.2.2.1 cal_X6_next q_X6_next.2.2.2.1 bl_X6_next pl_X6_next = true := by decide +kernel
theorem nm_X6_next : plainName q_X6_next.1.cls = true ∧ zRX 6 = q_X6_next.1.cls ∧ (false = true → q_X6_next.1.name = "<init>") := ⟨by decide +kernel, rfl, fun h => by first | rfl | cases h⟩
set_option maxRecDepth 100000 in
theorem wd_X6_nextNumber : zwd q_X6_nextNumber := ⟨zw_in (p := (5, 201)) (by decide +kernel), zw_in (p := (1, 7)) (by decide +kernel), fun h => absurd h (by decide), fun _ => zw_in (p := (5, 200)) (by decide +kernel), fun _ => zw_in (p := (0, 50)) (by decide +kernel)⟩
def cal_X6_nextNumber : List zCal := [q_X6_next]
def b_X6_nextNumber_31 : List zE := (31, .lload_n 1, []) :: (32, .lreturn, []) :: []
def p_X6_nextNumber_31 : List (List (Nat × Nat)) := [] :: [] :: []
def b_X6_nextNumber_4 : List zE := (4, .iload_n 3, []) :: (5, .bipush 8, [8]) :: (7, .if_icmp .ge 24, [31, 0]) :: (10, .lload_n 1, []) :: (11, .bipush 8, [8]) :: (13, .lshl, []) :: (14, .aload_n 0, []) :: (15, .invokevirtual 70, [0, 0, 6]) :: (18, .sipush 255, [255]) :: (21, .iand, []) :: (22, .i2l, []) :: (23, .lor, []) :: (24, .lstore_n 1, []) :: (25, .iinc 3 1, [1]) :: (28, .goto (-24), [4, 1]) :: []
def p_X6_nextNumber_4 : List (List (Nat × Nat)) := [] :: [] :: [] :: [] :: [] :: [] :: [] :: [(5, 183)] :: [] :: [] :: [] :: [] :: [] :: [] :: [] :: []
def b_X6_nextNumber_0 : List zE := (0, .lconst 0, [0]) :: (1, .lstore_n 1, []) :: (2, .iconst 0, [0]) :: (3, .istore_n 3, []) :: (4, .nop, []) :: []
def p_X6_nextNumber_0 : List (List (Nat × Nat)) := [] :: [] :: [] :: [] :: [] :: []
def bl_X6_nextNumber : List (Nat × List zE) := [(0, b_X6_nextNumber_0), (4, b_X6_nextNumber_4), (31, b_X6_nextNumber_31)]
def pl_X6_nextNumber : List (List (List (Nat × Nat))) := [p_X6_nextNumber_0, p_X6_nextNumber_4, p_X6_nextNumber_31]
theorem k_X6_nextNumber_0 : zlk 0 bl_X6_nextNumber = b_X6_nextNumber_0 := rfl
theorem k_X6_nextNumber_4 : zlk 4 bl_X6_nextNumber = b_X6_nextNumber_4 := rfl
theorem k_X6_nextNumber_31 : zlk 31 bl_X6_nextNumber = b_X6_nextNumber_31 := rfl
set_option maxRecDepth 100000 in
theorem ck_X6_nextNumber : zall q_X6_nextNumber.2.2.2.2.1 q_X6_nextNumber.2.1 6 false q_X6_nextNumber.2.2.1 cal_X6_nextNumber q_X6_nextNumber.2.2.2.1 bl_X6_nextNumber pl_X6_nextNumber = true := by decide +kernel
theorem nm_X6_nextNumber : plainName q_X6_nextNumber.1.cls = true ∧ zRX 6 = q_X6_nextNumber.1.cls ∧ (false = true → q_X6_nextNumber.1.name = "<init>") := ⟨by decide +kernel, rfl, fun h => by first | rfl | cases h⟩
set_option maxRecDepth 100000 in
theorem wd_X6_readNumber : zwd q_X6_readNumber := ⟨zw_in (p := (5, 197)) (by decide +kernel), zw_in (p := (1, 7)) (by decide +kernel), fun h => absurd h (by decide), fun _ => zw_in (p := (5, 196)) (by decide +kernel), fun _ => zw_in (p := (0, 49)) (by decide +kernel)⟩
def cal_X6_readNumber : List zCal := [q_X6_nextNumber, q_X3_store, q_X0_finite]
def b_X6_readNumber_54 : List zE := (54, .ireturn, []) :: []
def p_X6_readNumber_54 : List (List (Nat × Nat)) := [] :: []
def b_X6_readNumber_53 : List zE := (53, .iconst 0, [0]) :: (54, .nop, [0]) :: []
def p_X6_readNumber_53 : List (List (Nat × Nat)) := [] :: [] :: []
def b_X6_readNumber_18 : List zE := (18, .aload_n 0, []) :: (19, .invokevirtual 92, [0, 0, 6]) :: (22, .lstore 4, []) :: (24, .aload_n 1, []) :: (25, .iload_n 2, []) :: (26, .iload_n 3, []) :: (27, .lload 4, []) :: (29, .invokevirtual 96, [1, 3, 3]) :: (32, .lload 4, []) :: (34, .invokestatic 100, [2, 1]) :: (37, .ifCond .eq 16, [53, 0]) :: (40, .lload 4, []) :: (42, .ldc2_w 106, [9223372036854775808]) :: (45, .lcmp, []) :: (46, .ifCond .eq 7, [53, 0]) :: (49, .iconst 1, [1]) :: (50, .goto 4, [54, 0]) :: []
def p_X6_readNumber_18 : List (List (Nat × Nat)) := [] :: [(5, 198)] :: [] :: [] :: [] :: [] :: [] :: [(5, 202)] :: [] :: [(5, 203)] :: [] :: [] :: [(5, 204)] :: [] :: [] :: [] :: [] :: []
def b_X6_readNumber_0 : List zE := (0, .aload_n 0, []) :: (1, .getfield 67, [6, 2]) :: (4, .bipush 8, [8]) :: (6, .iadd, []) :: (7, .aload_n 0, []) :: (8, .getfield 18, [6, 0]) :: (11, .iconst 2, [2]) :: (12, .isub, []) :: (13, .if_icmp .le 5, [18, 0]) :: (16, .iconst 0, [0]) :: (17, .ireturn, []) :: []
def p_X6_readNumber_0 : List (List (Nat × Nat)) := [] :: [(1, 190)] :: [] :: [] :: [] :: [(1, 187)] :: [] :: [] :: [] :: [] :: [] :: []
def bl_X6_readNumber : List (Nat × List zE) := [(0, b_X6_readNumber_0), (18, b_X6_readNumber_18), (53, b_X6_readNumber_53), (54, b_X6_readNumber_54)]
def pl_X6_readNumber : List (List (List (Nat × Nat))) := [p_X6_readNumber_0, p_X6_readNumber_18, p_X6_readNumber_53, p_X6_readNumber_54]
theorem k_X6_readNumber_0 : zlk 0 bl_X6_readNumber = b_X6_readNumber_0 := rfl
theorem k_X6_readNumber_18 : zlk 18 bl_X6_readNumber = b_X6_readNumber_18 := rfl
theorem k_X6_readNumber_53 : zlk 53 bl_X6_readNumber = b_X6_readNumber_53 := rfl
theorem k_X6_readNumber_54 : zlk 54 bl_X6_readNumber = b_X6_readNumber_54 := rfl
set_option maxRecDepth 100000 in
theorem ck_X6_readNumber : zall q_X6_readNumber.2.2.2.2.1 q_X6_readNumber.2.1 6 false q_X6_readNumber.2.2.1 cal_X6_readNumber q_X6_readNumber.2.2.2.1 bl_X6_readNumber pl_X6_readNumber = true := by decide +kernel
theorem nm_X6_readNumber : plainName q_X6_readNumber.1.cls = true ∧ zRX 6 = q_X6_readNumber.1.cls ∧ (false = true → q_X6_readNumber.1.name = "<init>") := ⟨by decide +kernel, rfl, fun h => by first | rfl | cases h⟩
set_option maxRecDepth 100000 in
theorem wd_X6_readSparse : zwd q_X6_readSparse := ⟨zw_in (p := (5, 192)) (by decide +kernel), zw_in (p := (1, 7)) (by decide +kernel), fun h => absurd h (by decide), fun _ => zw_in (p := (5, 191)) (by decide +kernel), fun _ => zw_in (p := (0, 48)) (by decide +kernel)⟩
def cal_X6_readSparse : List zCal := [q_X6_next, q_X3_inside, q_X6_readNumber, q_X3_at]
def b_X6_readSparse_123 : List zE := (123, .iconst 1, [1]) :: (124, .ireturn, []) :: []
def p_X6_readSparse_123 : List (List (Nat × Nat)) := [] :: [] :: []
def b_X6_readSparse_114 : List zE := (114, .iload 7, []) :: (116, .istore_n 3, []) :: (117, .iinc 4 1, [1]) :: (120, .goto (-80), [40, 1]) :: []
def p_X6_readSparse_114 : List (List (Nat × Nat)) := [] :: [] :: [] :: [] :: []
def b_X6_readSparse_99 : List zE := (99, .aload_n 1, []) :: (100, .iload 5, []) :: (102, .iload 6, []) :: (104, .invokevirtual 50, [3, 2, 3]) :: (107, .lconst 0, [0]) :: (108, .lcmp, []) :: (109, .ifCond .ne 5, [114, 0]) :: (112, .iconst 0, [0]) :: (113, .ireturn, []) :: []
def p_X6_readSparse_99 : List (List (Nat × Nat)) := [] :: [] :: [] :: [(5, 133)] :: [] :: [] :: [] :: [] :: [] :: []
def b_X6_readSparse_97 : List zE := (97, .iconst 0, [0]) :: (98, .ireturn, []) :: []
def p_X6_readSparse_97 : List (List (Nat × Nat)) := [] :: [] :: []
def b_X6_readSparse_40 : List zE := (40, .iload 4, []) :: (42, .iload_n 2, []) :: (43, .if_icmp .ge 80, [123, 0]) :: (46, .aload_n 0, []) :: (47, .invokevirtual 70, [0, 0, 6]) :: (50, .istore 5, []) :: (52, .aload_n 0, []) :: (53, .invokevirtual 70, [0, 0, 6]) :: (56, .istore 6, []) :: (58, .iload 5, []) :: (60, .bipush 8, [8]) :: (62, .imul, []) :: (63, .iload 6, []) :: (65, .iadd, []) :: (66, .istore 7, []) :: (68, .aload_n 1, []) :: (69, .iload 5, []) :: (71, .iload 6, []) :: (73, .invokevirtual 108, [1, 2, 3]) :: (76, .ifCond .eq 21, [97, 0]) :: (79, .iload 7, []) :: (81, .iload_n 3, []) :: (82, .if_icmp .le 15, [97, 0]) :: (85, .aload_n 0, []) :: (86, .aload_n 1, []) :: (87, .iload 5, []) :: (89, .iload 6, []) :: (91, .invokevirtual 88, [2, 3, 6]) :: (94, .ifCond .ne 5, [99, 0]) :: (97, .nop, [0]) :: []
def p_X6_readSparse_40 : List (List (Nat × Nat)) := [] :: [] :: [] :: [] :: [(5, 183)] :: [] :: [] :: [(5, 183)] :: [] :: [] :: [] :: [] :: [] :: [] :: [] :: [] :: [] :: [] :: [(5, 193)] :: [] :: [] :: [] :: [] :: [] :: [] :: [] :: [] :: [(5, 194)] :: [] :: [] :: []
def b_X6_readSparse_35 : List zE := (35, .iconst (-1), [4294967295]) :: (36, .istore_n 3, []) :: (37, .iconst 0, [0]) :: (38, .istore 4, []) :: (40, .nop, []) :: []
def p_X6_readSparse_35 : List (List (Nat × Nat)) := [] :: [] :: [] :: [] :: [] :: []
def b_X6_readSparse_33 : List zE := (33, .iconst 0, [0]) :: (34, .ireturn, []) :: []
def p_X6_readSparse_33 : List (List (Nat × Nat)) := [] :: [] :: []
def b_X6_readSparse_0 : List zE := (0, .aload_n 0, []) :: (1, .invokevirtual 70, [0, 0, 6]) :: (4, .istore_n 2, []) :: (5, .iload_n 2, []) :: (6, .ifCond .lt 27, [33, 0]) :: (9, .iload_n 2, []) :: (10, .bipush 20, [20]) :: (12, .if_icmp .gt 21, [33, 0]) :: (15, .aload_n 0, []) :: (16, .getfield 67, [6, 2]) :: (19, .bipush 10, [10]) :: (21, .iload_n 2, []) :: (22, .imul, []) :: (23, .iadd, []) :: (24, .aload_n 0, []) :: (25, .getfield 18, [6, 0]) :: (28, .iconst 2, [2]) :: (29, .isub, []) :: (30, .if_icmp .eq 5, [35, 0]) :: (33, .nop, [0]) :: []
def p_X6_readSparse_0 : List (List (Nat × Nat)) := [] :: [(5, 183)] :: [] :: [] :: [] :: [] :: [] :: [] :: [] :: [(1, 190)] :: [] :: [] :: [] :: [] :: [] :: [(1, 187)] :: [] :: [] :: [] :: [] :: []
def bl_X6_readSparse : List (Nat × List zE) := [(0, b_X6_readSparse_0), (33, b_X6_readSparse_33), (35, b_X6_readSparse_35), (40, b_X6_readSparse_40), (97, b_X6_readSparse_97), (99, b_X6_readSparse_99), (114, b_X6_readSparse_114), (123, b_X6_readSparse_123)]
def pl_X6_readSparse : List (List (List (Nat × Nat))) := [p_X6_readSparse_0, p_X6_readSparse_33, p_X6_readSparse_35, p_X6_readSparse_40, p_X6_readSparse_97, p_X6_readSparse_99, p_X6_readSparse_114, p_X6_readSparse_123]
theorem k_X6_readSparse_0 : zlk 0 bl_X6_readSparse = b_X6_readSparse_0 := rfl
theorem k_X6_readSparse_33 : zlk 33 bl_X6_readSparse = b_X6_readSparse_33 := rfl
theorem k_X6_readSparse_35 : zlk 35 bl_X6_readSparse = b_X6_readSparse_35 := rfl
theorem k_X6_readSparse_40 : zlk 40 bl_X6_readSparse = b_X6_readSparse_40 := rfl
theorem k_X6_readSparse_97 : zlk 97 bl_X6_readSparse = b_X6_readSparse_97 := rfl
theorem k_X6_readSparse_99 : zlk 99 bl_X6_readSparse = b_X6_readSparse_99 := rfl
theorem k_X6_readSparse_114 : zlk 114 bl_X6_readSparse = b_X6_readSparse_114 := rfl
theorem k_X6_readSparse_123 : zlk 123 bl_X6_readSparse = b_X6_readSparse_123 := rfl
set_option maxRecDepth 100000 in
theorem ck_X6_readSparse : zall q_X6_readSparse.2.2.2.2.1 q_X6_readSparse.2.1 6 false q_X6_readSparse.2.2.1 cal_X6_readSparse q_X6_readSparse.2.2.2.1 bl_X6_readSparse pl_X6_readSparse = true := by decide +kernel
theorem nm_X6_readSparse : plainName q_X6_readSparse.1.cls = true ∧ zRX 6 = q_X6_readSparse.1.cls ∧ (false = true → q_X6_readSparse.1.name = "<init>") := ⟨by decide +kernel, rfl, fun h => by first | rfl | cases h⟩
set_option maxRecDepth 100000 in
theorem wd_X6_readPlaces : zwd q_X6_readPlaces := ⟨zw_in (p := (5, 208)) (by decide +kernel), zw_in (p := (1, 7)) (by decide +kernel), fun h => absurd h (by decide), fun _ => zw_in (p := (5, 207)) (by decide +kernel), fun _ => zw_in (p := (0, 51)) (by decide +kernel)⟩
def cal_X6_readPlaces : List zCal := [q_X3_hasPlace, q_X6_readNumber]
def b_X6_readPlaces_53 : List zE := (53, .iconst 1, [1]) :: (54, .ireturn, []) :: []
def p_X6_readPlaces_53 : List (List (Nat × Nat)) := [] :: [] :: []
def b_X6_readPlaces_47 : List zE := (47, .iinc 2 1, [1]) :: (50, .goto (-48), [2, 1]) :: []
def p_X6_readPlaces_47 : List (List (Nat × Nat)) := [] :: [] :: []
def b_X6_readPlaces_41 : List zE := (41, .iinc 3 1, [1]) :: (44, .goto (-32), [12, 1]) :: []
def p_X6_readPlaces_41 : List (List (Nat × Nat)) := [] :: [] :: []
def b_X6_readPlaces_12 : List zE := (12, .iload_n 3, []) :: (13, .aload_n 1, []) :: (14, .getfield 37, [3, 3]) :: (17, .if_icmp .ge 30, [47, 0]) :: (20, .aload_n 1, []) :: (21, .iload_n 2, []) :: (22, .iload_n 3, []) :: (23, .invokevirtual 58, [0, 2, 3]) :: (26, .ifCond .eq 15, [41, 0]) :: (29, .aload_n 0, []) :: (30, .aload_n 1, []) :: (31, .iload_n 2, []) :: (32, .iload_n 3, []) :: (33, .invokevirtual 88, [1, 3, 6]) :: (36, .ifCond .ne 5, [41, 0]) :: (39, .iconst 0, [0]) :: (40, .ireturn, []) :: []
def p_X6_readPlaces_12 : List (List (Nat × Nat)) := [] :: [] :: [(1, 225)] :: [] :: [] :: [] :: [] :: [(5, 138)] :: [] :: [] :: [] :: [] :: [] :: [(5, 194)] :: [] :: [] :: [] :: []
def b_X6_readPlaces_2 : List zE := (2, .iload_n 2, []) :: (3, .aload_n 1, []) :: (4, .getfield 34, [3, 2]) :: (7, .if_icmp .ge 46, [53, 0]) :: (10, .iconst 0, [0]) :: (11, .istore_n 3, []) :: (12, .nop, []) :: []
def p_X6_readPlaces_2 : List (List (Nat × Nat)) := [] :: [] :: [(1, 220)] :: [] :: [] :: [] :: [] :: []
def b_X6_readPlaces_0 : List zE := (0, .iconst 0, [0]) :: (1, .istore_n 2, []) :: (2, .nop, []) :: []
def p_X6_readPlaces_0 : List (List (Nat × Nat)) := [] :: [] :: [] :: []
def bl_X6_readPlaces : List (Nat × List zE) := [(0, b_X6_readPlaces_0), (2, b_X6_readPlaces_2), (12, b_X6_readPlaces_12), (41, b_X6_readPlaces_41), (47, b_X6_readPlaces_47), (53, b_X6_readPlaces_53)]
def pl_X6_readPlaces : List (List (List (Nat × Nat))) := [p_X6_readPlaces_0, p_X6_readPlaces_2, p_X6_readPlaces_12, p_X6_readPlaces_41, p_X6_readPlaces_47, p_X6_readPlaces_53]
theorem k_X6_readPlaces_0 : zlk 0 bl_X6_readPlaces = b_X6_readPlaces_0 := rfl
theorem k_X6_readPlaces_2 : zlk 2 bl_X6_readPlaces = b_X6_readPlaces_2 := rfl
theorem k_X6_readPlaces_12 : zlk 12 bl_X6_readPlaces = b_X6_readPlaces_12 := rfl
theorem k_X6_readPlaces_41 : zlk 41 bl_X6_readPlaces = b_X6_readPlaces_41 := rfl
theorem k_X6_readPlaces_47 : zlk 47 bl_X6_readPlaces = b_X6_readPlaces_47 := rfl
theorem k_X6_readPlaces_53 : zlk 53 bl_X6_readPlaces = b_X6_readPlaces_53 := rfl
set_option maxRecDepth 100000 in
theorem ck_X6_readPlaces : zall q_X6_readPlaces.2.2.2.2.1 q_X6_readPlaces.2.1 6 false q_X6_readPlaces.2.2.1 cal_X6_readPlaces q_X6_readPlaces.2.2.2.1 bl_X6_readPlaces pl_X6_readPlaces = true := by decide +kernel
theorem nm_X6_readPlaces : plainName q_X6_readPlaces.1.cls = true ∧ zRX 6 = q_X6_readPlaces.1.cls ∧ (false = true → q_X6_readPlaces.1.name = "<init>") := ⟨by decide +kernel, rfl, fun h => by first | rfl | cases h⟩
set_option maxRecDepth 100000 in
theorem wd_X6_read : zwd q_X6_read := ⟨zw_in (p := (5, 182)) (by decide +kernel), zw_in (p := (1, 7)) (by decide +kernel), fun h => absurd h (by decide), fun _ => zw_in (p := (5, 180)) (by decide +kernel), fun _ => zw_in (p := (5, 181)) (by decide +kernel)⟩
def cal_X6_read : List zCal := [q_X6_checkOf, q_X6_next, q_X3_sound, q_X3_begin, q_X6_readSparse, q_X6_readPlaces]
def b_X6_read_194 : List zE := (194, .ireturn, []) :: []
def p_X6_read_194 : List (List (Nat × Nat)) := [] :: []
def b_X6_read_193 : List zE := (193, .iconst 0, [0]) :: (194, .nop, [0]) :: []
def p_X6_read_193 : List (List (Nat × Nat)) := [] :: [] :: []
def b_X6_read_169 : List zE := (169, .istore 9, []) :: (171, .iload 9, []) :: (173, .ifCond .eq 20, [193, 0]) :: (176, .aload_n 0, []) :: (177, .getfield 67, [6, 2]) :: (180, .aload_n 0, []) :: (181, .getfield 18, [6, 0]) :: (184, .iconst 2, [2]) :: (185, .isub, []) :: (186, .if_icmp .ne 7, [193, 0]) :: (189, .iconst 1, [1]) :: (190, .goto 4, [194, 0]) :: []
def p_X6_read_169 : List (List (Nat × Nat)) := [] :: [] :: [] :: [] :: [(1, 190)] :: [] :: [(1, 187)] :: [] :: [] :: [] :: [] :: [] :: []
def b_X6_read_164 : List zE := (164, .aload_n 0, []) :: (165, .aload_n 1, []) :: (166, .invokevirtual 85, [5, 1, 6]) :: (169, .nop, [0]) :: []
def p_X6_read_164 : List (List (Nat × Nat)) := [] :: [] :: [(5, 205)] :: [] :: []
def b_X6_read_136 : List zE := (136, .aload_n 1, []) :: (137, .iload 4, []) :: (139, .iload 5, []) :: (141, .iload 6, []) :: (143, .iload 7, []) :: (145, .iload 8, []) :: (147, .invokevirtual 77, [3, 5, 3]) :: (150, .iload 4, []) :: (152, .iconst 3, [3]) :: (153, .if_icmp .ne 11, [164, 0]) :: (156, .aload_n 0, []) :: (157, .aload_n 1, []) :: (158, .invokevirtual 81, [4, 1, 6]) :: (161, .goto 8, [169, 0]) :: []
def p_X6_read_136 : List (List (Nat × Nat)) := [] :: [] :: [] :: [] :: [] :: [] :: [(5, 188)] :: [] :: [] :: [] :: [] :: [] :: [(5, 189)] :: [] :: []
def b_X6_read_134 : List zE := (134, .iconst 0, [0]) :: (135, .ireturn, []) :: []
def p_X6_read_134 : List (List (Nat × Nat)) := [] :: [] :: []
def b_X6_read_83 : List zE := (83, .istore_n 3, []) :: (84, .aload_n 0, []) :: (85, .invokevirtual 70, [1, 0, 6]) :: (88, .istore 4, []) :: (90, .aload_n 0, []) :: (91, .invokevirtual 70, [1, 0, 6]) :: (94, .istore 5, []) :: (96, .aload_n 0, []) :: (97, .invokevirtual 70, [1, 0, 6]) :: (100, .istore 6, []) :: (102, .aload_n 0, []) :: (103, .invokevirtual 70, [1, 0, 6]) :: (106, .istore 7, []) :: (108, .aload_n 0, []) :: (109, .invokevirtual 70, [1, 0, 6]) :: (112, .istore 8, []) :: (114, .iload_n 3, []) :: (115, .ifCond .eq 19, [134, 0]) :: (118, .iload 4, []) :: (120, .iload 5, []) :: (122, .iload 6, []) :: (124, .iload 7, []) :: (126, .iload 8, []) :: (128, .invokestatic 73, [2, 5]) :: (131, .ifCond .ne 5, [136, 0]) :: (134, .nop, [0]) :: []
def p_X6_read_83 : List (List (Nat × Nat)) := [] :: [] :: [(5, 183)] :: [] :: [] :: [(5, 183)] :: [] :: [] :: [(5, 183)] :: [] :: [] :: [(5, 183)] :: [] :: [] :: [(5, 183)] :: [] :: [] :: [] :: [] :: [] :: [] :: [] :: [] :: [(5, 187)] :: [] :: [] :: []
def b_X6_read_82 : List zE := (82, .iconst 0, [0]) :: (83, .nop, [0]) :: []
def p_X6_read_82 : List (List (Nat × Nat)) := [] :: [] :: []
def b_X6_read_64 : List zE := (64, .aload_n 0, []) :: (65, .iconst 0, [0]) :: (66, .putfield 67, [6, 2]) :: (69, .aload_n 0, []) :: (70, .invokevirtual 70, [1, 0, 6]) :: (73, .bipush 77, [77]) :: (75, .if_icmp .ne 7, [82, 0]) :: (78, .iconst 1, [1]) :: (79, .goto 4, [83, 0]) :: []
def p_X6_read_64 : List (List (Nat × Nat)) := [] :: [] :: [(1, 190)] :: [] :: [(5, 183)] :: [] :: [] :: [] :: [] :: []
def b_X6_read_62 : List zE := (62, .iconst 0, [0]) :: (63, .ireturn, []) :: []
def p_X6_read_62 : List (List (Nat × Nat)) := [] :: [] :: []
def b_X6_read_11 : List zE := (11, .aload_n 0, []) :: (12, .getfield 11, [6, 3]) :: (15, .aload_n 0, []) :: (16, .getfield 18, [6, 0]) :: (19, .iconst 2, [2]) :: (20, .isub, []) :: (21, .invokestatic 62, [0, 2]) :: (24, .istore_n 2, []) :: (25, .aload_n 0, []) :: (26, .getfield 11, [6, 3]) :: (29, .aload_n 0, []) :: (30, .getfield 18, [6, 0]) :: (33, .iconst 2, [2]) :: (34, .isub, []) :: (35, .iaload, []) :: (36, .iload_n 2, []) :: (37, .bipush 8, [8]) :: (39, .iushr, []) :: (40, .if_icmp .ne 22, [62, 0]) :: (43, .aload_n 0, []) :: (44, .getfield 11, [6, 3]) :: (47, .aload_n 0, []) :: (48, .getfield 18, [6, 0]) :: (51, .iconst 1, [1]) :: (52, .isub, []) :: (53, .iaload, []) :: (54, .iload_n 2, []) :: (55, .sipush 255, [255]) :: (58, .iand, []) :: (59, .if_icmp .eq 5, [64, 0]) :: (62, .nop, [0]) :: []
def p_X6_read_11 : List (List (Nat × Nat)) := [] :: [(1, 191)] :: [] :: [(1, 187)] :: [] :: [] :: [(5, 139)] :: [] :: [] :: [(1, 191)] :: [] :: [(1, 187)] :: [] :: [] :: [] :: [] :: [] :: [] :: [] :: [] :: [(1, 191)] :: [] :: [(1, 187)] :: [] :: [] :: [] :: [] :: [] :: [] :: [] :: [] :: []
def b_X6_read_0 : List zE := (0, .aload_n 0, []) :: (1, .getfield 18, [6, 0]) :: (4, .bipush 8, [8]) :: (6, .if_icmp .ge 5, [11, 0]) :: (9, .iconst 0, [0]) :: (10, .ireturn, []) :: []
def p_X6_read_0 : List (List (Nat × Nat)) := [] :: [(1, 187)] :: [] :: [] :: [] :: [] :: []
def bl_X6_read : List (Nat × List zE) := [(0, b_X6_read_0), (11, b_X6_read_11), (62, b_X6_read_62), (64, b_X6_read_64), (82, b_X6_read_82), (83, b_X6_read_83), (134, b_X6_read_134), (136, b_X6_read_136), (164, b_X6_read_164), (169, b_X6_read_169), (193, b_X6_read_193), (194, b_X6_read_194)]
def pl_X6_read : List (List (List (Nat × Nat))) := [p_X6_read_0, p_X6_read_11, p_X6_read_62, p_X6_read_64, p_X6_read_82, p_X6_read_83, p_X6_read_134, p_X6_read_136, p_X6_read_164, p_X6_read_169, p_X6_read_193, p_X6_read_194]
theorem k_X6_read_0 : zlk 0 bl_X6_read = b_X6_read_0 := rfl
theorem k_X6_read_11 : zlk 11 bl_X6_read = b_X6_read_11 := rfl
theorem k_X6_read_62 : zlk 62 bl_X6_read = b_X6_read_62 := rfl
theorem k_X6_read_64 : zlk 64 bl_X6_read = b_X6_read_64 := rfl
theorem k_X6_read_82 : zlk 82 bl_X6_read = b_X6_read_82 := rfl
theorem k_X6_read_83 : zlk 83 bl_X6_read = b_X6_read_83 := rfl
theorem k_X6_read_134 : zlk 134 bl_X6_read = b_X6_read_134 := rfl
theorem k_X6_read_136 : zlk 136 bl_X6_read = b_X6_read_136 := rfl
theorem k_X6_read_164 : zlk 164 bl_X6_read = b_X6_read_164 := rfl
theorem k_X6_read_169 : zlk 169 bl_X6_read = b_X6_read_169 := rfl
theorem k_X6_read_193 : zlk 193 bl_X6_read = b_X6_read_193 := rfl
theorem k_X6_read_194 : zlk 194 bl_X6_read = b_X6_read_194 := rfl
set_option maxRecDepth 100000 in
theorem ck_X6_read : zall q_X6_read.2.2.2.2.1 q_X6_read.2.1 6 false q_X6_read.2.2.1 cal_X6_read q_X6_read.2.2.2.1 bl_X6_read pl_X6_read = true := by decide +kernel
theorem nm_X6_read : plainName q_X6_read.1.cls = true ∧ zRX 6 = q_X6_read.1.cls ∧ (false = true → q_X6_read.1.name = "<init>") := ⟨by decide +kernel, rfl, fun h => by first | rfl | cases h⟩
set_option maxRecDepth 100000 in
theorem wd_X8_init : zwd q_X8_init := ⟨zw_in (p := (2, 53)) (by decide +kernel), zw_in (p := (1, 10)) (by decide +kernel), fun h => absurd h (by decide), fun _ => zw_in (p := (2, 52)) (by decide +kernel), fun h => absurd h (by decide)⟩
def cal_X8_init : List zCal := []
def b_X8_init_0 : List zE := (0, .aload_n 0, []) :: (1, .invokespecial 3, []) :: (4, .aload_n 0, []) :: (5, .bipush 8, [8]) :: (7, .newarray .long, [22]) :: (9, .putfield 9, [8, 2]) :: (12, .return_, []) :: []
def p_X8_init_0 : List (List (Nat × Nat)) := [] :: [(2, 54), (1, 21), (1, 22)] :: [] :: [] :: [(1, 54)] :: [(2, 59)] :: [] :: []
def bl_X8_init : List (Nat × List zE) := [(0, b_X8_init_0)]
def pl_X8_init : List (List (List (Nat × Nat))) := [p_X8_init_0]
theorem k_X8_init_0 : zlk 0 bl_X8_init = b_X8_init_0 := rfl
set_option maxRecDepth 100000 in
theorem ck_X8_init : zall q_X8_init.2.2.2.2.1 q_X8_init.2.1 8 true q_X8_init.2.2.1 cal_X8_init q_X8_init.2.2.2.1 bl_X8_init pl_X8_init = true := by decide +kernel
theorem nm_X8_init : plainName q_X8_init.1.cls = true ∧ zRX 8 = q_X8_init.1.cls ∧ (true = true → q_X8_init.1.name = "<init>") := ⟨by decide +kernel, rfl, fun h => by first | rfl | cases h⟩
set_option maxRecDepth 100000 in
theorem wd_X8_begin : zwd q_X8_begin := ⟨zw_in (p := (3, 164)) (by decide +kernel), zw_in (p := (1, 10)) (by decide +kernel), fun h => absurd h (by decide), fun _ => zw_in (p := (3, 162)) (by decide +kernel), fun _ => zw_in (p := (3, 163)) (by decide +kernel)⟩
def cal_X8_begin : List zCal := []
def b_X8_begin_31 : List zE := (31, .return_, []) :: []
def p_X8_begin_31 : List (List (Nat × Nat)) := [] :: []
def b_X8_begin_12 : List zE := (12, .iload_n 2, []) :: (13, .bipush 8, [8]) :: (15, .if_icmp .ge 16, [31, 0]) :: (18, .aload_n 0, []) :: (19, .getfield 9, [8, 2]) :: (22, .iload_n 2, []) :: (23, .lconst 0, [0]) :: (24, .lastore, []) :: (25, .iinc 2 1, [1]) :: (28, .goto (-16), [12, 1]) :: []
def p_X8_begin_12 : List (List (Nat × Nat)) := [] :: [] :: [] :: [] :: [(2, 59)] :: [] :: [] :: [] :: [] :: [] :: []
def b_X8_begin_0 : List zE := (0, .aload_n 0, []) :: (1, .iconst 1, [1]) :: (2, .putfield 15, [8, 0]) :: (5, .aload_n 0, []) :: (6, .iload_n 1, []) :: (7, .putfield 19, [8, 1]) :: (10, .iconst 0, [0]) :: (11, .istore_n 2, []) :: (12, .nop, []) :: []
def p_X8_begin_0 : List (List (Nat × Nat)) := [] :: [] :: [(2, 55)] :: [] :: [] :: [(2, 57)] :: [] :: [] :: [] :: []
def bl_X8_begin : List (Nat × List zE) := [(0, b_X8_begin_0), (12, b_X8_begin_12), (31, b_X8_begin_31)]
def pl_X8_begin : List (List (List (Nat × Nat))) := [p_X8_begin_0, p_X8_begin_12, p_X8_begin_31]
theorem k_X8_begin_0 : zlk 0 bl_X8_begin = b_X8_begin_0 := rfl
theorem k_X8_begin_12 : zlk 12 bl_X8_begin = b_X8_begin_12 := rfl
theorem k_X8_begin_31 : zlk 31 bl_X8_begin = b_X8_begin_31 := rfl
set_option maxRecDepth 100000 in
theorem ck_X8_begin : zall q_X8_begin.2.2.2.2.1 q_X8_begin.2.1 8 false q_X8_begin.2.2.1 cal_X8_begin q_X8_begin.2.2.2.1 bl_X8_begin pl_X8_begin = true := by decide +kernel
theorem nm_X8_begin : plainName q_X8_begin.1.cls = true ∧ zRX 8 = q_X8_begin.1.cls ∧ (false = true → q_X8_begin.1.name = "<init>") := ⟨by decide +kernel, rfl, fun h => by first | rfl | cases h⟩
set_option maxRecDepth 100000 in
theorem wd_X8_onLattice : zwd q_X8_onLattice := ⟨zw_in (p := (4, 78)) (by decide +kernel), zw_in (p := (1, 10)) (by decide +kernel), fun h => absurd h (by decide), fun _ => zw_in (p := (4, 76)) (by decide +kernel), fun _ => zw_in (p := (4, 77)) (by decide +kernel)⟩
def cal_X8_onLattice : List zCal := [q_X0_isLatticeNumber]
def b_X8_onLattice_30 : List zE := (30, .iconst 1, [1]) :: (31, .ireturn, []) :: []
def p_X8_onLattice_30 : List (List (Nat × Nat)) := [] :: [] :: []
def b_X8_onLattice_24 : List zE := (24, .iinc 1 1, [1]) :: (27, .goto (-25), [2, 1]) :: []
def p_X8_onLattice_24 : List (List (Nat × Nat)) := [] :: [] :: []
def b_X8_onLattice_2 : List zE := (2, .iload_n 1, []) :: (3, .aload_n 0, []) :: (4, .getfield 19, [8, 1]) :: (7, .if_icmp .ge 23, [30, 0]) :: (10, .aload_n 0, []) :: (11, .getfield 9, [8, 2]) :: (14, .iload_n 1, []) :: (15, .laload, []) :: (16, .invokestatic 23, [0, 1]) :: (19, .ifCond .ne 5, [24, 0]) :: (22, .iconst 0, [0]) :: (23, .ireturn, []) :: []
def p_X8_onLattice_2 : List (List (Nat × Nat)) := [] :: [] :: [(2, 57)] :: [] :: [] :: [(2, 59)] :: [] :: [] :: [(4, 79)] :: [] :: [] :: [] :: []
def b_X8_onLattice_0 : List zE := (0, .iconst 0, [0]) :: (1, .istore_n 1, []) :: (2, .nop, []) :: []
def p_X8_onLattice_0 : List (List (Nat × Nat)) := [] :: [] :: [] :: []
def bl_X8_onLattice : List (Nat × List zE) := [(0, b_X8_onLattice_0), (2, b_X8_onLattice_2), (24, b_X8_onLattice_24), (30, b_X8_onLattice_30)]
def pl_X8_onLattice : List (List (List (Nat × Nat))) := [p_X8_onLattice_0, p_X8_onLattice_2, p_X8_onLattice_24, p_X8_onLattice_30]
theorem k_X8_onLattice_0 : zlk 0 bl_X8_onLattice = b_X8_onLattice_0 := rfl
theorem k_X8_onLattice_2 : zlk 2 bl_X8_onLattice = b_X8_onLattice_2 := rfl
theorem k_X8_onLattice_24 : zlk 24 bl_X8_onLattice = b_X8_onLattice_24 := rfl
theorem k_X8_onLattice_30 : zlk 30 bl_X8_onLattice = b_X8_onLattice_30 := rfl
set_option maxRecDepth 100000 in
theorem ck_X8_onLattice : zall q_X8_onLattice.2.2.2.2.1 q_X8_onLattice.2.1 8 false q_X8_onLattice.2.2.1 cal_X8_onLattice q_X8_onLattice.2.2.2.1 bl_X8_onLattice pl_X8_onLattice = true := by decide +kernel
theorem nm_X8_onLattice : plainName q_X8_onLattice.1.cls = true ∧ zRX 8 = q_X8_onLattice.1.cls ∧ (false = true → q_X8_onLattice.1.name = "<init>") := ⟨by decide +kernel, rfl, fun h => by first | rfl | cases h⟩
set_option maxRecDepth 100000 in
theorem wd_X10_init : zwd q_X10_init := ⟨zw_in (p := (1, 19)) (by decide +kernel), zw_in (p := (1, 1)) (by decide +kernel), fun h => absurd h (by decide), fun _ => zw_in (p := (1, 18)) (by decide +kernel), fun h => absurd h (by decide)⟩
def cal_X10_init : List zCal := [q_X5_init, q_X1_init, q_X4_init, q_X6_init, q_X3_init, q_X2_init, q_X8_init]
def b_X10_init_172 : List zE := (172, .return_, []) :: []
def p_X10_init_172 : List (List (Nat × Nat)) := [] :: []
def b_X10_init_147 : List zE := (147, .iload_n 1, []) :: (148, .bipush 24, [24]) :: (150, .if_icmp .ge 22, [172, 0]) :: (153, .aload_n 0, []) :: (154, .getfield 23, [10, 2]) :: (157, .iload_n 1, []) :: (158, .new 21, [8]) :: (161, .dup, []) :: (162, .invokespecial 64, [6, 0]) :: (165, .aastore, []) :: (166, .iinc 1 1, [1]) :: (169, .goto (-22), [147, 1]) :: []
def p_X10_init_147 : List (List (Nat × Nat)) := [] :: [] :: [] :: [] :: [(2, 70)] :: [] :: [(1, 27), (2, 50), (1, 10)] :: [] :: [] :: [] :: [] :: [] :: []
def b_X10_init_145 : List zE := (145, .iconst 0, [0]) :: (146, .istore_n 1, []) :: (147, .nop, []) :: []
def p_X10_init_145 : List (List (Nat × Nat)) := [] :: [] :: [] :: []
def b_X10_init_120 : List zE := (120, .iload_n 1, []) :: (121, .bipush 12, [12]) :: (123, .if_icmp .ge 22, [145, 0]) :: (126, .aload_n 0, []) :: (127, .getfield 17, [10, 1]) :: (130, .iload_n 1, []) :: (131, .new 15, [2]) :: (134, .dup, []) :: (135, .invokespecial 63, [5, 0]) :: (138, .aastore, []) :: (139, .iinc 1 1, [1]) :: (142, .goto (-22), [120, 1]) :: []
def p_X10_init_120 : List (List (Nat × Nat)) := [] :: [] :: [] :: [] :: [(2, 69)] :: [] :: [(1, 25), (2, 8), (1, 9)] :: [] :: [] :: [] :: [] :: [] :: []
def b_X10_init_118 : List zE := (118, .iconst 0, [0]) :: (119, .istore_n 1, []) :: (120, .nop, []) :: []
def p_X10_init_118 : List (List (Nat × Nat)) := [] :: [] :: [] :: []
def b_X10_init_93 : List zE := (93, .iload_n 1, []) :: (94, .bipush 24, [24]) :: (96, .if_icmp .ge 22, [118, 0]) :: (99, .aload_n 0, []) :: (100, .getfield 11, [10, 0]) :: (103, .iload_n 1, []) :: (104, .new 9, [3]) :: (107, .dup, []) :: (108, .invokespecial 62, [4, 0]) :: (111, .aastore, []) :: (112, .iinc 1 1, [1]) :: (115, .goto (-22), [93, 1]) :: []
def p_X10_init_93 : List (List (Nat × Nat)) := [] :: [] :: [] :: [] :: [(2, 68)] :: [] :: [(1, 23), (1, 204), (1, 8)] :: [] :: [] :: [] :: [] :: [] :: []
def b_X10_init_0 : List zE := (0, .aload_n 0, []) :: (1, .invokespecial 1, []) :: (4, .aload_n 0, []) :: (5, .bipush 24, [24]) :: (7, .anewarray 9, [25]) :: (10, .putfield 11, [10, 0]) :: (13, .aload_n 0, []) :: (14, .bipush 12, [12]) :: (16, .anewarray 15, [24]) :: (19, .putfield 17, [10, 1]) :: (22, .aload_n 0, []) :: (23, .bipush 24, [24]) :: (25, .anewarray 21, [26]) :: (28, .putfield 23, [10, 2]) :: (31, .aload_n 0, []) :: (32, .new 27, [5]) :: (35, .dup, []) :: (36, .invokespecial 29, [0, 0]) :: (39, .putfield 30, [10, 3]) :: (42, .aload_n 0, []) :: (43, .new 34, [1]) :: (46, .dup, []) :: (47, .invokespecial 36, [1, 0]) :: (50, .putfield 37, [10, 4]) :: (53, .aload_n 0, []) :: (54, .new 41, [4]) :: (57, .dup, []) :: (58, .invokespecial 43, [2, 0]) :: (61, .putfield 44, [10, 5]) :: (64, .aload_n 0, []) :: (65, .new 48, [6]) :: (68, .dup, []) :: (69, .invokespecial 50, [3, 0]) :: (72, .putfield 51, [10, 6]) :: (75, .aload_n 0, []) :: (76, .bipush 8, [8]) :: (78, .newarray .long, [22]) :: (80, .putfield 55, [10, 7]) :: (83, .aload_n 0, []) :: (84, .bipush 8, [8]) :: (86, .newarray .long, [22]) :: (88, .putfield 59, [10, 8]) :: (91, .iconst 0, [0]) :: (92, .istore_n 1, []) :: (93, .nop, []) :: []
def p_X10_init_0 : List (List (Nat × Nat)) := [] :: [(1, 20), (1, 21), (1, 22)] :: [] :: [] :: [(1, 23)] :: [(2, 68)] :: [] :: [] :: [(1, 25)] :: [(2, 69)] :: [] :: [] :: [(1, 27)] :: [(2, 70)] :: [] :: [(1, 29), (1, 30), (1, 2)] :: [] :: [] :: [(2, 71)] :: [] :: [(1, 83), (1, 84), (1, 4)] :: [] :: [(1, 85)] :: [(2, 72)] :: [] :: [(1, 156), (1, 157), (1, 6)] :: [] :: [] :: [(2, 73)] :: [] :: [(1, 181), (1, 182), (1, 7)] :: [] :: [] :: [(2, 74)] :: [] :: [] :: [(1, 54)] :: [(2, 75)] :: [] :: [] :: [(1, 54)] :: [(2, 76)] :: [] :: [] :: [] :: []
def bl_X10_init : List (Nat × List zE) := [(0, b_X10_init_0), (93, b_X10_init_93), (118, b_X10_init_118), (120, b_X10_init_120), (145, b_X10_init_145), (147, b_X10_init_147), (172, b_X10_init_172)]
def pl_X10_init : List (List (List (Nat × Nat))) := [p_X10_init_0, p_X10_init_93, p_X10_init_118, p_X10_init_120, p_X10_init_145, p_X10_init_147, p_X10_init_172]
theorem k_X10_init_0 : zlk 0 bl_X10_init = b_X10_init_0 := rfl
theorem k_X10_init_93 : zlk 93 bl_X10_init = b_X10_init_93 := rfl
theorem k_X10_init_118 : zlk 118 bl_X10_init = b_X10_init_118 := rfl
theorem k_X10_init_120 : zlk 120 bl_X10_init = b_X10_init_120 := rfl
theorem k_X10_init_145 : zlk 145 bl_X10_init = b_X10_init_145 := rfl
theorem k_X10_init_147 : zlk 147 bl_X10_init = b_X10_init_147 := rfl
theorem k_X10_init_172 : zlk 172 bl_X10_init = b_X10_init_172 := rfl
set_option maxRecDepth 100000 in
theorem ck_X10_init : zall q_X10_init.2.2.2.2.1 q_X10_init.2.1 10 true q_X10_init.2.2.1 cal_X10_init q_X10_init.2.2.2.1 bl_X10_init pl_X10_init = true := by decide +kernel
theorem nm_X10_init : plainName q_X10_init.1.cls = true ∧ zRX 10 = q_X10_init.1.cls ∧ (true = true → q_X10_init.1.name = "<init>") := ⟨by decide +kernel, rfl, fun h => by first | rfl | cases h⟩
set_option maxRecDepth 100000 in
theorem wd_X10_freeMatrix : zwd q_X10_freeMatrix := ⟨zw_in (p := (2, 103)) (by decide +kernel), zw_in (p := (1, 1)) (by decide +kernel), fun h => absurd h (by decide), fun _ => zw_in (p := (2, 102)) (by decide +kernel), fun _ => zw_in (p := (0, 0)) (by decide +kernel)⟩
def cal_X10_freeMatrix : List zCal := []
def b_X10_freeMatrix_28 : List zE := (28, .iconst (-1), [4294967295]) :: (29, .ireturn, []) :: []
def p_X10_freeMatrix_28 : List (List (Nat × Nat)) := [] :: [] :: []
def b_X10_freeMatrix_22 : List zE := (22, .iinc 1 1, [1]) :: (25, .goto (-23), [2, 1]) :: []
def p_X10_freeMatrix_22 : List (List (Nat × Nat)) := [] :: [] :: []
def b_X10_freeMatrix_2 : List zE := (2, .iload_n 1, []) :: (3, .bipush 24, [24]) :: (5, .if_icmp .ge 23, [28, 0]) :: (8, .aload_n 0, []) :: (9, .getfield 11, [10, 0]) :: (12, .iload_n 1, []) :: (13, .aaload, []) :: (14, .getfield 77, [3, 0]) :: (17, .ifCond .ne 5, [22, 0]) :: (20, .iload_n 1, []) :: (21, .ireturn, []) :: []
def p_X10_freeMatrix_2 : List (List (Nat × Nat)) := [] :: [] :: [] :: [] :: [(2, 68)] :: [] :: [] :: [(1, 209)] :: [] :: [] :: [] :: []
def b_X10_freeMatrix_0 : List zE := (0, .iconst 0, [0]) :: (1, .istore_n 1, []) :: (2, .nop, []) :: []
def p_X10_freeMatrix_0 : List (List (Nat × Nat)) := [] :: [] :: [] :: []
def bl_X10_freeMatrix : List (Nat × List zE) := [(0, b_X10_freeMatrix_0), (2, b_X10_freeMatrix_2), (22, b_X10_freeMatrix_22), (28, b_X10_freeMatrix_28)]
def pl_X10_freeMatrix : List (List (List (Nat × Nat))) := [p_X10_freeMatrix_0, p_X10_freeMatrix_2, p_X10_freeMatrix_22, p_X10_freeMatrix_28]
theorem k_X10_freeMatrix_0 : zlk 0 bl_X10_freeMatrix = b_X10_freeMatrix_0 := rfl
theorem k_X10_freeMatrix_2 : zlk 2 bl_X10_freeMatrix = b_X10_freeMatrix_2 := rfl
theorem k_X10_freeMatrix_22 : zlk 22 bl_X10_freeMatrix = b_X10_freeMatrix_22 := rfl
theorem k_X10_freeMatrix_28 : zlk 28 bl_X10_freeMatrix = b_X10_freeMatrix_28 := rfl
set_option maxRecDepth 100000 in
theorem ck_X10_freeMatrix : zall q_X10_freeMatrix.2.2.2.2.1 q_X10_freeMatrix.2.1 10 false q_X10_freeMatrix.2.2.1 cal_X10_freeMatrix q_X10_freeMatrix.2.2.2.1 bl_X10_freeMatrix pl_X10_freeMatrix = true := by decide +kernel
theorem nm_X10_freeMatrix : plainName q_X10_freeMatrix.1.cls = true ∧ zRX 10 = q_X10_freeMatrix.1.cls ∧ (false = true → q_X10_freeMatrix.1.name = "<init>") := ⟨by decide +kernel, rfl, fun h => by first | rfl | cases h⟩
set_option maxRecDepth 100000 in
theorem wd_X10_matrix : zwd q_X10_matrix := ⟨zw_in (p := (2, 99)) (by decide +kernel), zw_in (p := (1, 1)) (by decide +kernel), fun h => absurd h (by decide), fun _ => zw_in (p := (2, 97)) (by decide +kernel), fun _ => zw_in (p := (2, 98)) (by decide +kernel)⟩
def cal_X10_matrix : List zCal := [q_X10_freeMatrix, q_X3_sound, q_X3_begin]
def b_X10_matrix_27 : List zE := (27, .aload_n 0, []) :: (28, .getfield 11, [10, 0]) :: (31, .iload 6, []) :: (33, .aaload, []) :: (34, .iload_n 1, []) :: (35, .iload_n 2, []) :: (36, .iload_n 3, []) :: (37, .iload 4, []) :: (39, .iload 5, []) :: (41, .invokevirtual 73, [2, 5, 3]) :: (44, .aload_n 0, []) :: (45, .getfield 11, [10, 0]) :: (48, .iload 6, []) :: (50, .aaload, []) :: (51, .iconst 1, [1]) :: (52, .putfield 77, [3, 0]) :: (55, .iload 6, []) :: (57, .ireturn, []) :: []
def p_X10_matrix_27 : List (List (Nat × Nat)) := [] :: [(2, 68)] :: [] :: [] :: [] :: [] :: [] :: [] :: [] :: [(2, 107)] :: [] :: [(2, 68)] :: [] :: [] :: [] :: [(1, 209)] :: [] :: [] :: []
def b_X10_matrix_25 : List zE := (25, .iconst (-1), [4294967295]) :: (26, .ireturn, []) :: []
def p_X10_matrix_25 : List (List (Nat × Nat)) := [] :: [] :: []
def b_X10_matrix_0 : List zE := (0, .aload_n 0, []) :: (1, .invokevirtual 65, [0, 0, 10]) :: (4, .istore 6, []) :: (6, .iload 6, []) :: (8, .iconst (-1), [4294967295]) :: (9, .if_icmp .eq 16, [25, 0]) :: (12, .iload_n 1, []) :: (13, .iload_n 2, []) :: (14, .iload_n 3, []) :: (15, .iload 4, []) :: (17, .iload 5, []) :: (19, .invokestatic 69, [1, 5]) :: (22, .ifCond .ne 5, [27, 0]) :: (25, .nop, [0]) :: []
def p_X10_matrix_0 : List (List (Nat × Nat)) := [] :: [(2, 100)] :: [] :: [] :: [] :: [] :: [] :: [] :: [] :: [] :: [] :: [(2, 104)] :: [] :: [] :: []
def bl_X10_matrix : List (Nat × List zE) := [(0, b_X10_matrix_0), (25, b_X10_matrix_25), (27, b_X10_matrix_27)]
def pl_X10_matrix : List (List (List (Nat × Nat))) := [p_X10_matrix_0, p_X10_matrix_25, p_X10_matrix_27]
theorem k_X10_matrix_0 : zlk 0 bl_X10_matrix = b_X10_matrix_0 := rfl
theorem k_X10_matrix_25 : zlk 25 bl_X10_matrix = b_X10_matrix_25 := rfl
theorem k_X10_matrix_27 : zlk 27 bl_X10_matrix = b_X10_matrix_27 := rfl
set_option maxRecDepth 100000 in
theorem ck_X10_matrix : zall q_X10_matrix.2.2.2.2.1 q_X10_matrix.2.1 10 false q_X10_matrix.2.2.1 cal_X10_matrix q_X10_matrix.2.2.2.1 bl_X10_matrix pl_X10_matrix = true := by decide +kernel
theorem nm_X10_matrix : plainName q_X10_matrix.1.cls = true ∧ zRX 10 = q_X10_matrix.1.cls ∧ (false = true → q_X10_matrix.1.name = "<init>") := ⟨by decide +kernel, rfl, fun h => by first | rfl | cases h⟩
set_option maxRecDepth 100000 in
theorem wd_X10_matrixAt : zwd q_X10_matrixAt := ⟨zw_in (p := (2, 118)) (by decide +kernel), zw_in (p := (1, 1)) (by decide +kernel), fun h => absurd h (by decide), fun _ => zw_in (p := (2, 117)) (by decide +kernel), fun _ => zw_in (p := (0, 1)) (by decide +kernel)⟩
def cal_X10_matrixAt : List zCal := []
def b_X10_matrixAt_32 : List zE := (32, .areturn, []) :: []
def p_X10_matrixAt_32 : List (List (Nat × Nat)) := [] :: []
def b_X10_matrixAt_31 : List zE := (31, .aconst_null, []) :: (32, .nop, [0]) :: []
def p_X10_matrixAt_31 : List (List (Nat × Nat)) := [] :: [] :: []
def b_X10_matrixAt_0 : List zE := (0, .iload_n 1, []) :: (1, .ifCond .lt 30, [31, 0]) :: (4, .iload_n 1, []) :: (5, .bipush 24, [24]) :: (7, .if_icmp .ge 24, [31, 0]) :: (10, .aload_n 0, []) :: (11, .getfield 11, [10, 0]) :: (14, .iload_n 1, []) :: (15, .aaload, []) :: (16, .getfield 77, [3, 0]) :: (19, .ifCond .eq 12, [31, 0]) :: (22, .aload_n 0, []) :: (23, .getfield 11, [10, 0]) :: (26, .iload_n 1, []) :: (27, .aaload, []) :: (28, .goto 4, [32, 0]) :: []
def p_X10_matrixAt_0 : List (List (Nat × Nat)) := [] :: [] :: [] :: [] :: [] :: [] :: [(2, 68)] :: [] :: [] :: [(1, 209)] :: [] :: [] :: [(2, 68)] :: [] :: [] :: [] :: []
def bl_X10_matrixAt : List (Nat × List zE) := [(0, b_X10_matrixAt_0), (31, b_X10_matrixAt_31), (32, b_X10_matrixAt_32)]
def pl_X10_matrixAt : List (List (List (Nat × Nat))) := [p_X10_matrixAt_0, p_X10_matrixAt_31, p_X10_matrixAt_32]
theorem k_X10_matrixAt_0 : zlk 0 bl_X10_matrixAt = b_X10_matrixAt_0 := rfl
theorem k_X10_matrixAt_31 : zlk 31 bl_X10_matrixAt = b_X10_matrixAt_31 := rfl
theorem k_X10_matrixAt_32 : zlk 32 bl_X10_matrixAt = b_X10_matrixAt_32 := rfl
set_option maxRecDepth 100000 in
theorem ck_X10_matrixAt : zall q_X10_matrixAt.2.2.2.2.1 q_X10_matrixAt.2.1 10 false q_X10_matrixAt.2.2.1 cal_X10_matrixAt q_X10_matrixAt.2.2.2.1 bl_X10_matrixAt pl_X10_matrixAt = true := by decide +kernel
theorem nm_X10_matrixAt : plainName q_X10_matrixAt.1.cls = true ∧ zRX 10 = q_X10_matrixAt.1.cls ∧ (false = true → q_X10_matrixAt.1.name = "<init>") := ⟨by decide +kernel, rfl, fun h => by first | rfl | cases h⟩
set_option maxRecDepth 100000 in
theorem wd_X10_drop : zwd q_X10_drop := ⟨zw_in (p := (2, 114)) (by decide +kernel), zw_in (p := (1, 1)) (by decide +kernel), fun h => absurd h (by decide), fun _ => zw_in (p := (2, 112)) (by decide +kernel), fun _ => zw_in (p := (2, 113)) (by decide +kernel)⟩
def cal_X10_drop : List zCal := [q_X10_matrixAt]
def b_X10_drop_12 : List zE := (12, .aload_n 2, []) :: (13, .iconst 0, [0]) :: (14, .putfield 77, [3, 0]) :: (17, .iconst 1, [1]) :: (18, .ireturn, []) :: []
def p_X10_drop_12 : List (List (Nat × Nat)) := [] :: [] :: [(1, 209)] :: [] :: [] :: []
def b_X10_drop_0 : List zE := (0, .aload_n 0, []) :: (1, .iload_n 1, []) :: (2, .invokevirtual 81, [0, 1, 10]) :: (5, .astore_n 2, []) :: (6, .aload_n 2, []) :: (7, .ifnonnull 5, [12, 0]) :: (10, .iconst 0, [0]) :: (11, .ireturn, []) :: []
def p_X10_drop_0 : List (List (Nat × Nat)) := [] :: [] :: [(2, 115)] :: [] :: [] :: [] :: [] :: [] :: []
def bl_X10_drop : List (Nat × List zE) := [(0, b_X10_drop_0), (12, b_X10_drop_12)]
def pl_X10_drop : List (List (List (Nat × Nat))) := [p_X10_drop_0, p_X10_drop_12]
theorem k_X10_drop_0 : zlk 0 bl_X10_drop = b_X10_drop_0 := rfl
theorem k_X10_drop_12 : zlk 12 bl_X10_drop = b_X10_drop_12 := rfl
set_option maxRecDepth 100000 in
theorem ck_X10_drop : zall q_X10_drop.2.2.2.2.1 q_X10_drop.2.1 10 false q_X10_drop.2.2.1 cal_X10_drop q_X10_drop.2.2.2.1 bl_X10_drop pl_X10_drop = true := by decide +kernel
theorem nm_X10_drop : plainName q_X10_drop.1.cls = true ∧ zRX 10 = q_X10_drop.1.cls ∧ (false = true → q_X10_drop.1.name = "<init>") := ⟨by decide +kernel, rfl, fun h => by first | rfl | cases h⟩
set_option maxRecDepth 100000 in
theorem wd_X10_put : zwd q_X10_put := ⟨zw_in (p := (2, 122)) (by decide +kernel), zw_in (p := (1, 1)) (by decide +kernel), fun h => absurd h (by decide), fun _ => zw_in (p := (2, 120)) (by decide +kernel), fun _ => zw_in (p := (2, 121)) (by decide +kernel)⟩
def cal_X10_put : List zCal := [q_X10_matrixAt, q_X3_hasPlace, q_X0_finite, q_X0_magnitude, q_X3_at, q_X3_filled, q_X3_store]
def b_X10_put_87 : List zE := (87, .aload 6, []) :: (89, .iload_n 2, []) :: (90, .iload_n 3, []) :: (91, .lload 4, []) :: (93, .invokevirtual 110, [6, 3, 3]) :: (96, .iconst 1, [1]) :: (97, .ireturn, []) :: []
def p_X10_put_87 : List (List (Nat × Nat)) := [] :: [] :: [] :: [] :: [(2, 148)] :: [] :: [] :: []
def b_X10_put_59 : List zE := (59, .istore 7, []) :: (61, .iload 7, []) :: (63, .ifCond .eq 24, [87, 0]) :: (66, .aload 6, []) :: (68, .getfield 103, [3, 1]) :: (71, .iconst 3, [3]) :: (72, .if_icmp .ne 15, [87, 0]) :: (75, .aload 6, []) :: (77, .invokevirtual 107, [5, 0, 3]) :: (80, .bipush 20, [20]) :: (82, .if_icmp .lt 5, [87, 0]) :: (85, .iconst 0, [0]) :: (86, .ireturn, []) :: []
def p_X10_put_59 : List (List (Nat × Nat)) := [] :: [] :: [] :: [] :: [(1, 212)] :: [] :: [] :: [] :: [(2, 143)] :: [] :: [] :: [] :: [] :: []
def b_X10_put_58 : List zE := (58, .iconst 0, [0]) :: (59, .nop, [0]) :: []
def p_X10_put_58 : List (List (Nat × Nat)) := [] :: [] :: []
def b_X10_put_32 : List zE := (32, .lload 4, []) :: (34, .invokestatic 95, [3, 1]) :: (37, .lconst 0, [0]) :: (38, .lcmp, []) :: (39, .ifCond .eq 19, [58, 0]) :: (42, .aload 6, []) :: (44, .iload_n 2, []) :: (45, .iload_n 3, []) :: (46, .invokevirtual 99, [4, 2, 3]) :: (49, .lconst 0, [0]) :: (50, .lcmp, []) :: (51, .ifCond .ne 7, [58, 0]) :: (54, .iconst 1, [1]) :: (55, .goto 4, [59, 0]) :: []
def p_X10_put_32 : List (List (Nat × Nat)) := [] :: [(2, 135)] :: [] :: [] :: [] :: [] :: [] :: [] :: [(2, 139)] :: [] :: [] :: [] :: [] :: [] :: []
def b_X10_put_30 : List zE := (30, .iconst 0, [0]) :: (31, .ireturn, []) :: []
def p_X10_put_30 : List (List (Nat × Nat)) := [] :: [] :: []
def b_X10_put_0 : List zE := (0, .aload_n 0, []) :: (1, .iload_n 1, []) :: (2, .invokevirtual 81, [0, 1, 10]) :: (5, .astore 6, []) :: (7, .aload 6, []) :: (9, .ifnull 21, [30, 0]) :: (12, .aload 6, []) :: (14, .iload_n 2, []) :: (15, .iload_n 3, []) :: (16, .invokevirtual 85, [1, 2, 3]) :: (19, .ifCond .eq 11, [30, 0]) :: (22, .lload 4, []) :: (24, .invokestatic 89, [2, 1]) :: (27, .ifCond .ne 5, [32, 0]) :: (30, .nop, [0]) :: []
def p_X10_put_0 : List (List (Nat × Nat)) := [] :: [] :: [(2, 115)] :: [] :: [] :: [] :: [] :: [] :: [] :: [(2, 123)] :: [] :: [] :: [(2, 131)] :: [] :: [] :: []
def bl_X10_put : List (Nat × List zE) := [(0, b_X10_put_0), (30, b_X10_put_30), (32, b_X10_put_32), (58, b_X10_put_58), (59, b_X10_put_59), (87, b_X10_put_87)]
def pl_X10_put : List (List (List (Nat × Nat))) := [p_X10_put_0, p_X10_put_30, p_X10_put_32, p_X10_put_58, p_X10_put_59, p_X10_put_87]
theorem k_X10_put_0 : zlk 0 bl_X10_put = b_X10_put_0 := rfl
theorem k_X10_put_30 : zlk 30 bl_X10_put = b_X10_put_30 := rfl
theorem k_X10_put_32 : zlk 32 bl_X10_put = b_X10_put_32 := rfl
theorem k_X10_put_58 : zlk 58 bl_X10_put = b_X10_put_58 := rfl
theorem k_X10_put_59 : zlk 59 bl_X10_put = b_X10_put_59 := rfl
theorem k_X10_put_87 : zlk 87 bl_X10_put = b_X10_put_87 := rfl
set_option maxRecDepth 100000 in
theorem ck_X10_put : zall q_X10_put.2.2.2.2.1 q_X10_put.2.1 10 false q_X10_put.2.2.1 cal_X10_put q_X10_put.2.2.2.1 bl_X10_put pl_X10_put = true := by decide +kernel
theorem nm_X10_put : plainName q_X10_put.1.cls = true ∧ zRX 10 = q_X10_put.1.cls ∧ (false = true → q_X10_put.1.name = "<init>") := ⟨by decide +kernel, rfl, fun h => by first | rfl | cases h⟩
set_option maxRecDepth 100000 in
theorem wd_X10_get : zwd q_X10_get := ⟨zw_in (p := (2, 159)) (by decide +kernel), zw_in (p := (1, 1)) (by decide +kernel), fun h => absurd h (by decide), fun _ => zw_in (p := (2, 157)) (by decide +kernel), fun _ => zw_in (p := (2, 158)) (by decide +kernel)⟩
def cal_X10_get : List zCal := [q_X10_matrixAt, q_X3_inside, q_X3_at]
def b_X10_get_26 : List zE := (26, .aload 4, []) :: (28, .iload_n 2, []) :: (29, .iload_n 3, []) :: (30, .invokevirtual 99, [2, 2, 3]) :: (33, .lreturn, []) :: []
def p_X10_get_26 : List (List (Nat × Nat)) := [] :: [] :: [] :: [(2, 139)] :: [] :: []
def b_X10_get_22 : List zE := (22, .ldc2_w 117, [18446744073709551615]) :: (25, .lreturn, []) :: []
def p_X10_get_22 : List (List (Nat × Nat)) := [(2, 161)] :: [] :: []
def b_X10_get_0 : List zE := (0, .aload_n 0, []) :: (1, .iload_n 1, []) :: (2, .invokevirtual 81, [0, 1, 10]) :: (5, .astore 4, []) :: (7, .aload 4, []) :: (9, .ifnull 13, [22, 0]) :: (12, .aload 4, []) :: (14, .iload_n 2, []) :: (15, .iload_n 3, []) :: (16, .invokevirtual 114, [1, 2, 3]) :: (19, .ifCond .ne 7, [26, 0]) :: (22, .nop, [0]) :: []
def p_X10_get_0 : List (List (Nat × Nat)) := [] :: [] :: [(2, 115)] :: [] :: [] :: [] :: [] :: [] :: [] :: [(2, 160)] :: [] :: [] :: []
def bl_X10_get : List (Nat × List zE) := [(0, b_X10_get_0), (22, b_X10_get_22), (26, b_X10_get_26)]
def pl_X10_get : List (List (List (Nat × Nat))) := [p_X10_get_0, p_X10_get_22, p_X10_get_26]
theorem k_X10_get_0 : zlk 0 bl_X10_get = b_X10_get_0 := rfl
theorem k_X10_get_22 : zlk 22 bl_X10_get = b_X10_get_22 := rfl
theorem k_X10_get_26 : zlk 26 bl_X10_get = b_X10_get_26 := rfl
set_option maxRecDepth 100000 in
theorem ck_X10_get : zall q_X10_get.2.2.2.2.1 q_X10_get.2.1 10 false q_X10_get.2.2.1 cal_X10_get q_X10_get.2.2.2.1 bl_X10_get pl_X10_get = true := by decide +kernel
theorem nm_X10_get : plainName q_X10_get.1.cls = true ∧ zRX 10 = q_X10_get.1.cls ∧ (false = true → q_X10_get.1.name = "<init>") := ⟨by decide +kernel, rfl, fun h => by first | rfl | cases h⟩
set_option maxRecDepth 100000 in
theorem wd_X10_shape : zwd q_X10_shape := ⟨zw_in (p := (2, 165)) (by decide +kernel), zw_in (p := (1, 1)) (by decide +kernel), fun h => absurd h (by decide), fun _ => zw_in (p := (2, 163)) (by decide +kernel), fun _ => zw_in (p := (2, 164)) (by decide +kernel)⟩
def cal_X10_shape : List zCal := [q_X10_matrixAt, q_X3_filled, q_X3_onLattice, q_X3_width]
def b_X10_shape_123 : List zE := (123, .iconst (-1), [4294967295]) :: (124, .ireturn, []) :: []
def p_X10_shape_123 : List (List (Nat × Nat)) := [] :: [] :: []
def b_X10_shape_122 : List zE := (122, .ireturn, []) :: []
def p_X10_shape_122 : List (List (Nat × Nat)) := [] :: []
def b_X10_shape_121 : List zE := (121, .iconst (-1), [4294967295]) :: (122, .nop, [0]) :: []
def p_X10_shape_121 : List (List (Nat × Nat)) := [] :: [] :: []
def b_X10_shape_103 : List zE := (103, .aload_n 3, []) :: (104, .getfield 119, [3, 2]) :: (107, .aload_n 3, []) :: (108, .getfield 122, [3, 3]) :: (111, .if_icmp .ne 10, [121, 0]) :: (114, .aload_n 3, []) :: (115, .invokevirtual 135, [3, 0, 3]) :: (118, .goto 4, [122, 0]) :: []
def p_X10_shape_103 : List (List (Nat × Nat)) := [] :: [(1, 219)] :: [] :: [(1, 224)] :: [] :: [] :: [(2, 189)] :: [] :: []
def b_X10_shape_102 : List zE := (102, .ireturn, []) :: []
def p_X10_shape_102 : List (List (Nat × Nat)) := [] :: []
def b_X10_shape_101 : List zE := (101, .iconst 0, [0]) :: (102, .nop, [0]) :: []
def p_X10_shape_101 : List (List (Nat × Nat)) := [] :: [] :: []
def b_X10_shape_90 : List zE := (90, .aload_n 3, []) :: (91, .invokevirtual 131, [2, 0, 3]) :: (94, .ifCond .eq 7, [101, 0]) :: (97, .iconst 1, [1]) :: (98, .goto 4, [102, 0]) :: []
def p_X10_shape_90 : List (List (Nat × Nat)) := [] :: [(2, 166)] :: [] :: [] :: [] :: []
def b_X10_shape_85 : List zE := (85, .aload_n 3, []) :: (86, .invokevirtual 107, [1, 0, 3]) :: (89, .ireturn, []) :: []
def p_X10_shape_85 : List (List (Nat × Nat)) := [] :: [(2, 143)] :: [] :: []
def b_X10_shape_80 : List zE := (80, .aload_n 3, []) :: (81, .getfield 128, [3, 5]) :: (84, .ireturn, []) :: []
def p_X10_shape_80 : List (List (Nat × Nat)) := [] :: [(1, 230)] :: [] :: []
def b_X10_shape_75 : List zE := (75, .aload_n 3, []) :: (76, .getfield 125, [3, 4]) :: (79, .ireturn, []) :: []
def p_X10_shape_75 : List (List (Nat × Nat)) := [] :: [(1, 227)] :: [] :: []
def b_X10_shape_70 : List zE := (70, .aload_n 3, []) :: (71, .getfield 122, [3, 3]) :: (74, .ireturn, []) :: []
def p_X10_shape_70 : List (List (Nat × Nat)) := [] :: [(1, 224)] :: [] :: []
def b_X10_shape_65 : List zE := (65, .aload_n 3, []) :: (66, .getfield 119, [3, 2]) :: (69, .ireturn, []) :: []
def p_X10_shape_65 : List (List (Nat × Nat)) := [] :: [(1, 219)] :: [] :: []
def b_X10_shape_60 : List zE := (60, .aload_n 3, []) :: (61, .getfield 103, [3, 1]) :: (64, .ireturn, []) :: []
def p_X10_shape_60 : List (List (Nat × Nat)) := [] :: [(1, 212)] :: [] :: []
def b_X10_shape_12 : List zE := (12, .iload_n 2, []) :: (13, .tableswitch 110 0 7 #[47, 52, 57, 62, 67, 72, 77, 90], [123, 60, 65, 70, 75, 80, 85, 90, 103]) :: []
def p_X10_shape_12 : List (List (Nat × Nat)) := [] :: [] :: []
def b_X10_shape_0 : List zE := (0, .aload_n 0, []) :: (1, .iload_n 1, []) :: (2, .invokevirtual 81, [0, 1, 10]) :: (5, .astore_n 3, []) :: (6, .aload_n 3, []) :: (7, .ifnonnull 5, [12, 0]) :: (10, .iconst (-1), [4294967295]) :: (11, .ireturn, []) :: []
def p_X10_shape_0 : List (List (Nat × Nat)) := [] :: [] :: [(2, 115)] :: [] :: [] :: [] :: [] :: [] :: []
def bl_X10_shape : List (Nat × List zE) := [(0, b_X10_shape_0), (12, b_X10_shape_12), (60, b_X10_shape_60), (65, b_X10_shape_65), (70, b_X10_shape_70), (75, b_X10_shape_75), (80, b_X10_shape_80), (85, b_X10_shape_85), (90, b_X10_shape_90), (101, b_X10_shape_101), (102, b_X10_shape_102), (103, b_X10_shape_103), (121, b_X10_shape_121), (122, b_X10_shape_122), (123, b_X10_shape_123)]
def pl_X10_shape : List (List (List (Nat × Nat))) := [p_X10_shape_0, p_X10_shape_12, p_X10_shape_60, p_X10_shape_65, p_X10_shape_70, p_X10_shape_75, p_X10_shape_80, p_X10_shape_85, p_X10_shape_90, p_X10_shape_101, p_X10_shape_102, p_X10_shape_103, p_X10_shape_121, p_X10_shape_122, p_X10_shape_123]
theorem k_X10_shape_0 : zlk 0 bl_X10_shape = b_X10_shape_0 := rfl
theorem k_X10_shape_12 : zlk 12 bl_X10_shape = b_X10_shape_12 := rfl
theorem k_X10_shape_60 : zlk 60 bl_X10_shape = b_X10_shape_60 := rfl
theorem k_X10_shape_65 : zlk 65 bl_X10_shape = b_X10_shape_65 := rfl
theorem k_X10_shape_70 : zlk 70 bl_X10_shape = b_X10_shape_70 := rfl
theorem k_X10_shape_75 : zlk 75 bl_X10_shape = b_X10_shape_75 := rfl
theorem k_X10_shape_80 : zlk 80 bl_X10_shape = b_X10_shape_80 := rfl
theorem k_X10_shape_85 : zlk 85 bl_X10_shape = b_X10_shape_85 := rfl
theorem k_X10_shape_90 : zlk 90 bl_X10_shape = b_X10_shape_90 := rfl
theorem k_X10_shape_101 : zlk 101 bl_X10_shape = b_X10_shape_101 := rfl
theorem k_X10_shape_102 : zlk 102 bl_X10_shape = b_X10_shape_102 := rfl
theorem k_X10_shape_103 : zlk 103 bl_X10_shape = b_X10_shape_103 := rfl
theorem k_X10_shape_121 : zlk 121 bl_X10_shape = b_X10_shape_121 := rfl
theorem k_X10_shape_122 : zlk 122 bl_X10_shape = b_X10_shape_122 := rfl
theorem k_X10_shape_123 : zlk 123 bl_X10_shape = b_X10_shape_123 := rfl
set_option maxRecDepth 100000 in
theorem ck_X10_shape : zall q_X10_shape.2.2.2.2.1 q_X10_shape.2.1 10 false q_X10_shape.2.2.1 cal_X10_shape q_X10_shape.2.2.2.1 bl_X10_shape pl_X10_shape = true := by decide +kernel
theorem nm_X10_shape : plainName q_X10_shape.1.cls = true ∧ zRX 10 = q_X10_shape.1.cls ∧ (false = true → q_X10_shape.1.name = "<init>") := ⟨by decide +kernel, rfl, fun h => by first | rfl | cases h⟩
set_option maxRecDepth 100000 in
theorem wd_X10_sum : zwd q_X10_sum := ⟨zw_in (p := (2, 202)) (by decide +kernel), zw_in (p := (1, 1)) (by decide +kernel), fun h => absurd h (by decide), fun _ => zw_in (p := (2, 200)) (by decide +kernel), fun _ => zw_in (p := (2, 201)) (by decide +kernel)⟩
def cal_X10_sum : List zCal := [q_X10_matrixAt, q_X10_freeMatrix, q_X3_alike, q_X3_begin, q_X3_becomeSum]
def b_X10_sum_88 : List zE := (88, .ireturn, []) :: []
def p_X10_sum_88 : List (List (Nat × Nat)) := [] :: []
def b_X10_sum_87 : List zE := (87, .iconst (-1), [4294967295]) :: (88, .nop, [0]) :: []
def p_X10_sum_87 : List (List (Nat × Nat)) := [] :: [] :: []
def b_X10_sum_45 : List zE := (45, .aload_n 0, []) :: (46, .getfield 11, [10, 0]) :: (49, .iload 5, []) :: (51, .aaload, []) :: (52, .iconst 0, [0]) :: (53, .aload_n 3, []) :: (54, .getfield 119, [3, 2]) :: (57, .aload_n 3, []) :: (58, .getfield 122, [3, 3]) :: (61, .iconst 0, [0]) :: (62, .iconst 0, [0]) :: (63, .invokevirtual 73, [3, 5, 3]) :: (66, .aload_n 0, []) :: (67, .getfield 11, [10, 0]) :: (70, .iload 5, []) :: (72, .aaload, []) :: (73, .aload_n 3, []) :: (74, .aload 4, []) :: (76, .invokevirtual 142, [4, 2, 3]) :: (79, .ifCond .eq 8, [87, 0]) :: (82, .iload 5, []) :: (84, .goto 4, [88, 0]) :: []
def p_X10_sum_45 : List (List (Nat × Nat)) := [] :: [(2, 68)] :: [] :: [] :: [] :: [] :: [(1, 219)] :: [] :: [(1, 224)] :: [] :: [] :: [(2, 107)] :: [] :: [(2, 68)] :: [] :: [] :: [] :: [] :: [(2, 207)] :: [] :: [] :: [] :: []
def b_X10_sum_43 : List zE := (43, .iconst (-1), [4294967295]) :: (44, .ireturn, []) :: []
def p_X10_sum_43 : List (List (Nat × Nat)) := [] :: [] :: []
def b_X10_sum_0 : List zE := (0, .aload_n 0, []) :: (1, .iload_n 1, []) :: (2, .invokevirtual 81, [0, 1, 10]) :: (5, .astore_n 3, []) :: (6, .aload_n 0, []) :: (7, .iload_n 2, []) :: (8, .invokevirtual 81, [0, 1, 10]) :: (11, .astore 4, []) :: (13, .aload_n 0, []) :: (14, .invokevirtual 65, [1, 0, 10]) :: (17, .istore 5, []) :: (19, .aload_n 3, []) :: (20, .ifnull 23, [43, 0]) :: (23, .aload 4, []) :: (25, .ifnull 18, [43, 0]) :: (28, .iload 5, []) :: (30, .iconst (-1), [4294967295]) :: (31, .if_icmp .eq 12, [43, 0]) :: (34, .aload_n 3, []) :: (35, .aload 4, []) :: (37, .invokevirtual 138, [2, 1, 3]) :: (40, .ifCond .ne 5, [45, 0]) :: (43, .nop, [0]) :: []
def p_X10_sum_0 : List (List (Nat × Nat)) := [] :: [] :: [(2, 115)] :: [] :: [] :: [] :: [(2, 115)] :: [] :: [] :: [(2, 100)] :: [] :: [] :: [] :: [] :: [] :: [] :: [] :: [] :: [] :: [] :: [(2, 203)] :: [] :: [] :: []
def bl_X10_sum : List (Nat × List zE) := [(0, b_X10_sum_0), (43, b_X10_sum_43), (45, b_X10_sum_45), (87, b_X10_sum_87), (88, b_X10_sum_88)]
def pl_X10_sum : List (List (List (Nat × Nat))) := [p_X10_sum_0, p_X10_sum_43, p_X10_sum_45, p_X10_sum_87, p_X10_sum_88]
theorem k_X10_sum_0 : zlk 0 bl_X10_sum = b_X10_sum_0 := rfl
theorem k_X10_sum_43 : zlk 43 bl_X10_sum = b_X10_sum_43 := rfl
theorem k_X10_sum_45 : zlk 45 bl_X10_sum = b_X10_sum_45 := rfl
theorem k_X10_sum_87 : zlk 87 bl_X10_sum = b_X10_sum_87 := rfl
theorem k_X10_sum_88 : zlk 88 bl_X10_sum = b_X10_sum_88 := rfl
set_option maxRecDepth 100000 in
theorem ck_X10_sum : zall q_X10_sum.2.2.2.2.1 q_X10_sum.2.1 10 false q_X10_sum.2.2.1 cal_X10_sum q_X10_sum.2.2.2.1 bl_X10_sum pl_X10_sum = true := by decide +kernel
theorem nm_X10_sum : plainName q_X10_sum.1.cls = true ∧ zRX 10 = q_X10_sum.1.cls ∧ (false = true → q_X10_sum.1.name = "<init>") := ⟨by decide +kernel, rfl, fun h => by first | rfl | cases h⟩
set_option maxRecDepth 100000 in
theorem wd_X10_product : zwd q_X10_product := ⟨zw_in (p := (2, 222)) (by decide +kernel), zw_in (p := (1, 1)) (by decide +kernel), fun h => absurd h (by decide), fun _ => zw_in (p := (2, 220)) (by decide +kernel), fun _ => zw_in (p := (2, 221)) (by decide +kernel)⟩
def cal_X10_product : List zCal := [q_X10_matrixAt, q_X10_freeMatrix, q_X3_begin, q_X3_becomeProduct]
def b_X10_product_98 : List zE := (98, .ireturn, []) :: []
def p_X10_product_98 : List (List (Nat × Nat)) := [] :: []
def b_X10_product_97 : List zE := (97, .iconst (-1), [4294967295]) :: (98, .nop, [0]) :: []
def p_X10_product_97 : List (List (Nat × Nat)) := [] :: [] :: []
def b_X10_product_51 : List zE := (51, .aload_n 0, []) :: (52, .getfield 11, [10, 0]) :: (55, .iload 6, []) :: (57, .aaload, []) :: (58, .iconst 0, [0]) :: (59, .aload 4, []) :: (61, .getfield 119, [3, 2]) :: (64, .aload 5, []) :: (66, .getfield 122, [3, 3]) :: (69, .iconst 0, [0]) :: (70, .iconst 0, [0]) :: (71, .invokevirtual 73, [2, 5, 3]) :: (74, .aload_n 0, []) :: (75, .getfield 11, [10, 0]) :: (78, .iload 6, []) :: (80, .aaload, []) :: (81, .aload 4, []) :: (83, .aload 5, []) :: (85, .iload_n 3, []) :: (86, .invokevirtual 146, [3, 3, 3]) :: (89, .ifCond .eq 8, [97, 0]) :: (92, .iload 6, []) :: (94, .goto 4, [98, 0]) :: []
def p_X10_product_51 : List (List (Nat × Nat)) := [] :: [(2, 68)] :: [] :: [] :: [] :: [] :: [(1, 219)] :: [] :: [(1, 224)] :: [] :: [] :: [(2, 107)] :: [] :: [(2, 68)] :: [] :: [] :: [] :: [] :: [] :: [(2, 223)] :: [] :: [] :: [] :: []
def b_X10_product_49 : List zE := (49, .iconst (-1), [4294967295]) :: (50, .ireturn, []) :: []
def p_X10_product_49 : List (List (Nat × Nat)) := [] :: [] :: []
def b_X10_product_0 : List zE := (0, .aload_n 0, []) :: (1, .iload_n 1, []) :: (2, .invokevirtual 81, [0, 1, 10]) :: (5, .astore 4, []) :: (7, .aload_n 0, []) :: (8, .iload_n 2, []) :: (9, .invokevirtual 81, [0, 1, 10]) :: (12, .astore 5, []) :: (14, .aload_n 0, []) :: (15, .invokevirtual 65, [1, 0, 10]) :: (18, .istore 6, []) :: (20, .aload 4, []) :: (22, .ifnull 27, [49, 0]) :: (25, .aload 5, []) :: (27, .ifnull 22, [49, 0]) :: (30, .iload 6, []) :: (32, .iconst (-1), [4294967295]) :: (33, .if_icmp .eq 16, [49, 0]) :: (36, .aload 4, []) :: (38, .getfield 122, [3, 3]) :: (41, .aload 5, []) :: (43, .getfield 119, [3, 2]) :: (46, .if_icmp .eq 5, [51, 0]) :: (49, .nop, [0]) :: []
def p_X10_product_0 : List (List (Nat × Nat)) := [] :: [] :: [(2, 115)] :: [] :: [] :: [] :: [(2, 115)] :: [] :: [] :: [(2, 100)] :: [] :: [] :: [] :: [] :: [] :: [] :: [] :: [] :: [] :: [(1, 224)] :: [] :: [(1, 219)] :: [] :: [] :: []
def bl_X10_product : List (Nat × List zE) := [(0, b_X10_product_0), (49, b_X10_product_49), (51, b_X10_product_51), (97, b_X10_product_97), (98, b_X10_product_98)]
def pl_X10_product : List (List (List (Nat × Nat))) := [p_X10_product_0, p_X10_product_49, p_X10_product_51, p_X10_product_97, p_X10_product_98]
theorem k_X10_product_0 : zlk 0 bl_X10_product = b_X10_product_0 := rfl
theorem k_X10_product_49 : zlk 49 bl_X10_product = b_X10_product_49 := rfl
theorem k_X10_product_51 : zlk 51 bl_X10_product = b_X10_product_51 := rfl
theorem k_X10_product_97 : zlk 97 bl_X10_product = b_X10_product_97 := rfl
theorem k_X10_product_98 : zlk 98 bl_X10_product = b_X10_product_98 := rfl
set_option maxRecDepth 100000 in
theorem ck_X10_product : zall q_X10_product.2.2.2.2.1 q_X10_product.2.1 10 false q_X10_product.2.2.1 cal_X10_product q_X10_product.2.2.2.1 bl_X10_product pl_X10_product = true := by decide +kernel
theorem nm_X10_product : plainName q_X10_product.1.cls = true ∧ zRX 10 = q_X10_product.1.cls ∧ (false = true → q_X10_product.1.name = "<init>") := ⟨by decide +kernel, rfl, fun h => by first | rfl | cases h⟩
set_option maxRecDepth 100000 in
theorem wd_X10_transpose : zwd q_X10_transpose := ⟨zw_in (p := (3, 19)) (by decide +kernel), zw_in (p := (1, 1)) (by decide +kernel), fun h => absurd h (by decide), fun _ => zw_in (p := (3, 17)) (by decide +kernel), fun _ => zw_in (p := (3, 18)) (by decide +kernel)⟩
def cal_X10_transpose : List zCal := [q_X10_matrixAt, q_X10_freeMatrix, q_X3_begin, q_X3_at, q_X3_store]
def b_X10_transpose_99 : List zE := (99, .aload 4, []) :: (101, .iconst 1, [1]) :: (102, .putfield 77, [3, 0]) :: (105, .iload_n 3, []) :: (106, .ireturn, []) :: []
def p_X10_transpose_99 : List (List (Nat × Nat)) := [] :: [] :: [(1, 209)] :: [] :: [] :: []
def b_X10_transpose_93 : List zE := (93, .iinc 5 1, [1]) :: (96, .goto (-47), [49, 1]) :: []
def p_X10_transpose_93 : List (List (Nat × Nat)) := [] :: [] :: []
def b_X10_transpose_61 : List zE := (61, .iload 6, []) :: (63, .aload_n 2, []) :: (64, .getfield 122, [3, 3]) :: (67, .if_icmp .ge 26, [93, 0]) :: (70, .aload 4, []) :: (72, .iload 6, []) :: (74, .iload 5, []) :: (76, .aload_n 2, []) :: (77, .iload 5, []) :: (79, .iload 6, []) :: (81, .invokevirtual 99, [3, 2, 3]) :: (84, .invokevirtual 110, [4, 3, 3]) :: (87, .iinc 6 1, [1]) :: (90, .goto (-29), [61, 1]) :: []
def p_X10_transpose_61 : List (List (Nat × Nat)) := [] :: [] :: [(1, 224)] :: [] :: [] :: [] :: [] :: [] :: [] :: [] :: [(2, 139)] :: [(2, 148)] :: [] :: [] :: []
def b_X10_transpose_49 : List zE := (49, .iload 5, []) :: (51, .aload_n 2, []) :: (52, .getfield 119, [3, 2]) :: (55, .if_icmp .ge 44, [99, 0]) :: (58, .iconst 0, [0]) :: (59, .istore 6, []) :: (61, .nop, []) :: []
def p_X10_transpose_49 : List (List (Nat × Nat)) := [] :: [] :: [(1, 219)] :: [] :: [] :: [] :: [] :: []
def b_X10_transpose_22 : List zE := (22, .aload_n 0, []) :: (23, .getfield 11, [10, 0]) :: (26, .iload_n 3, []) :: (27, .aaload, []) :: (28, .astore 4, []) :: (30, .aload 4, []) :: (32, .iconst 0, [0]) :: (33, .aload_n 2, []) :: (34, .getfield 122, [3, 3]) :: (37, .aload_n 2, []) :: (38, .getfield 119, [3, 2]) :: (41, .iconst 0, [0]) :: (42, .iconst 0, [0]) :: (43, .invokevirtual 73, [2, 5, 3]) :: (46, .iconst 0, [0]) :: (47, .istore 5, []) :: (49, .nop, []) :: []
def p_X10_transpose_22 : List (List (Nat × Nat)) := [] :: [(2, 68)] :: [] :: [] :: [] :: [] :: [] :: [] :: [(1, 224)] :: [] :: [(1, 219)] :: [] :: [] :: [(2, 107)] :: [] :: [] :: [] :: []
def b_X10_transpose_20 : List zE := (20, .iconst (-1), [4294967295]) :: (21, .ireturn, []) :: []
def p_X10_transpose_20 : List (List (Nat × Nat)) := [] :: [] :: []
def b_X10_transpose_0 : List zE := (0, .aload_n 0, []) :: (1, .iload_n 1, []) :: (2, .invokevirtual 81, [0, 1, 10]) :: (5, .astore_n 2, []) :: (6, .aload_n 0, []) :: (7, .invokevirtual 65, [1, 0, 10]) :: (10, .istore_n 3, []) :: (11, .aload_n 2, []) :: (12, .ifnull 8, [20, 0]) :: (15, .iload_n 3, []) :: (16, .iconst (-1), [4294967295]) :: (17, .if_icmp .ne 5, [22, 0]) :: (20, .nop, [0]) :: []
def p_X10_transpose_0 : List (List (Nat × Nat)) := [] :: [] :: [(2, 115)] :: [] :: [] :: [(2, 100)] :: [] :: [] :: [] :: [] :: [] :: [] :: [] :: []
def bl_X10_transpose : List (Nat × List zE) := [(0, b_X10_transpose_0), (20, b_X10_transpose_20), (22, b_X10_transpose_22), (49, b_X10_transpose_49), (61, b_X10_transpose_61), (93, b_X10_transpose_93), (99, b_X10_transpose_99)]
def pl_X10_transpose : List (List (List (Nat × Nat))) := [p_X10_transpose_0, p_X10_transpose_20, p_X10_transpose_22, p_X10_transpose_49, p_X10_transpose_61, p_X10_transpose_93, p_X10_transpose_99]
theorem k_X10_transpose_0 : zlk 0 bl_X10_transpose = b_X10_transpose_0 := rfl
theorem k_X10_transpose_20 : zlk 20 bl_X10_transpose = b_X10_transpose_20 := rfl
theorem k_X10_transpose_22 : zlk 22 bl_X10_transpose = b_X10_transpose_22 := rfl
theorem k_X10_transpose_49 : zlk 49 bl_X10_transpose = b_X10_transpose_49 := rfl
theorem k_X10_transpose_61 : zlk 61 bl_X10_transpose = b_X10_transpose_61 := rfl
theorem k_X10_transpose_93 : zlk 93 bl_X10_transpose = b_X10_transpose_93 := rfl
theorem k_X10_transpose_99 : zlk 99 bl_X10_transpose = b_X10_transpose_99 := rfl
set_option maxRecDepth 100000 in
theorem ck_X10_transpose : zall q_X10_transpose.2.2.2.2.1 q_X10_transpose.2.1 10 false q_X10_transpose.2.2.1 cal_X10_transpose q_X10_transpose.2.2.2.1 bl_X10_transpose pl_X10_transpose = true := by decide +kernel
theorem nm_X10_transpose : plainName q_X10_transpose.1.cls = true ∧ zRX 10 = q_X10_transpose.1.cls ∧ (false = true → q_X10_transpose.1.name = "<init>") := ⟨by decide +kernel, rfl, fun h => by first | rfl | cases h⟩
set_option maxRecDepth 100000 in
theorem wd_X10_formed : zwd q_X10_formed := ⟨zw_in (p := (3, 23)) (by decide +kernel), zw_in (p := (1, 1)) (by decide +kernel), fun h => absurd h (by decide), fun _ => zw_in (p := (3, 21)) (by decide +kernel), fun _ => zw_in (p := (3, 22)) (by decide +kernel)⟩
def cal_X10_formed : List zCal := [q_X10_matrixAt, q_X10_freeMatrix, q_X3_sound, q_X3_begin, q_X3_takeNumbers]
def b_X10_formed_91 : List zE := (91, .ireturn, []) :: []
def p_X10_formed_91 : List (List (Nat × Nat)) := [] :: []
def b_X10_formed_90 : List zE := (90, .iconst (-1), [4294967295]) :: (91, .nop, [0]) :: []
def p_X10_formed_90 : List (List (Nat × Nat)) := [] :: [] :: []
def b_X10_formed_46 : List zE := (46, .aload_n 0, []) :: (47, .getfield 11, [10, 0]) :: (50, .iload 6, []) :: (52, .aaload, []) :: (53, .iload_n 2, []) :: (54, .aload 5, []) :: (56, .getfield 119, [3, 2]) :: (59, .aload 5, []) :: (61, .getfield 122, [3, 3]) :: (64, .iload_n 3, []) :: (65, .iload 4, []) :: (67, .invokevirtual 73, [3, 5, 3]) :: (70, .aload_n 0, []) :: (71, .getfield 11, [10, 0]) :: (74, .iload 6, []) :: (76, .aaload, []) :: (77, .aload 5, []) :: (79, .invokevirtual 150, [4, 1, 3]) :: (82, .ifCond .eq 8, [90, 0]) :: (85, .iload 6, []) :: (87, .goto 4, [91, 0]) :: []
def p_X10_formed_46 : List (List (Nat × Nat)) := [] :: [(2, 68)] :: [] :: [] :: [] :: [] :: [(1, 219)] :: [] :: [(1, 224)] :: [] :: [] :: [(2, 107)] :: [] :: [(2, 68)] :: [] :: [] :: [] :: [(3, 24)] :: [] :: [] :: [] :: []
def b_X10_formed_44 : List zE := (44, .iconst (-1), [4294967295]) :: (45, .ireturn, []) :: []
def p_X10_formed_44 : List (List (Nat × Nat)) := [] :: [] :: []
def b_X10_formed_0 : List zE := (0, .aload_n 0, []) :: (1, .iload_n 1, []) :: (2, .invokevirtual 81, [0, 1, 10]) :: (5, .astore 5, []) :: (7, .aload_n 0, []) :: (8, .invokevirtual 65, [1, 0, 10]) :: (11, .istore 6, []) :: (13, .aload 5, []) :: (15, .ifnull 29, [44, 0]) :: (18, .iload 6, []) :: (20, .iconst (-1), [4294967295]) :: (21, .if_icmp .eq 23, [44, 0]) :: (24, .iload_n 2, []) :: (25, .aload 5, []) :: (27, .getfield 119, [3, 2]) :: (30, .aload 5, []) :: (32, .getfield 122, [3, 3]) :: (35, .iload_n 3, []) :: (36, .iload 4, []) :: (38, .invokestatic 69, [2, 5]) :: (41, .ifCond .ne 5, [46, 0]) :: (44, .nop, [0]) :: []
def p_X10_formed_0 : List (List (Nat × Nat)) := [] :: [] :: [(2, 115)] :: [] :: [] :: [(2, 100)] :: [] :: [] :: [] :: [] :: [] :: [] :: [] :: [] :: [(1, 219)] :: [] :: [(1, 224)] :: [] :: [] :: [(2, 104)] :: [] :: [] :: []
def bl_X10_formed : List (Nat × List zE) := [(0, b_X10_formed_0), (44, b_X10_formed_44), (46, b_X10_formed_46), (90, b_X10_formed_90), (91, b_X10_formed_91)]
def pl_X10_formed : List (List (List (Nat × Nat))) := [p_X10_formed_0, p_X10_formed_44, p_X10_formed_46, p_X10_formed_90, p_X10_formed_91]
theorem k_X10_formed_0 : zlk 0 bl_X10_formed = b_X10_formed_0 := rfl
theorem k_X10_formed_44 : zlk 44 bl_X10_formed = b_X10_formed_44 := rfl
theorem k_X10_formed_46 : zlk 46 bl_X10_formed = b_X10_formed_46 := rfl
theorem k_X10_formed_90 : zlk 90 bl_X10_formed = b_X10_formed_90 := rfl
theorem k_X10_formed_91 : zlk 91 bl_X10_formed = b_X10_formed_91 := rfl
set_option maxRecDepth 100000 in
theorem ck_X10_formed : zall q_X10_formed.2.2.2.2.1 q_X10_formed.2.1 10 false q_X10_formed.2.2.1 cal_X10_formed q_X10_formed.2.2.2.1 bl_X10_formed pl_X10_formed = true := by decide +kernel
theorem nm_X10_formed : plainName q_X10_formed.1.cls = true ∧ zRX 10 = q_X10_formed.1.cls ∧ (false = true → q_X10_formed.1.name = "<init>") := ⟨by decide +kernel, rfl, fun h => by first | rfl | cases h⟩
set_option maxRecDepth 100000 in
theorem wd_X10_block : zwd q_X10_block := ⟨zw_in (p := (3, 33)) (by decide +kernel), zw_in (p := (1, 1)) (by decide +kernel), fun h => absurd h (by decide), fun _ => zw_in (p := (3, 31)) (by decide +kernel), fun _ => zw_in (p := (3, 32)) (by decide +kernel)⟩
def cal_X10_block : List zCal := [q_X10_matrixAt, q_X10_freeMatrix, q_X3_inside, q_X3_begin, q_X3_at, q_X3_store]
def b_X10_block_149 : List zE := (149, .aload 8, []) :: (151, .iconst 1, [1]) :: (152, .putfield 77, [3, 0]) :: (155, .iload 7, []) :: (157, .ireturn, []) :: []
def p_X10_block_149 : List (List (Nat × Nat)) := [] :: [] :: [(1, 209)] :: [] :: [] :: []
def b_X10_block_143 : List zE := (143, .iinc 9 1, [1]) :: (146, .goto (-48), [98, 1]) :: []
def p_X10_block_143 : List (List (Nat × Nat)) := [] :: [] :: []
def b_X10_block_108 : List zE := (108, .iload 10, []) :: (110, .iload 5, []) :: (112, .if_icmp .ge 31, [143, 0]) :: (115, .aload 8, []) :: (117, .iload 9, []) :: (119, .iload 10, []) :: (121, .aload 6, []) :: (123, .iload_n 2, []) :: (124, .iload 9, []) :: (126, .iadd, []) :: (127, .iload_n 3, []) :: (128, .iload 10, []) :: (130, .iadd, []) :: (131, .invokevirtual 99, [4, 2, 3]) :: (134, .invokevirtual 110, [5, 3, 3]) :: (137, .iinc 10 1, [1]) :: (140, .goto (-32), [108, 1]) :: []
def p_X10_block_108 : List (List (Nat × Nat)) := [] :: [] :: [] :: [] :: [] :: [] :: [] :: [] :: [] :: [] :: [] :: [] :: [] :: [(2, 139)] :: [(2, 148)] :: [] :: [] :: []
def b_X10_block_98 : List zE := (98, .iload 9, []) :: (100, .iload 4, []) :: (102, .if_icmp .ge 47, [149, 0]) :: (105, .iconst 0, [0]) :: (106, .istore 10, []) :: (108, .nop, []) :: []
def p_X10_block_98 : List (List (Nat × Nat)) := [] :: [] :: [] :: [] :: [] :: [] :: []
def b_X10_block_74 : List zE := (74, .aload_n 0, []) :: (75, .getfield 11, [10, 0]) :: (78, .iload 7, []) :: (80, .aaload, []) :: (81, .astore 8, []) :: (83, .aload 8, []) :: (85, .iconst 0, [0]) :: (86, .iload 4, []) :: (88, .iload 5, []) :: (90, .iconst 0, [0]) :: (91, .iconst 0, [0]) :: (92, .invokevirtual 73, [3, 5, 3]) :: (95, .iconst 0, [0]) :: (96, .istore 9, []) :: (98, .nop, []) :: []
def p_X10_block_74 : List (List (Nat × Nat)) := [] :: [(2, 68)] :: [] :: [] :: [] :: [] :: [] :: [] :: [] :: [] :: [] :: [(2, 107)] :: [] :: [] :: [] :: []
def b_X10_block_72 : List zE := (72, .iconst (-1), [4294967295]) :: (73, .ireturn, []) :: []
def p_X10_block_72 : List (List (Nat × Nat)) := [] :: [] :: []
def b_X10_block_48 : List zE := (48, .iload 4, []) :: (50, .aload 6, []) :: (52, .getfield 119, [3, 2]) :: (55, .iload_n 2, []) :: (56, .isub, []) :: (57, .if_icmp .gt 15, [72, 0]) :: (60, .iload 5, []) :: (62, .aload 6, []) :: (64, .getfield 122, [3, 3]) :: (67, .iload_n 3, []) :: (68, .isub, []) :: (69, .if_icmp .le 5, [74, 0]) :: (72, .nop, [0]) :: []
def p_X10_block_48 : List (List (Nat × Nat)) := [] :: [] :: [(1, 219)] :: [] :: [] :: [] :: [] :: [] :: [(1, 224)] :: [] :: [] :: [] :: [] :: []
def b_X10_block_46 : List zE := (46, .iconst (-1), [4294967295]) :: (47, .ireturn, []) :: []
def p_X10_block_46 : List (List (Nat × Nat)) := [] :: [] :: []
def b_X10_block_0 : List zE := (0, .aload_n 0, []) :: (1, .iload_n 1, []) :: (2, .invokevirtual 81, [0, 1, 10]) :: (5, .astore 6, []) :: (7, .aload_n 0, []) :: (8, .invokevirtual 65, [1, 0, 10]) :: (11, .istore 7, []) :: (13, .aload 6, []) :: (15, .ifnull 31, [46, 0]) :: (18, .iload 7, []) :: (20, .iconst (-1), [4294967295]) :: (21, .if_icmp .eq 25, [46, 0]) :: (24, .aload 6, []) :: (26, .iload_n 2, []) :: (27, .iload_n 3, []) :: (28, .invokevirtual 114, [2, 2, 3]) :: (31, .ifCond .eq 15, [46, 0]) :: (34, .iload 4, []) :: (36, .iconst 1, [1]) :: (37, .if_icmp .lt 9, [46, 0]) :: (40, .iload 5, []) :: (42, .iconst 1, [1]) :: (43, .if_icmp .ge 5, [48, 0]) :: (46, .nop, [0]) :: []
def p_X10_block_0 : List (List (Nat × Nat)) := [] :: [] :: [(2, 115)] :: [] :: [] :: [(2, 100)] :: [] :: [] :: [] :: [] :: [] :: [] :: [] :: [] :: [] :: [(2, 160)] :: [] :: [] :: [] :: [] :: [] :: [] :: [] :: [] :: []
def bl_X10_block : List (Nat × List zE) := [(0, b_X10_block_0), (46, b_X10_block_46), (48, b_X10_block_48), (72, b_X10_block_72), (74, b_X10_block_74), (98, b_X10_block_98), (108, b_X10_block_108), (143, b_X10_block_143), (149, b_X10_block_149)]
def pl_X10_block : List (List (List (Nat × Nat))) := [p_X10_block_0, p_X10_block_46, p_X10_block_48, p_X10_block_72, p_X10_block_74, p_X10_block_98, p_X10_block_108, p_X10_block_143, p_X10_block_149]
theorem k_X10_block_0 : zlk 0 bl_X10_block = b_X10_block_0 := rfl
theorem k_X10_block_46 : zlk 46 bl_X10_block = b_X10_block_46 := rfl
theorem k_X10_block_48 : zlk 48 bl_X10_block = b_X10_block_48 := rfl
theorem k_X10_block_72 : zlk 72 bl_X10_block = b_X10_block_72 := rfl
theorem k_X10_block_74 : zlk 74 bl_X10_block = b_X10_block_74 := rfl
theorem k_X10_block_98 : zlk 98 bl_X10_block = b_X10_block_98 := rfl
theorem k_X10_block_108 : zlk 108 bl_X10_block = b_X10_block_108 := rfl
theorem k_X10_block_143 : zlk 143 bl_X10_block = b_X10_block_143 := rfl
theorem k_X10_block_149 : zlk 149 bl_X10_block = b_X10_block_149 := rfl
set_option maxRecDepth 100000 in
theorem ck_X10_block : zall q_X10_block.2.2.2.2.1 q_X10_block.2.1 10 false q_X10_block.2.2.1 cal_X10_block q_X10_block.2.2.2.1 bl_X10_block pl_X10_block = true := by decide +kernel
theorem nm_X10_block : plainName q_X10_block.1.cls = true ∧ zRX 10 = q_X10_block.1.cls ∧ (false = true → q_X10_block.1.name = "<init>") := ⟨by decide +kernel, rfl, fun h => by first | rfl | cases h⟩
set_option maxRecDepth 100000 in
theorem wd_X10_same : zwd q_X10_same := ⟨zw_in (p := (3, 37)) (by decide +kernel), zw_in (p := (1, 1)) (by decide +kernel), fun h => absurd h (by decide), fun _ => zw_in (p := (3, 35)) (by decide +kernel), fun _ => zw_in (p := (3, 36)) (by decide +kernel)⟩
def cal_X10_same : List zCal := [q_X10_matrixAt, q_X3_alike, q_X3_equalNumbers]
def b_X10_same_47 : List zE := (47, .ireturn, []) :: []
def p_X10_same_47 : List (List (Nat × Nat)) := [] :: []
def b_X10_same_46 : List zE := (46, .iconst 0, [0]) :: (47, .nop, [0]) :: []
def p_X10_same_46 : List (List (Nat × Nat)) := [] :: [] :: []
def b_X10_same_24 : List zE := (24, .aload_n 3, []) :: (25, .aload 4, []) :: (27, .invokevirtual 138, [1, 1, 3]) :: (30, .ifCond .eq 16, [46, 0]) :: (33, .aload_n 3, []) :: (34, .aload 4, []) :: (36, .invokevirtual 153, [2, 1, 3]) :: (39, .ifCond .eq 7, [46, 0]) :: (42, .iconst 1, [1]) :: (43, .goto 4, [47, 0]) :: []
def p_X10_same_24 : List (List (Nat × Nat)) := [] :: [] :: [(2, 203)] :: [] :: [] :: [] :: [(3, 38)] :: [] :: [] :: [] :: []
def b_X10_same_22 : List zE := (22, .iconst (-1), [4294967295]) :: (23, .ireturn, []) :: []
def p_X10_same_22 : List (List (Nat × Nat)) := [] :: [] :: []
def b_X10_same_0 : List zE := (0, .aload_n 0, []) :: (1, .iload_n 1, []) :: (2, .invokevirtual 81, [0, 1, 10]) :: (5, .astore_n 3, []) :: (6, .aload_n 0, []) :: (7, .iload_n 2, []) :: (8, .invokevirtual 81, [0, 1, 10]) :: (11, .astore 4, []) :: (13, .aload_n 3, []) :: (14, .ifnull 8, [22, 0]) :: (17, .aload 4, []) :: (19, .ifnonnull 5, [24, 0]) :: (22, .nop, [0]) :: []
def p_X10_same_0 : List (List (Nat × Nat)) := [] :: [] :: [(2, 115)] :: [] :: [] :: [] :: [(2, 115)] :: [] :: [] :: [] :: [] :: [] :: [] :: []
def bl_X10_same : List (Nat × List zE) := [(0, b_X10_same_0), (22, b_X10_same_22), (24, b_X10_same_24), (46, b_X10_same_46), (47, b_X10_same_47)]
def pl_X10_same : List (List (List (Nat × Nat))) := [p_X10_same_0, p_X10_same_22, p_X10_same_24, p_X10_same_46, p_X10_same_47]
theorem k_X10_same_0 : zlk 0 bl_X10_same = b_X10_same_0 := rfl
theorem k_X10_same_22 : zlk 22 bl_X10_same = b_X10_same_22 := rfl
theorem k_X10_same_24 : zlk 24 bl_X10_same = b_X10_same_24 := rfl
theorem k_X10_same_46 : zlk 46 bl_X10_same = b_X10_same_46 := rfl
theorem k_X10_same_47 : zlk 47 bl_X10_same = b_X10_same_47 := rfl
set_option maxRecDepth 100000 in
theorem ck_X10_same : zall q_X10_same.2.2.2.2.1 q_X10_same.2.1 10 false q_X10_same.2.2.1 cal_X10_same q_X10_same.2.2.2.1 bl_X10_same pl_X10_same = true := by decide +kernel
theorem nm_X10_same : plainName q_X10_same.1.cls = true ∧ zRX 10 = q_X10_same.1.cls ∧ (false = true → q_X10_same.1.name = "<init>") := ⟨by decide +kernel, rfl, fun h => by first | rfl | cases h⟩
set_option maxRecDepth 100000 in
theorem wd_X10_freeFactor : zwd q_X10_freeFactor := ⟨zw_in (p := (3, 49)) (by decide +kernel), zw_in (p := (1, 1)) (by decide +kernel), fun h => absurd h (by decide), fun _ => zw_in (p := (3, 48)) (by decide +kernel), fun _ => zw_in (p := (0, 2)) (by decide +kernel)⟩
def cal_X10_freeFactor : List zCal := []
def b_X10_freeFactor_28 : List zE := (28, .iconst (-1), [4294967295]) :: (29, .ireturn, []) :: []
def p_X10_freeFactor_28 : List (List (Nat × Nat)) := [] :: [] :: []
def b_X10_freeFactor_22 : List zE := (22, .iinc 1 1, [1]) :: (25, .goto (-23), [2, 1]) :: []
def p_X10_freeFactor_22 : List (List (Nat × Nat)) := [] :: [] :: []
def b_X10_freeFactor_2 : List zE := (2, .iload_n 1, []) :: (3, .bipush 12, [12]) :: (5, .if_icmp .ge 23, [28, 0]) :: (8, .aload_n 0, []) :: (9, .getfield 17, [10, 1]) :: (12, .iload_n 1, []) :: (13, .aaload, []) :: (14, .getfield 163, [2, 0]) :: (17, .ifCond .ne 5, [22, 0]) :: (20, .iload_n 1, []) :: (21, .ireturn, []) :: []
def p_X10_freeFactor_2 : List (List (Nat × Nat)) := [] :: [] :: [] :: [] :: [(2, 69)] :: [] :: [] :: [(2, 13)] :: [] :: [] :: [] :: []
def b_X10_freeFactor_0 : List zE := (0, .iconst 0, [0]) :: (1, .istore_n 1, []) :: (2, .nop, []) :: []
def p_X10_freeFactor_0 : List (List (Nat × Nat)) := [] :: [] :: [] :: []
def bl_X10_freeFactor : List (Nat × List zE) := [(0, b_X10_freeFactor_0), (2, b_X10_freeFactor_2), (22, b_X10_freeFactor_22), (28, b_X10_freeFactor_28)]
def pl_X10_freeFactor : List (List (List (Nat × Nat))) := [p_X10_freeFactor_0, p_X10_freeFactor_2, p_X10_freeFactor_22, p_X10_freeFactor_28]
theorem k_X10_freeFactor_0 : zlk 0 bl_X10_freeFactor = b_X10_freeFactor_0 := rfl
theorem k_X10_freeFactor_2 : zlk 2 bl_X10_freeFactor = b_X10_freeFactor_2 := rfl
theorem k_X10_freeFactor_22 : zlk 22 bl_X10_freeFactor = b_X10_freeFactor_22 := rfl
theorem k_X10_freeFactor_28 : zlk 28 bl_X10_freeFactor = b_X10_freeFactor_28 := rfl
set_option maxRecDepth 100000 in
theorem ck_X10_freeFactor : zall q_X10_freeFactor.2.2.2.2.1 q_X10_freeFactor.2.1 10 false q_X10_freeFactor.2.2.1 cal_X10_freeFactor q_X10_freeFactor.2.2.2.1 bl_X10_freeFactor pl_X10_freeFactor = true := by decide +kernel
theorem nm_X10_freeFactor : plainName q_X10_freeFactor.1.cls = true ∧ zRX 10 = q_X10_freeFactor.1.cls ∧ (false = true → q_X10_freeFactor.1.name = "<init>") := ⟨by decide +kernel, rfl, fun h => by first | rfl | cases h⟩
set_option maxRecDepth 100000 in
theorem wd_X10_factor : zwd q_X10_factor := ⟨zw_in (p := (3, 45)) (by decide +kernel), zw_in (p := (1, 1)) (by decide +kernel), fun h => absurd h (by decide), fun _ => zw_in (p := (3, 43)) (by decide +kernel), fun _ => zw_in (p := (3, 44)) (by decide +kernel)⟩
def cal_X10_factor : List zCal := [q_X10_matrixAt, q_X10_freeFactor, q_X2_make]
def b_X10_factor_78 : List zE := (78, .aload_n 0, []) :: (79, .getfield 17, [10, 1]) :: (82, .iload 5, []) :: (84, .aaload, []) :: (85, .iconst 1, [1]) :: (86, .putfield 163, [2, 0]) :: (89, .iload 5, []) :: (91, .ireturn, []) :: []
def p_X10_factor_78 : List (List (Nat × Nat)) := [] :: [(2, 69)] :: [] :: [] :: [] :: [(2, 13)] :: [] :: [] :: []
def b_X10_factor_50 : List zE := (50, .aload_n 0, []) :: (51, .getfield 17, [10, 1]) :: (54, .iload 5, []) :: (56, .aaload, []) :: (57, .aload 4, []) :: (59, .iload_n 2, []) :: (60, .iload_n 3, []) :: (61, .invokevirtual 159, [2, 3, 2]) :: (64, .istore 6, []) :: (66, .iload 6, []) :: (68, .iconst (-1), [4294967295]) :: (69, .if_icmp .eq 9, [78, 0]) :: (72, .bipush (-2), [4294967294]) :: (74, .iload 6, []) :: (76, .isub, []) :: (77, .ireturn, []) :: []
def p_X10_factor_50 : List (List (Nat × Nat)) := [] :: [(2, 69)] :: [] :: [] :: [] :: [] :: [] :: [(3, 50)] :: [] :: [] :: [] :: [] :: [] :: [] :: [] :: [] :: []
def b_X10_factor_48 : List zE := (48, .iconst (-1), [4294967295]) :: (49, .ireturn, []) :: []
def p_X10_factor_48 : List (List (Nat × Nat)) := [] :: [] :: []
def b_X10_factor_39 : List zE := (39, .iload_n 2, []) :: (40, .ifCond .lt 8, [48, 0]) :: (43, .iload_n 2, []) :: (44, .iconst 3, [3]) :: (45, .if_icmp .le 5, [50, 0]) :: (48, .nop, [0]) :: []
def p_X10_factor_39 : List (List (Nat × Nat)) := [] :: [] :: [] :: [] :: [] :: [] :: []
def b_X10_factor_37 : List zE := (37, .iconst (-1), [4294967295]) :: (38, .ireturn, []) :: []
def p_X10_factor_37 : List (List (Nat × Nat)) := [] :: [] :: []
def b_X10_factor_0 : List zE := (0, .aload_n 0, []) :: (1, .iload_n 1, []) :: (2, .invokevirtual 81, [0, 1, 10]) :: (5, .astore 4, []) :: (7, .aload_n 0, []) :: (8, .invokevirtual 156, [1, 0, 10]) :: (11, .istore 5, []) :: (13, .aload 4, []) :: (15, .ifnull 22, [37, 0]) :: (18, .iload 5, []) :: (20, .iconst (-1), [4294967295]) :: (21, .if_icmp .eq 16, [37, 0]) :: (24, .aload 4, []) :: (26, .getfield 119, [3, 2]) :: (29, .aload 4, []) :: (31, .getfield 122, [3, 3]) :: (34, .if_icmp .eq 5, [39, 0]) :: (37, .nop, [0]) :: []
def p_X10_factor_0 : List (List (Nat × Nat)) := [] :: [] :: [(2, 115)] :: [] :: [] :: [(3, 46)] :: [] :: [] :: [] :: [] :: [] :: [] :: [] :: [(1, 219)] :: [] :: [(1, 224)] :: [] :: [] :: []
def bl_X10_factor : List (Nat × List zE) := [(0, b_X10_factor_0), (37, b_X10_factor_37), (39, b_X10_factor_39), (48, b_X10_factor_48), (50, b_X10_factor_50), (78, b_X10_factor_78)]
def pl_X10_factor : List (List (List (Nat × Nat))) := [p_X10_factor_0, p_X10_factor_37, p_X10_factor_39, p_X10_factor_48, p_X10_factor_50, p_X10_factor_78]
theorem k_X10_factor_0 : zlk 0 bl_X10_factor = b_X10_factor_0 := rfl
theorem k_X10_factor_37 : zlk 37 bl_X10_factor = b_X10_factor_37 := rfl
theorem k_X10_factor_39 : zlk 39 bl_X10_factor = b_X10_factor_39 := rfl
theorem k_X10_factor_48 : zlk 48 bl_X10_factor = b_X10_factor_48 := rfl
theorem k_X10_factor_50 : zlk 50 bl_X10_factor = b_X10_factor_50 := rfl
theorem k_X10_factor_78 : zlk 78 bl_X10_factor = b_X10_factor_78 := rfl
set_option maxRecDepth 100000 in
theorem ck_X10_factor : zall q_X10_factor.2.2.2.2.1 q_X10_factor.2.1 10 false q_X10_factor.2.2.1 cal_X10_factor q_X10_factor.2.2.2.1 bl_X10_factor pl_X10_factor = true := by decide +kernel
theorem nm_X10_factor : plainName q_X10_factor.1.cls = true ∧ zRX 10 = q_X10_factor.1.cls ∧ (false = true → q_X10_factor.1.name = "<init>") := ⟨by decide +kernel, rfl, fun h => by first | rfl | cases h⟩
set_option maxRecDepth 100000 in
theorem wd_X10_factorAt : zwd q_X10_factorAt := ⟨zw_in (p := (3, 117)) (by decide +kernel), zw_in (p := (1, 1)) (by decide +kernel), fun h => absurd h (by decide), fun _ => zw_in (p := (3, 116)) (by decide +kernel), fun _ => zw_in (p := (0, 11)) (by decide +kernel)⟩
def cal_X10_factorAt : List zCal := []
def b_X10_factorAt_32 : List zE := (32, .areturn, []) :: []
def p_X10_factorAt_32 : List (List (Nat × Nat)) := [] :: []
def b_X10_factorAt_31 : List zE := (31, .aconst_null, []) :: (32, .nop, [0]) :: []
def p_X10_factorAt_31 : List (List (Nat × Nat)) := [] :: [] :: []
def b_X10_factorAt_0 : List zE := (0, .iload_n 1, []) :: (1, .ifCond .lt 30, [31, 0]) :: (4, .iload_n 1, []) :: (5, .bipush 12, [12]) :: (7, .if_icmp .ge 24, [31, 0]) :: (10, .aload_n 0, []) :: (11, .getfield 17, [10, 1]) :: (14, .iload_n 1, []) :: (15, .aaload, []) :: (16, .getfield 163, [2, 0]) :: (19, .ifCond .eq 12, [31, 0]) :: (22, .aload_n 0, []) :: (23, .getfield 17, [10, 1]) :: (26, .iload_n 1, []) :: (27, .aaload, []) :: (28, .goto 4, [32, 0]) :: []
def p_X10_factorAt_0 : List (List (Nat × Nat)) := [] :: [] :: [] :: [] :: [] :: [] :: [(2, 69)] :: [] :: [] :: [(2, 13)] :: [] :: [] :: [(2, 69)] :: [] :: [] :: [] :: []
def bl_X10_factorAt : List (Nat × List zE) := [(0, b_X10_factorAt_0), (31, b_X10_factorAt_31), (32, b_X10_factorAt_32)]
def pl_X10_factorAt : List (List (List (Nat × Nat))) := [p_X10_factorAt_0, p_X10_factorAt_31, p_X10_factorAt_32]
theorem k_X10_factorAt_0 : zlk 0 bl_X10_factorAt = b_X10_factorAt_0 := rfl
theorem k_X10_factorAt_31 : zlk 31 bl_X10_factorAt = b_X10_factorAt_31 := rfl
theorem k_X10_factorAt_32 : zlk 32 bl_X10_factorAt = b_X10_factorAt_32 := rfl
set_option maxRecDepth 100000 in
theorem ck_X10_factorAt : zall q_X10_factorAt.2.2.2.2.1 q_X10_factorAt.2.1 10 false q_X10_factorAt.2.2.1 cal_X10_factorAt q_X10_factorAt.2.2.2.1 bl_X10_factorAt pl_X10_factorAt = true := by decide +kernel
theorem nm_X10_factorAt : plainName q_X10_factorAt.1.cls = true ∧ zRX 10 = q_X10_factorAt.1.cls ∧ (false = true → q_X10_factorAt.1.name = "<init>") := ⟨by decide +kernel, rfl, fun h => by first | rfl | cases h⟩
set_option maxRecDepth 100000 in
theorem wd_X10_release : zwd q_X10_release := ⟨zw_in (p := (3, 113)) (by decide +kernel), zw_in (p := (1, 1)) (by decide +kernel), fun h => absurd h (by decide), fun _ => zw_in (p := (3, 111)) (by decide +kernel), fun _ => zw_in (p := (3, 112)) (by decide +kernel)⟩
def cal_X10_release : List zCal := [q_X10_factorAt]
def b_X10_release_12 : List zE := (12, .aload_n 2, []) :: (13, .iconst 0, [0]) :: (14, .putfield 163, [2, 0]) :: (17, .iconst 1, [1]) :: (18, .ireturn, []) :: []
def p_X10_release_12 : List (List (Nat × Nat)) := [] :: [] :: [(2, 13)] :: [] :: [] :: []
def b_X10_release_0 : List zE := (0, .aload_n 0, []) :: (1, .iload_n 1, []) :: (2, .invokevirtual 164, [0, 1, 10]) :: (5, .astore_n 2, []) :: (6, .aload_n 2, []) :: (7, .ifnonnull 5, [12, 0]) :: (10, .iconst 0, [0]) :: (11, .ireturn, []) :: []
def p_X10_release_0 : List (List (Nat × Nat)) := [] :: [] :: [(3, 114)] :: [] :: [] :: [] :: [] :: [] :: []
def bl_X10_release : List (Nat × List zE) := [(0, b_X10_release_0), (12, b_X10_release_12)]
def pl_X10_release : List (List (List (Nat × Nat))) := [p_X10_release_0, p_X10_release_12]
theorem k_X10_release_0 : zlk 0 bl_X10_release = b_X10_release_0 := rfl
theorem k_X10_release_12 : zlk 12 bl_X10_release = b_X10_release_12 := rfl
set_option maxRecDepth 100000 in
theorem ck_X10_release : zall q_X10_release.2.2.2.2.1 q_X10_release.2.1 10 false q_X10_release.2.2.1 cal_X10_release q_X10_release.2.2.2.1 bl_X10_release pl_X10_release = true := by decide +kernel
theorem nm_X10_release : plainName q_X10_release.1.cls = true ∧ zRX 10 = q_X10_release.1.cls ∧ (false = true → q_X10_release.1.name = "<init>") := ⟨by decide +kernel, rfl, fun h => by first | rfl | cases h⟩
set_option maxRecDepth 100000 in
theorem wd_X10_part : zwd q_X10_part := ⟨zw_in (p := (3, 121)) (by decide +kernel), zw_in (p := (1, 1)) (by decide +kernel), fun h => absurd h (by decide), fun _ => zw_in (p := (3, 119)) (by decide +kernel), fun _ => zw_in (p := (3, 120)) (by decide +kernel)⟩
def cal_X10_part : List zCal := [q_X10_factorAt, q_X2_at]
def b_X10_part_42 : List zE := (42, .aload 4, []) :: (44, .iload_n 2, []) :: (45, .iload_n 3, []) :: (46, .invokevirtual 171, [1, 2, 2]) :: (49, .lreturn, []) :: []
def p_X10_part_42 : List (List (Nat × Nat)) := [] :: [] :: [] :: [(3, 122)] :: [] :: []
def b_X10_part_38 : List zE := (38, .ldc2_w 117, [18446744073709551615]) :: (41, .lreturn, []) :: []
def p_X10_part_38 : List (List (Nat × Nat)) := [(2, 161)] :: [] :: []
def b_X10_part_0 : List zE := (0, .aload_n 0, []) :: (1, .iload_n 1, []) :: (2, .invokevirtual 164, [0, 1, 10]) :: (5, .astore 4, []) :: (7, .aload 4, []) :: (9, .ifnull 29, [38, 0]) :: (12, .iload_n 2, []) :: (13, .ifCond .lt 25, [38, 0]) :: (16, .iload_n 2, []) :: (17, .aload 4, []) :: (19, .getfield 168, [2, 1]) :: (22, .if_icmp .ge 16, [38, 0]) :: (25, .iload_n 3, []) :: (26, .ifCond .lt 12, [38, 0]) :: (29, .iload_n 3, []) :: (30, .aload 4, []) :: (32, .getfield 168, [2, 1]) :: (35, .if_icmp .lt 7, [42, 0]) :: (38, .nop, [0]) :: []
def p_X10_part_0 : List (List (Nat × Nat)) := [] :: [] :: [(3, 114)] :: [] :: [] :: [] :: [] :: [] :: [] :: [] :: [(2, 15)] :: [] :: [] :: [] :: [] :: [] :: [(2, 15)] :: [] :: [] :: []
def bl_X10_part : List (Nat × List zE) := [(0, b_X10_part_0), (38, b_X10_part_38), (42, b_X10_part_42)]
def pl_X10_part : List (List (List (Nat × Nat))) := [p_X10_part_0, p_X10_part_38, p_X10_part_42]
theorem k_X10_part_0 : zlk 0 bl_X10_part = b_X10_part_0 := rfl
theorem k_X10_part_38 : zlk 38 bl_X10_part = b_X10_part_38 := rfl
theorem k_X10_part_42 : zlk 42 bl_X10_part = b_X10_part_42 := rfl
set_option maxRecDepth 100000 in
theorem ck_X10_part : zall q_X10_part.2.2.2.2.1 q_X10_part.2.1 10 false q_X10_part.2.2.1 cal_X10_part q_X10_part.2.2.2.1 bl_X10_part pl_X10_part = true := by decide +kernel
theorem nm_X10_part : plainName q_X10_part.1.cls = true ∧ zRX 10 = q_X10_part.1.cls ∧ (false = true → q_X10_part.1.name = "<init>") := ⟨by decide +kernel, rfl, fun h => by first | rfl | cases h⟩
set_option maxRecDepth 100000 in
theorem wd_X10_order : zwd q_X10_order := ⟨zw_in (p := (3, 126)) (by decide +kernel), zw_in (p := (1, 1)) (by decide +kernel), fun h => absurd h (by decide), fun _ => zw_in (p := (3, 124)) (by decide +kernel), fun _ => zw_in (p := (3, 125)) (by decide +kernel)⟩
def cal_X10_order : List zCal := [q_X10_factorAt]
def b_X10_order_57 : List zE := (57, .ireturn, []) :: []
def p_X10_order_57 : List (List (Nat × Nat)) := [] :: []
def b_X10_order_50 : List zE := (50, .aload 4, []) :: (52, .getfield 176, [2, 8]) :: (55, .iload_n 3, []) :: (56, .iaload, []) :: (57, .nop, [0]) :: []
def p_X10_order_50 : List (List (Nat × Nat)) := [] :: [(2, 24)] :: [] :: [] :: [] :: []
def b_X10_order_36 : List zE := (36, .iload_n 2, []) :: (37, .ifCond .ne 13, [50, 0]) :: (40, .aload 4, []) :: (42, .getfield 172, [2, 7]) :: (45, .iload_n 3, []) :: (46, .iaload, []) :: (47, .goto 10, [57, 0]) :: []
def p_X10_order_36 : List (List (Nat × Nat)) := [] :: [] :: [] :: [(2, 22)] :: [] :: [] :: [] :: []
def b_X10_order_34 : List zE := (34, .iconst (-1), [4294967295]) :: (35, .ireturn, []) :: []
def p_X10_order_34 : List (List (Nat × Nat)) := [] :: [] :: []
def b_X10_order_0 : List zE := (0, .aload_n 0, []) :: (1, .iload_n 1, []) :: (2, .invokevirtual 164, [0, 1, 10]) :: (5, .astore 4, []) :: (7, .aload 4, []) :: (9, .ifnull 25, [34, 0]) :: (12, .iload_n 3, []) :: (13, .ifCond .lt 21, [34, 0]) :: (16, .iload_n 3, []) :: (17, .aload 4, []) :: (19, .getfield 168, [2, 1]) :: (22, .if_icmp .ge 12, [34, 0]) :: (25, .iload_n 2, []) :: (26, .ifCond .lt 8, [34, 0]) :: (29, .iload_n 2, []) :: (30, .iconst 1, [1]) :: (31, .if_icmp .le 5, [36, 0]) :: (34, .nop, [0]) :: []
def p_X10_order_0 : List (List (Nat × Nat)) := [] :: [] :: [(3, 114)] :: [] :: [] :: [] :: [] :: [] :: [] :: [] :: [(2, 15)] :: [] :: [] :: [] :: [] :: [] :: [] :: [] :: []
def bl_X10_order : List (Nat × List zE) := [(0, b_X10_order_0), (34, b_X10_order_34), (36, b_X10_order_36), (50, b_X10_order_50), (57, b_X10_order_57)]
def pl_X10_order : List (List (List (Nat × Nat))) := [p_X10_order_0, p_X10_order_34, p_X10_order_36, p_X10_order_50, p_X10_order_57]
theorem k_X10_order_0 : zlk 0 bl_X10_order = b_X10_order_0 := rfl
theorem k_X10_order_34 : zlk 34 bl_X10_order = b_X10_order_34 := rfl
theorem k_X10_order_36 : zlk 36 bl_X10_order = b_X10_order_36 := rfl
theorem k_X10_order_50 : zlk 50 bl_X10_order = b_X10_order_50 := rfl
theorem k_X10_order_57 : zlk 57 bl_X10_order = b_X10_order_57 := rfl
set_option maxRecDepth 100000 in
theorem ck_X10_order : zall q_X10_order.2.2.2.2.1 q_X10_order.2.1 10 false q_X10_order.2.2.1 cal_X10_order q_X10_order.2.2.2.1 bl_X10_order pl_X10_order = true := by decide +kernel
theorem nm_X10_order : plainName q_X10_order.1.cls = true ∧ zRX 10 = q_X10_order.1.cls ∧ (false = true → q_X10_order.1.name = "<init>") := ⟨by decide +kernel, rfl, fun h => by first | rfl | cases h⟩
set_option maxRecDepth 100000 in
theorem wd_X10_growth : zwd q_X10_growth := ⟨zw_in (p := (3, 130)) (by decide +kernel), zw_in (p := (1, 1)) (by decide +kernel), fun h => absurd h (by decide), fun _ => zw_in (p := (3, 128)) (by decide +kernel), fun _ => zw_in (p := (3, 129)) (by decide +kernel)⟩
def cal_X10_growth : List zCal := [q_X10_factorAt, q_X2_grown]
def b_X10_growth_20 : List zE := (20, .lreturn, []) :: []
def p_X10_growth_20 : List (List (Nat × Nat)) := [] :: []
def b_X10_growth_16 : List zE := (16, .aload_n 2, []) :: (17, .invokevirtual 179, [1, 0, 2]) :: (20, .nop, [0]) :: []
def p_X10_growth_16 : List (List (Nat × Nat)) := [] :: [(3, 131)] :: [] :: []
def b_X10_growth_0 : List zE := (0, .aload_n 0, []) :: (1, .iload_n 1, []) :: (2, .invokevirtual 164, [0, 1, 10]) :: (5, .astore_n 2, []) :: (6, .aload_n 2, []) :: (7, .ifnonnull 9, [16, 0]) :: (10, .ldc2_w 117, [18446744073709551615]) :: (13, .goto 7, [20, 0]) :: []
def p_X10_growth_0 : List (List (Nat × Nat)) := [] :: [] :: [(3, 114)] :: [] :: [] :: [] :: [(2, 161)] :: [] :: []
def bl_X10_growth : List (Nat × List zE) := [(0, b_X10_growth_0), (16, b_X10_growth_16), (20, b_X10_growth_20)]
def pl_X10_growth : List (List (List (Nat × Nat))) := [p_X10_growth_0, p_X10_growth_16, p_X10_growth_20]
theorem k_X10_growth_0 : zlk 0 bl_X10_growth = b_X10_growth_0 := rfl
theorem k_X10_growth_16 : zlk 16 bl_X10_growth = b_X10_growth_16 := rfl
theorem k_X10_growth_20 : zlk 20 bl_X10_growth = b_X10_growth_20 := rfl
set_option maxRecDepth 100000 in
theorem ck_X10_growth : zall q_X10_growth.2.2.2.2.1 q_X10_growth.2.1 10 false q_X10_growth.2.2.1 cal_X10_growth q_X10_growth.2.2.2.1 bl_X10_growth pl_X10_growth = true := by decide +kernel
theorem nm_X10_growth : plainName q_X10_growth.1.cls = true ∧ zRX 10 = q_X10_growth.1.cls ∧ (false = true → q_X10_growth.1.name = "<init>") := ⟨by decide +kernel, rfl, fun h => by first | rfl | cases h⟩
set_option maxRecDepth 100000 in
theorem wd_X10_pivots : zwd q_X10_pivots := ⟨zw_in (p := (3, 139)) (by decide +kernel), zw_in (p := (1, 1)) (by decide +kernel), fun h => absurd h (by decide), fun _ => zw_in (p := (3, 137)) (by decide +kernel), fun _ => zw_in (p := (3, 138)) (by decide +kernel)⟩
def cal_X10_pivots : List zCal := [q_X10_factorAt, q_X2_pivotProduct]
def b_X10_pivots_34 : List zE := (34, .invokevirtual 183, [1, 1, 2]) :: (37, .lreturn, []) :: []
def p_X10_pivots_34 : List (List (Nat × Nat)) := [(3, 140)] :: [] :: []
def b_X10_pivots_33 : List zE := (33, .iconst 0, [0]) :: (34, .nop, [0]) :: []
def p_X10_pivots_33 : List (List (Nat × Nat)) := [] :: [] :: []
def b_X10_pivots_23 : List zE := (23, .aload_n 3, []) :: (24, .iload_n 2, []) :: (25, .iconst 1, [1]) :: (26, .if_icmp .ne 7, [33, 0]) :: (29, .iconst 1, [1]) :: (30, .goto 4, [34, 0]) :: []
def p_X10_pivots_23 : List (List (Nat × Nat)) := [] :: [] :: [] :: [] :: [] :: [] :: []
def b_X10_pivots_19 : List zE := (19, .ldc2_w 117, [18446744073709551615]) :: (22, .lreturn, []) :: []
def p_X10_pivots_19 : List (List (Nat × Nat)) := [(2, 161)] :: [] :: []
def b_X10_pivots_0 : List zE := (0, .aload_n 0, []) :: (1, .iload_n 1, []) :: (2, .invokevirtual 164, [0, 1, 10]) :: (5, .astore_n 3, []) :: (6, .aload_n 3, []) :: (7, .ifnull 12, [19, 0]) :: (10, .iload_n 2, []) :: (11, .ifCond .lt 8, [19, 0]) :: (14, .iload_n 2, []) :: (15, .iconst 1, [1]) :: (16, .if_icmp .le 7, [23, 0]) :: (19, .nop, [0]) :: []
def p_X10_pivots_0 : List (List (Nat × Nat)) := [] :: [] :: [(3, 114)] :: [] :: [] :: [] :: [] :: [] :: [] :: [] :: [] :: [] :: []
def bl_X10_pivots : List (Nat × List zE) := [(0, b_X10_pivots_0), (19, b_X10_pivots_19), (23, b_X10_pivots_23), (33, b_X10_pivots_33), (34, b_X10_pivots_34)]
def pl_X10_pivots : List (List (List (Nat × Nat))) := [p_X10_pivots_0, p_X10_pivots_19, p_X10_pivots_23, p_X10_pivots_33, p_X10_pivots_34]
theorem k_X10_pivots_0 : zlk 0 bl_X10_pivots = b_X10_pivots_0 := rfl
theorem k_X10_pivots_19 : zlk 19 bl_X10_pivots = b_X10_pivots_19 := rfl
theorem k_X10_pivots_23 : zlk 23 bl_X10_pivots = b_X10_pivots_23 := rfl
theorem k_X10_pivots_33 : zlk 33 bl_X10_pivots = b_X10_pivots_33 := rfl
theorem k_X10_pivots_34 : zlk 34 bl_X10_pivots = b_X10_pivots_34 := rfl
set_option maxRecDepth 100000 in
theorem ck_X10_pivots : zall q_X10_pivots.2.2.2.2.1 q_X10_pivots.2.1 10 false q_X10_pivots.2.2.1 cal_X10_pivots q_X10_pivots.2.2.2.1 bl_X10_pivots pl_X10_pivots = true := by decide +kernel
theorem nm_X10_pivots : plainName q_X10_pivots.1.cls = true ∧ zRX 10 = q_X10_pivots.1.cls ∧ (false = true → q_X10_pivots.1.name = "<init>") := ⟨by decide +kernel, rfl, fun h => by first | rfl | cases h⟩
set_option maxRecDepth 100000 in
theorem wd_X10_freeVector : zwd q_X10_freeVector := ⟨zw_in (p := (3, 160)) (by decide +kernel), zw_in (p := (1, 1)) (by decide +kernel), fun h => absurd h (by decide), fun _ => zw_in (p := (3, 159)) (by decide +kernel), fun _ => zw_in (p := (0, 12)) (by decide +kernel)⟩
def cal_X10_freeVector : List zCal := []
def b_X10_freeVector_28 : List zE := (28, .iconst (-1), [4294967295]) :: (29, .ireturn, []) :: []
def p_X10_freeVector_28 : List (List (Nat × Nat)) := [] :: [] :: []
def b_X10_freeVector_22 : List zE := (22, .iinc 1 1, [1]) :: (25, .goto (-23), [2, 1]) :: []
def p_X10_freeVector_22 : List (List (Nat × Nat)) := [] :: [] :: []
def b_X10_freeVector_2 : List zE := (2, .iload_n 1, []) :: (3, .bipush 24, [24]) :: (5, .if_icmp .ge 23, [28, 0]) :: (8, .aload_n 0, []) :: (9, .getfield 23, [10, 2]) :: (12, .iload_n 1, []) :: (13, .aaload, []) :: (14, .getfield 197, [8, 0]) :: (17, .ifCond .ne 5, [22, 0]) :: (20, .iload_n 1, []) :: (21, .ireturn, []) :: []
def p_X10_freeVector_2 : List (List (Nat × Nat)) := [] :: [] :: [] :: [] :: [(2, 70)] :: [] :: [] :: [(2, 56)] :: [] :: [] :: [] :: []
def b_X10_freeVector_0 : List zE := (0, .iconst 0, [0]) :: (1, .istore_n 1, []) :: (2, .nop, []) :: []
def p_X10_freeVector_0 : List (List (Nat × Nat)) := [] :: [] :: [] :: []
def bl_X10_freeVector : List (Nat × List zE) := [(0, b_X10_freeVector_0), (2, b_X10_freeVector_2), (22, b_X10_freeVector_22), (28, b_X10_freeVector_28)]
def pl_X10_freeVector : List (List (List (Nat × Nat))) := [p_X10_freeVector_0, p_X10_freeVector_2, p_X10_freeVector_22, p_X10_freeVector_28]
theorem k_X10_freeVector_0 : zlk 0 bl_X10_freeVector = b_X10_freeVector_0 := rfl
theorem k_X10_freeVector_2 : zlk 2 bl_X10_freeVector = b_X10_freeVector_2 := rfl
theorem k_X10_freeVector_22 : zlk 22 bl_X10_freeVector = b_X10_freeVector_22 := rfl
theorem k_X10_freeVector_28 : zlk 28 bl_X10_freeVector = b_X10_freeVector_28 := rfl
set_option maxRecDepth 100000 in
theorem ck_X10_freeVector : zall q_X10_freeVector.2.2.2.2.1 q_X10_freeVector.2.1 10 false q_X10_freeVector.2.2.1 cal_X10_freeVector q_X10_freeVector.2.2.2.1 bl_X10_freeVector pl_X10_freeVector = true := by decide +kernel
theorem nm_X10_freeVector : plainName q_X10_freeVector.1.cls = true ∧ zRX 10 = q_X10_freeVector.1.cls ∧ (false = true → q_X10_freeVector.1.name = "<init>") := ⟨by decide +kernel, rfl, fun h => by first | rfl | cases h⟩
set_option maxRecDepth 100000 in
theorem wd_X10_vector : zwd q_X10_vector := ⟨zw_in (p := (3, 156)) (by decide +kernel), zw_in (p := (1, 1)) (by decide +kernel), fun h => absurd h (by decide), fun _ => zw_in (p := (3, 154)) (by decide +kernel), fun _ => zw_in (p := (3, 155)) (by decide +kernel)⟩
def cal_X10_vector : List zCal := [q_X10_freeVector, q_X8_begin]
def b_X10_vector_23 : List zE := (23, .aload_n 0, []) :: (24, .getfield 23, [10, 2]) :: (27, .iload_n 2, []) :: (28, .aaload, []) :: (29, .iload_n 1, []) :: (30, .invokevirtual 190, [1, 1, 8]) :: (33, .iload_n 2, []) :: (34, .ireturn, []) :: []
def p_X10_vector_23 : List (List (Nat × Nat)) := [] :: [(2, 70)] :: [] :: [] :: [] :: [(3, 161)] :: [] :: [] :: []
def b_X10_vector_21 : List zE := (21, .iconst (-1), [4294967295]) :: (22, .ireturn, []) :: []
def p_X10_vector_21 : List (List (Nat × Nat)) := [] :: [] :: []
def b_X10_vector_0 : List zE := (0, .aload_n 0, []) :: (1, .invokevirtual 187, [0, 0, 10]) :: (4, .istore_n 2, []) :: (5, .iload_n 2, []) :: (6, .iconst (-1), [4294967295]) :: (7, .if_icmp .eq 14, [21, 0]) :: (10, .iload_n 1, []) :: (11, .iconst 1, [1]) :: (12, .if_icmp .lt 9, [21, 0]) :: (15, .iload_n 1, []) :: (16, .bipush 8, [8]) :: (18, .if_icmp .le 5, [23, 0]) :: (21, .nop, [0]) :: []
def p_X10_vector_0 : List (List (Nat × Nat)) := [] :: [(3, 157)] :: [] :: [] :: [] :: [] :: [] :: [] :: [] :: [] :: [] :: [] :: [] :: []
def bl_X10_vector : List (Nat × List zE) := [(0, b_X10_vector_0), (21, b_X10_vector_21), (23, b_X10_vector_23)]
def pl_X10_vector : List (List (List (Nat × Nat))) := [p_X10_vector_0, p_X10_vector_21, p_X10_vector_23]
theorem k_X10_vector_0 : zlk 0 bl_X10_vector = b_X10_vector_0 := rfl
theorem k_X10_vector_21 : zlk 21 bl_X10_vector = b_X10_vector_21 := rfl
theorem k_X10_vector_23 : zlk 23 bl_X10_vector = b_X10_vector_23 := rfl
set_option maxRecDepth 100000 in
theorem ck_X10_vector : zall q_X10_vector.2.2.2.2.1 q_X10_vector.2.1 10 false q_X10_vector.2.2.1 cal_X10_vector q_X10_vector.2.2.2.1 bl_X10_vector pl_X10_vector = true := by decide +kernel
theorem nm_X10_vector : plainName q_X10_vector.1.cls = true ∧ zRX 10 = q_X10_vector.1.cls ∧ (false = true → q_X10_vector.1.name = "<init>") := ⟨by decide +kernel, rfl, fun h => by first | rfl | cases h⟩
set_option maxRecDepth 100000 in
theorem wd_X10_vectorAt : zwd q_X10_vectorAt := ⟨zw_in (p := (3, 172)) (by decide +kernel), zw_in (p := (1, 1)) (by decide +kernel), fun h => absurd h (by decide), fun _ => zw_in (p := (3, 171)) (by decide +kernel), fun _ => zw_in (p := (0, 13)) (by decide +kernel)⟩
def cal_X10_vectorAt : List zCal := []
def b_X10_vectorAt_32 : List zE := (32, .areturn, []) :: []
def p_X10_vectorAt_32 : List (List (Nat × Nat)) := [] :: []
def b_X10_vectorAt_31 : List zE := (31, .aconst_null, []) :: (32, .nop, [0]) :: []
def p_X10_vectorAt_31 : List (List (Nat × Nat)) := [] :: [] :: []
def b_X10_vectorAt_0 : List zE := (0, .iload_n 1, []) :: (1, .ifCond .lt 30, [31, 0]) :: (4, .iload_n 1, []) :: (5, .bipush 24, [24]) :: (7, .if_icmp .ge 24, [31, 0]) :: (10, .aload_n 0, []) :: (11, .getfield 23, [10, 2]) :: (14, .iload_n 1, []) :: (15, .aaload, []) :: (16, .getfield 197, [8, 0]) :: (19, .ifCond .eq 12, [31, 0]) :: (22, .aload_n 0, []) :: (23, .getfield 23, [10, 2]) :: (26, .iload_n 1, []) :: (27, .aaload, []) :: (28, .goto 4, [32, 0]) :: []
def p_X10_vectorAt_0 : List (List (Nat × Nat)) := [] :: [] :: [] :: [] :: [] :: [] :: [(2, 70)] :: [] :: [] :: [(2, 56)] :: [] :: [] :: [(2, 70)] :: [] :: [] :: [] :: []
def bl_X10_vectorAt : List (Nat × List zE) := [(0, b_X10_vectorAt_0), (31, b_X10_vectorAt_31), (32, b_X10_vectorAt_32)]
def pl_X10_vectorAt : List (List (List (Nat × Nat))) := [p_X10_vectorAt_0, p_X10_vectorAt_31, p_X10_vectorAt_32]
theorem k_X10_vectorAt_0 : zlk 0 bl_X10_vectorAt = b_X10_vectorAt_0 := rfl
theorem k_X10_vectorAt_31 : zlk 31 bl_X10_vectorAt = b_X10_vectorAt_31 := rfl
theorem k_X10_vectorAt_32 : zlk 32 bl_X10_vectorAt = b_X10_vectorAt_32 := rfl
set_option maxRecDepth 100000 in
theorem ck_X10_vectorAt : zall q_X10_vectorAt.2.2.2.2.1 q_X10_vectorAt.2.1 10 false q_X10_vectorAt.2.2.1 cal_X10_vectorAt q_X10_vectorAt.2.2.2.1 bl_X10_vectorAt pl_X10_vectorAt = true := by decide +kernel
theorem nm_X10_vectorAt : plainName q_X10_vectorAt.1.cls = true ∧ zRX 10 = q_X10_vectorAt.1.cls ∧ (false = true → q_X10_vectorAt.1.name = "<init>") := ⟨by decide +kernel, rfl, fun h => by first | rfl | cases h⟩
set_option maxRecDepth 100000 in
theorem wd_X10_forget : zwd q_X10_forget := ⟨zw_in (p := (3, 168)) (by decide +kernel), zw_in (p := (1, 1)) (by decide +kernel), fun h => absurd h (by decide), fun _ => zw_in (p := (3, 166)) (by decide +kernel), fun _ => zw_in (p := (3, 167)) (by decide +kernel)⟩
def cal_X10_forget : List zCal := [q_X10_vectorAt]
def b_X10_forget_12 : List zE := (12, .aload_n 2, []) :: (13, .iconst 0, [0]) :: (14, .putfield 197, [8, 0]) :: (17, .iconst 1, [1]) :: (18, .ireturn, []) :: []
def p_X10_forget_12 : List (List (Nat × Nat)) := [] :: [] :: [(2, 56)] :: [] :: [] :: []
def b_X10_forget_0 : List zE := (0, .aload_n 0, []) :: (1, .iload_n 1, []) :: (2, .invokevirtual 193, [0, 1, 10]) :: (5, .astore_n 2, []) :: (6, .aload_n 2, []) :: (7, .ifnonnull 5, [12, 0]) :: (10, .iconst 0, [0]) :: (11, .ireturn, []) :: []
def p_X10_forget_0 : List (List (Nat × Nat)) := [] :: [] :: [(3, 169)] :: [] :: [] :: [] :: [] :: [] :: []
def bl_X10_forget : List (Nat × List zE) := [(0, b_X10_forget_0), (12, b_X10_forget_12)]
def pl_X10_forget : List (List (List (Nat × Nat))) := [p_X10_forget_0, p_X10_forget_12]
theorem k_X10_forget_0 : zlk 0 bl_X10_forget = b_X10_forget_0 := rfl
theorem k_X10_forget_12 : zlk 12 bl_X10_forget = b_X10_forget_12 := rfl
set_option maxRecDepth 100000 in
theorem ck_X10_forget : zall q_X10_forget.2.2.2.2.1 q_X10_forget.2.1 10 false q_X10_forget.2.2.1 cal_X10_forget q_X10_forget.2.2.2.1 bl_X10_forget pl_X10_forget = true := by decide +kernel
theorem nm_X10_forget : plainName q_X10_forget.1.cls = true ∧ zRX 10 = q_X10_forget.1.cls ∧ (false = true → q_X10_forget.1.name = "<init>") := ⟨by decide +kernel, rfl, fun h => by first | rfl | cases h⟩
set_option maxRecDepth 100000 in
theorem wd_X10_set : zwd q_X10_set := ⟨zw_in (p := (3, 176)) (by decide +kernel), zw_in (p := (1, 1)) (by decide +kernel), fun h => absurd h (by decide), fun _ => zw_in (p := (3, 174)) (by decide +kernel), fun _ => zw_in (p := (3, 175)) (by decide +kernel)⟩
def cal_X10_set : List zCal := [q_X10_vectorAt, q_X0_finite, q_X0_unsignedZero]
def b_X10_set_34 : List zE := (34, .aload 5, []) :: (36, .getfield 199, [8, 2]) :: (39, .iload_n 2, []) :: (40, .lload_n 3, []) :: (41, .invokestatic 202, [2, 1]) :: (44, .lastore, []) :: (45, .iconst 1, [1]) :: (46, .ireturn, []) :: []
def p_X10_set_34 : List (List (Nat × Nat)) := [] :: [(2, 60)] :: [] :: [] :: [(3, 177)] :: [] :: [] :: [] :: []
def b_X10_set_32 : List zE := (32, .iconst 0, [0]) :: (33, .ireturn, []) :: []
def p_X10_set_32 : List (List (Nat × Nat)) := [] :: [] :: []
def b_X10_set_0 : List zE := (0, .aload_n 0, []) :: (1, .iload_n 1, []) :: (2, .invokevirtual 193, [0, 1, 10]) :: (5, .astore 5, []) :: (7, .aload 5, []) :: (9, .ifnull 23, [32, 0]) :: (12, .iload_n 2, []) :: (13, .ifCond .lt 19, [32, 0]) :: (16, .iload_n 2, []) :: (17, .aload 5, []) :: (19, .getfield 198, [8, 1]) :: (22, .if_icmp .ge 10, [32, 0]) :: (25, .lload_n 3, []) :: (26, .invokestatic 89, [1, 1]) :: (29, .ifCond .ne 5, [34, 0]) :: (32, .nop, [0]) :: []
def p_X10_set_0 : List (List (Nat × Nat)) := [] :: [] :: [(3, 169)] :: [] :: [] :: [] :: [] :: [] :: [] :: [] :: [(2, 58)] :: [] :: [] :: [(2, 131)] :: [] :: [] :: []
def bl_X10_set : List (Nat × List zE) := [(0, b_X10_set_0), (32, b_X10_set_32), (34, b_X10_set_34)]
def pl_X10_set : List (List (List (Nat × Nat))) := [p_X10_set_0, p_X10_set_32, p_X10_set_34]
theorem k_X10_set_0 : zlk 0 bl_X10_set = b_X10_set_0 := rfl
theorem k_X10_set_32 : zlk 32 bl_X10_set = b_X10_set_32 := rfl
theorem k_X10_set_34 : zlk 34 bl_X10_set = b_X10_set_34 := rfl
set_option maxRecDepth 100000 in
theorem ck_X10_set : zall q_X10_set.2.2.2.2.1 q_X10_set.2.1 10 false q_X10_set.2.2.1 cal_X10_set q_X10_set.2.2.2.1 bl_X10_set pl_X10_set = true := by decide +kernel
theorem nm_X10_set : plainName q_X10_set.1.cls = true ∧ zRX 10 = q_X10_set.1.cls ∧ (false = true → q_X10_set.1.name = "<init>") := ⟨by decide +kernel, rfl, fun h => by first | rfl | cases h⟩
set_option maxRecDepth 100000 in
theorem wd_X10_value : zwd q_X10_value := ⟨zw_in (p := (3, 181)) (by decide +kernel), zw_in (p := (1, 1)) (by decide +kernel), fun h => absurd h (by decide), fun _ => zw_in (p := (3, 179)) (by decide +kernel), fun _ => zw_in (p := (3, 180)) (by decide +kernel)⟩
def cal_X10_value : List zCal := [q_X10_vectorAt]
def b_X10_value_26 : List zE := (26, .aload_n 3, []) :: (27, .getfield 199, [8, 2]) :: (30, .iload_n 2, []) :: (31, .laload, []) :: (32, .lreturn, []) :: []
def p_X10_value_26 : List (List (Nat × Nat)) := [] :: [(2, 60)] :: [] :: [] :: [] :: []
def b_X10_value_22 : List zE := (22, .ldc2_w 117, [18446744073709551615]) :: (25, .lreturn, []) :: []
def p_X10_value_22 : List (List (Nat × Nat)) := [(2, 161)] :: [] :: []
def b_X10_value_0 : List zE := (0, .aload_n 0, []) :: (1, .iload_n 1, []) :: (2, .invokevirtual 193, [0, 1, 10]) :: (5, .astore_n 3, []) :: (6, .aload_n 3, []) :: (7, .ifnull 15, [22, 0]) :: (10, .iload_n 2, []) :: (11, .ifCond .lt 11, [22, 0]) :: (14, .iload_n 2, []) :: (15, .aload_n 3, []) :: (16, .getfield 198, [8, 1]) :: (19, .if_icmp .lt 7, [26, 0]) :: (22, .nop, [0]) :: []
def p_X10_value_0 : List (List (Nat × Nat)) := [] :: [] :: [(3, 169)] :: [] :: [] :: [] :: [] :: [] :: [] :: [] :: [(2, 58)] :: [] :: [] :: []
def bl_X10_value : List (Nat × List zE) := [(0, b_X10_value_0), (22, b_X10_value_22), (26, b_X10_value_26)]
def pl_X10_value : List (List (List (Nat × Nat))) := [p_X10_value_0, p_X10_value_22, p_X10_value_26]
theorem k_X10_value_0 : zlk 0 bl_X10_value = b_X10_value_0 := rfl
theorem k_X10_value_22 : zlk 22 bl_X10_value = b_X10_value_22 := rfl
theorem k_X10_value_26 : zlk 26 bl_X10_value = b_X10_value_26 := rfl
set_option maxRecDepth 100000 in
theorem ck_X10_value : zall q_X10_value.2.2.2.2.1 q_X10_value.2.1 10 false q_X10_value.2.2.1 cal_X10_value q_X10_value.2.2.2.1 bl_X10_value pl_X10_value = true := by decide +kernel
theorem nm_X10_value : plainName q_X10_value.1.cls = true ∧ zRX 10 = q_X10_value.1.cls ∧ (false = true → q_X10_value.1.name = "<init>") := ⟨by decide +kernel, rfl, fun h => by first | rfl | cases h⟩
set_option maxRecDepth 100000 in
theorem wd_X10_size : zwd q_X10_size := ⟨zw_in (p := (3, 185)) (by decide +kernel), zw_in (p := (1, 1)) (by decide +kernel), fun h => absurd h (by decide), fun _ => zw_in (p := (3, 183)) (by decide +kernel), fun _ => zw_in (p := (3, 184)) (by decide +kernel)⟩
def cal_X10_size : List zCal := [q_X10_vectorAt]
def b_X10_size_18 : List zE := (18, .ireturn, []) :: []
def p_X10_size_18 : List (List (Nat × Nat)) := [] :: []
def b_X10_size_14 : List zE := (14, .aload_n 2, []) :: (15, .getfield 198, [8, 1]) :: (18, .nop, [0]) :: []
def p_X10_size_14 : List (List (Nat × Nat)) := [] :: [(2, 58)] :: [] :: []
def b_X10_size_0 : List zE := (0, .aload_n 0, []) :: (1, .iload_n 1, []) :: (2, .invokevirtual 193, [0, 1, 10]) :: (5, .astore_n 2, []) :: (6, .aload_n 2, []) :: (7, .ifnonnull 7, [14, 0]) :: (10, .iconst (-1), [4294967295]) :: (11, .goto 7, [18, 0]) :: []
def p_X10_size_0 : List (List (Nat × Nat)) := [] :: [] :: [(3, 169)] :: [] :: [] :: [] :: [] :: [] :: []
def bl_X10_size : List (Nat × List zE) := [(0, b_X10_size_0), (14, b_X10_size_14), (18, b_X10_size_18)]
def pl_X10_size : List (List (List (Nat × Nat))) := [p_X10_size_0, p_X10_size_14, p_X10_size_18]
theorem k_X10_size_0 : zlk 0 bl_X10_size = b_X10_size_0 := rfl
theorem k_X10_size_14 : zlk 14 bl_X10_size = b_X10_size_14 := rfl
theorem k_X10_size_18 : zlk 18 bl_X10_size = b_X10_size_18 := rfl
set_option maxRecDepth 100000 in
theorem ck_X10_size : zall q_X10_size.2.2.2.2.1 q_X10_size.2.1 10 false q_X10_size.2.2.1 cal_X10_size q_X10_size.2.2.2.1 bl_X10_size pl_X10_size = true := by decide +kernel
theorem nm_X10_size : plainName q_X10_size.1.cls = true ∧ zRX 10 = q_X10_size.1.cls ∧ (false = true → q_X10_size.1.name = "<init>") := ⟨by decide +kernel, rfl, fun h => by first | rfl | cases h⟩
set_option maxRecDepth 100000 in
theorem wd_X10_newVector : zwd q_X10_newVector := ⟨zw_in (p := (3, 206)) (by decide +kernel), zw_in (p := (1, 1)) (by decide +kernel), fun h => absurd h (by decide), fun _ => zw_in (p := (3, 205)) (by decide +kernel), fun _ => zw_in (p := (0, 16)) (by decide +kernel)⟩
def cal_X10_newVector : List zCal := [q_X8_begin, q_X0_unsignedZero]
def b_X10_newVector_47 : List zE := (47, .iload_n 1, []) :: (48, .ireturn, []) :: []
def p_X10_newVector_47 : List (List (Nat × Nat)) := [] :: [] :: []
def b_X10_newVector_15 : List zE := (15, .iload 4, []) :: (17, .aload_n 3, []) :: (18, .getfield 198, [8, 1]) :: (21, .if_icmp .ge 26, [47, 0]) :: (24, .aload_n 3, []) :: (25, .getfield 199, [8, 2]) :: (28, .iload 4, []) :: (30, .aload_n 0, []) :: (31, .getfield 59, [10, 8]) :: (34, .iload 4, []) :: (36, .laload, []) :: (37, .invokestatic 202, [1, 1]) :: (40, .lastore, []) :: (41, .iinc 4 1, [1]) :: (44, .goto (-29), [15, 1]) :: []
def p_X10_newVector_15 : List (List (Nat × Nat)) := [] :: [] :: [(2, 58)] :: [] :: [] :: [(2, 60)] :: [] :: [] :: [(2, 76)] :: [] :: [] :: [(3, 177)] :: [] :: [] :: [] :: []
def b_X10_newVector_0 : List zE := (0, .aload_n 0, []) :: (1, .getfield 23, [10, 2]) :: (4, .iload_n 1, []) :: (5, .aaload, []) :: (6, .astore_n 3, []) :: (7, .aload_n 3, []) :: (8, .iload_n 2, []) :: (9, .invokevirtual 190, [0, 1, 8]) :: (12, .iconst 0, [0]) :: (13, .istore 4, []) :: (15, .nop, []) :: []
def p_X10_newVector_0 : List (List (Nat × Nat)) := [] :: [(2, 70)] :: [] :: [] :: [] :: [] :: [] :: [(3, 161)] :: [] :: [] :: [] :: []
def bl_X10_newVector : List (Nat × List zE) := [(0, b_X10_newVector_0), (15, b_X10_newVector_15), (47, b_X10_newVector_47)]
def pl_X10_newVector : List (List (List (Nat × Nat))) := [p_X10_newVector_0, p_X10_newVector_15, p_X10_newVector_47]
theorem k_X10_newVector_0 : zlk 0 bl_X10_newVector = b_X10_newVector_0 := rfl
theorem k_X10_newVector_15 : zlk 15 bl_X10_newVector = b_X10_newVector_15 := rfl
theorem k_X10_newVector_47 : zlk 47 bl_X10_newVector = b_X10_newVector_47 := rfl
set_option maxRecDepth 100000 in
theorem ck_X10_newVector : zall q_X10_newVector.2.2.2.2.1 q_X10_newVector.2.1 10 false q_X10_newVector.2.2.1 cal_X10_newVector q_X10_newVector.2.2.2.1 bl_X10_newVector pl_X10_newVector = true := by decide +kernel
theorem nm_X10_newVector : plainName q_X10_newVector.1.cls = true ∧ zRX 10 = q_X10_newVector.1.cls ∧ (false = true → q_X10_newVector.1.name = "<init>") := ⟨by decide +kernel, rfl, fun h => by first | rfl | cases h⟩
set_option maxRecDepth 100000 in
theorem wd_X10_solve : zwd q_X10_solve := ⟨zw_in (p := (3, 189)) (by decide +kernel), zw_in (p := (1, 1)) (by decide +kernel), fun h => absurd h (by decide), fun _ => zw_in (p := (3, 187)) (by decide +kernel), fun _ => zw_in (p := (3, 188)) (by decide +kernel)⟩
def cal_X10_solve : List zCal := [q_X10_factorAt, q_X10_vectorAt, q_X10_freeVector, q_X2_answer, q_X10_newVector]
def b_X10_solve_66 : List zE := (66, .aload_n 0, []) :: (67, .iload 5, []) :: (69, .aload_n 3, []) :: (70, .getfield 168, [2, 1]) :: (73, .invokevirtual 208, [4, 2, 10]) :: (76, .ireturn, []) :: []
def p_X10_solve_66 : List (List (Nat × Nat)) := [] :: [] :: [] :: [(2, 15)] :: [(3, 203)] :: [] :: []
def b_X10_solve_48 : List zE := (48, .aload_n 3, []) :: (49, .aload 4, []) :: (51, .getfield 199, [8, 2]) :: (54, .aload_n 0, []) :: (55, .getfield 59, [10, 8]) :: (58, .invokevirtual 205, [3, 2, 2]) :: (61, .ifCond .ne 5, [66, 0]) :: (64, .iconst (-1), [4294967295]) :: (65, .ireturn, []) :: []
def p_X10_solve_48 : List (List (Nat × Nat)) := [] :: [] :: [(2, 60)] :: [] :: [(2, 76)] :: [(3, 190)] :: [] :: [] :: [] :: []
def b_X10_solve_46 : List zE := (46, .iconst (-1), [4294967295]) :: (47, .ireturn, []) :: []
def p_X10_solve_46 : List (List (Nat × Nat)) := [] :: [] :: []
def b_X10_solve_0 : List zE := (0, .aload_n 0, []) :: (1, .iload_n 1, []) :: (2, .invokevirtual 164, [0, 1, 10]) :: (5, .astore_n 3, []) :: (6, .aload_n 0, []) :: (7, .iload_n 2, []) :: (8, .invokevirtual 193, [1, 1, 10]) :: (11, .astore 4, []) :: (13, .aload_n 0, []) :: (14, .invokevirtual 187, [2, 0, 10]) :: (17, .istore 5, []) :: (19, .aload_n 3, []) :: (20, .ifnull 26, [46, 0]) :: (23, .aload 4, []) :: (25, .ifnull 21, [46, 0]) :: (28, .iload 5, []) :: (30, .iconst (-1), [4294967295]) :: (31, .if_icmp .eq 15, [46, 0]) :: (34, .aload 4, []) :: (36, .getfield 198, [8, 1]) :: (39, .aload_n 3, []) :: (40, .getfield 168, [2, 1]) :: (43, .if_icmp .eq 5, [48, 0]) :: (46, .nop, [0]) :: []
def p_X10_solve_0 : List (List (Nat × Nat)) := [] :: [] :: [(3, 114)] :: [] :: [] :: [] :: [(3, 169)] :: [] :: [] :: [(3, 157)] :: [] :: [] :: [] :: [] :: [] :: [] :: [] :: [] :: [] :: [(2, 58)] :: [] :: [(2, 15)] :: [] :: [] :: []
def bl_X10_solve : List (Nat × List zE) := [(0, b_X10_solve_0), (46, b_X10_solve_46), (48, b_X10_solve_48), (66, b_X10_solve_66)]
def pl_X10_solve : List (List (List (Nat × Nat))) := [p_X10_solve_0, p_X10_solve_46, p_X10_solve_48, p_X10_solve_66]
theorem k_X10_solve_0 : zlk 0 bl_X10_solve = b_X10_solve_0 := rfl
theorem k_X10_solve_46 : zlk 46 bl_X10_solve = b_X10_solve_46 := rfl
theorem k_X10_solve_48 : zlk 48 bl_X10_solve = b_X10_solve_48 := rfl
theorem k_X10_solve_66 : zlk 66 bl_X10_solve = b_X10_solve_66 := rfl
set_option maxRecDepth 100000 in
theorem ck_X10_solve : zall q_X10_solve.2.2.2.2.1 q_X10_solve.2.1 10 false q_X10_solve.2.2.1 cal_X10_solve q_X10_solve.2.2.2.1 bl_X10_solve pl_X10_solve = true := by decide +kernel
theorem nm_X10_solve : plainName q_X10_solve.1.cls = true ∧ zRX 10 = q_X10_solve.1.cls ∧ (false = true → q_X10_solve.1.name = "<init>") := ⟨by decide +kernel, rfl, fun h => by first | rfl | cases h⟩
set_option maxRecDepth 100000 in
theorem wd_X10_fits : zwd q_X10_fits := ⟨zw_in (p := (3, 214)) (by decide +kernel), zw_in (p := (1, 1)) (by decide +kernel), fun h => absurd h (by decide), fun _ => zw_in (p := (3, 213)) (by decide +kernel), fun _ => zw_in (p := (0, 17)) (by decide +kernel)⟩
def cal_X10_fits : List zCal := [q_X10_vectorAt]
def b_X10_fits_57 : List zE := (57, .ireturn, []) :: []
def p_X10_fits_57 : List (List (Nat × Nat)) := [] :: []
def b_X10_fits_56 : List zE := (56, .iconst 0, [0]) :: (57, .nop, [0]) :: []
def p_X10_fits_56 : List (List (Nat × Nat)) := [] :: [] :: []
def b_X10_fits_0 : List zE := (0, .aload_n 0, []) :: (1, .iload_n 2, []) :: (2, .invokevirtual 193, [0, 1, 10]) :: (5, .astore 4, []) :: (7, .aload_n 0, []) :: (8, .iload_n 3, []) :: (9, .invokevirtual 193, [0, 1, 10]) :: (12, .astore 5, []) :: (14, .aload_n 1, []) :: (15, .ifnull 41, [56, 0]) :: (18, .aload 4, []) :: (20, .ifnull 36, [56, 0]) :: (23, .aload 5, []) :: (25, .ifnull 31, [56, 0]) :: (28, .aload 4, []) :: (30, .getfield 198, [8, 1]) :: (33, .aload_n 1, []) :: (34, .getfield 122, [3, 3]) :: (37, .if_icmp .ne 19, [56, 0]) :: (40, .aload 5, []) :: (42, .getfield 198, [8, 1]) :: (45, .aload_n 1, []) :: (46, .getfield 119, [3, 2]) :: (49, .if_icmp .ne 7, [56, 0]) :: (52, .iconst 1, [1]) :: (53, .goto 4, [57, 0]) :: []
def p_X10_fits_0 : List (List (Nat × Nat)) := [] :: [] :: [(3, 169)] :: [] :: [] :: [] :: [(3, 169)] :: [] :: [] :: [] :: [] :: [] :: [] :: [] :: [] :: [(2, 58)] :: [] :: [(1, 224)] :: [] :: [] :: [(2, 58)] :: [] :: [(1, 219)] :: [] :: [] :: [] :: []
def bl_X10_fits : List (Nat × List zE) := [(0, b_X10_fits_0), (56, b_X10_fits_56), (57, b_X10_fits_57)]
def pl_X10_fits : List (List (List (Nat × Nat))) := [p_X10_fits_0, p_X10_fits_56, p_X10_fits_57]
theorem k_X10_fits_0 : zlk 0 bl_X10_fits = b_X10_fits_0 := rfl
theorem k_X10_fits_56 : zlk 56 bl_X10_fits = b_X10_fits_56 := rfl
theorem k_X10_fits_57 : zlk 57 bl_X10_fits = b_X10_fits_57 := rfl
set_option maxRecDepth 100000 in
theorem ck_X10_fits : zall q_X10_fits.2.2.2.2.1 q_X10_fits.2.1 10 false q_X10_fits.2.2.1 cal_X10_fits q_X10_fits.2.2.2.1 bl_X10_fits pl_X10_fits = true := by decide +kernel
theorem nm_X10_fits : plainName q_X10_fits.1.cls = true ∧ zRX 10 = q_X10_fits.1.cls ∧ (false = true → q_X10_fits.1.name = "<init>") := ⟨by decide +kernel, rfl, fun h => by first | rfl | cases h⟩
set_option maxRecDepth 100000 in
theorem wd_X10_residual : zwd q_X10_residual := ⟨zw_in (p := (3, 210)) (by decide +kernel), zw_in (p := (1, 1)) (by decide +kernel), fun h => absurd h (by decide), fun _ => zw_in (p := (3, 208)) (by decide +kernel), fun _ => zw_in (p := (3, 209)) (by decide +kernel)⟩
def cal_X10_residual : List zCal := [q_X10_matrixAt, q_X10_fits, q_X5_roundedAt]
def b_X10_residual_37 : List zE := (37, .aload_n 0, []) :: (38, .getfield 30, [10, 3]) :: (41, .aload 5, []) :: (43, .aload_n 0, []) :: (44, .getfield 23, [10, 2]) :: (47, .iload_n 2, []) :: (48, .aaload, []) :: (49, .getfield 199, [8, 2]) :: (52, .aload_n 0, []) :: (53, .getfield 23, [10, 2]) :: (56, .iload_n 3, []) :: (57, .aaload, []) :: (58, .getfield 199, [8, 2]) :: (61, .iload 4, []) :: (63, .invokevirtual 216, [2, 4, 5]) :: (66, .lreturn, []) :: []
def p_X10_residual_37 : List (List (Nat × Nat)) := [] :: [(2, 71)] :: [] :: [] :: [(2, 70)] :: [] :: [] :: [(2, 60)] :: [] :: [(2, 70)] :: [] :: [] :: [(2, 60)] :: [] :: [(3, 215)] :: [] :: []
def b_X10_residual_33 : List zE := (33, .ldc2_w 117, [18446744073709551615]) :: (36, .lreturn, []) :: []
def p_X10_residual_33 : List (List (Nat × Nat)) := [(2, 161)] :: [] :: []
def b_X10_residual_0 : List zE := (0, .aload_n 0, []) :: (1, .iload_n 1, []) :: (2, .invokevirtual 81, [0, 1, 10]) :: (5, .astore 5, []) :: (7, .aload_n 0, []) :: (8, .aload 5, []) :: (10, .iload_n 2, []) :: (11, .iload_n 3, []) :: (12, .invokevirtual 212, [1, 3, 10]) :: (15, .ifCond .eq 18, [33, 0]) :: (18, .iload 4, []) :: (20, .ifCond .lt 13, [33, 0]) :: (23, .iload 4, []) :: (25, .aload 5, []) :: (27, .getfield 119, [3, 2]) :: (30, .if_icmp .lt 7, [37, 0]) :: (33, .nop, [0]) :: []
def p_X10_residual_0 : List (List (Nat × Nat)) := [] :: [] :: [(2, 115)] :: [] :: [] :: [] :: [] :: [] :: [(3, 211)] :: [] :: [] :: [] :: [] :: [] :: [(1, 219)] :: [] :: [] :: []
def bl_X10_residual : List (Nat × List zE) := [(0, b_X10_residual_0), (33, b_X10_residual_33), (37, b_X10_residual_37)]
def pl_X10_residual : List (List (List (Nat × Nat))) := [p_X10_residual_0, p_X10_residual_33, p_X10_residual_37]
theorem k_X10_residual_0 : zlk 0 bl_X10_residual = b_X10_residual_0 := rfl
theorem k_X10_residual_33 : zlk 33 bl_X10_residual = b_X10_residual_33 := rfl
theorem k_X10_residual_37 : zlk 37 bl_X10_residual = b_X10_residual_37 := rfl
set_option maxRecDepth 100000 in
theorem ck_X10_residual : zall q_X10_residual.2.2.2.2.1 q_X10_residual.2.1 10 false q_X10_residual.2.2.1 cal_X10_residual q_X10_residual.2.2.2.1 bl_X10_residual pl_X10_residual = true := by decide +kernel
theorem nm_X10_residual : plainName q_X10_residual.1.cls = true ∧ zRX 10 = q_X10_residual.1.cls ∧ (false = true → q_X10_residual.1.name = "<init>") := ⟨by decide +kernel, rfl, fun h => by first | rfl | cases h⟩
set_option maxRecDepth 100000 in
theorem wd_X10_greatest : zwd q_X10_greatest := ⟨zw_in (p := (4, 30)) (by decide +kernel), zw_in (p := (1, 1)) (by decide +kernel), fun h => absurd h (by decide), fun _ => zw_in (p := (4, 28)) (by decide +kernel), fun _ => zw_in (p := (4, 29)) (by decide +kernel)⟩
def cal_X10_greatest : List zCal := [q_X10_matrixAt, q_X10_fits, q_X5_greatestUp, q_X0_finite]
def b_X10_greatest_67 : List zE := (67, .lreturn, []) :: []
def p_X10_greatest_67 : List (List (Nat × Nat)) := [] :: []
def b_X10_greatest_64 : List zE := (64, .ldc2_w 117, [18446744073709551615]) :: (67, .nop, [0]) :: []
def p_X10_greatest_64 : List (List (Nat × Nat)) := [(2, 161)] :: [] :: []
def b_X10_greatest_22 : List zE := (22, .aload_n 0, []) :: (23, .getfield 30, [10, 3]) :: (26, .aload 4, []) :: (28, .aload_n 0, []) :: (29, .getfield 23, [10, 2]) :: (32, .iload_n 2, []) :: (33, .aaload, []) :: (34, .getfield 199, [8, 2]) :: (37, .aload_n 0, []) :: (38, .getfield 23, [10, 2]) :: (41, .iload_n 3, []) :: (42, .aaload, []) :: (43, .getfield 199, [8, 2]) :: (46, .invokevirtual 220, [2, 3, 5]) :: (49, .lstore 5, []) :: (51, .lload 5, []) :: (53, .invokestatic 89, [3, 1]) :: (56, .ifCond .eq 8, [64, 0]) :: (59, .lload 5, []) :: (61, .goto 6, [67, 0]) :: []
def p_X10_greatest_22 : List (List (Nat × Nat)) := [] :: [(2, 71)] :: [] :: [] :: [(2, 70)] :: [] :: [] :: [(2, 60)] :: [] :: [(2, 70)] :: [] :: [] :: [(2, 60)] :: [(4, 31)] :: [] :: [] :: [(2, 131)] :: [] :: [] :: [] :: []
def b_X10_greatest_0 : List zE := (0, .aload_n 0, []) :: (1, .iload_n 1, []) :: (2, .invokevirtual 81, [0, 1, 10]) :: (5, .astore 4, []) :: (7, .aload_n 0, []) :: (8, .aload 4, []) :: (10, .iload_n 2, []) :: (11, .iload_n 3, []) :: (12, .invokevirtual 212, [1, 3, 10]) :: (15, .ifCond .ne 7, [22, 0]) :: (18, .ldc2_w 117, [18446744073709551615]) :: (21, .lreturn, []) :: []
def p_X10_greatest_0 : List (List (Nat × Nat)) := [] :: [] :: [(2, 115)] :: [] :: [] :: [] :: [] :: [] :: [(3, 211)] :: [] :: [(2, 161)] :: [] :: []
def bl_X10_greatest : List (Nat × List zE) := [(0, b_X10_greatest_0), (22, b_X10_greatest_22), (64, b_X10_greatest_64), (67, b_X10_greatest_67)]
def pl_X10_greatest : List (List (List (Nat × Nat))) := [p_X10_greatest_0, p_X10_greatest_22, p_X10_greatest_64, p_X10_greatest_67]
theorem k_X10_greatest_0 : zlk 0 bl_X10_greatest = b_X10_greatest_0 := rfl
theorem k_X10_greatest_22 : zlk 22 bl_X10_greatest = b_X10_greatest_22 := rfl
theorem k_X10_greatest_64 : zlk 64 bl_X10_greatest = b_X10_greatest_64 := rfl
theorem k_X10_greatest_67 : zlk 67 bl_X10_greatest = b_X10_greatest_67 := rfl
set_option maxRecDepth 100000 in
theorem ck_X10_greatest : zall q_X10_greatest.2.2.2.2.1 q_X10_greatest.2.1 10 false q_X10_greatest.2.2.1 cal_X10_greatest q_X10_greatest.2.2.2.1 bl_X10_greatest pl_X10_greatest = true := by decide +kernel
theorem nm_X10_greatest : plainName q_X10_greatest.1.cls = true ∧ zRX 10 = q_X10_greatest.1.cls ∧ (false = true → q_X10_greatest.1.name = "<init>") := ⟨by decide +kernel, rfl, fun h => by first | rfl | cases h⟩
set_option maxRecDepth 100000 in
theorem wd_X10_refine : zwd q_X10_refine := ⟨zw_in (p := (4, 51)) (by decide +kernel), zw_in (p := (1, 1)) (by decide +kernel), fun h => absurd h (by decide), fun _ => zw_in (p := (4, 49)) (by decide +kernel), fun _ => zw_in (p := (4, 50)) (by decide +kernel)⟩
def cal_X10_refine : List zCal := [q_X10_matrixAt, q_X10_factorAt, q_X10_fits, q_X5_start, q_X5_round, q_X5_finish]
def b_X10_refine_142 : List zE := (142, .aload_n 0, []) :: (143, .getfield 30, [10, 3]) :: (146, .aload 6, []) :: (148, .aload_n 0, []) :: (149, .getfield 23, [10, 2]) :: (152, .iload_n 3, []) :: (153, .aaload, []) :: (154, .getfield 199, [8, 2]) :: (157, .invokevirtual 232, [5, 2, 5]) :: (160, .iload 8, []) :: (162, .ireturn, []) :: []
def p_X10_refine_142 : List (List (Nat × Nat)) := [] :: [(2, 71)] :: [] :: [] :: [(2, 70)] :: [] :: [] :: [(2, 60)] :: [(4, 62)] :: [] :: [] :: []
def b_X10_refine_105 : List zE := (105, .iload 8, []) :: (107, .iload 5, []) :: (109, .if_icmp .ge 33, [142, 0]) :: (112, .aload_n 0, []) :: (113, .getfield 30, [10, 3]) :: (116, .aload 6, []) :: (118, .aload 7, []) :: (120, .aload_n 0, []) :: (121, .getfield 23, [10, 2]) :: (124, .iload 4, []) :: (126, .aaload, []) :: (127, .getfield 199, [8, 2]) :: (130, .invokevirtual 228, [4, 3, 5]) :: (133, .ifCond .eq 9, [142, 0]) :: (136, .iinc 8 1, [1]) :: (139, .goto (-34), [105, 1]) :: []
def p_X10_refine_105 : List (List (Nat × Nat)) := [] :: [] :: [] :: [] :: [(2, 71)] :: [] :: [] :: [] :: [(2, 70)] :: [] :: [] :: [(2, 60)] :: [(4, 56)] :: [] :: [] :: [] :: []
def b_X10_refine_74 : List zE := (74, .aload_n 0, []) :: (75, .getfield 30, [10, 3]) :: (78, .aload 6, []) :: (80, .aload_n 0, []) :: (81, .getfield 23, [10, 2]) :: (84, .iload_n 3, []) :: (85, .aaload, []) :: (86, .getfield 199, [8, 2]) :: (89, .aload_n 0, []) :: (90, .getfield 23, [10, 2]) :: (93, .iload 4, []) :: (95, .aaload, []) :: (96, .getfield 199, [8, 2]) :: (99, .invokevirtual 224, [3, 3, 5]) :: (102, .iconst 0, [0]) :: (103, .istore 8, []) :: (105, .nop, []) :: []
def p_X10_refine_74 : List (List (Nat × Nat)) := [] :: [(2, 71)] :: [] :: [] :: [(2, 70)] :: [] :: [] :: [(2, 60)] :: [] :: [(2, 70)] :: [] :: [] :: [(2, 60)] :: [(4, 52)] :: [] :: [] :: [] :: []
def b_X10_refine_72 : List zE := (72, .iconst (-1), [4294967295]) :: (73, .ireturn, []) :: []
def p_X10_refine_72 : List (List (Nat × Nat)) := [] :: [] :: []
def b_X10_refine_59 : List zE := (59, .iload 5, []) :: (61, .iconst 1, [1]) :: (62, .if_icmp .lt 10, [72, 0]) :: (65, .iload 5, []) :: (67, .bipush 20, [20]) :: (69, .if_icmp .le 5, [74, 0]) :: (72, .nop, [0]) :: []
def p_X10_refine_59 : List (List (Nat × Nat)) := [] :: [] :: [] :: [] :: [] :: [] :: [] :: []
def b_X10_refine_57 : List zE := (57, .iconst (-1), [4294967295]) :: (58, .ireturn, []) :: []
def p_X10_refine_57 : List (List (Nat × Nat)) := [] :: [] :: []
def b_X10_refine_0 : List zE := (0, .aload_n 0, []) :: (1, .iload_n 1, []) :: (2, .invokevirtual 81, [0, 1, 10]) :: (5, .astore 6, []) :: (7, .aload_n 0, []) :: (8, .iload_n 2, []) :: (9, .invokevirtual 164, [1, 1, 10]) :: (12, .astore 7, []) :: (14, .aload_n 0, []) :: (15, .aload 6, []) :: (17, .iload_n 3, []) :: (18, .iload 4, []) :: (20, .invokevirtual 212, [2, 3, 10]) :: (23, .ifCond .eq 34, [57, 0]) :: (26, .aload 7, []) :: (28, .ifnull 29, [57, 0]) :: (31, .aload 6, []) :: (33, .getfield 119, [3, 2]) :: (36, .aload 6, []) :: (38, .getfield 122, [3, 3]) :: (41, .if_icmp .ne 16, [57, 0]) :: (44, .aload 6, []) :: (46, .getfield 119, [3, 2]) :: (49, .aload 7, []) :: (51, .getfield 168, [2, 1]) :: (54, .if_icmp .eq 5, [59, 0]) :: (57, .nop, [0]) :: []
def p_X10_refine_0 : List (List (Nat × Nat)) := [] :: [] :: [(2, 115)] :: [] :: [] :: [] :: [(3, 114)] :: [] :: [] :: [] :: [] :: [] :: [(3, 211)] :: [] :: [] :: [] :: [] :: [(1, 219)] :: [] :: [(1, 224)] :: [] :: [] :: [(1, 219)] :: [] :: [(2, 15)] :: [] :: [] :: []
def bl_X10_refine : List (Nat × List zE) := [(0, b_X10_refine_0), (57, b_X10_refine_57), (59, b_X10_refine_59), (72, b_X10_refine_72), (74, b_X10_refine_74), (105, b_X10_refine_105), (142, b_X10_refine_142)]
def pl_X10_refine : List (List (List (Nat × Nat))) := [p_X10_refine_0, p_X10_refine_57, p_X10_refine_59, p_X10_refine_72, p_X10_refine_74, p_X10_refine_105, p_X10_refine_142]
theorem k_X10_refine_0 : zlk 0 bl_X10_refine = b_X10_refine_0 := rfl
theorem k_X10_refine_57 : zlk 57 bl_X10_refine = b_X10_refine_57 := rfl
theorem k_X10_refine_59 : zlk 59 bl_X10_refine = b_X10_refine_59 := rfl
theorem k_X10_refine_72 : zlk 72 bl_X10_refine = b_X10_refine_72 := rfl
theorem k_X10_refine_74 : zlk 74 bl_X10_refine = b_X10_refine_74 := rfl
theorem k_X10_refine_105 : zlk 105 bl_X10_refine = b_X10_refine_105 := rfl
theorem k_X10_refine_142 : zlk 142 bl_X10_refine = b_X10_refine_142 := rfl
set_option maxRecDepth 100000 in
theorem ck_X10_refine : zall q_X10_refine.2.2.2.2.1 q_X10_refine.2.1 10 false q_X10_refine.2.2.1 cal_X10_refine q_X10_refine.2.2.2.1 bl_X10_refine pl_X10_refine = true := by decide +kernel
theorem nm_X10_refine : plainName q_X10_refine.1.cls = true ∧ zRX 10 = q_X10_refine.1.cls ∧ (false = true → q_X10_refine.1.name = "<init>") := ⟨by decide +kernel, rfl, fun h => by first | rfl | cases h⟩
set_option maxRecDepth 100000 in
theorem wd_X10_inverse : zwd q_X10_inverse := ⟨zw_in (p := (4, 69)) (by decide +kernel), zw_in (p := (1, 1)) (by decide +kernel), fun h => absurd h (by decide), fun _ => zw_in (p := (4, 67)) (by decide +kernel), fun _ => zw_in (p := (4, 68)) (by decide +kernel)⟩
def cal_X10_inverse : List zCal := [q_X10_factorAt, q_X10_freeMatrix, q_X3_begin, q_X2_answer, q_X3_store]
def b_X10_inverse_154 : List zE := (154, .aload 4, []) :: (156, .iconst 1, [1]) :: (157, .putfield 77, [3, 0]) :: (160, .iload_n 3, []) :: (161, .ireturn, []) :: []
def p_X10_inverse_154 : List (List (Nat × Nat)) := [] :: [] :: [(1, 209)] :: [] :: [] :: []
def b_X10_inverse_148 : List zE := (148, .iinc 5 1, [1]) :: (151, .goto (-102), [49, 1]) :: []
def p_X10_inverse_148 : List (List (Nat × Nat)) := [] :: [] :: []
def b_X10_inverse_117 : List zE := (117, .iload 6, []) :: (119, .aload_n 2, []) :: (120, .getfield 168, [2, 1]) :: (123, .if_icmp .ge 25, [148, 0]) :: (126, .aload 4, []) :: (128, .iload 6, []) :: (130, .iload 5, []) :: (132, .aload_n 0, []) :: (133, .getfield 59, [10, 8]) :: (136, .iload 6, []) :: (138, .laload, []) :: (139, .invokevirtual 110, [4, 3, 3]) :: (142, .iinc 6 1, [1]) :: (145, .goto (-28), [117, 1]) :: []
def p_X10_inverse_117 : List (List (Nat × Nat)) := [] :: [] :: [(2, 15)] :: [] :: [] :: [] :: [] :: [] :: [(2, 76)] :: [] :: [] :: [(2, 148)] :: [] :: [] :: []
def b_X10_inverse_114 : List zE := (114, .iconst 0, [0]) :: (115, .istore 6, []) :: (117, .nop, []) :: []
def p_X10_inverse_114 : List (List (Nat × Nat)) := [] :: [] :: [] :: []
def b_X10_inverse_97 : List zE := (97, .aload_n 2, []) :: (98, .aload_n 0, []) :: (99, .getfield 55, [10, 7]) :: (102, .aload_n 0, []) :: (103, .getfield 59, [10, 8]) :: (106, .invokevirtual 205, [3, 2, 2]) :: (109, .ifCond .ne 5, [114, 0]) :: (112, .iconst (-1), [4294967295]) :: (113, .ireturn, []) :: []
def p_X10_inverse_97 : List (List (Nat × Nat)) := [] :: [] :: [(2, 75)] :: [] :: [(2, 76)] :: [(3, 190)] :: [] :: [] :: [] :: []
def b_X10_inverse_90 : List zE := (90, .lastore, []) :: (91, .iinc 6 1, [1]) :: (94, .goto (-33), [61, 1]) :: []
def p_X10_inverse_90 : List (List (Nat × Nat)) := [] :: [] :: [] :: []
def b_X10_inverse_89 : List zE := (89, .lconst 0, [0]) :: (90, .nop, [0]) :: []
def p_X10_inverse_89 : List (List (Nat × Nat)) := [] :: [] :: []
def b_X10_inverse_61 : List zE := (61, .iload 6, []) :: (63, .aload_n 2, []) :: (64, .getfield 168, [2, 1]) :: (67, .if_icmp .ge 30, [97, 0]) :: (70, .aload_n 0, []) :: (71, .getfield 55, [10, 7]) :: (74, .iload 6, []) :: (76, .iload 6, []) :: (78, .iload 5, []) :: (80, .if_icmp .ne 9, [89, 0]) :: (83, .ldc2_w 236, [4607182418800017408]) :: (86, .goto 4, [90, 0]) :: []
def p_X10_inverse_61 : List (List (Nat × Nat)) := [] :: [] :: [(2, 15)] :: [] :: [] :: [(2, 75)] :: [] :: [] :: [] :: [] :: [(4, 70)] :: [] :: []
def b_X10_inverse_49 : List zE := (49, .iload 5, []) :: (51, .aload_n 2, []) :: (52, .getfield 168, [2, 1]) :: (55, .if_icmp .ge 99, [154, 0]) :: (58, .iconst 0, [0]) :: (59, .istore 6, []) :: (61, .nop, []) :: []
def p_X10_inverse_49 : List (List (Nat × Nat)) := [] :: [] :: [(2, 15)] :: [] :: [] :: [] :: [] :: []
def b_X10_inverse_22 : List zE := (22, .aload_n 0, []) :: (23, .getfield 11, [10, 0]) :: (26, .iload_n 3, []) :: (27, .aaload, []) :: (28, .astore 4, []) :: (30, .aload 4, []) :: (32, .iconst 0, [0]) :: (33, .aload_n 2, []) :: (34, .getfield 168, [2, 1]) :: (37, .aload_n 2, []) :: (38, .getfield 168, [2, 1]) :: (41, .iconst 0, [0]) :: (42, .iconst 0, [0]) :: (43, .invokevirtual 73, [2, 5, 3]) :: (46, .iconst 0, [0]) :: (47, .istore 5, []) :: (49, .nop, []) :: []
def p_X10_inverse_22 : List (List (Nat × Nat)) := [] :: [(2, 68)] :: [] :: [] :: [] :: [] :: [] :: [] :: [(2, 15)] :: [] :: [(2, 15)] :: [] :: [] :: [(2, 107)] :: [] :: [] :: [] :: []
def b_X10_inverse_20 : List zE := (20, .iconst (-1), [4294967295]) :: (21, .ireturn, []) :: []
def p_X10_inverse_20 : List (List (Nat × Nat)) := [] :: [] :: []
def b_X10_inverse_0 : List zE := (0, .aload_n 0, []) :: (1, .iload_n 1, []) :: (2, .invokevirtual 164, [0, 1, 10]) :: (5, .astore_n 2, []) :: (6, .aload_n 0, []) :: (7, .invokevirtual 65, [1, 0, 10]) :: (10, .istore_n 3, []) :: (11, .aload_n 2, []) :: (12, .ifnull 8, [20, 0]) :: (15, .iload_n 3, []) :: (16, .iconst (-1), [4294967295]) :: (17, .if_icmp .ne 5, [22, 0]) :: (20, .nop, [0]) :: []
def p_X10_inverse_0 : List (List (Nat × Nat)) := [] :: [] :: [(3, 114)] :: [] :: [] :: [(2, 100)] :: [] :: [] :: [] :: [] :: [] :: [] :: [] :: []
def bl_X10_inverse : List (Nat × List zE) := [(0, b_X10_inverse_0), (20, b_X10_inverse_20), (22, b_X10_inverse_22), (49, b_X10_inverse_49), (61, b_X10_inverse_61), (89, b_X10_inverse_89), (90, b_X10_inverse_90), (97, b_X10_inverse_97), (114, b_X10_inverse_114), (117, b_X10_inverse_117), (148, b_X10_inverse_148), (154, b_X10_inverse_154)]
def pl_X10_inverse : List (List (List (Nat × Nat))) := [p_X10_inverse_0, p_X10_inverse_20, p_X10_inverse_22, p_X10_inverse_49, p_X10_inverse_61, p_X10_inverse_89, p_X10_inverse_90, p_X10_inverse_97, p_X10_inverse_114, p_X10_inverse_117, p_X10_inverse_148, p_X10_inverse_154]
theorem k_X10_inverse_0 : zlk 0 bl_X10_inverse = b_X10_inverse_0 := rfl
theorem k_X10_inverse_20 : zlk 20 bl_X10_inverse = b_X10_inverse_20 := rfl
theorem k_X10_inverse_22 : zlk 22 bl_X10_inverse = b_X10_inverse_22 := rfl
theorem k_X10_inverse_49 : zlk 49 bl_X10_inverse = b_X10_inverse_49 := rfl
theorem k_X10_inverse_61 : zlk 61 bl_X10_inverse = b_X10_inverse_61 := rfl
theorem k_X10_inverse_89 : zlk 89 bl_X10_inverse = b_X10_inverse_89 := rfl
theorem k_X10_inverse_90 : zlk 90 bl_X10_inverse = b_X10_inverse_90 := rfl
theorem k_X10_inverse_97 : zlk 97 bl_X10_inverse = b_X10_inverse_97 := rfl
theorem k_X10_inverse_114 : zlk 114 bl_X10_inverse = b_X10_inverse_114 := rfl
theorem k_X10_inverse_117 : zlk 117 bl_X10_inverse = b_X10_inverse_117 := rfl
theorem k_X10_inverse_148 : zlk 148 bl_X10_inverse = b_X10_inverse_148 := rfl
theorem k_X10_inverse_154 : zlk 154 bl_X10_inverse = b_X10_inverse_154 := rfl
set_option maxRecDepth 100000 in
theorem ck_X10_inverse : zall q_X10_inverse.2.2.2.2.1 q_X10_inverse.2.1 10 false q_X10_inverse.2.2.1 cal_X10_inverse q_X10_inverse.2.2.2.1 bl_X10_inverse pl_X10_inverse = true := by decide +kernel
theorem nm_X10_inverse : plainName q_X10_inverse.1.cls = true ∧ zRX 10 = q_X10_inverse.1.cls ∧ (false = true → q_X10_inverse.1.name = "<init>") := ⟨by decide +kernel, rfl, fun h => by first | rfl | cases h⟩
set_option maxRecDepth 100000 in
theorem wd_X10_exactly : zwd q_X10_exactly := ⟨zw_in (p := (4, 74)) (by decide +kernel), zw_in (p := (1, 1)) (by decide +kernel), fun h => absurd h (by decide), fun _ => zw_in (p := (4, 72)) (by decide +kernel), fun _ => zw_in (p := (4, 73)) (by decide +kernel)⟩
def cal_X10_exactly : List zCal := [q_X10_matrixAt, q_X10_vectorAt, q_X3_onLattice, q_X8_onLattice, q_X1_solutions, q_X10_freeVector, q_X1_writeSolution, q_X10_newVector]
def b_X10_exactly_91 : List zE := (91, .aload_n 0, []) :: (92, .getfield 37, [10, 4]) :: (95, .aload_n 0, []) :: (96, .getfield 59, [10, 8]) :: (99, .invokevirtual 243, [6, 1, 1]) :: (102, .aload_n 0, []) :: (103, .iload 6, []) :: (105, .aload_n 3, []) :: (106, .getfield 122, [3, 3]) :: (109, .invokevirtual 208, [7, 2, 10]) :: (112, .iconst 2, [2]) :: (113, .iadd, []) :: (114, .ireturn, []) :: []
def p_X10_exactly_91 : List (List (Nat × Nat)) := [] :: [(2, 72)] :: [] :: [(2, 76)] :: [(4, 191)] :: [] :: [] :: [] :: [(1, 224)] :: [(3, 203)] :: [] :: [] :: [] :: []
def b_X10_exactly_77 : List zE := (77, .aload_n 0, []) :: (78, .invokevirtual 187, [5, 0, 10]) :: (81, .istore 6, []) :: (83, .iload 6, []) :: (85, .iconst (-1), [4294967295]) :: (86, .if_icmp .ne 5, [91, 0]) :: (89, .iconst (-1), [4294967295]) :: (90, .ireturn, []) :: []
def p_X10_exactly_77 : List (List (Nat × Nat)) := [] :: [(3, 157)] :: [] :: [] :: [] :: [] :: [] :: [] :: []
def b_X10_exactly_53 : List zE := (53, .aload_n 0, []) :: (54, .getfield 37, [10, 4]) :: (57, .aload_n 3, []) :: (58, .aload 4, []) :: (60, .getfield 199, [8, 2]) :: (63, .invokevirtual 239, [4, 2, 1]) :: (66, .istore 5, []) :: (68, .iload 5, []) :: (70, .iconst 2, [2]) :: (71, .if_icmp .eq 6, [77, 0]) :: (74, .iload 5, []) :: (76, .ireturn, []) :: []
def p_X10_exactly_53 : List (List (Nat × Nat)) := [] :: [(2, 72)] :: [] :: [] :: [(2, 60)] :: [(4, 80)] :: [] :: [] :: [] :: [] :: [] :: [] :: []
def b_X10_exactly_51 : List zE := (51, .iconst (-1), [4294967295]) :: (52, .ireturn, []) :: []
def p_X10_exactly_51 : List (List (Nat × Nat)) := [] :: [] :: []
def b_X10_exactly_36 : List zE := (36, .aload_n 3, []) :: (37, .invokevirtual 131, [2, 0, 3]) :: (40, .ifCond .eq 11, [51, 0]) :: (43, .aload 4, []) :: (45, .invokevirtual 238, [3, 0, 8]) :: (48, .ifCond .ne 5, [53, 0]) :: (51, .nop, [0]) :: []
def p_X10_exactly_36 : List (List (Nat × Nat)) := [] :: [(2, 166)] :: [] :: [] :: [(4, 75)] :: [] :: [] :: []
def b_X10_exactly_34 : List zE := (34, .iconst (-1), [4294967295]) :: (35, .ireturn, []) :: []
def p_X10_exactly_34 : List (List (Nat × Nat)) := [] :: [] :: []
def b_X10_exactly_0 : List zE := (0, .aload_n 0, []) :: (1, .iload_n 1, []) :: (2, .invokevirtual 81, [0, 1, 10]) :: (5, .astore_n 3, []) :: (6, .aload_n 0, []) :: (7, .iload_n 2, []) :: (8, .invokevirtual 193, [1, 1, 10]) :: (11, .astore 4, []) :: (13, .aload_n 3, []) :: (14, .ifnull 20, [34, 0]) :: (17, .aload 4, []) :: (19, .ifnull 15, [34, 0]) :: (22, .aload_n 3, []) :: (23, .getfield 119, [3, 2]) :: (26, .aload 4, []) :: (28, .getfield 198, [8, 1]) :: (31, .if_icmp .eq 5, [36, 0]) :: (34, .nop, [0]) :: []
def p_X10_exactly_0 : List (List (Nat × Nat)) := [] :: [] :: [(2, 115)] :: [] :: [] :: [] :: [(3, 169)] :: [] :: [] :: [] :: [] :: [] :: [] :: [(1, 219)] :: [] :: [(2, 58)] :: [] :: [] :: []
def bl_X10_exactly : List (Nat × List zE) := [(0, b_X10_exactly_0), (34, b_X10_exactly_34), (36, b_X10_exactly_36), (51, b_X10_exactly_51), (53, b_X10_exactly_53), (77, b_X10_exactly_77), (91, b_X10_exactly_91)]
def pl_X10_exactly : List (List (List (Nat × Nat))) := [p_X10_exactly_0, p_X10_exactly_34, p_X10_exactly_36, p_X10_exactly_51, p_X10_exactly_53, p_X10_exactly_77, p_X10_exactly_91]
theorem k_X10_exactly_0 : zlk 0 bl_X10_exactly = b_X10_exactly_0 := rfl
theorem k_X10_exactly_34 : zlk 34 bl_X10_exactly = b_X10_exactly_34 := rfl
theorem k_X10_exactly_36 : zlk 36 bl_X10_exactly = b_X10_exactly_36 := rfl
theorem k_X10_exactly_51 : zlk 51 bl_X10_exactly = b_X10_exactly_51 := rfl
theorem k_X10_exactly_53 : zlk 53 bl_X10_exactly = b_X10_exactly_53 := rfl
theorem k_X10_exactly_77 : zlk 77 bl_X10_exactly = b_X10_exactly_77 := rfl
theorem k_X10_exactly_91 : zlk 91 bl_X10_exactly = b_X10_exactly_91 := rfl
set_option maxRecDepth 100000 in
theorem ck_X10_exactly : zall q_X10_exactly.2.2.2.2.1 q_X10_exactly.2.1 10 false q_X10_exactly.2.2.1 cal_X10_exactly q_X10_exactly.2.2.2.1 bl_X10_exactly pl_X10_exactly = true := by decide +kernel
theorem nm_X10_exactly : plainName q_X10_exactly.1.cls = true ∧ zRX 10 = q_X10_exactly.1.cls ∧ (false = true → q_X10_exactly.1.name = "<init>") := ⟨by decide +kernel, rfl, fun h => by first | rfl | cases h⟩
set_option maxRecDepth 100000 in
theorem wd_X10_rank : zwd q_X10_rank := ⟨zw_in (p := (4, 215)) (by decide +kernel), zw_in (p := (1, 1)) (by decide +kernel), fun h => absurd h (by decide), fun _ => zw_in (p := (4, 213)) (by decide +kernel), fun _ => zw_in (p := (4, 214)) (by decide +kernel)⟩
def cal_X10_rank : List zCal := [q_X10_matrixAt, q_X3_onLattice, q_X1_rankOf]
def b_X10_rank_19 : List zE := (19, .aload_n 0, []) :: (20, .getfield 37, [10, 4]) :: (23, .aload_n 2, []) :: (24, .invokevirtual 247, [2, 1, 1]) :: (27, .ireturn, []) :: []
def p_X10_rank_19 : List (List (Nat × Nat)) := [] :: [(2, 72)] :: [] :: [(4, 216)] :: [] :: []
def b_X10_rank_17 : List zE := (17, .iconst (-1), [4294967295]) :: (18, .ireturn, []) :: []
def p_X10_rank_17 : List (List (Nat × Nat)) := [] :: [] :: []
def b_X10_rank_0 : List zE := (0, .aload_n 0, []) :: (1, .iload_n 1, []) :: (2, .invokevirtual 81, [0, 1, 10]) :: (5, .astore_n 2, []) :: (6, .aload_n 2, []) :: (7, .ifnull 10, [17, 0]) :: (10, .aload_n 2, []) :: (11, .invokevirtual 131, [1, 0, 3]) :: (14, .ifCond .ne 5, [19, 0]) :: (17, .nop, [0]) :: []
def p_X10_rank_0 : List (List (Nat × Nat)) := [] :: [] :: [(2, 115)] :: [] :: [] :: [] :: [] :: [(2, 166)] :: [] :: [] :: []
def bl_X10_rank : List (Nat × List zE) := [(0, b_X10_rank_0), (17, b_X10_rank_17), (19, b_X10_rank_19)]
def pl_X10_rank : List (List (List (Nat × Nat))) := [p_X10_rank_0, p_X10_rank_17, p_X10_rank_19]
theorem k_X10_rank_0 : zlk 0 bl_X10_rank = b_X10_rank_0 := rfl
theorem k_X10_rank_17 : zlk 17 bl_X10_rank = b_X10_rank_17 := rfl
theorem k_X10_rank_19 : zlk 19 bl_X10_rank = b_X10_rank_19 := rfl
set_option maxRecDepth 100000 in
theorem ck_X10_rank : zall q_X10_rank.2.2.2.2.1 q_X10_rank.2.1 10 false q_X10_rank.2.2.1 cal_X10_rank q_X10_rank.2.2.2.1 bl_X10_rank pl_X10_rank = true := by decide +kernel
theorem nm_X10_rank : plainName q_X10_rank.1.cls = true ∧ zRX 10 = q_X10_rank.1.cls ∧ (false = true → q_X10_rank.1.name = "<init>") := ⟨by decide +kernel, rfl, fun h => by first | rfl | cases h⟩
set_option maxRecDepth 100000 in
theorem wd_X10_nullVector : zwd q_X10_nullVector := ⟨zw_in (p := (4, 223)) (by decide +kernel), zw_in (p := (1, 1)) (by decide +kernel), fun h => absurd h (by decide), fun _ => zw_in (p := (4, 221)) (by decide +kernel), fun _ => zw_in (p := (4, 222)) (by decide +kernel)⟩
def cal_X10_nullVector : List zCal := [q_X10_matrixAt, q_X10_freeVector, q_X3_onLattice, q_X1_writeNullVector, q_X10_newVector]
def b_X10_nullVector_53 : List zE := (53, .aload_n 0, []) :: (54, .iload 4, []) :: (56, .aload_n 3, []) :: (57, .getfield 122, [3, 3]) :: (60, .invokevirtual 208, [4, 2, 10]) :: (63, .ireturn, []) :: []
def p_X10_nullVector_53 : List (List (Nat × Nat)) := [] :: [] :: [] :: [(1, 224)] :: [(3, 203)] :: [] :: []
def b_X10_nullVector_35 : List zE := (35, .aload_n 0, []) :: (36, .getfield 37, [10, 4]) :: (39, .aload_n 3, []) :: (40, .iload_n 2, []) :: (41, .aload_n 0, []) :: (42, .getfield 59, [10, 8]) :: (45, .invokevirtual 251, [3, 3, 1]) :: (48, .ifCond .ne 5, [53, 0]) :: (51, .iconst (-1), [4294967295]) :: (52, .ireturn, []) :: []
def p_X10_nullVector_35 : List (List (Nat × Nat)) := [] :: [(2, 72)] :: [] :: [] :: [] :: [(2, 76)] :: [(4, 224)] :: [] :: [] :: [] :: []
def b_X10_nullVector_33 : List zE := (33, .iconst (-1), [4294967295]) :: (34, .ireturn, []) :: []
def p_X10_nullVector_33 : List (List (Nat × Nat)) := [] :: [] :: []
def b_X10_nullVector_0 : List zE := (0, .aload_n 0, []) :: (1, .iload_n 1, []) :: (2, .invokevirtual 81, [0, 1, 10]) :: (5, .astore_n 3, []) :: (6, .aload_n 0, []) :: (7, .invokevirtual 187, [1, 0, 10]) :: (10, .istore 4, []) :: (12, .aload_n 3, []) :: (13, .ifnull 20, [33, 0]) :: (16, .iload 4, []) :: (18, .iconst (-1), [4294967295]) :: (19, .if_icmp .eq 14, [33, 0]) :: (22, .iload_n 2, []) :: (23, .ifCond .lt 10, [33, 0]) :: (26, .aload_n 3, []) :: (27, .invokevirtual 131, [2, 0, 3]) :: (30, .ifCond .ne 5, [35, 0]) :: (33, .nop, [0]) :: []
def p_X10_nullVector_0 : List (List (Nat × Nat)) := [] :: [] :: [(2, 115)] :: [] :: [] :: [(3, 157)] :: [] :: [] :: [] :: [] :: [] :: [] :: [] :: [] :: [] :: [(2, 166)] :: [] :: [] :: []
def bl_X10_nullVector : List (Nat × List zE) := [(0, b_X10_nullVector_0), (33, b_X10_nullVector_33), (35, b_X10_nullVector_35), (53, b_X10_nullVector_53)]
def pl_X10_nullVector : List (List (List (Nat × Nat))) := [p_X10_nullVector_0, p_X10_nullVector_33, p_X10_nullVector_35, p_X10_nullVector_53]
theorem k_X10_nullVector_0 : zlk 0 bl_X10_nullVector = b_X10_nullVector_0 := rfl
theorem k_X10_nullVector_33 : zlk 33 bl_X10_nullVector = b_X10_nullVector_33 := rfl
theorem k_X10_nullVector_35 : zlk 35 bl_X10_nullVector = b_X10_nullVector_35 := rfl
theorem k_X10_nullVector_53 : zlk 53 bl_X10_nullVector = b_X10_nullVector_53 := rfl
set_option maxRecDepth 100000 in
theorem ck_X10_nullVector : zall q_X10_nullVector.2.2.2.2.1 q_X10_nullVector.2.1 10 false q_X10_nullVector.2.2.1 cal_X10_nullVector q_X10_nullVector.2.2.2.1 bl_X10_nullVector pl_X10_nullVector = true := by decide +kernel
theorem nm_X10_nullVector : plainName q_X10_nullVector.1.cls = true ∧ zRX 10 = q_X10_nullVector.1.cls ∧ (false = true → q_X10_nullVector.1.name = "<init>") := ⟨by decide +kernel, rfl, fun h => by first | rfl | cases h⟩
set_option maxRecDepth 100000 in
theorem wd_X10_exactSquare : zwd q_X10_exactSquare := ⟨zw_in (p := (4, 239)) (by decide +kernel), zw_in (p := (1, 1)) (by decide +kernel), fun _ => zw_in (p := (4, 238)) (by decide +kernel), fun h => absurd rfl h, fun h => absurd h (by decide)⟩
def cal_X10_exactSquare : List zCal := [q_X3_onLattice]
def b_X10_exactSquare_27 : List zE := (27, .ireturn, []) :: []
def p_X10_exactSquare_27 : List (List (Nat × Nat)) := [] :: []
def b_X10_exactSquare_26 : List zE := (26, .iconst 0, [0]) :: (27, .nop, [0]) :: []
def p_X10_exactSquare_26 : List (List (Nat × Nat)) := [] :: [] :: []
def b_X10_exactSquare_0 : List zE := (0, .aload_n 0, []) :: (1, .ifnull 25, [26, 0]) :: (4, .aload_n 0, []) :: (5, .getfield 119, [3, 2]) :: (8, .aload_n 0, []) :: (9, .getfield 122, [3, 3]) :: (12, .if_icmp .ne 14, [26, 0]) :: (15, .aload_n 0, []) :: (16, .invokevirtual 131, [0, 0, 3]) :: (19, .ifCond .eq 7, [26, 0]) :: (22, .iconst 1, [1]) :: (23, .goto 4, [27, 0]) :: []
def p_X10_exactSquare_0 : List (List (Nat × Nat)) := [] :: [] :: [] :: [(1, 219)] :: [] :: [(1, 224)] :: [] :: [] :: [(2, 166)] :: [] :: [] :: [] :: []
def bl_X10_exactSquare : List (Nat × List zE) := [(0, b_X10_exactSquare_0), (26, b_X10_exactSquare_26), (27, b_X10_exactSquare_27)]
def pl_X10_exactSquare : List (List (List (Nat × Nat))) := [p_X10_exactSquare_0, p_X10_exactSquare_26, p_X10_exactSquare_27]
theorem k_X10_exactSquare_0 : zlk 0 bl_X10_exactSquare = b_X10_exactSquare_0 := rfl
theorem k_X10_exactSquare_26 : zlk 26 bl_X10_exactSquare = b_X10_exactSquare_26 := rfl
theorem k_X10_exactSquare_27 : zlk 27 bl_X10_exactSquare = b_X10_exactSquare_27 := rfl
set_option maxRecDepth 100000 in
theorem ck_X10_exactSquare : zall q_X10_exactSquare.2.2.2.2.1 q_X10_exactSquare.2.1 10 false q_X10_exactSquare.2.2.1 cal_X10_exactSquare q_X10_exactSquare.2.2.2.1 bl_X10_exactSquare pl_X10_exactSquare = true := by decide +kernel
theorem nm_X10_exactSquare : plainName q_X10_exactSquare.1.cls = true ∧ zRX 10 = q_X10_exactSquare.1.cls ∧ (false = true → q_X10_exactSquare.1.name = "<init>") := ⟨by decide +kernel, rfl, fun h => by first | rfl | cases h⟩
set_option maxRecDepth 100000 in
theorem wd_X10_determinant : zwd q_X10_determinant := ⟨zw_in (p := (4, 236)) (by decide +kernel), zw_in (p := (1, 1)) (by decide +kernel), fun h => absurd h (by decide), fun _ => zw_in (p := (4, 234)) (by decide +kernel), fun _ => zw_in (p := (4, 235)) (by decide +kernel)⟩
def cal_X10_determinant : List zCal := [q_X10_matrixAt, q_X10_exactSquare, q_X1_determinantOf]
def b_X10_determinant_27 : List zE := (27, .lreturn, []) :: []
def p_X10_determinant_27 : List (List (Nat × Nat)) := [] :: []
def b_X10_determinant_24 : List zE := (24, .ldc2_w 117, [18446744073709551615]) :: (27, .nop, [0]) :: []
def p_X10_determinant_24 : List (List (Nat × Nat)) := [(2, 161)] :: [] :: []
def b_X10_determinant_0 : List zE := (0, .aload_n 0, []) :: (1, .iload_n 1, []) :: (2, .invokevirtual 81, [0, 1, 10]) :: (5, .astore_n 2, []) :: (6, .aload_n 2, []) :: (7, .invokestatic 255, [1, 1]) :: (10, .ifCond .eq 14, [24, 0]) :: (13, .aload_n 0, []) :: (14, .getfield 37, [10, 4]) :: (17, .aload_n 2, []) :: (18, .invokevirtual 258, [2, 1, 1]) :: (21, .goto 6, [27, 0]) :: []
def p_X10_determinant_0 : List (List (Nat × Nat)) := [] :: [] :: [(2, 115)] :: [] :: [] :: [(4, 237)] :: [] :: [] :: [(2, 72)] :: [] :: [(5, 0)] :: [] :: []
def bl_X10_determinant : List (Nat × List zE) := [(0, b_X10_determinant_0), (24, b_X10_determinant_24), (27, b_X10_determinant_27)]
def pl_X10_determinant : List (List (List (Nat × Nat))) := [p_X10_determinant_0, p_X10_determinant_24, p_X10_determinant_27]
theorem k_X10_determinant_0 : zlk 0 bl_X10_determinant = b_X10_determinant_0 := rfl
theorem k_X10_determinant_24 : zlk 24 bl_X10_determinant = b_X10_determinant_24 := rfl
theorem k_X10_determinant_27 : zlk 27 bl_X10_determinant = b_X10_determinant_27 := rfl
set_option maxRecDepth 100000 in
theorem ck_X10_determinant : zall q_X10_determinant.2.2.2.2.1 q_X10_determinant.2.1 10 false q_X10_determinant.2.2.1 cal_X10_determinant q_X10_determinant.2.2.2.1 bl_X10_determinant pl_X10_determinant = true := by decide +kernel
theorem nm_X10_determinant : plainName q_X10_determinant.1.cls = true ∧ zRX 10 = q_X10_determinant.1.cls ∧ (false = true → q_X10_determinant.1.name = "<init>") := ⟨by decide +kernel, rfl, fun h => by first | rfl | cases h⟩
set_option maxRecDepth 100000 in
theorem wd_X10_digits : zwd q_X10_digits := ⟨zw_in (p := (5, 11)) (by decide +kernel), zw_in (p := (1, 1)) (by decide +kernel), fun h => absurd h (by decide), fun _ => zw_in (p := (5, 9)) (by decide +kernel), fun _ => zw_in (p := (5, 10)) (by decide +kernel)⟩
def cal_X10_digits : List zCal := [q_X10_matrixAt, q_X10_exactSquare, q_X1_determinantDigits]
def b_X10_digits_25 : List zE := (25, .aload_n 0, []) :: (26, .getfield 37, [10, 4]) :: (29, .aload_n 3, []) :: (30, .iload_n 2, []) :: (31, .invokevirtual 262, [2, 2, 1]) :: (34, .ireturn, []) :: []
def p_X10_digits_25 : List (List (Nat × Nat)) := [] :: [(2, 72)] :: [] :: [] :: [(5, 12)] :: [] :: []
def b_X10_digits_23 : List zE := (23, .iconst 0, [0]) :: (24, .ireturn, []) :: []
def p_X10_digits_23 : List (List (Nat × Nat)) := [] :: [] :: []
def b_X10_digits_0 : List zE := (0, .aload_n 0, []) :: (1, .iload_n 1, []) :: (2, .invokevirtual 81, [0, 1, 10]) :: (5, .astore_n 3, []) :: (6, .iload_n 2, []) :: (7, .ifCond .lt 16, [23, 0]) :: (10, .iload_n 2, []) :: (11, .bipush 27, [27]) :: (13, .if_icmp .gt 10, [23, 0]) :: (16, .aload_n 3, []) :: (17, .invokestatic 255, [1, 1]) :: (20, .ifCond .ne 5, [25, 0]) :: (23, .nop, [0]) :: []
def p_X10_digits_0 : List (List (Nat × Nat)) := [] :: [] :: [(2, 115)] :: [] :: [] :: [] :: [] :: [] :: [] :: [] :: [(4, 237)] :: [] :: [] :: []
def bl_X10_digits : List (Nat × List zE) := [(0, b_X10_digits_0), (23, b_X10_digits_23), (25, b_X10_digits_25)]
def pl_X10_digits : List (List (List (Nat × Nat))) := [p_X10_digits_0, p_X10_digits_23, p_X10_digits_25]
theorem k_X10_digits_0 : zlk 0 bl_X10_digits = b_X10_digits_0 := rfl
theorem k_X10_digits_23 : zlk 23 bl_X10_digits = b_X10_digits_23 := rfl
theorem k_X10_digits_25 : zlk 25 bl_X10_digits = b_X10_digits_25 := rfl
set_option maxRecDepth 100000 in
theorem ck_X10_digits : zall q_X10_digits.2.2.2.2.1 q_X10_digits.2.1 10 false q_X10_digits.2.2.1 cal_X10_digits q_X10_digits.2.2.2.1 bl_X10_digits pl_X10_digits = true := by decide +kernel
theorem nm_X10_digits : plainName q_X10_digits.1.cls = true ∧ zRX 10 = q_X10_digits.1.cls ∧ (false = true → q_X10_digits.1.name = "<init>") := ⟨by decide +kernel, rfl, fun h => by first | rfl | cases h⟩
set_option maxRecDepth 100000 in
theorem wd_X10_condition : zwd q_X10_condition := ⟨zw_in (p := (5, 23)) (by decide +kernel), zw_in (p := (1, 1)) (by decide +kernel), fun h => absurd h (by decide), fun _ => zw_in (p := (5, 21)) (by decide +kernel), fun _ => zw_in (p := (5, 22)) (by decide +kernel)⟩
def cal_X10_condition : List zCal := [q_X10_matrixAt, q_X10_exactSquare, q_X1_conditionOf]
def b_X10_condition_27 : List zE := (27, .lreturn, []) :: []
def p_X10_condition_27 : List (List (Nat × Nat)) := [] :: []
def b_X10_condition_24 : List zE := (24, .ldc2_w 117, [18446744073709551615]) :: (27, .nop, [0]) :: []
def p_X10_condition_24 : List (List (Nat × Nat)) := [(2, 161)] :: [] :: []
def b_X10_condition_0 : List zE := (0, .aload_n 0, []) :: (1, .iload_n 1, []) :: (2, .invokevirtual 81, [0, 1, 10]) :: (5, .astore_n 2, []) :: (6, .aload_n 2, []) :: (7, .invokestatic 255, [1, 1]) :: (10, .ifCond .eq 14, [24, 0]) :: (13, .aload_n 0, []) :: (14, .getfield 37, [10, 4]) :: (17, .aload_n 2, []) :: (18, .invokevirtual 266, [2, 1, 1]) :: (21, .goto 6, [27, 0]) :: []
def p_X10_condition_0 : List (List (Nat × Nat)) := [] :: [] :: [(2, 115)] :: [] :: [] :: [(4, 237)] :: [] :: [] :: [(2, 72)] :: [] :: [(5, 24)] :: [] :: []
def bl_X10_condition : List (Nat × List zE) := [(0, b_X10_condition_0), (24, b_X10_condition_24), (27, b_X10_condition_27)]
def pl_X10_condition : List (List (List (Nat × Nat))) := [p_X10_condition_0, p_X10_condition_24, p_X10_condition_27]
theorem k_X10_condition_0 : zlk 0 bl_X10_condition = b_X10_condition_0 := rfl
theorem k_X10_condition_24 : zlk 24 bl_X10_condition = b_X10_condition_24 := rfl
theorem k_X10_condition_27 : zlk 27 bl_X10_condition = b_X10_condition_27 := rfl
set_option maxRecDepth 100000 in
theorem ck_X10_condition : zall q_X10_condition.2.2.2.2.1 q_X10_condition.2.1 10 false q_X10_condition.2.2.1 cal_X10_condition q_X10_condition.2.2.2.1 bl_X10_condition pl_X10_condition = true := by decide +kernel
theorem nm_X10_condition : plainName q_X10_condition.1.cls = true ∧ zRX 10 = q_X10_condition.1.cls ∧ (false = true → q_X10_condition.1.name = "<init>") := ⟨by decide +kernel, rfl, fun h => by first | rfl | cases h⟩
set_option maxRecDepth 100000 in
theorem wd_X10_gap : zwd q_X10_gap := ⟨zw_in (p := (5, 41)) (by decide +kernel), zw_in (p := (1, 1)) (by decide +kernel), fun h => absurd h (by decide), fun _ => zw_in (p := (5, 39)) (by decide +kernel), fun _ => zw_in (p := (5, 40)) (by decide +kernel)⟩
def cal_X10_gap : List zCal := [q_X10_matrixAt, q_X10_exactSquare, q_X5_gapOf, q_X0_finite]
def b_X10_gap_80 : List zE := (80, .lreturn, []) :: []
def p_X10_gap_80 : List (List (Nat × Nat)) := [] :: []
def b_X10_gap_77 : List zE := (77, .ldc2_w 117, [18446744073709551615]) :: (80, .nop, [0]) :: []
def p_X10_gap_77 : List (List (Nat × Nat)) := [(2, 161)] :: [] :: []
def b_X10_gap_52 : List zE := (52, .aload_n 0, []) :: (53, .getfield 30, [10, 3]) :: (56, .aload_n 3, []) :: (57, .aload 4, []) :: (59, .invokevirtual 269, [2, 2, 5]) :: (62, .lstore 5, []) :: (64, .lload 5, []) :: (66, .invokestatic 89, [3, 1]) :: (69, .ifCond .eq 8, [77, 0]) :: (72, .lload 5, []) :: (74, .goto 6, [80, 0]) :: []
def p_X10_gap_52 : List (List (Nat × Nat)) := [] :: [(2, 71)] :: [] :: [] :: [(5, 42)] :: [] :: [] :: [(2, 131)] :: [] :: [] :: [] :: []
def b_X10_gap_48 : List zE := (48, .ldc2_w 117, [18446744073709551615]) :: (51, .lreturn, []) :: []
def p_X10_gap_48 : List (List (Nat × Nat)) := [(2, 161)] :: [] :: []
def b_X10_gap_0 : List zE := (0, .aload_n 0, []) :: (1, .iload_n 1, []) :: (2, .invokevirtual 81, [0, 1, 10]) :: (5, .astore_n 3, []) :: (6, .aload_n 0, []) :: (7, .iload_n 2, []) :: (8, .invokevirtual 81, [0, 1, 10]) :: (11, .astore 4, []) :: (13, .aload_n 3, []) :: (14, .ifnull 34, [48, 0]) :: (17, .aload 4, []) :: (19, .invokestatic 255, [1, 1]) :: (22, .ifCond .eq 26, [48, 0]) :: (25, .aload_n 3, []) :: (26, .getfield 119, [3, 2]) :: (29, .aload_n 3, []) :: (30, .getfield 122, [3, 3]) :: (33, .if_icmp .ne 15, [48, 0]) :: (36, .aload_n 3, []) :: (37, .getfield 119, [3, 2]) :: (40, .aload 4, []) :: (42, .getfield 119, [3, 2]) :: (45, .if_icmp .eq 7, [52, 0]) :: (48, .nop, [0]) :: []
def p_X10_gap_0 : List (List (Nat × Nat)) := [] :: [] :: [(2, 115)] :: [] :: [] :: [] :: [(2, 115)] :: [] :: [] :: [] :: [] :: [(4, 237)] :: [] :: [] :: [(1, 219)] :: [] :: [(1, 224)] :: [] :: [] :: [(1, 219)] :: [] :: [(1, 219)] :: [] :: [] :: []
def bl_X10_gap : List (Nat × List zE) := [(0, b_X10_gap_0), (48, b_X10_gap_48), (52, b_X10_gap_52), (77, b_X10_gap_77), (80, b_X10_gap_80)]
def pl_X10_gap : List (List (List (Nat × Nat))) := [p_X10_gap_0, p_X10_gap_48, p_X10_gap_52, p_X10_gap_77, p_X10_gap_80]
theorem k_X10_gap_0 : zlk 0 bl_X10_gap = b_X10_gap_0 := rfl
theorem k_X10_gap_48 : zlk 48 bl_X10_gap = b_X10_gap_48 := rfl
theorem k_X10_gap_52 : zlk 52 bl_X10_gap = b_X10_gap_52 := rfl
theorem k_X10_gap_77 : zlk 77 bl_X10_gap = b_X10_gap_77 := rfl
theorem k_X10_gap_80 : zlk 80 bl_X10_gap = b_X10_gap_80 := rfl
set_option maxRecDepth 100000 in
theorem ck_X10_gap : zall q_X10_gap.2.2.2.2.1 q_X10_gap.2.1 10 false q_X10_gap.2.2.1 cal_X10_gap q_X10_gap.2.2.2.1 bl_X10_gap pl_X10_gap = true := by decide +kernel
theorem nm_X10_gap : plainName q_X10_gap.1.cls = true ∧ zRX 10 = q_X10_gap.1.cls ∧ (false = true → q_X10_gap.1.name = "<init>") := ⟨by decide +kernel, rfl, fun h => by first | rfl | cases h⟩
set_option maxRecDepth 100000 in
theorem wd_X10_bound : zwd q_X10_bound := ⟨zw_in (p := (5, 58)) (by decide +kernel), zw_in (p := (1, 1)) (by decide +kernel), fun h => absurd h (by decide), fun _ => zw_in (p := (5, 56)) (by decide +kernel), fun _ => zw_in (p := (5, 57)) (by decide +kernel)⟩
def cal_X10_bound : List zCal := [q_X10_matrixAt, q_X10_exactSquare, q_X10_fits, q_X5_boundOf]
def b_X10_bound_73 : List zE := (73, .aload_n 0, []) :: (74, .getfield 30, [10, 3]) :: (77, .aload 5, []) :: (79, .aload 6, []) :: (81, .aload_n 0, []) :: (82, .getfield 23, [10, 2]) :: (85, .iload_n 3, []) :: (86, .aaload, []) :: (87, .getfield 199, [8, 2]) :: (90, .aload_n 0, []) :: (91, .getfield 23, [10, 2]) :: (94, .iload 4, []) :: (96, .aaload, []) :: (97, .getfield 199, [8, 2]) :: (100, .invokevirtual 273, [3, 4, 5]) :: (103, .lreturn, []) :: []
def p_X10_bound_73 : List (List (Nat × Nat)) := [] :: [(2, 71)] :: [] :: [] :: [] :: [(2, 70)] :: [] :: [] :: [(2, 60)] :: [] :: [(2, 70)] :: [] :: [] :: [(2, 60)] :: [(5, 59)] :: [] :: []
def b_X10_bound_57 : List zE := (57, .aload_n 0, []) :: (58, .aload 6, []) :: (60, .iload_n 3, []) :: (61, .iload 4, []) :: (63, .invokevirtual 212, [2, 3, 10]) :: (66, .ifCond .ne 7, [73, 0]) :: (69, .ldc2_w 117, [18446744073709551615]) :: (72, .lreturn, []) :: []
def p_X10_bound_57 : List (List (Nat × Nat)) := [] :: [] :: [] :: [] :: [(3, 211)] :: [] :: [(2, 161)] :: [] :: []
def b_X10_bound_53 : List zE := (53, .ldc2_w 117, [18446744073709551615]) :: (56, .lreturn, []) :: []
def p_X10_bound_53 : List (List (Nat × Nat)) := [(2, 161)] :: [] :: []
def b_X10_bound_0 : List zE := (0, .aload_n 0, []) :: (1, .iload_n 1, []) :: (2, .invokevirtual 81, [0, 1, 10]) :: (5, .astore 5, []) :: (7, .aload_n 0, []) :: (8, .iload_n 2, []) :: (9, .invokevirtual 81, [0, 1, 10]) :: (12, .astore 6, []) :: (14, .aload 5, []) :: (16, .ifnull 37, [53, 0]) :: (19, .aload 6, []) :: (21, .invokestatic 255, [1, 1]) :: (24, .ifCond .eq 29, [53, 0]) :: (27, .aload 5, []) :: (29, .getfield 119, [3, 2]) :: (32, .aload 5, []) :: (34, .getfield 122, [3, 3]) :: (37, .if_icmp .ne 16, [53, 0]) :: (40, .aload 5, []) :: (42, .getfield 119, [3, 2]) :: (45, .aload 6, []) :: (47, .getfield 119, [3, 2]) :: (50, .if_icmp .eq 7, [57, 0]) :: (53, .nop, [0]) :: []
def p_X10_bound_0 : List (List (Nat × Nat)) := [] :: [] :: [(2, 115)] :: [] :: [] :: [] :: [(2, 115)] :: [] :: [] :: [] :: [] :: [(4, 237)] :: [] :: [] :: [(1, 219)] :: [] :: [(1, 224)] :: [] :: [] :: [(1, 219)] :: [] :: [(1, 219)] :: [] :: [] :: []
def bl_X10_bound : List (Nat × List zE) := [(0, b_X10_bound_0), (53, b_X10_bound_53), (57, b_X10_bound_57), (73, b_X10_bound_73)]
def pl_X10_bound : List (List (List (Nat × Nat))) := [p_X10_bound_0, p_X10_bound_53, p_X10_bound_57, p_X10_bound_73]
theorem k_X10_bound_0 : zlk 0 bl_X10_bound = b_X10_bound_0 := rfl
theorem k_X10_bound_53 : zlk 53 bl_X10_bound = b_X10_bound_53 := rfl
theorem k_X10_bound_57 : zlk 57 bl_X10_bound = b_X10_bound_57 := rfl
theorem k_X10_bound_73 : zlk 73 bl_X10_bound = b_X10_bound_73 := rfl
set_option maxRecDepth 100000 in
theorem ck_X10_bound : zall q_X10_bound.2.2.2.2.1 q_X10_bound.2.1 10 false q_X10_bound.2.2.1 cal_X10_bound q_X10_bound.2.2.2.1 bl_X10_bound pl_X10_bound = true := by decide +kernel
theorem nm_X10_bound : plainName q_X10_bound.1.cls = true ∧ zRX 10 = q_X10_bound.1.cls ∧ (false = true → q_X10_bound.1.name = "<init>") := ⟨by decide +kernel, rfl, fun h => by first | rfl | cases h⟩
set_option maxRecDepth 100000 in
theorem wd_X10_reorder : zwd q_X10_reorder := ⟨zw_in (p := (5, 80)) (by decide +kernel), zw_in (p := (1, 1)) (by decide +kernel), fun h => absurd h (by decide), fun _ => zw_in (p := (5, 78)) (by decide +kernel), fun _ => zw_in (p := (5, 79)) (by decide +kernel)⟩
def cal_X10_reorder : List zCal := [q_X10_matrixAt, q_X10_freeMatrix, q_X4_arrange, q_X3_begin, q_X4_rowAt, q_X3_at, q_X3_store]
def b_X10_reorder_132 : List zE := (132, .aload 4, []) :: (134, .iconst 1, [1]) :: (135, .putfield 77, [3, 0]) :: (138, .iload_n 3, []) :: (139, .ireturn, []) :: []
def p_X10_reorder_132 : List (List (Nat × Nat)) := [] :: [] :: [(1, 209)] :: [] :: [] :: []
def b_X10_reorder_126 : List zE := (126, .iinc 5 1, [1]) :: (129, .goto (-61), [68, 1]) :: []
def p_X10_reorder_126 : List (List (Nat × Nat)) := [] :: [] :: []
def b_X10_reorder_80 : List zE := (80, .iload 6, []) :: (82, .aload_n 2, []) :: (83, .getfield 119, [3, 2]) :: (86, .if_icmp .ge 40, [126, 0]) :: (89, .aload 4, []) :: (91, .iload 5, []) :: (93, .iload 6, []) :: (95, .aload_n 2, []) :: (96, .aload_n 0, []) :: (97, .getfield 44, [10, 5]) :: (100, .iload 5, []) :: (102, .invokevirtual 281, [4, 1, 4]) :: (105, .aload_n 0, []) :: (106, .getfield 44, [10, 5]) :: (109, .iload 6, []) :: (111, .invokevirtual 281, [4, 1, 4]) :: (114, .invokevirtual 99, [5, 2, 3]) :: (117, .invokevirtual 110, [6, 3, 3]) :: (120, .iinc 6 1, [1]) :: (123, .goto (-43), [80, 1]) :: []
def p_X10_reorder_80 : List (List (Nat × Nat)) := [] :: [] :: [(1, 219)] :: [] :: [] :: [] :: [] :: [] :: [] :: [(2, 73)] :: [] :: [(5, 112)] :: [] :: [(2, 73)] :: [] :: [(5, 112)] :: [(2, 139)] :: [(2, 148)] :: [] :: [] :: []
def b_X10_reorder_68 : List zE := (68, .iload 5, []) :: (70, .aload_n 2, []) :: (71, .getfield 119, [3, 2]) :: (74, .if_icmp .ge 58, [132, 0]) :: (77, .iconst 0, [0]) :: (78, .istore 6, []) :: (80, .nop, []) :: []
def p_X10_reorder_68 : List (List (Nat × Nat)) := [] :: [] :: [(1, 219)] :: [] :: [] :: [] :: [] :: []
def b_X10_reorder_33 : List zE := (33, .aload_n 0, []) :: (34, .getfield 44, [10, 5]) :: (37, .aload_n 2, []) :: (38, .invokevirtual 277, [2, 1, 4]) :: (41, .aload_n 0, []) :: (42, .getfield 11, [10, 0]) :: (45, .iload_n 3, []) :: (46, .aaload, []) :: (47, .astore 4, []) :: (49, .aload 4, []) :: (51, .iconst 0, [0]) :: (52, .aload_n 2, []) :: (53, .getfield 119, [3, 2]) :: (56, .aload_n 2, []) :: (57, .getfield 119, [3, 2]) :: (60, .iconst 0, [0]) :: (61, .iconst 0, [0]) :: (62, .invokevirtual 73, [3, 5, 3]) :: (65, .iconst 0, [0]) :: (66, .istore 5, []) :: (68, .nop, []) :: []
def p_X10_reorder_33 : List (List (Nat × Nat)) := [] :: [(2, 73)] :: [] :: [(5, 81)] :: [] :: [(2, 68)] :: [] :: [] :: [] :: [] :: [] :: [] :: [(1, 219)] :: [] :: [(1, 219)] :: [] :: [] :: [(2, 107)] :: [] :: [] :: [] :: []
def b_X10_reorder_31 : List zE := (31, .iconst (-1), [4294967295]) :: (32, .ireturn, []) :: []
def p_X10_reorder_31 : List (List (Nat × Nat)) := [] :: [] :: []
def b_X10_reorder_0 : List zE := (0, .aload_n 0, []) :: (1, .iload_n 1, []) :: (2, .invokevirtual 81, [0, 1, 10]) :: (5, .astore_n 2, []) :: (6, .aload_n 0, []) :: (7, .invokevirtual 65, [1, 0, 10]) :: (10, .istore_n 3, []) :: (11, .aload_n 2, []) :: (12, .ifnull 19, [31, 0]) :: (15, .iload_n 3, []) :: (16, .iconst (-1), [4294967295]) :: (17, .if_icmp .eq 14, [31, 0]) :: (20, .aload_n 2, []) :: (21, .getfield 119, [3, 2]) :: (24, .aload_n 2, []) :: (25, .getfield 122, [3, 3]) :: (28, .if_icmp .eq 5, [33, 0]) :: (31, .nop, [0]) :: []
def p_X10_reorder_0 : List (List (Nat × Nat)) := [] :: [] :: [(2, 115)] :: [] :: [] :: [(2, 100)] :: [] :: [] :: [] :: [] :: [] :: [] :: [] :: [(1, 219)] :: [] :: [(1, 224)] :: [] :: [] :: []
def bl_X10_reorder : List (Nat × List zE) := [(0, b_X10_reorder_0), (31, b_X10_reorder_31), (33, b_X10_reorder_33), (68, b_X10_reorder_68), (80, b_X10_reorder_80), (126, b_X10_reorder_126), (132, b_X10_reorder_132)]
def pl_X10_reorder : List (List (List (Nat × Nat))) := [p_X10_reorder_0, p_X10_reorder_31, p_X10_reorder_33, p_X10_reorder_68, p_X10_reorder_80, p_X10_reorder_126, p_X10_reorder_132]
theorem k_X10_reorder_0 : zlk 0 bl_X10_reorder = b_X10_reorder_0 := rfl
theorem k_X10_reorder_31 : zlk 31 bl_X10_reorder = b_X10_reorder_31 := rfl
theorem k_X10_reorder_33 : zlk 33 bl_X10_reorder = b_X10_reorder_33 := rfl
theorem k_X10_reorder_68 : zlk 68 bl_X10_reorder = b_X10_reorder_68 := rfl
theorem k_X10_reorder_80 : zlk 80 bl_X10_reorder = b_X10_reorder_80 := rfl
theorem k_X10_reorder_126 : zlk 126 bl_X10_reorder = b_X10_reorder_126 := rfl
theorem k_X10_reorder_132 : zlk 132 bl_X10_reorder = b_X10_reorder_132 := rfl
set_option maxRecDepth 100000 in
theorem ck_X10_reorder : zall q_X10_reorder.2.2.2.2.1 q_X10_reorder.2.1 10 false q_X10_reorder.2.2.1 cal_X10_reorder q_X10_reorder.2.2.2.1 bl_X10_reorder pl_X10_reorder = true := by decide +kernel
theorem nm_X10_reorder : plainName q_X10_reorder.1.cls = true ∧ zRX 10 = q_X10_reorder.1.cls ∧ (false = true → q_X10_reorder.1.name = "<init>") := ⟨by decide +kernel, rfl, fun h => by first | rfl | cases h⟩
set_option maxRecDepth 100000 in
theorem wd_X10_place : zwd q_X10_place := ⟨zw_in (p := (5, 119)) (by decide +kernel), zw_in (p := (1, 1)) (by decide +kernel), fun h => absurd h (by decide), fun _ => zw_in (p := (5, 117)) (by decide +kernel), fun _ => zw_in (p := (5, 118)) (by decide +kernel)⟩
def cal_X10_place : List zCal := [q_X4_rowAt]
def b_X10_place_0 : List zE := (0, .aload_n 0, []) :: (1, .getfield 44, [10, 5]) :: (4, .iload_n 1, []) :: (5, .invokevirtual 281, [0, 1, 4]) :: (8, .ireturn, []) :: []
def p_X10_place_0 : List (List (Nat × Nat)) := [] :: [(2, 73)] :: [] :: [(5, 112)] :: [] :: []
def bl_X10_place : List (Nat × List zE) := [(0, b_X10_place_0)]
def pl_X10_place : List (List (List (Nat × Nat))) := [p_X10_place_0]
theorem k_X10_place_0 : zlk 0 bl_X10_place = b_X10_place_0 := rfl
set_option maxRecDepth 100000 in
theorem ck_X10_place : zall q_X10_place.2.2.2.2.1 q_X10_place.2.1 10 false q_X10_place.2.2.1 cal_X10_place q_X10_place.2.2.2.1 bl_X10_place pl_X10_place = true := by decide +kernel
theorem nm_X10_place : plainName q_X10_place.1.cls = true ∧ zRX 10 = q_X10_place.1.cls ∧ (false = true → q_X10_place.1.name = "<init>") := ⟨by decide +kernel, rfl, fun h => by first | rfl | cases h⟩
set_option maxRecDepth 100000 in
theorem wd_X10_pack : zwd q_X10_pack := ⟨zw_in (p := (5, 123)) (by decide +kernel), zw_in (p := (1, 1)) (by decide +kernel), fun h => absurd h (by decide), fun _ => zw_in (p := (5, 121)) (by decide +kernel), fun _ => zw_in (p := (5, 122)) (by decide +kernel)⟩
def cal_X10_pack : List zCal := [q_X10_matrixAt, q_X6_writeMatrix]
def b_X10_pack_22 : List zE := (22, .ireturn, []) :: []
def p_X10_pack_22 : List (List (Nat × Nat)) := [] :: []
def b_X10_pack_14 : List zE := (14, .aload_n 0, []) :: (15, .getfield 51, [10, 6]) :: (18, .aload_n 2, []) :: (19, .invokevirtual 285, [1, 1, 6]) :: (22, .nop, [0]) :: []
def p_X10_pack_14 : List (List (Nat × Nat)) := [] :: [(2, 74)] :: [] :: [(5, 124)] :: [] :: []
def b_X10_pack_0 : List zE := (0, .aload_n 0, []) :: (1, .iload_n 1, []) :: (2, .invokevirtual 81, [0, 1, 10]) :: (5, .astore_n 2, []) :: (6, .aload_n 2, []) :: (7, .ifnonnull 7, [14, 0]) :: (10, .iconst (-1), [4294967295]) :: (11, .goto 11, [22, 0]) :: []
def p_X10_pack_0 : List (List (Nat × Nat)) := [] :: [] :: [(2, 115)] :: [] :: [] :: [] :: [] :: [] :: []
def bl_X10_pack : List (Nat × List zE) := [(0, b_X10_pack_0), (14, b_X10_pack_14), (22, b_X10_pack_22)]
def pl_X10_pack : List (List (List (Nat × Nat))) := [p_X10_pack_0, p_X10_pack_14, p_X10_pack_22]
theorem k_X10_pack_0 : zlk 0 bl_X10_pack = b_X10_pack_0 := rfl
theorem k_X10_pack_14 : zlk 14 bl_X10_pack = b_X10_pack_14 := rfl
theorem k_X10_pack_22 : zlk 22 bl_X10_pack = b_X10_pack_22 := rfl
set_option maxRecDepth 100000 in
theorem ck_X10_pack : zall q_X10_pack.2.2.2.2.1 q_X10_pack.2.1 10 false q_X10_pack.2.2.1 cal_X10_pack q_X10_pack.2.2.2.1 bl_X10_pack pl_X10_pack = true := by decide +kernel
theorem nm_X10_pack : plainName q_X10_pack.1.cls = true ∧ zRX 10 = q_X10_pack.1.cls ∧ (false = true → q_X10_pack.1.name = "<init>") := ⟨by decide +kernel, rfl, fun h => by first | rfl | cases h⟩
set_option maxRecDepth 100000 in
theorem wd_X10_octet : zwd q_X10_octet := ⟨zw_in (p := (5, 146)) (by decide +kernel), zw_in (p := (1, 1)) (by decide +kernel), fun h => absurd h (by decide), fun _ => zw_in (p := (5, 144)) (by decide +kernel), fun _ => zw_in (p := (5, 145)) (by decide +kernel)⟩
def cal_X10_octet : List zCal := [q_X6_packedAt]
def b_X10_octet_0 : List zE := (0, .aload_n 0, []) :: (1, .getfield 51, [10, 6]) :: (4, .iload_n 1, []) :: (5, .invokevirtual 288, [0, 1, 6]) :: (8, .ireturn, []) :: []
def p_X10_octet_0 : List (List (Nat × Nat)) := [] :: [(2, 74)] :: [] :: [(5, 147)] :: [] :: []
def bl_X10_octet : List (Nat × List zE) := [(0, b_X10_octet_0)]
def pl_X10_octet : List (List (List (Nat × Nat))) := [p_X10_octet_0]
theorem k_X10_octet_0 : zlk 0 bl_X10_octet = b_X10_octet_0 := rfl
set_option maxRecDepth 100000 in
theorem ck_X10_octet : zall q_X10_octet.2.2.2.2.1 q_X10_octet.2.1 10 false q_X10_octet.2.2.1 cal_X10_octet q_X10_octet.2.2.2.1 bl_X10_octet pl_X10_octet = true := by decide +kernel
theorem nm_X10_octet : plainName q_X10_octet.1.cls = true ∧ zRX 10 = q_X10_octet.1.cls ∧ (false = true → q_X10_octet.1.name = "<init>") := ⟨by decide +kernel, rfl, fun h => by first | rfl | cases h⟩
set_option maxRecDepth 100000 in
theorem wd_X10_feed : zwd q_X10_feed := ⟨zw_in (p := (5, 154)) (by decide +kernel), zw_in (p := (1, 1)) (by decide +kernel), fun h => absurd h (by decide), fun _ => zw_in (p := (5, 152)) (by decide +kernel), fun _ => zw_in (p := (5, 153)) (by decide +kernel)⟩
def cal_X10_feed : List zCal := [q_X6_hasRoom, q_X6_append]
def b_X10_feed_14 : List zE := (14, .aload_n 0, []) :: (15, .getfield 51, [10, 6]) :: (18, .iload_n 1, []) :: (19, .invokevirtual 295, [1, 1, 6]) :: (22, .aload_n 0, []) :: (23, .getfield 51, [10, 6]) :: (26, .iload_n 2, []) :: (27, .invokevirtual 295, [1, 1, 6]) :: (30, .aload_n 0, []) :: (31, .getfield 51, [10, 6]) :: (34, .iload_n 3, []) :: (35, .invokevirtual 295, [1, 1, 6]) :: (38, .aload_n 0, []) :: (39, .getfield 51, [10, 6]) :: (42, .iload 4, []) :: (44, .invokevirtual 295, [1, 1, 6]) :: (47, .aload_n 0, []) :: (48, .getfield 51, [10, 6]) :: (51, .iload 5, []) :: (53, .invokevirtual 295, [1, 1, 6]) :: (56, .aload_n 0, []) :: (57, .getfield 51, [10, 6]) :: (60, .getfield 298, [6, 0]) :: (63, .ireturn, []) :: []
def p_X10_feed_14 : List (List (Nat × Nat)) := [] :: [(2, 74)] :: [] :: [(5, 159)] :: [] :: [(2, 74)] :: [] :: [(5, 159)] :: [] :: [(2, 74)] :: [] :: [(5, 159)] :: [] :: [(2, 74)] :: [] :: [(5, 159)] :: [] :: [(2, 74)] :: [] :: [(5, 159)] :: [] :: [(2, 74)] :: [(1, 188)] :: [] :: []
def b_X10_feed_0 : List zE := (0, .aload_n 0, []) :: (1, .getfield 51, [10, 6]) :: (4, .bipush 20, [20]) :: (6, .invokevirtual 291, [0, 1, 6]) :: (9, .ifCond .ne 5, [14, 0]) :: (12, .iconst (-1), [4294967295]) :: (13, .ireturn, []) :: []
def p_X10_feed_0 : List (List (Nat × Nat)) := [] :: [(2, 74)] :: [] :: [(5, 155)] :: [] :: [] :: [] :: []
def bl_X10_feed : List (Nat × List zE) := [(0, b_X10_feed_0), (14, b_X10_feed_14)]
def pl_X10_feed : List (List (List (Nat × Nat))) := [p_X10_feed_0, p_X10_feed_14]
theorem k_X10_feed_0 : zlk 0 bl_X10_feed = b_X10_feed_0 := rfl
theorem k_X10_feed_14 : zlk 14 bl_X10_feed = b_X10_feed_14 := rfl
set_option maxRecDepth 100000 in
theorem ck_X10_feed : zall q_X10_feed.2.2.2.2.1 q_X10_feed.2.1 10 false q_X10_feed.2.2.1 cal_X10_feed q_X10_feed.2.2.2.1 bl_X10_feed pl_X10_feed = true := by decide +kernel
theorem nm_X10_feed : plainName q_X10_feed.1.cls = true ∧ zRX 10 = q_X10_feed.1.cls ∧ (false = true → q_X10_feed.1.name = "<init>") := ⟨by decide +kernel, rfl, fun h => by first | rfl | cases h⟩
set_option maxRecDepth 100000 in
theorem wd_X10_end : zwd q_X10_end := ⟨zw_in (p := (5, 166)) (by decide +kernel), zw_in (p := (1, 1)) (by decide +kernel), fun h => absurd h (by decide), fun _ => zw_in (p := (5, 164)) (by decide +kernel), fun _ => zw_in (p := (5, 165)) (by decide +kernel)⟩
def cal_X10_end : List zCal := []
def b_X10_end_17 : List zE := (17, .aload_n 0, []) :: (18, .getfield 51, [10, 6]) :: (21, .iload_n 1, []) :: (22, .putfield 298, [6, 0]) :: (25, .iconst 1, [1]) :: (26, .ireturn, []) :: []
def p_X10_end_17 : List (List (Nat × Nat)) := [] :: [(2, 74)] :: [] :: [(1, 188)] :: [] :: [] :: []
def b_X10_end_15 : List zE := (15, .iconst 0, [0]) :: (16, .ireturn, []) :: []
def p_X10_end_15 : List (List (Nat × Nat)) := [] :: [] :: []
def b_X10_end_0 : List zE := (0, .iload_n 1, []) :: (1, .ifCond .lt 14, [15, 0]) :: (4, .iload_n 1, []) :: (5, .aload_n 0, []) :: (6, .getfield 51, [10, 6]) :: (9, .getfield 298, [6, 0]) :: (12, .if_icmp .le 5, [17, 0]) :: (15, .nop, [0]) :: []
def p_X10_end_0 : List (List (Nat × Nat)) := [] :: [] :: [] :: [] :: [(2, 74)] :: [(1, 188)] :: [] :: [] :: []
def bl_X10_end : List (Nat × List zE) := [(0, b_X10_end_0), (15, b_X10_end_15), (17, b_X10_end_17)]
def pl_X10_end : List (List (List (Nat × Nat))) := [p_X10_end_0, p_X10_end_15, p_X10_end_17]
theorem k_X10_end_0 : zlk 0 bl_X10_end = b_X10_end_0 := rfl
theorem k_X10_end_15 : zlk 15 bl_X10_end = b_X10_end_15 := rfl
theorem k_X10_end_17 : zlk 17 bl_X10_end = b_X10_end_17 := rfl
set_option maxRecDepth 100000 in
theorem ck_X10_end : zall q_X10_end.2.2.2.2.1 q_X10_end.2.1 10 false q_X10_end.2.2.1 cal_X10_end q_X10_end.2.2.2.1 bl_X10_end pl_X10_end = true := by decide +kernel
theorem nm_X10_end : plainName q_X10_end.1.cls = true ∧ zRX 10 = q_X10_end.1.cls ∧ (false = true → q_X10_end.1.name = "<init>") := ⟨by decide +kernel, rfl, fun h => by first | rfl | cases h⟩
set_option maxRecDepth 100000 in
theorem wd_X10_take : zwd q_X10_take := ⟨zw_in (p := (5, 170)) (by decide +kernel), zw_in (p := (1, 1)) (by decide +kernel), fun h => absurd h (by decide), fun _ => zw_in (p := (5, 168)) (by decide +kernel), fun _ => zw_in (p := (5, 169)) (by decide +kernel)⟩
def cal_X10_take : List zCal := [q_X6_takePacked]
def b_X10_take_0 : List zE := (0, .aload_n 0, []) :: (1, .getfield 51, [10, 6]) :: (4, .invokevirtual 301, [0, 0, 6]) :: (7, .ireturn, []) :: []
def p_X10_take_0 : List (List (Nat × Nat)) := [] :: [(2, 74)] :: [(5, 171)] :: [] :: []
def bl_X10_take : List (Nat × List zE) := [(0, b_X10_take_0)]
def pl_X10_take : List (List (List (Nat × Nat))) := [p_X10_take_0]
theorem k_X10_take_0 : zlk 0 bl_X10_take = b_X10_take_0 := rfl
set_option maxRecDepth 100000 in
theorem ck_X10_take : zall q_X10_take.2.2.2.2.1 q_X10_take.2.1 10 false q_X10_take.2.2.1 cal_X10_take q_X10_take.2.2.2.1 bl_X10_take pl_X10_take = true := by decide +kernel
theorem nm_X10_take : plainName q_X10_take.1.cls = true ∧ zRX 10 = q_X10_take.1.cls ∧ (false = true → q_X10_take.1.name = "<init>") := ⟨by decide +kernel, rfl, fun h => by first | rfl | cases h⟩
set_option maxRecDepth 100000 in
theorem wd_X10_unpack : zwd q_X10_unpack := ⟨zw_in (p := (5, 178)) (by decide +kernel), zw_in (p := (1, 1)) (by decide +kernel), fun h => absurd h (by decide), fun _ => zw_in (p := (5, 176)) (by decide +kernel), fun _ => zw_in (p := (5, 177)) (by decide +kernel)⟩
def cal_X10_unpack : List zCal := [q_X10_freeMatrix, q_X6_read]
def b_X10_unpack_46 : List zE := (46, .aload_n 0, []) :: (47, .getfield 11, [10, 0]) :: (50, .iload_n 1, []) :: (51, .aaload, []) :: (52, .iconst 1, [1]) :: (53, .putfield 77, [3, 0]) :: (56, .iload_n 1, []) :: (57, .ireturn, []) :: []
def p_X10_unpack_46 : List (List (Nat × Nat)) := [] :: [(2, 68)] :: [] :: [] :: [] :: [(1, 209)] :: [] :: [] :: []
def b_X10_unpack_31 : List zE := (31, .istore_n 2, []) :: (32, .aload_n 0, []) :: (33, .getfield 51, [10, 6]) :: (36, .iconst 0, [0]) :: (37, .putfield 298, [6, 0]) :: (40, .iload_n 2, []) :: (41, .ifCond .ne 5, [46, 0]) :: (44, .iconst (-1), [4294967295]) :: (45, .ireturn, []) :: []
def p_X10_unpack_31 : List (List (Nat × Nat)) := [] :: [] :: [(2, 74)] :: [] :: [(1, 188)] :: [] :: [] :: [] :: [] :: []
def b_X10_unpack_30 : List zE := (30, .iconst 0, [0]) :: (31, .nop, [0]) :: []
def p_X10_unpack_30 : List (List (Nat × Nat)) := [] :: [] :: []
def b_X10_unpack_0 : List zE := (0, .aload_n 0, []) :: (1, .invokevirtual 65, [0, 0, 10]) :: (4, .istore_n 1, []) :: (5, .iload_n 1, []) :: (6, .iconst (-1), [4294967295]) :: (7, .if_icmp .eq 23, [30, 0]) :: (10, .aload_n 0, []) :: (11, .getfield 51, [10, 6]) :: (14, .aload_n 0, []) :: (15, .getfield 11, [10, 0]) :: (18, .iload_n 1, []) :: (19, .aaload, []) :: (20, .invokevirtual 304, [1, 1, 6]) :: (23, .ifCond .eq 7, [30, 0]) :: (26, .iconst 1, [1]) :: (27, .goto 4, [31, 0]) :: []
def p_X10_unpack_0 : List (List (Nat × Nat)) := [] :: [(2, 100)] :: [] :: [] :: [] :: [] :: [] :: [(2, 74)] :: [] :: [(2, 68)] :: [] :: [] :: [(5, 179)] :: [] :: [] :: [] :: []
def bl_X10_unpack : List (Nat × List zE) := [(0, b_X10_unpack_0), (30, b_X10_unpack_30), (31, b_X10_unpack_31), (46, b_X10_unpack_46)]
def pl_X10_unpack : List (List (List (Nat × Nat))) := [p_X10_unpack_0, p_X10_unpack_30, p_X10_unpack_31, p_X10_unpack_46]
theorem k_X10_unpack_0 : zlk 0 bl_X10_unpack = b_X10_unpack_0 := rfl
theorem k_X10_unpack_30 : zlk 30 bl_X10_unpack = b_X10_unpack_30 := rfl
theorem k_X10_unpack_31 : zlk 31 bl_X10_unpack = b_X10_unpack_31 := rfl
theorem k_X10_unpack_46 : zlk 46 bl_X10_unpack = b_X10_unpack_46 := rfl
set_option maxRecDepth 100000 in
theorem ck_X10_unpack : zall q_X10_unpack.2.2.2.2.1 q_X10_unpack.2.1 10 false q_X10_unpack.2.2.1 cal_X10_unpack q_X10_unpack.2.2.2.1 bl_X10_unpack pl_X10_unpack = true := by decide +kernel
theorem nm_X10_unpack : plainName q_X10_unpack.1.cls = true ∧ zRX 10 = q_X10_unpack.1.cls ∧ (false = true → q_X10_unpack.1.name = "<init>") := ⟨by decide +kernel, rfl, fun h => by first | rfl | cases h⟩
set_option maxRecDepth 100000 in
theorem wd_X10_countMatrices : zwd q_X10_countMatrices := ⟨zw_in (p := (5, 216)) (by decide +kernel), zw_in (p := (1, 1)) (by decide +kernel), fun h => absurd h (by decide), fun _ => zw_in (p := (5, 215)) (by decide +kernel), fun _ => zw_in (p := (0, 52)) (by decide +kernel)⟩
def cal_X10_countMatrices : List zCal := []
def b_X10_countMatrices_36 : List zE := (36, .iload_n 1, []) :: (37, .ireturn, []) :: []
def p_X10_countMatrices_36 : List (List (Nat × Nat)) := [] :: [] :: []
def b_X10_countMatrices_28 : List zE := (28, .iadd, []) :: (29, .istore_n 1, []) :: (30, .iinc 2 1, [1]) :: (33, .goto (-29), [4, 1]) :: []
def p_X10_countMatrices_28 : List (List (Nat × Nat)) := [] :: [] :: [] :: [] :: []
def b_X10_countMatrices_27 : List zE := (27, .iconst 0, [0]) :: (28, .nop, [0]) :: []
def p_X10_countMatrices_27 : List (List (Nat × Nat)) := [] :: [] :: []
def b_X10_countMatrices_4 : List zE := (4, .iload_n 2, []) :: (5, .bipush 24, [24]) :: (7, .if_icmp .ge 29, [36, 0]) :: (10, .iload_n 1, []) :: (11, .aload_n 0, []) :: (12, .getfield 11, [10, 0]) :: (15, .iload_n 2, []) :: (16, .aaload, []) :: (17, .getfield 77, [3, 0]) :: (20, .ifCond .eq 7, [27, 0]) :: (23, .iconst 1, [1]) :: (24, .goto 4, [28, 0]) :: []
def p_X10_countMatrices_4 : List (List (Nat × Nat)) := [] :: [] :: [] :: [] :: [] :: [(2, 68)] :: [] :: [] :: [(1, 209)] :: [] :: [] :: [] :: []
def b_X10_countMatrices_0 : List zE := (0, .iconst 0, [0]) :: (1, .istore_n 1, []) :: (2, .iconst 0, [0]) :: (3, .istore_n 2, []) :: (4, .nop, []) :: []
def p_X10_countMatrices_0 : List (List (Nat × Nat)) := [] :: [] :: [] :: [] :: [] :: []
def bl_X10_countMatrices : List (Nat × List zE) := [(0, b_X10_countMatrices_0), (4, b_X10_countMatrices_4), (27, b_X10_countMatrices_27), (28, b_X10_countMatrices_28), (36, b_X10_countMatrices_36)]
def pl_X10_countMatrices : List (List (List (Nat × Nat))) := [p_X10_countMatrices_0, p_X10_countMatrices_4, p_X10_countMatrices_27, p_X10_countMatrices_28, p_X10_countMatrices_36]
theorem k_X10_countMatrices_0 : zlk 0 bl_X10_countMatrices = b_X10_countMatrices_0 := rfl
theorem k_X10_countMatrices_4 : zlk 4 bl_X10_countMatrices = b_X10_countMatrices_4 := rfl
theorem k_X10_countMatrices_27 : zlk 27 bl_X10_countMatrices = b_X10_countMatrices_27 := rfl
theorem k_X10_countMatrices_28 : zlk 28 bl_X10_countMatrices = b_X10_countMatrices_28 := rfl
theorem k_X10_countMatrices_36 : zlk 36 bl_X10_countMatrices = b_X10_countMatrices_36 := rfl
set_option maxRecDepth 100000 in
theorem ck_X10_countMatrices : zall q_X10_countMatrices.2.2.2.2.1 q_X10_countMatrices.2.1 10 false q_X10_countMatrices.2.2.1 cal_X10_countMatrices q_X10_countMatrices.2.2.2.1 bl_X10_countMatrices pl_X10_countMatrices = true := by decide +kernel
theorem nm_X10_countMatrices : plainName q_X10_countMatrices.1.cls = true ∧ zRX 10 = q_X10_countMatrices.1.cls ∧ (false = true → q_X10_countMatrices.1.name = "<init>") := ⟨by decide +kernel, rfl, fun h => by first | rfl | cases h⟩
set_option maxRecDepth 100000 in
theorem wd_X10_countFactors : zwd q_X10_countFactors := ⟨zw_in (p := (5, 220)) (by decide +kernel), zw_in (p := (1, 1)) (by decide +kernel), fun h => absurd h (by decide), fun _ => zw_in (p := (5, 219)) (by decide +kernel), fun _ => zw_in (p := (0, 53)) (by decide +kernel)⟩
def cal_X10_countFactors : List zCal := []
def b_X10_countFactors_36 : List zE := (36, .iload_n 1, []) :: (37, .ireturn, []) :: []
def p_X10_countFactors_36 : List (List (Nat × Nat)) := [] :: [] :: []
def b_X10_countFactors_28 : List zE := (28, .iadd, []) :: (29, .istore_n 1, []) :: (30, .iinc 2 1, [1]) :: (33, .goto (-29), [4, 1]) :: []
def p_X10_countFactors_28 : List (List (Nat × Nat)) := [] :: [] :: [] :: [] :: []
def b_X10_countFactors_27 : List zE := (27, .iconst 0, [0]) :: (28, .nop, [0]) :: []
def p_X10_countFactors_27 : List (List (Nat × Nat)) := [] :: [] :: []
def b_X10_countFactors_4 : List zE := (4, .iload_n 2, []) :: (5, .bipush 12, [12]) :: (7, .if_icmp .ge 29, [36, 0]) :: (10, .iload_n 1, []) :: (11, .aload_n 0, []) :: (12, .getfield 17, [10, 1]) :: (15, .iload_n 2, []) :: (16, .aaload, []) :: (17, .getfield 163, [2, 0]) :: (20, .ifCond .eq 7, [27, 0]) :: (23, .iconst 1, [1]) :: (24, .goto 4, [28, 0]) :: []
def p_X10_countFactors_4 : List (List (Nat × Nat)) := [] :: [] :: [] :: [] :: [] :: [(2, 69)] :: [] :: [] :: [(2, 13)] :: [] :: [] :: [] :: []
def b_X10_countFactors_0 : List zE := (0, .iconst 0, [0]) :: (1, .istore_n 1, []) :: (2, .iconst 0, [0]) :: (3, .istore_n 2, []) :: (4, .nop, []) :: []
def p_X10_countFactors_0 : List (List (Nat × Nat)) := [] :: [] :: [] :: [] :: [] :: []
def bl_X10_countFactors : List (Nat × List zE) := [(0, b_X10_countFactors_0), (4, b_X10_countFactors_4), (27, b_X10_countFactors_27), (28, b_X10_countFactors_28), (36, b_X10_countFactors_36)]
def pl_X10_countFactors : List (List (List (Nat × Nat))) := [p_X10_countFactors_0, p_X10_countFactors_4, p_X10_countFactors_27, p_X10_countFactors_28, p_X10_countFactors_36]
theorem k_X10_countFactors_0 : zlk 0 bl_X10_countFactors = b_X10_countFactors_0 := rfl
theorem k_X10_countFactors_4 : zlk 4 bl_X10_countFactors = b_X10_countFactors_4 := rfl
theorem k_X10_countFactors_27 : zlk 27 bl_X10_countFactors = b_X10_countFactors_27 := rfl
theorem k_X10_countFactors_28 : zlk 28 bl_X10_countFactors = b_X10_countFactors_28 := rfl
theorem k_X10_countFactors_36 : zlk 36 bl_X10_countFactors = b_X10_countFactors_36 := rfl
set_option maxRecDepth 100000 in
theorem ck_X10_countFactors : zall q_X10_countFactors.2.2.2.2.1 q_X10_countFactors.2.1 10 false q_X10_countFactors.2.2.1 cal_X10_countFactors q_X10_countFactors.2.2.2.1 bl_X10_countFactors pl_X10_countFactors = true := by decide +kernel
theorem nm_X10_countFactors : plainName q_X10_countFactors.1.cls = true ∧ zRX 10 = q_X10_countFactors.1.cls ∧ (false = true → q_X10_countFactors.1.name = "<init>") := ⟨by decide +kernel, rfl, fun h => by first | rfl | cases h⟩
