/-! the methods' code as data (written by wip/whole/gen/code.py) -/
set_option maxRecDepth 100000 in
theorem wd_X11_takesCell : zwd q_X11_takesCell := ⟨zw_in (p := (8, 47)) (by decide +kernel), zw_in (p := (1, 11)) (by decide +kernel), fun h => absurd h (by decide), fun _ => zw_in (p := (8, 46)) (by decide +kernel), fun _ => zw_in (p := (0, 94)) (by decide +kernel)⟩
def cal_X11_takesCell : List zCal := []
def b_X11_takesCell_38 : List zE := (38, .return_, []) :: []
def p_X11_takesCell_38 : List (List (Nat × Nat)) := [] :: []
def b_X11_takesCell_31 : List zE := (31, .lastore, []) :: (32, .iinc 3 1, [1]) :: (35, .goto (-33), [2, 1]) :: []
def p_X11_takesCell_31 : List (List (Nat × Nat)) := [] :: [] :: [] :: []
def b_X11_takesCell_30 : List zE := (30, .lconst 0, [0]) :: (31, .nop, [0]) :: []
def p_X11_takesCell_30 : List (List (Nat × Nat)) := [] :: [] :: []
def b_X11_takesCell_2 : List zE := (2, .iload_n 3, []) :: (3, .bipush 72, [72]) :: (5, .if_icmp .ge 33, [38, 0]) :: (8, .aload_n 1, []) :: (9, .iload_n 3, []) :: (10, .iload_n 3, []) :: (11, .bipush 32, [32]) :: (13, .if_icmp .ge 17, [30, 0]) :: (16, .aload_n 0, []) :: (17, .getfield 100, [11, 32]) :: (20, .bipush 32, [32]) :: (22, .iload_n 2, []) :: (23, .imul, []) :: (24, .iload_n 3, []) :: (25, .iadd, []) :: (26, .laload, []) :: (27, .goto 4, [31, 0]) :: []
def p_X11_takesCell_2 : List (List (Nat × Nat)) := [] :: [] :: [] :: [] :: [] :: [] :: [] :: [] :: [] :: [(6, 23)] :: [] :: [] :: [] :: [] :: [] :: [] :: [] :: []
def b_X11_takesCell_0 : List zE := (0, .iconst 0, [0]) :: (1, .istore_n 3, []) :: (2, .nop, []) :: []
def p_X11_takesCell_0 : List (List (Nat × Nat)) := [] :: [] :: [] :: []
def bl_X11_takesCell : List (Nat × List zE) := [(0, b_X11_takesCell_0), (2, b_X11_takesCell_2), (30, b_X11_takesCell_30), (31, b_X11_takesCell_31), (38, b_X11_takesCell_38)]
def pl_X11_takesCell : List (List (List (Nat × Nat))) := [p_X11_takesCell_0, p_X11_takesCell_2, p_X11_takesCell_30, p_X11_takesCell_31, p_X11_takesCell_38]
theorem k_X11_takesCell_0 : zlk 0 bl_X11_takesCell = b_X11_takesCell_0 := rfl
theorem k_X11_takesCell_2 : zlk 2 bl_X11_takesCell = b_X11_takesCell_2 := rfl
theorem k_X11_takesCell_30 : zlk 30 bl_X11_takesCell = b_X11_takesCell_30 := rfl
theorem k_X11_takesCell_31 : zlk 31 bl_X11_takesCell = b_X11_takesCell_31 := rfl
theorem k_X11_takesCell_38 : zlk 38 bl_X11_takesCell = b_X11_takesCell_38 := rfl
set_option maxRecDepth 100000 in
theorem ck_X11_takesCell : zall q_X11_takesCell.2.2.2.2.1 q_X11_takesCell.2.1 11 false q_X11_takesCell.2.2.1 cal_X11_takesCell q_X11_takesCell.2.2.2.1 bl_X11_takesCell pl_X11_takesCell = true := by decide +kernel
theorem nm_X11_takesCell : plainName q_X11_takesCell.1.cls = true ∧ zRX 11 = q_X11_takesCell.1.cls ∧ (false = true → q_X11_takesCell.1.name = "<init>") := ⟨by decide +kernel, rfl, fun h => by first | rfl | cases h⟩
set_option maxRecDepth 100000 in
theorem wd_X11_reduced : zwd q_X11_reduced := ⟨zw_in (p := (8, 43)) (by decide +kernel), zw_in (p := (1, 11)) (by decide +kernel), fun h => absurd h (by decide), fun _ => zw_in (p := (8, 42)) (by decide +kernel), fun _ => zw_in (p := (0, 93)) (by decide +kernel)⟩
def cal_X11_reduced : List zCal := [q_X11_takesCell, q_X11_quotient]
def b_X11_reduced_82 : List zE := (82, .dreturn, []) :: []
def p_X11_reduced_82 : List (List (Nat × Nat)) := [] :: []
def b_X11_reduced_80 : List zE := (80, .dload_n 2, []) :: (81, .dneg, []) :: (82, .nop, [0]) :: []
def p_X11_reduced_80 : List (List (Nat × Nat)) := [] :: [] :: [] :: []
def b_X11_reduced_56 : List zE := (56, .aload_n 0, []) :: (57, .iconst 0, [0]) :: (58, .iconst 0, [0]) :: (59, .invokevirtual 425, [1, 2, 11]) :: (62, .dstore_n 2, []) :: (63, .aload_n 0, []) :: (64, .getfield 103, [11, 33]) :: (67, .iload_n 1, []) :: (68, .iaload, []) :: (69, .aload_n 0, []) :: (70, .getfield 386, [11, 37]) :: (73, .if_icmp .ne 7, [80, 0]) :: (76, .dload_n 2, []) :: (77, .goto 5, [82, 0]) :: []
def p_X11_reduced_56 : List (List (Nat × Nat)) := [] :: [] :: [] :: [(8, 48)] :: [] :: [] :: [(6, 24)] :: [] :: [] :: [] :: [(6, 28)] :: [] :: [] :: [] :: []
def b_X11_reduced_49 : List zE := (49, .lastore, []) :: (50, .iinc 2 1, [1]) :: (53, .goto (-31), [22, 1]) :: []
def p_X11_reduced_49 : List (List (Nat × Nat)) := [] :: [] :: [] :: []
def b_X11_reduced_48 : List zE := (48, .lconst 0, [0]) :: (49, .nop, [0]) :: []
def p_X11_reduced_48 : List (List (Nat × Nat)) := [] :: [] :: []
def b_X11_reduced_22 : List zE := (22, .iload_n 2, []) :: (23, .bipush 72, [72]) :: (25, .if_icmp .ge 31, [56, 0]) :: (28, .aload_n 0, []) :: (29, .getfield 109, [11, 35]) :: (32, .iload_n 2, []) :: (33, .iload_n 2, []) :: (34, .bipush 32, [32]) :: (36, .if_icmp .ge 12, [48, 0]) :: (39, .aload_n 0, []) :: (40, .getfield 112, [11, 36]) :: (43, .iload_n 2, []) :: (44, .laload, []) :: (45, .goto 4, [49, 0]) :: []
def p_X11_reduced_22 : List (List (Nat × Nat)) := [] :: [] :: [] :: [] :: [(6, 26)] :: [] :: [] :: [] :: [] :: [] :: [(6, 27)] :: [] :: [] :: [] :: []
def b_X11_reduced_11 : List zE := (11, .aload_n 0, []) :: (12, .aload_n 0, []) :: (13, .getfield 106, [11, 34]) :: (16, .iload_n 1, []) :: (17, .invokevirtual 422, [0, 2, 11]) :: (20, .iconst 0, [0]) :: (21, .istore_n 2, []) :: (22, .nop, []) :: []
def p_X11_reduced_11 : List (List (Nat × Nat)) := [] :: [] :: [(6, 25)] :: [] :: [(8, 44)] :: [] :: [] :: [] :: []
def b_X11_reduced_0 : List zE := (0, .aload_n 0, []) :: (1, .getfield 103, [11, 33]) :: (4, .iload_n 1, []) :: (5, .iaload, []) :: (6, .ifCond .ne 5, [11, 0]) :: (9, .dconst 0, [0]) :: (10, .dreturn, []) :: []
def p_X11_reduced_0 : List (List (Nat × Nat)) := [] :: [(6, 24)] :: [] :: [] :: [] :: [] :: [] :: []
def bl_X11_reduced : List (Nat × List zE) := [(0, b_X11_reduced_0), (11, b_X11_reduced_11), (22, b_X11_reduced_22), (48, b_X11_reduced_48), (49, b_X11_reduced_49), (56, b_X11_reduced_56), (80, b_X11_reduced_80), (82, b_X11_reduced_82)]
def pl_X11_reduced : List (List (List (Nat × Nat))) := [p_X11_reduced_0, p_X11_reduced_11, p_X11_reduced_22, p_X11_reduced_48, p_X11_reduced_49, p_X11_reduced_56, p_X11_reduced_80, p_X11_reduced_82]
theorem k_X11_reduced_0 : zlk 0 bl_X11_reduced = b_X11_reduced_0 := rfl
theorem k_X11_reduced_11 : zlk 11 bl_X11_reduced = b_X11_reduced_11 := rfl
theorem k_X11_reduced_22 : zlk 22 bl_X11_reduced = b_X11_reduced_22 := rfl
theorem k_X11_reduced_48 : zlk 48 bl_X11_reduced = b_X11_reduced_48 := rfl
theorem k_X11_reduced_49 : zlk 49 bl_X11_reduced = b_X11_reduced_49 := rfl
theorem k_X11_reduced_56 : zlk 56 bl_X11_reduced = b_X11_reduced_56 := rfl
theorem k_X11_reduced_80 : zlk 80 bl_X11_reduced = b_X11_reduced_80 := rfl
theorem k_X11_reduced_82 : zlk 82 bl_X11_reduced = b_X11_reduced_82 := rfl
set_option maxRecDepth 100000 in
theorem ck_X11_reduced : zall q_X11_reduced.2.2.2.2.1 q_X11_reduced.2.1 11 false q_X11_reduced.2.2.1 cal_X11_reduced q_X11_reduced.2.2.2.1 bl_X11_reduced pl_X11_reduced = true := by decide +kernel
theorem nm_X11_reduced : plainName q_X11_reduced.1.cls = true ∧ zRX 11 = q_X11_reduced.1.cls ∧ (false = true → q_X11_reduced.1.name = "<init>") := ⟨by decide +kernel, rfl, fun h => by first | rfl | cases h⟩
set_option maxRecDepth 100000 in
theorem wd_X11_exactly : zwd q_X11_exactly := ⟨zw_in (p := (7, 236)) (by decide +kernel), zw_in (p := (1, 11)) (by decide +kernel), fun h => absurd h (by decide), fun _ => zw_in (p := (7, 234)) (by decide +kernel), fun _ => zw_in (p := (7, 235)) (by decide +kernel)⟩
def cal_X11_exactly : List zCal := [q_X11_isMatrix, q_X11_isVector, q_X11_isLattice, q_X11_isLatticeVector, q_X11_loads, q_X11_cellAt, q_X11_becomes, q_X11_reduces, q_X11_vector, q_X11_reduced]
def b_X11_exactly_215 : List zE := (215, .iconst 2, [2]) :: (216, .iload 4, []) :: (218, .iadd, []) :: (219, .ireturn, []) :: []
def p_X11_exactly_215 : List (List (Nat × Nat)) := [] :: [] :: [] :: [] :: []
def b_X11_exactly_174 : List zE := (174, .iload 5, []) :: (176, .iload_n 3, []) :: (177, .if_icmp .ge 38, [215, 0]) :: (180, .aload_n 0, []) :: (181, .getfield 73, [11, 23]) :: (184, .bipush 8, [8]) :: (186, .iload 4, []) :: (188, .imul, []) :: (189, .iload 5, []) :: (191, .iadd, []) :: (192, .aload_n 0, []) :: (193, .aload_n 0, []) :: (194, .aload_n 0, []) :: (195, .getfield 115, [11, 41]) :: (198, .iload 5, []) :: (200, .iaload, []) :: (201, .iload_n 3, []) :: (202, .invokevirtual 374, [5, 2, 11]) :: (205, .invokevirtual 438, [9, 1, 11]) :: (208, .dastore, []) :: (209, .iinc 5 1, [1]) :: (212, .goto (-38), [174, 1]) :: []
def p_X11_exactly_174 : List (List (Nat × Nat)) := [] :: [] :: [] :: [] :: [(6, 14)] :: [] :: [] :: [] :: [] :: [] :: [] :: [] :: [] :: [(6, 32)] :: [] :: [] :: [] :: [(8, 5)] :: [(8, 40)] :: [] :: [] :: [] :: []
def b_X11_exactly_171 : List zE := (171, .iconst 0, [0]) :: (172, .istore 5, []) :: (174, .nop, []) :: []
def p_X11_exactly_171 : List (List (Nat × Nat)) := [] :: [] :: [] :: []
def b_X11_exactly_156 : List zE := (156, .aload_n 0, []) :: (157, .iload_n 3, []) :: (158, .invokevirtual 346, [8, 1, 11]) :: (161, .istore 4, []) :: (163, .iload 4, []) :: (165, .iconst (-1), [4294967295]) :: (166, .if_icmp .ne 5, [171, 0]) :: (169, .iconst (-1), [4294967295]) :: (170, .ireturn, []) :: []
def p_X11_exactly_156 : List (List (Nat × Nat)) := [] :: [] :: [(7, 200)] :: [] :: [] :: [] :: [] :: [] :: [] :: []
def b_X11_exactly_146 : List zE := (146, .aload_n 0, []) :: (147, .getfield 396, [11, 40]) :: (150, .iload_n 3, []) :: (151, .if_icmp .ge 5, [156, 0]) :: (154, .iconst 1, [1]) :: (155, .ireturn, []) :: []
def p_X11_exactly_146 : List (List (Nat × Nat)) := [] :: [(6, 31)] :: [] :: [] :: [] :: [] :: []
def b_X11_exactly_140 : List zE := (140, .iinc 4 1, [1]) :: (143, .goto (-29), [114, 1]) :: []
def p_X11_exactly_140 : List (List (Nat × Nat)) := [] :: [] :: []
def b_X11_exactly_114 : List zE := (114, .iload 4, []) :: (116, .aload_n 0, []) :: (117, .getfield 367, [11, 38]) :: (120, .if_icmp .ge 26, [146, 0]) :: (123, .aload_n 0, []) :: (124, .getfield 103, [11, 33]) :: (127, .aload_n 0, []) :: (128, .iload 4, []) :: (130, .iload_n 3, []) :: (131, .invokevirtual 374, [5, 2, 11]) :: (134, .iaload, []) :: (135, .ifCond .eq 5, [140, 0]) :: (138, .iconst 0, [0]) :: (139, .ireturn, []) :: []
def p_X11_exactly_114 : List (List (Nat × Nat)) := [] :: [] :: [(6, 29)] :: [] :: [] :: [(6, 24)] :: [] :: [] :: [] :: [(8, 5)] :: [] :: [] :: [] :: [] :: []
def b_X11_exactly_103 : List zE := (103, .aload_n 0, []) :: (104, .iload_n 3, []) :: (105, .invokevirtual 435, [7, 1, 11]) :: (108, .aload_n 0, []) :: (109, .getfield 396, [11, 40]) :: (112, .istore 4, []) :: (114, .nop, []) :: []
def p_X11_exactly_103 : List (List (Nat × Nat)) := [] :: [] :: [(8, 13)] :: [] :: [(6, 31)] :: [] :: [] :: []
def b_X11_exactly_65 : List zE := (65, .iload 4, []) :: (67, .aload_n 0, []) :: (68, .getfield 367, [11, 38]) :: (71, .if_icmp .ge 32, [103, 0]) :: (74, .aload_n 0, []) :: (75, .aload_n 0, []) :: (76, .iload 4, []) :: (78, .iload_n 3, []) :: (79, .invokevirtual 374, [5, 2, 11]) :: (82, .aload_n 0, []) :: (83, .getfield 73, [11, 23]) :: (86, .bipush 8, [8]) :: (88, .iload_n 2, []) :: (89, .imul, []) :: (90, .iload 4, []) :: (92, .iadd, []) :: (93, .daload, []) :: (94, .invokevirtual 377, [6, 2, 11]) :: (97, .iinc 4 1, [1]) :: (100, .goto (-35), [65, 1]) :: []
def p_X11_exactly_65 : List (List (Nat × Nat)) := [] :: [] :: [(6, 29)] :: [] :: [] :: [] :: [] :: [] :: [(8, 5)] :: [] :: [(6, 14)] :: [] :: [] :: [] :: [] :: [] :: [] :: [(8, 9)] :: [] :: [] :: []
def b_X11_exactly_49 : List zE := (49, .aload_n 0, []) :: (50, .iload_n 1, []) :: (51, .iconst 1, [1]) :: (52, .invokevirtual 432, [4, 2, 11]) :: (55, .aload_n 0, []) :: (56, .getfield 34, [11, 8]) :: (59, .iload_n 1, []) :: (60, .iaload, []) :: (61, .istore_n 3, []) :: (62, .iconst 0, [0]) :: (63, .istore 4, []) :: (65, .nop, []) :: []
def p_X11_exactly_49 : List (List (Nat × Nat)) := [] :: [] :: [] :: [(8, 1)] :: [] :: [(5, 239)] :: [] :: [] :: [] :: [] :: [] :: [] :: []
def b_X11_exactly_47 : List zE := (47, .iconst (-1), [4294967295]) :: (48, .ireturn, []) :: []
def p_X11_exactly_47 : List (List (Nat × Nat)) := [] :: [] :: []
def b_X11_exactly_0 : List zE := (0, .aload_n 0, []) :: (1, .iload_n 1, []) :: (2, .invokevirtual 243, [0, 1, 11]) :: (5, .ifCond .eq 42, [47, 0]) :: (8, .aload_n 0, []) :: (9, .iload_n 2, []) :: (10, .invokevirtual 336, [1, 1, 11]) :: (13, .ifCond .eq 34, [47, 0]) :: (16, .aload_n 0, []) :: (17, .getfield 76, [11, 24]) :: (20, .iload_n 2, []) :: (21, .iaload, []) :: (22, .aload_n 0, []) :: (23, .getfield 31, [11, 7]) :: (26, .iload_n 1, []) :: (27, .iaload, []) :: (28, .if_icmp .ne 19, [47, 0]) :: (31, .aload_n 0, []) :: (32, .iload_n 1, []) :: (33, .invokevirtual 271, [2, 1, 11]) :: (36, .ifCond .eq 11, [47, 0]) :: (39, .aload_n 0, []) :: (40, .iload_n 2, []) :: (41, .invokevirtual 429, [3, 1, 11]) :: (44, .ifCond .ne 5, [49, 0]) :: (47, .nop, [0]) :: []
def p_X11_exactly_0 : List (List (Nat × Nat)) := [] :: [] :: [(6, 186)] :: [] :: [] :: [] :: [(7, 172)] :: [] :: [] :: [(6, 15)] :: [] :: [] :: [] :: [(5, 238)] :: [] :: [] :: [] :: [] :: [] :: [(7, 5)] :: [] :: [] :: [] :: [(7, 237)] :: [] :: [] :: []
def bl_X11_exactly : List (Nat × List zE) := [(0, b_X11_exactly_0), (47, b_X11_exactly_47), (49, b_X11_exactly_49), (65, b_X11_exactly_65), (103, b_X11_exactly_103), (114, b_X11_exactly_114), (140, b_X11_exactly_140), (146, b_X11_exactly_146), (156, b_X11_exactly_156), (171, b_X11_exactly_171), (174, b_X11_exactly_174), (215, b_X11_exactly_215)]
def pl_X11_exactly : List (List (List (Nat × Nat))) := [p_X11_exactly_0, p_X11_exactly_47, p_X11_exactly_49, p_X11_exactly_65, p_X11_exactly_103, p_X11_exactly_114, p_X11_exactly_140, p_X11_exactly_146, p_X11_exactly_156, p_X11_exactly_171, p_X11_exactly_174, p_X11_exactly_215]
theorem k_X11_exactly_0 : zlk 0 bl_X11_exactly = b_X11_exactly_0 := rfl
theorem k_X11_exactly_47 : zlk 47 bl_X11_exactly = b_X11_exactly_47 := rfl
theorem k_X11_exactly_49 : zlk 49 bl_X11_exactly = b_X11_exactly_49 := rfl
theorem k_X11_exactly_65 : zlk 65 bl_X11_exactly = b_X11_exactly_65 := rfl
theorem k_X11_exactly_103 : zlk 103 bl_X11_exactly = b_X11_exactly_103 := rfl
theorem k_X11_exactly_114 : zlk 114 bl_X11_exactly = b_X11_exactly_114 := rfl
theorem k_X11_exactly_140 : zlk 140 bl_X11_exactly = b_X11_exactly_140 := rfl
theorem k_X11_exactly_146 : zlk 146 bl_X11_exactly = b_X11_exactly_146 := rfl
theorem k_X11_exactly_156 : zlk 156 bl_X11_exactly = b_X11_exactly_156 := rfl
theorem k_X11_exactly_171 : zlk 171 bl_X11_exactly = b_X11_exactly_171 := rfl
theorem k_X11_exactly_174 : zlk 174 bl_X11_exactly = b_X11_exactly_174 := rfl
theorem k_X11_exactly_215 : zlk 215 bl_X11_exactly = b_X11_exactly_215 := rfl
set_option maxRecDepth 100000 in
theorem ck_X11_exactly : zall q_X11_exactly.2.2.2.2.1 q_X11_exactly.2.1 11 false q_X11_exactly.2.2.1 cal_X11_exactly q_X11_exactly.2.2.2.1 bl_X11_exactly pl_X11_exactly = true := by decide +kernel
theorem nm_X11_exactly : plainName q_X11_exactly.1.cls = true ∧ zRX 11 = q_X11_exactly.1.cls ∧ (false = true → q_X11_exactly.1.name = "<init>") := ⟨by decide +kernel, rfl, fun h => by first | rfl | cases h⟩
set_option maxRecDepth 100000 in
theorem wd_X11_rank : zwd q_X11_rank := ⟨zw_in (p := (8, 66)) (by decide +kernel), zw_in (p := (1, 11)) (by decide +kernel), fun h => absurd h (by decide), fun _ => zw_in (p := (8, 64)) (by decide +kernel), fun _ => zw_in (p := (8, 65)) (by decide +kernel)⟩
def cal_X11_rank : List zCal := [q_X11_isMatrix, q_X11_isLattice, q_X11_loads, q_X11_reduces]
def b_X11_rank_18 : List zE := (18, .aload_n 0, []) :: (19, .iload_n 1, []) :: (20, .iconst 0, [0]) :: (21, .invokevirtual 432, [2, 2, 11]) :: (24, .aload_n 0, []) :: (25, .aload_n 0, []) :: (26, .getfield 34, [11, 8]) :: (29, .iload_n 1, []) :: (30, .iaload, []) :: (31, .invokevirtual 435, [3, 1, 11]) :: (34, .aload_n 0, []) :: (35, .getfield 396, [11, 40]) :: (38, .ireturn, []) :: []
def p_X11_rank_18 : List (List (Nat × Nat)) := [] :: [] :: [] :: [(8, 1)] :: [] :: [] :: [(5, 239)] :: [] :: [] :: [(8, 13)] :: [] :: [(6, 31)] :: [] :: []
def b_X11_rank_16 : List zE := (16, .iconst (-1), [4294967295]) :: (17, .ireturn, []) :: []
def p_X11_rank_16 : List (List (Nat × Nat)) := [] :: [] :: []
def b_X11_rank_0 : List zE := (0, .aload_n 0, []) :: (1, .iload_n 1, []) :: (2, .invokevirtual 243, [0, 1, 11]) :: (5, .ifCond .eq 11, [16, 0]) :: (8, .aload_n 0, []) :: (9, .iload_n 1, []) :: (10, .invokevirtual 271, [1, 1, 11]) :: (13, .ifCond .ne 5, [18, 0]) :: (16, .nop, [0]) :: []
def p_X11_rank_0 : List (List (Nat × Nat)) := [] :: [] :: [(6, 186)] :: [] :: [] :: [] :: [(7, 5)] :: [] :: [] :: []
def bl_X11_rank : List (Nat × List zE) := [(0, b_X11_rank_0), (16, b_X11_rank_16), (18, b_X11_rank_18)]
def pl_X11_rank : List (List (List (Nat × Nat))) := [p_X11_rank_0, p_X11_rank_16, p_X11_rank_18]
theorem k_X11_rank_0 : zlk 0 bl_X11_rank = b_X11_rank_0 := rfl
theorem k_X11_rank_16 : zlk 16 bl_X11_rank = b_X11_rank_16 := rfl
theorem k_X11_rank_18 : zlk 18 bl_X11_rank = b_X11_rank_18 := rfl
set_option maxRecDepth 100000 in
theorem ck_X11_rank : zall q_X11_rank.2.2.2.2.1 q_X11_rank.2.1 11 false q_X11_rank.2.2.1 cal_X11_rank q_X11_rank.2.2.2.1 bl_X11_rank pl_X11_rank = true := by decide +kernel
theorem nm_X11_rank : plainName q_X11_rank.1.cls = true ∧ zRX 11 = q_X11_rank.1.cls ∧ (false = true → q_X11_rank.1.name = "<init>") := ⟨by decide +kernel, rfl, fun h => by first | rfl | cases h⟩
set_option maxRecDepth 100000 in
theorem wd_X11_nullVector : zwd q_X11_nullVector := ⟨zw_in (p := (8, 70)) (by decide +kernel), zw_in (p := (1, 11)) (by decide +kernel), fun h => absurd h (by decide), fun _ => zw_in (p := (8, 68)) (by decide +kernel), fun _ => zw_in (p := (8, 69)) (by decide +kernel)⟩
def cal_X11_nullVector : List zCal := [q_X11_isMatrix, q_X11_isLattice, q_X11_loads, q_X11_reduces, q_X11_vector, q_X11_cellAt, q_X11_reduced, q_X11_plain]
def b_X11_nullVector_189 : List zE := (189, .iload 6, []) :: (191, .ireturn, []) :: []
def p_X11_nullVector_189 : List (List (Nat × Nat)) := [] :: [] :: []
def b_X11_nullVector_182 : List zE := (182, .dastore, []) :: (183, .iinc 7 1, [1]) :: (186, .goto (-69), [117, 1]) :: []
def p_X11_nullVector_182 : List (List (Nat × Nat)) := [] :: [] :: [] :: []
def b_X11_nullVector_161 : List zE := (161, .aload_n 0, []) :: (162, .aload_n 0, []) :: (163, .aload_n 0, []) :: (164, .getfield 115, [11, 41]) :: (167, .iload 7, []) :: (169, .iaload, []) :: (170, .iload 4, []) :: (172, .invokevirtual 374, [5, 2, 11]) :: (175, .invokevirtual 438, [6, 1, 11]) :: (178, .dneg, []) :: (179, .invokestatic 257, [7, 1]) :: (182, .nop, [0]) :: []
def p_X11_nullVector_161 : List (List (Nat × Nat)) := [] :: [] :: [] :: [(6, 32)] :: [] :: [] :: [] :: [(8, 5)] :: [(8, 40)] :: [] :: [(6, 212)] :: [] :: []
def b_X11_nullVector_157 : List zE := (157, .dconst 0, [0]) :: (158, .goto 24, [182, 0]) :: []
def p_X11_nullVector_157 : List (List (Nat × Nat)) := [] :: [] :: []
def b_X11_nullVector_117 : List zE := (117, .iload 7, []) :: (119, .iload_n 3, []) :: (120, .if_icmp .ge 69, [189, 0]) :: (123, .aload_n 0, []) :: (124, .getfield 73, [11, 23]) :: (127, .bipush 8, [8]) :: (129, .iload 6, []) :: (131, .imul, []) :: (132, .iload 7, []) :: (134, .iadd, []) :: (135, .aload_n 0, []) :: (136, .getfield 115, [11, 41]) :: (139, .iload 7, []) :: (141, .iaload, []) :: (142, .iconst (-1), [4294967295]) :: (143, .if_icmp .ne 18, [161, 0]) :: (146, .iload 7, []) :: (148, .iload 4, []) :: (150, .if_icmp .ne 7, [157, 0]) :: (153, .dconst 1, [4607182418800017408]) :: (154, .goto 28, [182, 0]) :: []
def p_X11_nullVector_117 : List (List (Nat × Nat)) := [] :: [] :: [] :: [] :: [(6, 14)] :: [] :: [] :: [] :: [] :: [] :: [] :: [(6, 32)] :: [] :: [] :: [] :: [] :: [] :: [] :: [] :: [] :: [] :: []
def b_X11_nullVector_114 : List zE := (114, .iconst 0, [0]) :: (115, .istore 7, []) :: (117, .nop, []) :: []
def p_X11_nullVector_114 : List (List (Nat × Nat)) := [] :: [] :: [] :: []
def b_X11_nullVector_104 : List zE := (104, .istore 6, []) :: (106, .iload 6, []) :: (108, .iconst (-1), [4294967295]) :: (109, .if_icmp .ne 5, [114, 0]) :: (112, .iconst (-1), [4294967295]) :: (113, .ireturn, []) :: []
def p_X11_nullVector_104 : List (List (Nat × Nat)) := [] :: [] :: [] :: [] :: [] :: [] :: []
def b_X11_nullVector_103 : List zE := (103, .iconst (-1), [4294967295]) :: (104, .nop, [0]) :: []
def p_X11_nullVector_103 : List (List (Nat × Nat)) := [] :: [] :: []
def b_X11_nullVector_89 : List zE := (89, .iload 4, []) :: (91, .iload_n 3, []) :: (92, .if_icmp .ge 11, [103, 0]) :: (95, .aload_n 0, []) :: (96, .iload_n 3, []) :: (97, .invokevirtual 346, [4, 1, 11]) :: (100, .goto 4, [104, 0]) :: []
def p_X11_nullVector_89 : List (List (Nat × Nat)) := [] :: [] :: [] :: [] :: [] :: [(7, 200)] :: [] :: []
def b_X11_nullVector_83 : List zE := (83, .iinc 4 1, [1]) :: (86, .goto (-40), [46, 1]) :: []
def p_X11_nullVector_83 : List (List (Nat × Nat)) := [] :: [] :: []
def b_X11_nullVector_69 : List zE := (69, .aload_n 0, []) :: (70, .getfield 115, [11, 41]) :: (73, .iload 4, []) :: (75, .iaload, []) :: (76, .iconst (-1), [4294967295]) :: (77, .if_icmp .ne 6, [83, 0]) :: (80, .iinc 5 1, [1]) :: (83, .nop, [0]) :: []
def p_X11_nullVector_69 : List (List (Nat × Nat)) := [] :: [(6, 32)] :: [] :: [] :: [] :: [] :: [] :: [] :: []
def b_X11_nullVector_46 : List zE := (46, .iload 4, []) :: (48, .iload_n 3, []) :: (49, .if_icmp .ge 40, [89, 0]) :: (52, .aload_n 0, []) :: (53, .getfield 115, [11, 41]) :: (56, .iload 4, []) :: (58, .iaload, []) :: (59, .iconst (-1), [4294967295]) :: (60, .if_icmp .ne 9, [69, 0]) :: (63, .iload 5, []) :: (65, .iload_n 2, []) :: (66, .if_icmp .ge 23, [89, 0]) :: (69, .nop, [0]) :: []
def p_X11_nullVector_46 : List (List (Nat × Nat)) := [] :: [] :: [] :: [] :: [(6, 32)] :: [] :: [] :: [] :: [] :: [] :: [] :: [] :: [] :: []
def b_X11_nullVector_22 : List zE := (22, .aload_n 0, []) :: (23, .iload_n 1, []) :: (24, .iconst 0, [0]) :: (25, .invokevirtual 432, [2, 2, 11]) :: (28, .aload_n 0, []) :: (29, .getfield 34, [11, 8]) :: (32, .iload_n 1, []) :: (33, .iaload, []) :: (34, .istore_n 3, []) :: (35, .aload_n 0, []) :: (36, .iload_n 3, []) :: (37, .invokevirtual 435, [3, 1, 11]) :: (40, .iconst 0, [0]) :: (41, .istore 4, []) :: (43, .iconst 0, [0]) :: (44, .istore 5, []) :: (46, .nop, []) :: []
def p_X11_nullVector_22 : List (List (Nat × Nat)) := [] :: [] :: [] :: [(8, 1)] :: [] :: [(5, 239)] :: [] :: [] :: [] :: [] :: [] :: [(8, 13)] :: [] :: [] :: [] :: [] :: [] :: []
def b_X11_nullVector_20 : List zE := (20, .iconst (-1), [4294967295]) :: (21, .ireturn, []) :: []
def p_X11_nullVector_20 : List (List (Nat × Nat)) := [] :: [] :: []
def b_X11_nullVector_0 : List zE := (0, .aload_n 0, []) :: (1, .iload_n 1, []) :: (2, .invokevirtual 243, [0, 1, 11]) :: (5, .ifCond .eq 15, [20, 0]) :: (8, .aload_n 0, []) :: (9, .iload_n 1, []) :: (10, .invokevirtual 271, [1, 1, 11]) :: (13, .ifCond .eq 7, [20, 0]) :: (16, .iload_n 2, []) :: (17, .ifCond .ge 5, [22, 0]) :: (20, .nop, [0]) :: []
def p_X11_nullVector_0 : List (List (Nat × Nat)) := [] :: [] :: [(6, 186)] :: [] :: [] :: [] :: [(7, 5)] :: [] :: [] :: [] :: [] :: []
def bl_X11_nullVector : List (Nat × List zE) := [(0, b_X11_nullVector_0), (20, b_X11_nullVector_20), (22, b_X11_nullVector_22), (46, b_X11_nullVector_46), (69, b_X11_nullVector_69), (83, b_X11_nullVector_83), (89, b_X11_nullVector_89), (103, b_X11_nullVector_103), (104, b_X11_nullVector_104), (114, b_X11_nullVector_114), (117, b_X11_nullVector_117), (157, b_X11_nullVector_157), (161, b_X11_nullVector_161), (182, b_X11_nullVector_182), (189, b_X11_nullVector_189)]
def pl_X11_nullVector : List (List (List (Nat × Nat))) := [p_X11_nullVector_0, p_X11_nullVector_20, p_X11_nullVector_22, p_X11_nullVector_46, p_X11_nullVector_69, p_X11_nullVector_83, p_X11_nullVector_89, p_X11_nullVector_103, p_X11_nullVector_104, p_X11_nullVector_114, p_X11_nullVector_117, p_X11_nullVector_157, p_X11_nullVector_161, p_X11_nullVector_182, p_X11_nullVector_189]
theorem k_X11_nullVector_0 : zlk 0 bl_X11_nullVector = b_X11_nullVector_0 := rfl
theorem k_X11_nullVector_20 : zlk 20 bl_X11_nullVector = b_X11_nullVector_20 := rfl
theorem k_X11_nullVector_22 : zlk 22 bl_X11_nullVector = b_X11_nullVector_22 := rfl
theorem k_X11_nullVector_46 : zlk 46 bl_X11_nullVector = b_X11_nullVector_46 := rfl
theorem k_X11_nullVector_69 : zlk 69 bl_X11_nullVector = b_X11_nullVector_69 := rfl
theorem k_X11_nullVector_83 : zlk 83 bl_X11_nullVector = b_X11_nullVector_83 := rfl
theorem k_X11_nullVector_89 : zlk 89 bl_X11_nullVector = b_X11_nullVector_89 := rfl
theorem k_X11_nullVector_103 : zlk 103 bl_X11_nullVector = b_X11_nullVector_103 := rfl
theorem k_X11_nullVector_104 : zlk 104 bl_X11_nullVector = b_X11_nullVector_104 := rfl
theorem k_X11_nullVector_114 : zlk 114 bl_X11_nullVector = b_X11_nullVector_114 := rfl
theorem k_X11_nullVector_117 : zlk 117 bl_X11_nullVector = b_X11_nullVector_117 := rfl
theorem k_X11_nullVector_157 : zlk 157 bl_X11_nullVector = b_X11_nullVector_157 := rfl
theorem k_X11_nullVector_161 : zlk 161 bl_X11_nullVector = b_X11_nullVector_161 := rfl
theorem k_X11_nullVector_182 : zlk 182 bl_X11_nullVector = b_X11_nullVector_182 := rfl
theorem k_X11_nullVector_189 : zlk 189 bl_X11_nullVector = b_X11_nullVector_189 := rfl
set_option maxRecDepth 100000 in
theorem ck_X11_nullVector : zall q_X11_nullVector.2.2.2.2.1 q_X11_nullVector.2.1 11 false q_X11_nullVector.2.2.1 cal_X11_nullVector q_X11_nullVector.2.2.2.1 bl_X11_nullVector pl_X11_nullVector = true := by decide +kernel
theorem nm_X11_nullVector : plainName q_X11_nullVector.1.cls = true ∧ zRX 11 = q_X11_nullVector.1.cls ∧ (false = true → q_X11_nullVector.1.name = "<init>") := ⟨by decide +kernel, rfl, fun h => by first | rfl | cases h⟩
set_option maxRecDepth 100000 in
theorem wd_X11_determinantOf : zwd q_X11_determinantOf := ⟨zw_in (p := (8, 82)) (by decide +kernel), zw_in (p := (1, 11)) (by decide +kernel), fun h => absurd h (by decide), fun _ => zw_in (p := (8, 81)) (by decide +kernel), fun _ => zw_in (p := (0, 99)) (by decide +kernel)⟩
def cal_X11_determinantOf : List zCal := [q_X11_loads, q_X11_reduces]
def b_X11_determinantOf_97 : List zE := (97, .ireturn, []) :: []
def p_X11_determinantOf_97 : List (List (Nat × Nat)) := [] :: []
def b_X11_determinantOf_93 : List zE := (93, .aload_n 0, []) :: (94, .getfield 386, [11, 37]) :: (97, .nop, [0]) :: []
def p_X11_determinantOf_93 : List (List (Nat × Nat)) := [] :: [(6, 28)] :: [] :: []
def b_X11_determinantOf_78 : List zE := (78, .aload_n 0, []) :: (79, .getfield 393, [11, 42]) :: (82, .ifCond .eq 11, [93, 0]) :: (85, .aload_n 0, []) :: (86, .getfield 386, [11, 37]) :: (89, .ineg, []) :: (90, .goto 7, [97, 0]) :: []
def p_X11_determinantOf_78 : List (List (Nat × Nat)) := [] :: [(6, 33)] :: [] :: [] :: [(6, 28)] :: [] :: [] :: []
def b_X11_determinantOf_54 : List zE := (54, .iload_n 2, []) :: (55, .bipush 32, [32]) :: (57, .if_icmp .ge 21, [78, 0]) :: (60, .aload_n 0, []) :: (61, .getfield 106, [11, 34]) :: (64, .iload_n 2, []) :: (65, .aload_n 0, []) :: (66, .getfield 112, [11, 36]) :: (69, .iload_n 2, []) :: (70, .laload, []) :: (71, .lastore, []) :: (72, .iinc 2 1, [1]) :: (75, .goto (-21), [54, 1]) :: []
def p_X11_determinantOf_54 : List (List (Nat × Nat)) := [] :: [] :: [] :: [] :: [(6, 25)] :: [] :: [] :: [(6, 27)] :: [] :: [] :: [] :: [] :: [] :: []
def b_X11_determinantOf_52 : List zE := (52, .iconst 0, [0]) :: (53, .istore_n 2, []) :: (54, .nop, []) :: []
def p_X11_determinantOf_52 : List (List (Nat × Nat)) := [] :: [] :: [] :: []
def b_X11_determinantOf_37 : List zE := (37, .aload_n 0, []) :: (38, .getfield 396, [11, 40]) :: (41, .aload_n 0, []) :: (42, .getfield 34, [11, 8]) :: (45, .iload_n 1, []) :: (46, .iaload, []) :: (47, .if_icmp .ge 5, [52, 0]) :: (50, .iconst 0, [0]) :: (51, .ireturn, []) :: []
def p_X11_determinantOf_37 : List (List (Nat × Nat)) := [] :: [(6, 31)] :: [] :: [(5, 239)] :: [] :: [] :: [] :: [] :: [] :: []
def b_X11_determinantOf_18 : List zE := (18, .iload_n 2, []) :: (19, .bipush 72, [72]) :: (21, .if_icmp .ge 16, [37, 0]) :: (24, .aload_n 0, []) :: (25, .getfield 106, [11, 34]) :: (28, .iload_n 2, []) :: (29, .lconst 0, [0]) :: (30, .lastore, []) :: (31, .iinc 2 1, [1]) :: (34, .goto (-16), [18, 1]) :: []
def p_X11_determinantOf_18 : List (List (Nat × Nat)) := [] :: [] :: [] :: [] :: [(6, 25)] :: [] :: [] :: [] :: [] :: [] :: []
def b_X11_determinantOf_0 : List zE := (0, .aload_n 0, []) :: (1, .iload_n 1, []) :: (2, .iconst 0, [0]) :: (3, .invokevirtual 432, [0, 2, 11]) :: (6, .aload_n 0, []) :: (7, .aload_n 0, []) :: (8, .getfield 34, [11, 8]) :: (11, .iload_n 1, []) :: (12, .iaload, []) :: (13, .invokevirtual 435, [1, 1, 11]) :: (16, .iconst 0, [0]) :: (17, .istore_n 2, []) :: (18, .nop, []) :: []
def p_X11_determinantOf_0 : List (List (Nat × Nat)) := [] :: [] :: [] :: [(8, 1)] :: [] :: [] :: [(5, 239)] :: [] :: [] :: [(8, 13)] :: [] :: [] :: [] :: []
def bl_X11_determinantOf : List (Nat × List zE) := [(0, b_X11_determinantOf_0), (18, b_X11_determinantOf_18), (37, b_X11_determinantOf_37), (52, b_X11_determinantOf_52), (54, b_X11_determinantOf_54), (78, b_X11_determinantOf_78), (93, b_X11_determinantOf_93), (97, b_X11_determinantOf_97)]
def pl_X11_determinantOf : List (List (List (Nat × Nat))) := [p_X11_determinantOf_0, p_X11_determinantOf_18, p_X11_determinantOf_37, p_X11_determinantOf_52, p_X11_determinantOf_54, p_X11_determinantOf_78, p_X11_determinantOf_93, p_X11_determinantOf_97]
theorem k_X11_determinantOf_0 : zlk 0 bl_X11_determinantOf = b_X11_determinantOf_0 := rfl
theorem k_X11_determinantOf_18 : zlk 18 bl_X11_determinantOf = b_X11_determinantOf_18 := rfl
theorem k_X11_determinantOf_37 : zlk 37 bl_X11_determinantOf = b_X11_determinantOf_37 := rfl
theorem k_X11_determinantOf_52 : zlk 52 bl_X11_determinantOf = b_X11_determinantOf_52 := rfl
theorem k_X11_determinantOf_54 : zlk 54 bl_X11_determinantOf = b_X11_determinantOf_54 := rfl
theorem k_X11_determinantOf_78 : zlk 78 bl_X11_determinantOf = b_X11_determinantOf_78 := rfl
theorem k_X11_determinantOf_93 : zlk 93 bl_X11_determinantOf = b_X11_determinantOf_93 := rfl
theorem k_X11_determinantOf_97 : zlk 97 bl_X11_determinantOf = b_X11_determinantOf_97 := rfl
set_option maxRecDepth 100000 in
theorem ck_X11_determinantOf : zall q_X11_determinantOf.2.2.2.2.1 q_X11_determinantOf.2.1 11 false q_X11_determinantOf.2.2.1 cal_X11_determinantOf q_X11_determinantOf.2.2.2.1 bl_X11_determinantOf pl_X11_determinantOf = true := by decide +kernel
theorem nm_X11_determinantOf : plainName q_X11_determinantOf.1.cls = true ∧ zRX 11 = q_X11_determinantOf.1.cls ∧ (false = true → q_X11_determinantOf.1.name = "<init>") := ⟨by decide +kernel, rfl, fun h => by first | rfl | cases h⟩
set_option maxRecDepth 100000 in
theorem wd_X11_isExact : zwd q_X11_isExact := ⟨zw_in (p := (8, 78)) (by decide +kernel), zw_in (p := (1, 11)) (by decide +kernel), fun h => absurd h (by decide), fun _ => zw_in (p := (8, 77)) (by decide +kernel), fun _ => zw_in (p := (0, 98)) (by decide +kernel)⟩
def cal_X11_isExact : List zCal := [q_X11_isMatrix, q_X11_isLattice]
def b_X11_isExact_36 : List zE := (36, .ireturn, []) :: []
def p_X11_isExact_36 : List (List (Nat × Nat)) := [] :: []
def b_X11_isExact_35 : List zE := (35, .iconst 0, [0]) :: (36, .nop, [0]) :: []
def p_X11_isExact_35 : List (List (Nat × Nat)) := [] :: [] :: []
def b_X11_isExact_0 : List zE := (0, .aload_n 0, []) :: (1, .iload_n 1, []) :: (2, .invokevirtual 243, [0, 1, 11]) :: (5, .ifCond .eq 30, [35, 0]) :: (8, .aload_n 0, []) :: (9, .getfield 31, [11, 7]) :: (12, .iload_n 1, []) :: (13, .iaload, []) :: (14, .aload_n 0, []) :: (15, .getfield 34, [11, 8]) :: (18, .iload_n 1, []) :: (19, .iaload, []) :: (20, .if_icmp .ne 15, [35, 0]) :: (23, .aload_n 0, []) :: (24, .iload_n 1, []) :: (25, .invokevirtual 271, [1, 1, 11]) :: (28, .ifCond .eq 7, [35, 0]) :: (31, .iconst 1, [1]) :: (32, .goto 4, [36, 0]) :: []
def p_X11_isExact_0 : List (List (Nat × Nat)) := [] :: [] :: [(6, 186)] :: [] :: [] :: [(5, 238)] :: [] :: [] :: [] :: [(5, 239)] :: [] :: [] :: [] :: [] :: [] :: [(7, 5)] :: [] :: [] :: [] :: []
def bl_X11_isExact : List (Nat × List zE) := [(0, b_X11_isExact_0), (35, b_X11_isExact_35), (36, b_X11_isExact_36)]
def pl_X11_isExact : List (List (List (Nat × Nat))) := [p_X11_isExact_0, p_X11_isExact_35, p_X11_isExact_36]
theorem k_X11_isExact_0 : zlk 0 bl_X11_isExact = b_X11_isExact_0 := rfl
theorem k_X11_isExact_35 : zlk 35 bl_X11_isExact = b_X11_isExact_35 := rfl
theorem k_X11_isExact_36 : zlk 36 bl_X11_isExact = b_X11_isExact_36 := rfl
set_option maxRecDepth 100000 in
theorem ck_X11_isExact : zall q_X11_isExact.2.2.2.2.1 q_X11_isExact.2.1 11 false q_X11_isExact.2.2.1 cal_X11_isExact q_X11_isExact.2.2.2.1 bl_X11_isExact pl_X11_isExact = true := by decide +kernel
theorem nm_X11_isExact : plainName q_X11_isExact.1.cls = true ∧ zRX 11 = q_X11_isExact.1.cls ∧ (false = true → q_X11_isExact.1.name = "<init>") := ⟨by decide +kernel, rfl, fun h => by first | rfl | cases h⟩
set_option maxRecDepth 100000 in
theorem wd_X11_determinant : zwd q_X11_determinant := ⟨zw_in (p := (8, 74)) (by decide +kernel), zw_in (p := (1, 11)) (by decide +kernel), fun h => absurd h (by decide), fun _ => zw_in (p := (8, 72)) (by decide +kernel), fun _ => zw_in (p := (8, 73)) (by decide +kernel)⟩
def cal_X11_determinant : List zCal := [q_X11_isExact, q_X11_determinantOf, q_X11_quotient, q_X11_bits]
def b_X11_determinant_78 : List zE := (78, .invokestatic 158, [3, 1]) :: (81, .lreturn, []) :: []
def p_X11_determinant_78 : List (List (Nat × Nat)) := [(6, 227)] :: [] :: []
def b_X11_determinant_77 : List zE := (77, .dload_n 3, []) :: (78, .nop, [0]) :: []
def p_X11_determinant_77 : List (List (Nat × Nat)) := [] :: [] :: []
def b_X11_determinant_53 : List zE := (53, .aload_n 0, []) :: (54, .bipush (-60), [4294967236]) :: (56, .aload_n 0, []) :: (57, .getfield 31, [11, 7]) :: (60, .iload_n 1, []) :: (61, .iaload, []) :: (62, .imul, []) :: (63, .iconst 0, [0]) :: (64, .invokevirtual 425, [2, 2, 11]) :: (67, .dstore_n 3, []) :: (68, .iload_n 2, []) :: (69, .ifCond .ge 8, [77, 0]) :: (72, .dload_n 3, []) :: (73, .dneg, []) :: (74, .goto 4, [78, 0]) :: []
def p_X11_determinant_53 : List (List (Nat × Nat)) := [] :: [] :: [] :: [(5, 238)] :: [] :: [] :: [] :: [] :: [(8, 48)] :: [] :: [] :: [] :: [] :: [] :: [] :: []
def b_X11_determinant_46 : List zE := (46, .lastore, []) :: (47, .iinc 3 1, [1]) :: (50, .goto (-24), [26, 1]) :: []
def p_X11_determinant_46 : List (List (Nat × Nat)) := [] :: [] :: [] :: []
def b_X11_determinant_45 : List zE := (45, .lconst 0, [0]) :: (46, .nop, [0]) :: []
def p_X11_determinant_45 : List (List (Nat × Nat)) := [] :: [] :: []
def b_X11_determinant_26 : List zE := (26, .iload_n 3, []) :: (27, .bipush 72, [72]) :: (29, .if_icmp .ge 24, [53, 0]) :: (32, .aload_n 0, []) :: (33, .getfield 109, [11, 35]) :: (36, .iload_n 3, []) :: (37, .iload_n 3, []) :: (38, .ifCond .ne 7, [45, 0]) :: (41, .lconst 1, [1]) :: (42, .goto 4, [46, 0]) :: []
def p_X11_determinant_26 : List (List (Nat × Nat)) := [] :: [] :: [] :: [] :: [(6, 26)] :: [] :: [] :: [] :: [] :: [] :: []
def b_X11_determinant_24 : List zE := (24, .iconst 0, [0]) :: (25, .istore_n 3, []) :: (26, .nop, []) :: []
def p_X11_determinant_24 : List (List (Nat × Nat)) := [] :: [] :: [] :: []
def b_X11_determinant_12 : List zE := (12, .aload_n 0, []) :: (13, .iload_n 1, []) :: (14, .invokevirtual 445, [1, 1, 11]) :: (17, .istore_n 2, []) :: (18, .iload_n 2, []) :: (19, .ifCond .ne 5, [24, 0]) :: (22, .lconst 0, [0]) :: (23, .lreturn, []) :: []
def p_X11_determinant_12 : List (List (Nat × Nat)) := [] :: [] :: [(8, 79)] :: [] :: [] :: [] :: [] :: [] :: []
def b_X11_determinant_0 : List zE := (0, .aload_n 0, []) :: (1, .iload_n 1, []) :: (2, .invokevirtual 442, [0, 1, 11]) :: (5, .ifCond .ne 7, [12, 0]) :: (8, .ldc2_w 269, [18446744073709551615]) :: (11, .lreturn, []) :: []
def p_X11_determinant_0 : List (List (Nat × Nat)) := [] :: [] :: [(8, 75)] :: [] :: [(7, 0)] :: [] :: []
def bl_X11_determinant : List (Nat × List zE) := [(0, b_X11_determinant_0), (12, b_X11_determinant_12), (24, b_X11_determinant_24), (26, b_X11_determinant_26), (45, b_X11_determinant_45), (46, b_X11_determinant_46), (53, b_X11_determinant_53), (77, b_X11_determinant_77), (78, b_X11_determinant_78)]
def pl_X11_determinant : List (List (List (Nat × Nat))) := [p_X11_determinant_0, p_X11_determinant_12, p_X11_determinant_24, p_X11_determinant_26, p_X11_determinant_45, p_X11_determinant_46, p_X11_determinant_53, p_X11_determinant_77, p_X11_determinant_78]
theorem k_X11_determinant_0 : zlk 0 bl_X11_determinant = b_X11_determinant_0 := rfl
theorem k_X11_determinant_12 : zlk 12 bl_X11_determinant = b_X11_determinant_12 := rfl
theorem k_X11_determinant_24 : zlk 24 bl_X11_determinant = b_X11_determinant_24 := rfl
theorem k_X11_determinant_26 : zlk 26 bl_X11_determinant = b_X11_determinant_26 := rfl
theorem k_X11_determinant_45 : zlk 45 bl_X11_determinant = b_X11_determinant_45 := rfl
theorem k_X11_determinant_46 : zlk 46 bl_X11_determinant = b_X11_determinant_46 := rfl
theorem k_X11_determinant_53 : zlk 53 bl_X11_determinant = b_X11_determinant_53 := rfl
theorem k_X11_determinant_77 : zlk 77 bl_X11_determinant = b_X11_determinant_77 := rfl
theorem k_X11_determinant_78 : zlk 78 bl_X11_determinant = b_X11_determinant_78 := rfl
set_option maxRecDepth 100000 in
theorem ck_X11_determinant : zall q_X11_determinant.2.2.2.2.1 q_X11_determinant.2.1 11 false q_X11_determinant.2.2.1 cal_X11_determinant q_X11_determinant.2.2.2.1 bl_X11_determinant pl_X11_determinant = true := by decide +kernel
theorem nm_X11_determinant : plainName q_X11_determinant.1.cls = true ∧ zRX 11 = q_X11_determinant.1.cls ∧ (false = true → q_X11_determinant.1.name = "<init>") := ⟨by decide +kernel, rfl, fun h => by first | rfl | cases h⟩
set_option maxRecDepth 100000 in
theorem wd_X11_digits : zwd q_X11_digits := ⟨zw_in (p := (8, 86)) (by decide +kernel), zw_in (p := (1, 11)) (by decide +kernel), fun h => absurd h (by decide), fun _ => zw_in (p := (8, 84)) (by decide +kernel), fun _ => zw_in (p := (8, 85)) (by decide +kernel)⟩
def cal_X11_digits : List zCal := [q_X11_isExact, q_X11_determinantOf]
def b_X11_digits_20 : List zE := (20, .aload_n 0, []) :: (21, .iload_n 1, []) :: (22, .invokevirtual 445, [1, 1, 11]) :: (25, .pop, []) :: (26, .aload_n 0, []) :: (27, .getfield 106, [11, 34]) :: (30, .iload_n 2, []) :: (31, .laload, []) :: (32, .l2i, []) :: (33, .ireturn, []) :: []
def p_X11_digits_20 : List (List (Nat × Nat)) := [] :: [] :: [(8, 79)] :: [] :: [] :: [(6, 25)] :: [] :: [] :: [] :: [] :: []
def b_X11_digits_18 : List zE := (18, .iconst 0, [0]) :: (19, .ireturn, []) :: []
def p_X11_digits_18 : List (List (Nat × Nat)) := [] :: [] :: []
def b_X11_digits_0 : List zE := (0, .aload_n 0, []) :: (1, .iload_n 1, []) :: (2, .invokevirtual 442, [0, 1, 11]) :: (5, .ifCond .eq 13, [18, 0]) :: (8, .iload_n 2, []) :: (9, .ifCond .lt 9, [18, 0]) :: (12, .iload_n 2, []) :: (13, .bipush 27, [27]) :: (15, .if_icmp .le 5, [20, 0]) :: (18, .nop, [0]) :: []
def p_X11_digits_0 : List (List (Nat × Nat)) := [] :: [] :: [(8, 75)] :: [] :: [] :: [] :: [] :: [] :: [] :: [] :: []
def bl_X11_digits : List (Nat × List zE) := [(0, b_X11_digits_0), (18, b_X11_digits_18), (20, b_X11_digits_20)]
def pl_X11_digits : List (List (List (Nat × Nat))) := [p_X11_digits_0, p_X11_digits_18, p_X11_digits_20]
theorem k_X11_digits_0 : zlk 0 bl_X11_digits = b_X11_digits_0 := rfl
theorem k_X11_digits_18 : zlk 18 bl_X11_digits = b_X11_digits_18 := rfl
theorem k_X11_digits_20 : zlk 20 bl_X11_digits = b_X11_digits_20 := rfl
set_option maxRecDepth 100000 in
theorem ck_X11_digits : zall q_X11_digits.2.2.2.2.1 q_X11_digits.2.1 11 false q_X11_digits.2.2.1 cal_X11_digits q_X11_digits.2.2.2.1 bl_X11_digits pl_X11_digits = true := by decide +kernel
theorem nm_X11_digits : plainName q_X11_digits.1.cls = true ∧ zRX 11 = q_X11_digits.1.cls ∧ (false = true → q_X11_digits.1.name = "<init>") := ⟨by decide +kernel, rfl, fun h => by first | rfl | cases h⟩
set_option maxRecDepth 100000 in
theorem wd_X11_greatestSum : zwd q_X11_greatestSum := ⟨zw_in (p := (8, 94)) (by decide +kernel), zw_in (p := (1, 11)) (by decide +kernel), fun h => absurd h (by decide), fun _ => zw_in (p := (8, 93)) (by decide +kernel), fun _ => zw_in (p := (0, 100)) (by decide +kernel)⟩
def cal_X11_greatestSum : List zCal := [q_X11_cellAt, q_X11_order72]
def b_X11_greatestSum_204 : List zE := (204, .return_, []) :: []
def p_X11_greatestSum_204 : List (List (Nat × Nat)) := [] :: []
def b_X11_greatestSum_198 : List zE := (198, .iinc 3 1, [1]) :: (201, .goto (-178), [23, 1]) :: []
def p_X11_greatestSum_198 : List (List (Nat × Nat)) := [] :: [] :: []
def b_X11_greatestSum_171 : List zE := (171, .iload 4, []) :: (173, .bipush 72, [72]) :: (175, .if_icmp .ge 23, [198, 0]) :: (178, .aload_n 0, []) :: (179, .getfield 124, [11, 45]) :: (182, .iload 4, []) :: (184, .aload_n 0, []) :: (185, .getfield 121, [11, 44]) :: (188, .iload 4, []) :: (190, .laload, []) :: (191, .lastore, []) :: (192, .iinc 4 1, [1]) :: (195, .goto (-24), [171, 1]) :: []
def p_X11_greatestSum_171 : List (List (Nat × Nat)) := [] :: [] :: [] :: [] :: [(6, 36)] :: [] :: [] :: [(6, 35)] :: [] :: [] :: [] :: [] :: [] :: []
def b_X11_greatestSum_168 : List zE := (168, .iconst 0, [0]) :: (169, .istore 4, []) :: (171, .nop, []) :: []
def p_X11_greatestSum_168 : List (List (Nat × Nat)) := [] :: [] :: [] :: []
def b_X11_greatestSum_151 : List zE := (151, .aload_n 0, []) :: (152, .getfield 121, [11, 44]) :: (155, .aload_n 0, []) :: (156, .getfield 124, [11, 45]) :: (159, .invokestatic 383, [1, 2]) :: (162, .ifCond .gt 6, [168, 0]) :: (165, .goto 33, [198, 0]) :: []
def p_X11_greatestSum_151 : List (List (Nat × Nat)) := [] :: [(6, 35)] :: [] :: [(6, 36)] :: [(8, 30)] :: [] :: [] :: []
def b_X11_greatestSum_145 : List zE := (145, .iinc 4 1, [1]) :: (148, .goto (-90), [58, 1]) :: []
def p_X11_greatestSum_145 : List (List (Nat × Nat)) := [] :: [] :: []
def b_X11_greatestSum_113 : List zE := (113, .ladd, []) :: (114, .lload 5, []) :: (116, .ladd, []) :: (117, .lstore 8, []) :: (119, .aload_n 0, []) :: (120, .getfield 121, [11, 44]) :: (123, .iload 7, []) :: (125, .lload 8, []) :: (127, .ldc2_w 187, [4294967295]) :: (130, .land, []) :: (131, .lastore, []) :: (132, .lload 8, []) :: (134, .bipush 32, [32]) :: (136, .lushr, []) :: (137, .lstore 5, []) :: (139, .iinc 7 1, [1]) :: (142, .goto (-72), [70, 1]) :: []
def p_X11_greatestSum_113 : List (List (Nat × Nat)) := [] :: [] :: [] :: [] :: [] :: [(6, 35)] :: [] :: [] :: [(7, 60)] :: [] :: [] :: [] :: [] :: [] :: [] :: [] :: [] :: []
def b_X11_greatestSum_112 : List zE := (112, .lconst 0, [0]) :: (113, .nop, [0]) :: []
def p_X11_greatestSum_112 : List (List (Nat × Nat)) := [] :: [] :: []
def b_X11_greatestSum_70 : List zE := (70, .iload 7, []) :: (72, .bipush 72, [72]) :: (74, .if_icmp .ge 71, [145, 0]) :: (77, .aload_n 0, []) :: (78, .getfield 121, [11, 44]) :: (81, .iload 7, []) :: (83, .laload, []) :: (84, .iload 7, []) :: (86, .bipush 32, [32]) :: (88, .if_icmp .ge 24, [112, 0]) :: (91, .aload_n 0, []) :: (92, .getfield 100, [11, 32]) :: (95, .bipush 32, [32]) :: (97, .aload_n 0, []) :: (98, .iload_n 3, []) :: (99, .iload 4, []) :: (101, .invokevirtual 374, [0, 2, 11]) :: (104, .imul, []) :: (105, .iload 7, []) :: (107, .iadd, []) :: (108, .laload, []) :: (109, .goto 4, [113, 0]) :: []
def p_X11_greatestSum_70 : List (List (Nat × Nat)) := [] :: [] :: [] :: [] :: [(6, 35)] :: [] :: [] :: [] :: [] :: [] :: [] :: [(6, 23)] :: [] :: [] :: [] :: [] :: [(8, 5)] :: [] :: [] :: [] :: [] :: [] :: []
def b_X11_greatestSum_58 : List zE := (58, .iload 4, []) :: (60, .iload_n 2, []) :: (61, .if_icmp .ge 90, [151, 0]) :: (64, .lconst 0, [0]) :: (65, .lstore 5, []) :: (67, .iconst 0, [0]) :: (68, .istore 7, []) :: (70, .nop, []) :: []
def p_X11_greatestSum_58 : List (List (Nat × Nat)) := [] :: [] :: [] :: [] :: [] :: [] :: [] :: [] :: []
def b_X11_greatestSum_55 : List zE := (55, .iload_n 1, []) :: (56, .istore 4, []) :: (58, .nop, []) :: []
def p_X11_greatestSum_55 : List (List (Nat × Nat)) := [] :: [] :: [] :: []
def b_X11_greatestSum_34 : List zE := (34, .iload 4, []) :: (36, .bipush 72, [72]) :: (38, .if_icmp .ge 17, [55, 0]) :: (41, .aload_n 0, []) :: (42, .getfield 121, [11, 44]) :: (45, .iload 4, []) :: (47, .lconst 0, [0]) :: (48, .lastore, []) :: (49, .iinc 4 1, [1]) :: (52, .goto (-18), [34, 1]) :: []
def p_X11_greatestSum_34 : List (List (Nat × Nat)) := [] :: [] :: [] :: [] :: [(6, 35)] :: [] :: [] :: [] :: [] :: [] :: []
def b_X11_greatestSum_23 : List zE := (23, .iload_n 3, []) :: (24, .aload_n 0, []) :: (25, .getfield 367, [11, 38]) :: (28, .if_icmp .ge 176, [204, 0]) :: (31, .iconst 0, [0]) :: (32, .istore 4, []) :: (34, .nop, []) :: []
def p_X11_greatestSum_23 : List (List (Nat × Nat)) := [] :: [] :: [(6, 29)] :: [] :: [] :: [] :: [] :: []
def b_X11_greatestSum_21 : List zE := (21, .iconst 0, [0]) :: (22, .istore_n 3, []) :: (23, .nop, []) :: []
def p_X11_greatestSum_21 : List (List (Nat × Nat)) := [] :: [] :: [] :: []
def b_X11_greatestSum_2 : List zE := (2, .iload_n 3, []) :: (3, .bipush 72, [72]) :: (5, .if_icmp .ge 16, [21, 0]) :: (8, .aload_n 0, []) :: (9, .getfield 124, [11, 45]) :: (12, .iload_n 3, []) :: (13, .lconst 0, [0]) :: (14, .lastore, []) :: (15, .iinc 3 1, [1]) :: (18, .goto (-16), [2, 1]) :: []
def p_X11_greatestSum_2 : List (List (Nat × Nat)) := [] :: [] :: [] :: [] :: [(6, 36)] :: [] :: [] :: [] :: [] :: [] :: []
def b_X11_greatestSum_0 : List zE := (0, .iconst 0, [0]) :: (1, .istore_n 3, []) :: (2, .nop, []) :: []
def p_X11_greatestSum_0 : List (List (Nat × Nat)) := [] :: [] :: [] :: []
def bl_X11_greatestSum : List (Nat × List zE) := [(0, b_X11_greatestSum_0), (2, b_X11_greatestSum_2), (21, b_X11_greatestSum_21), (23, b_X11_greatestSum_23), (34, b_X11_greatestSum_34), (55, b_X11_greatestSum_55), (58, b_X11_greatestSum_58), (70, b_X11_greatestSum_70), (112, b_X11_greatestSum_112), (113, b_X11_greatestSum_113), (145, b_X11_greatestSum_145), (151, b_X11_greatestSum_151), (168, b_X11_greatestSum_168), (171, b_X11_greatestSum_171), (198, b_X11_greatestSum_198), (204, b_X11_greatestSum_204)]
def pl_X11_greatestSum : List (List (List (Nat × Nat))) := [p_X11_greatestSum_0, p_X11_greatestSum_2, p_X11_greatestSum_21, p_X11_greatestSum_23, p_X11_greatestSum_34, p_X11_greatestSum_55, p_X11_greatestSum_58, p_X11_greatestSum_70, p_X11_greatestSum_112, p_X11_greatestSum_113, p_X11_greatestSum_145, p_X11_greatestSum_151, p_X11_greatestSum_168, p_X11_greatestSum_171, p_X11_greatestSum_198, p_X11_greatestSum_204]
theorem k_X11_greatestSum_0 : zlk 0 bl_X11_greatestSum = b_X11_greatestSum_0 := rfl
theorem k_X11_greatestSum_2 : zlk 2 bl_X11_greatestSum = b_X11_greatestSum_2 := rfl
theorem k_X11_greatestSum_21 : zlk 21 bl_X11_greatestSum = b_X11_greatestSum_21 := rfl
theorem k_X11_greatestSum_23 : zlk 23 bl_X11_greatestSum = b_X11_greatestSum_23 := rfl
theorem k_X11_greatestSum_34 : zlk 34 bl_X11_greatestSum = b_X11_greatestSum_34 := rfl
theorem k_X11_greatestSum_55 : zlk 55 bl_X11_greatestSum = b_X11_greatestSum_55 := rfl
theorem k_X11_greatestSum_58 : zlk 58 bl_X11_greatestSum = b_X11_greatestSum_58 := rfl
theorem k_X11_greatestSum_70 : zlk 70 bl_X11_greatestSum = b_X11_greatestSum_70 := rfl
theorem k_X11_greatestSum_112 : zlk 112 bl_X11_greatestSum = b_X11_greatestSum_112 := rfl
theorem k_X11_greatestSum_113 : zlk 113 bl_X11_greatestSum = b_X11_greatestSum_113 := rfl
theorem k_X11_greatestSum_145 : zlk 145 bl_X11_greatestSum = b_X11_greatestSum_145 := rfl
theorem k_X11_greatestSum_151 : zlk 151 bl_X11_greatestSum = b_X11_greatestSum_151 := rfl
theorem k_X11_greatestSum_168 : zlk 168 bl_X11_greatestSum = b_X11_greatestSum_168 := rfl
theorem k_X11_greatestSum_171 : zlk 171 bl_X11_greatestSum = b_X11_greatestSum_171 := rfl
theorem k_X11_greatestSum_198 : zlk 198 bl_X11_greatestSum = b_X11_greatestSum_198 := rfl
theorem k_X11_greatestSum_204 : zlk 204 bl_X11_greatestSum = b_X11_greatestSum_204 := rfl
set_option maxRecDepth 100000 in
theorem ck_X11_greatestSum : zall q_X11_greatestSum.2.2.2.2.1 q_X11_greatestSum.2.1 11 false q_X11_greatestSum.2.2.1 cal_X11_greatestSum q_X11_greatestSum.2.2.2.1 bl_X11_greatestSum pl_X11_greatestSum = true := by decide +kernel
theorem nm_X11_greatestSum : plainName q_X11_greatestSum.1.cls = true ∧ zRX 11 = q_X11_greatestSum.1.cls ∧ (false = true → q_X11_greatestSum.1.name = "<init>") := ⟨by decide +kernel, rfl, fun h => by first | rfl | cases h⟩
set_option maxRecDepth 100000 in
theorem wd_X11_condition : zwd q_X11_condition := ⟨zw_in (p := (8, 90)) (by decide +kernel), zw_in (p := (1, 11)) (by decide +kernel), fun h => absurd h (by decide), fun _ => zw_in (p := (8, 88)) (by decide +kernel), fun _ => zw_in (p := (8, 89)) (by decide +kernel)⟩
def cal_X11_condition : List zCal := [q_X11_isExact, q_X11_loads, q_X11_greatestSum, q_X11_cellAt, q_X11_reduces, q_X11_quotient, q_X11_bits]
def b_X11_condition_343 : List zE := (343, .aload_n 0, []) :: (344, .iconst 0, [0]) :: (345, .iconst 1, [1]) :: (346, .invokevirtual 425, [5, 2, 11]) :: (349, .invokestatic 158, [6, 1]) :: (352, .lreturn, []) :: []
def p_X11_condition_343 : List (List (Nat × Nat)) := [] :: [] :: [] :: [(8, 48)] :: [(6, 227)] :: [] :: []
def b_X11_condition_336 : List zE := (336, .lastore, []) :: (337, .iinc 3 1, [1]) :: (340, .goto (-31), [309, 1]) :: []
def p_X11_condition_336 : List (List (Nat × Nat)) := [] :: [] :: [] :: []
def b_X11_condition_335 : List zE := (335, .lconst 0, [0]) :: (336, .nop, [0]) :: []
def p_X11_condition_335 : List (List (Nat × Nat)) := [] :: [] :: []
def b_X11_condition_309 : List zE := (309, .iload_n 3, []) :: (310, .bipush 72, [72]) :: (312, .if_icmp .ge 31, [343, 0]) :: (315, .aload_n 0, []) :: (316, .getfield 109, [11, 35]) :: (319, .iload_n 3, []) :: (320, .iload_n 3, []) :: (321, .bipush 32, [32]) :: (323, .if_icmp .ge 12, [335, 0]) :: (326, .aload_n 0, []) :: (327, .getfield 112, [11, 36]) :: (330, .iload_n 3, []) :: (331, .laload, []) :: (332, .goto 4, [336, 0]) :: []
def p_X11_condition_309 : List (List (Nat × Nat)) := [] :: [] :: [] :: [] :: [(6, 26)] :: [] :: [] :: [] :: [] :: [] :: [(6, 27)] :: [] :: [] :: [] :: []
def b_X11_condition_307 : List zE := (307, .iconst 0, [0]) :: (308, .istore_n 3, []) :: (309, .nop, []) :: []
def p_X11_condition_307 : List (List (Nat × Nat)) := [] :: [] :: [] :: []
def b_X11_condition_301 : List zE := (301, .iinc 3 1, [1]) :: (304, .goto (-155), [149, 1]) :: []
def p_X11_condition_301 : List (List (Nat × Nat)) := [] :: [] :: []
def b_X11_condition_278 : List zE := (278, .iload_n 3, []) :: (279, .bipush 36, [36]) :: (281, .iadd, []) :: (282, .bipush 72, [72]) :: (284, .if_icmp .ge 17, [301, 0]) :: (287, .aload_n 0, []) :: (288, .getfield 106, [11, 34]) :: (291, .iload_n 3, []) :: (292, .bipush 36, [36]) :: (294, .iadd, []) :: (295, .dup2, []) :: (296, .laload, []) :: (297, .lload 4, []) :: (299, .ladd, []) :: (300, .lastore, []) :: (301, .nop, [0]) :: []
def p_X11_condition_278 : List (List (Nat × Nat)) := [] :: [] :: [] :: [] :: [] :: [] :: [(6, 25)] :: [] :: [] :: [] :: [] :: [] :: [] :: [] :: [] :: [] :: []
def b_X11_condition_161 : List zE := (161, .iload 6, []) :: (163, .bipush 36, [36]) :: (165, .if_icmp .ge 113, [278, 0]) :: (168, .aload_n 0, []) :: (169, .getfield 127, [11, 46]) :: (172, .iload_n 3, []) :: (173, .laload, []) :: (174, .ldc2_w 381, [65535]) :: (177, .land, []) :: (178, .aload_n 0, []) :: (179, .getfield 124, [11, 45]) :: (182, .iload 6, []) :: (184, .laload, []) :: (185, .lmul, []) :: (186, .lload 4, []) :: (188, .ladd, []) :: (189, .lstore 7, []) :: (191, .aload_n 0, []) :: (192, .getfield 127, [11, 46]) :: (195, .iload_n 3, []) :: (196, .laload, []) :: (197, .bipush 16, [16]) :: (199, .lushr, []) :: (200, .aload_n 0, []) :: (201, .getfield 124, [11, 45]) :: (204, .iload 6, []) :: (206, .laload, []) :: (207, .lmul, []) :: (208, .lstore 9, []) :: (210, .aload_n 0, []) :: (211, .getfield 106, [11, 34]) :: (214, .iload_n 3, []) :: (215, .iload 6, []) :: (217, .iadd, []) :: (218, .laload, []) :: (219, .lload 7, []) :: (221, .ldc2_w 187, [4294967295]) :: (224, .land, []) :: (225, .ladd, []) :: (226, .lload 9, []) :: (228, .ldc2_w 381, [65535]) :: (231, .land, []) :: (232, .bipush 16, [16]) :: (234, .lshl, []) :: (235, .ladd, []) :: (236, .lstore 11, []) :: (238, .aload_n 0, []) :: (239, .getfield 106, [11, 34]) :: (242, .iload_n 3, []) :: (243, .iload 6, []) :: (245, .iadd, []) :: (246, .lload 11, []) :: (248, .ldc2_w 187, [4294967295]) :: (251, .land, []) :: (252, .lastore, []) :: (253, .lload 11, []) :: (255, .bipush 32, [32]) :: (257, .lushr, []) :: (258, .lload 7, []) :: (260, .bipush 32, [32]) :: (262, .lushr, []) :: (263, .ladd, []) :: (264, .lload 9, []) :: (266, .bipush 16, [16]) :: (268, .lushr, []) :: (269, .ladd, []) :: (270, .lstore 4, []) :: (272, .iinc 6 1, [1]) :: (275, .goto (-114), [161, 1]) :: []
def p_X11_condition_161 : List (List (Nat × Nat)) := [] :: [] :: [] :: [] :: [(6, 37)] :: [] :: [] :: [(8, 25)] :: [] :: [] :: [(6, 36)] :: [] :: [] :: [] :: [] :: [] :: [] :: [] :: [(6, 37)] :: [] :: [] :: [] :: [] :: [] :: [(6, 36)] :: [] :: [] :: [] :: [] :: [] :: [(6, 25)] :: [] :: [] :: [] :: [] :: [] :: [(7, 60)] :: [] :: [] :: [] :: [(8, 25)] :: [] :: [] :: [] :: [] :: [] :: [] :: [(6, 25)] :: [] :: [] :: [] :: [] :: [(7, 60)] :: [] :: [] :: [] :: [] :: [] :: [] :: [] :: [] :: [] :: [] :: [] :: [] :: [] :: [] :: [] :: [] :: []
def b_X11_condition_149 : List zE := (149, .iload_n 3, []) :: (150, .bipush 36, [36]) :: (152, .if_icmp .ge 155, [307, 0]) :: (155, .lconst 0, [0]) :: (156, .lstore 4, []) :: (158, .iconst 0, [0]) :: (159, .istore 6, []) :: (161, .nop, []) :: []
def p_X11_condition_149 : List (List (Nat × Nat)) := [] :: [] :: [] :: [] :: [] :: [] :: [] :: [] :: []
def b_X11_condition_147 : List zE := (147, .iconst 0, [0]) :: (148, .istore_n 3, []) :: (149, .nop, []) :: []
def p_X11_condition_147 : List (List (Nat × Nat)) := [] :: [] :: [] :: []
def b_X11_condition_128 : List zE := (128, .iload_n 3, []) :: (129, .bipush 72, [72]) :: (131, .if_icmp .ge 16, [147, 0]) :: (134, .aload_n 0, []) :: (135, .getfield 106, [11, 34]) :: (138, .iload_n 3, []) :: (139, .lconst 0, [0]) :: (140, .lastore, []) :: (141, .iinc 3 1, [1]) :: (144, .goto (-16), [128, 1]) :: []
def p_X11_condition_128 : List (List (Nat × Nat)) := [] :: [] :: [] :: [] :: [(6, 25)] :: [] :: [] :: [] :: [] :: [] :: []
def b_X11_condition_118 : List zE := (118, .aload_n 0, []) :: (119, .iload_n 2, []) :: (120, .iconst 2, [2]) :: (121, .iload_n 2, []) :: (122, .imul, []) :: (123, .invokevirtual 448, [2, 2, 11]) :: (126, .iconst 0, [0]) :: (127, .istore_n 3, []) :: (128, .nop, []) :: []
def p_X11_condition_118 : List (List (Nat × Nat)) := [] :: [] :: [] :: [] :: [] :: [(8, 91)] :: [] :: [] :: [] :: []
def b_X11_condition_101 : List zE := (101, .aload_n 0, []) :: (102, .iload_n 2, []) :: (103, .invokevirtual 435, [4, 1, 11]) :: (106, .aload_n 0, []) :: (107, .getfield 396, [11, 40]) :: (110, .iload_n 2, []) :: (111, .if_icmp .ge 7, [118, 0]) :: (114, .ldc2_w 269, [18446744073709551615]) :: (117, .lreturn, []) :: []
def p_X11_condition_101 : List (List (Nat × Nat)) := [] :: [] :: [(8, 13)] :: [] :: [(6, 31)] :: [] :: [] :: [(7, 0)] :: [] :: []
def b_X11_condition_59 : List zE := (59, .iload_n 3, []) :: (60, .iload_n 2, []) :: (61, .if_icmp .ge 40, [101, 0]) :: (64, .aload_n 0, []) :: (65, .getfield 100, [11, 32]) :: (68, .bipush 32, [32]) :: (70, .aload_n 0, []) :: (71, .iload_n 3, []) :: (72, .iload_n 2, []) :: (73, .iload_n 3, []) :: (74, .iadd, []) :: (75, .invokevirtual 374, [3, 2, 11]) :: (78, .imul, []) :: (79, .lconst 1, [1]) :: (80, .lastore, []) :: (81, .aload_n 0, []) :: (82, .getfield 103, [11, 33]) :: (85, .aload_n 0, []) :: (86, .iload_n 3, []) :: (87, .iload_n 2, []) :: (88, .iload_n 3, []) :: (89, .iadd, []) :: (90, .invokevirtual 374, [3, 2, 11]) :: (93, .iconst 1, [1]) :: (94, .iastore, []) :: (95, .iinc 3 1, [1]) :: (98, .goto (-39), [59, 1]) :: []
def p_X11_condition_59 : List (List (Nat × Nat)) := [] :: [] :: [] :: [] :: [(6, 23)] :: [] :: [] :: [] :: [] :: [] :: [] :: [(8, 5)] :: [] :: [] :: [] :: [] :: [(6, 24)] :: [] :: [] :: [] :: [] :: [] :: [(8, 5)] :: [] :: [] :: [] :: [] :: []
def b_X11_condition_57 : List zE := (57, .iconst 0, [0]) :: (58, .istore_n 3, []) :: (59, .nop, []) :: []
def p_X11_condition_57 : List (List (Nat × Nat)) := [] :: [] :: [] :: []
def b_X11_condition_33 : List zE := (33, .iload_n 3, []) :: (34, .bipush 72, [72]) :: (36, .if_icmp .ge 21, [57, 0]) :: (39, .aload_n 0, []) :: (40, .getfield 127, [11, 46]) :: (43, .iload_n 3, []) :: (44, .aload_n 0, []) :: (45, .getfield 124, [11, 45]) :: (48, .iload_n 3, []) :: (49, .laload, []) :: (50, .lastore, []) :: (51, .iinc 3 1, [1]) :: (54, .goto (-21), [33, 1]) :: []
def p_X11_condition_33 : List (List (Nat × Nat)) := [] :: [] :: [] :: [] :: [(6, 37)] :: [] :: [] :: [(6, 36)] :: [] :: [] :: [] :: [] :: [] :: []
def b_X11_condition_12 : List zE := (12, .aload_n 0, []) :: (13, .getfield 31, [11, 7]) :: (16, .iload_n 1, []) :: (17, .iaload, []) :: (18, .istore_n 2, []) :: (19, .aload_n 0, []) :: (20, .iload_n 1, []) :: (21, .iload_n 2, []) :: (22, .invokevirtual 432, [1, 2, 11]) :: (25, .aload_n 0, []) :: (26, .iconst 0, [0]) :: (27, .iload_n 2, []) :: (28, .invokevirtual 448, [2, 2, 11]) :: (31, .iconst 0, [0]) :: (32, .istore_n 3, []) :: (33, .nop, []) :: []
def p_X11_condition_12 : List (List (Nat × Nat)) := [] :: [(5, 238)] :: [] :: [] :: [] :: [] :: [] :: [] :: [(8, 1)] :: [] :: [] :: [] :: [(8, 91)] :: [] :: [] :: [] :: []
def b_X11_condition_0 : List zE := (0, .aload_n 0, []) :: (1, .iload_n 1, []) :: (2, .invokevirtual 442, [0, 1, 11]) :: (5, .ifCond .ne 7, [12, 0]) :: (8, .ldc2_w 269, [18446744073709551615]) :: (11, .lreturn, []) :: []
def p_X11_condition_0 : List (List (Nat × Nat)) := [] :: [] :: [(8, 75)] :: [] :: [(7, 0)] :: [] :: []
def bl_X11_condition : List (Nat × List zE) := [(0, b_X11_condition_0), (12, b_X11_condition_12), (33, b_X11_condition_33), (57, b_X11_condition_57), (59, b_X11_condition_59), (101, b_X11_condition_101), (118, b_X11_condition_118), (128, b_X11_condition_128), (147, b_X11_condition_147), (149, b_X11_condition_149), (161, b_X11_condition_161), (278, b_X11_condition_278), (301, b_X11_condition_301), (307, b_X11_condition_307), (309, b_X11_condition_309), (335, b_X11_condition_335), (336, b_X11_condition_336), (343, b_X11_condition_343)]
def pl_X11_condition : List (List (List (Nat × Nat))) := [p_X11_condition_0, p_X11_condition_12, p_X11_condition_33, p_X11_condition_57, p_X11_condition_59, p_X11_condition_101, p_X11_condition_118, p_X11_condition_128, p_X11_condition_147, p_X11_condition_149, p_X11_condition_161, p_X11_condition_278, p_X11_condition_301, p_X11_condition_307, p_X11_condition_309, p_X11_condition_335, p_X11_condition_336, p_X11_condition_343]
theorem k_X11_condition_0 : zlk 0 bl_X11_condition = b_X11_condition_0 := rfl
theorem k_X11_condition_12 : zlk 12 bl_X11_condition = b_X11_condition_12 := rfl
theorem k_X11_condition_33 : zlk 33 bl_X11_condition = b_X11_condition_33 := rfl
theorem k_X11_condition_57 : zlk 57 bl_X11_condition = b_X11_condition_57 := rfl
theorem k_X11_condition_59 : zlk 59 bl_X11_condition = b_X11_condition_59 := rfl
theorem k_X11_condition_101 : zlk 101 bl_X11_condition = b_X11_condition_101 := rfl
theorem k_X11_condition_118 : zlk 118 bl_X11_condition = b_X11_condition_118 := rfl
theorem k_X11_condition_128 : zlk 128 bl_X11_condition = b_X11_condition_128 := rfl
theorem k_X11_condition_147 : zlk 147 bl_X11_condition = b_X11_condition_147 := rfl
theorem k_X11_condition_149 : zlk 149 bl_X11_condition = b_X11_condition_149 := rfl
theorem k_X11_condition_161 : zlk 161 bl_X11_condition = b_X11_condition_161 := rfl
theorem k_X11_condition_278 : zlk 278 bl_X11_condition = b_X11_condition_278 := rfl
theorem k_X11_condition_301 : zlk 301 bl_X11_condition = b_X11_condition_301 := rfl
theorem k_X11_condition_307 : zlk 307 bl_X11_condition = b_X11_condition_307 := rfl
theorem k_X11_condition_309 : zlk 309 bl_X11_condition = b_X11_condition_309 := rfl
theorem k_X11_condition_335 : zlk 335 bl_X11_condition = b_X11_condition_335 := rfl
theorem k_X11_condition_336 : zlk 336 bl_X11_condition = b_X11_condition_336 := rfl
theorem k_X11_condition_343 : zlk 343 bl_X11_condition = b_X11_condition_343 := rfl
set_option maxRecDepth 100000 in
theorem ck_X11_condition : zall q_X11_condition.2.2.2.2.1 q_X11_condition.2.1 11 false q_X11_condition.2.2.1 cal_X11_condition q_X11_condition.2.2.2.1 bl_X11_condition pl_X11_condition = true := by decide +kernel
theorem nm_X11_condition : plainName q_X11_condition.1.cls = true ∧ zRX 11 = q_X11_condition.1.cls ∧ (false = true → q_X11_condition.1.name = "<init>") := ⟨by decide +kernel, rfl, fun h => by first | rfl | cases h⟩
set_option maxRecDepth 100000 in
theorem wd_X11_gaps : zwd q_X11_gaps := ⟨zw_in (p := (8, 102)) (by decide +kernel), zw_in (p := (1, 11)) (by decide +kernel), fun h => absurd h (by decide), fun _ => zw_in (p := (8, 101)) (by decide +kernel), fun _ => zw_in (p := (0, 101)) (by decide +kernel)⟩
def cal_X11_gaps : List zCal := [q_X11_isMatrix, q_X11_isLattice, q_X11_none, q_X11_add, q_X11_at, q_X11_sums, q_X11_carry, q_X11_order, q_X11_rounded]
def b_X11_gaps_317 : List zE := (317, .aload_n 0, []) :: (318, .aload_n 0, []) :: (319, .getfield 91, [11, 29]) :: (322, .iconst 1, [1]) :: (323, .invokestatic 214, [8, 2]) :: (326, .putfield 451, [11, 47]) :: (329, .iconst 1, [1]) :: (330, .ireturn, []) :: []
def p_X11_gaps_317 : List (List (Nat × Nat)) := [] :: [] :: [(6, 20)] :: [] :: [(7, 75)] :: [(6, 38)] :: [] :: [] :: []
def b_X11_gaps_311 : List zE := (311, .iinc 4 1, [1]) :: (314, .goto (-208), [106, 1]) :: []
def p_X11_gaps_311 : List (List (Nat × Nat)) := [] :: [] :: []
def b_X11_gaps_283 : List zE := (283, .iload 5, []) :: (285, .sipush 146, [146]) :: (288, .if_icmp .ge 23, [311, 0]) :: (291, .aload_n 0, []) :: (292, .getfield 91, [11, 29]) :: (295, .iload 5, []) :: (297, .aload_n 0, []) :: (298, .getfield 94, [11, 30]) :: (301, .iload 5, []) :: (303, .laload, []) :: (304, .lastore, []) :: (305, .iinc 5 1, [1]) :: (308, .goto (-25), [283, 1]) :: []
def p_X11_gaps_283 : List (List (Nat × Nat)) := [] :: [] :: [] :: [] :: [(6, 20)] :: [] :: [] :: [(6, 21)] :: [] :: [] :: [] :: [] :: [] :: []
def b_X11_gaps_280 : List zE := (280, .iconst 0, [0]) :: (281, .istore 5, []) :: (283, .nop, []) :: []
def p_X11_gaps_280 : List (List (Nat × Nat)) := [] :: [] :: [] :: []
def b_X11_gaps_256 : List zE := (256, .aload_n 0, []) :: (257, .getfield 94, [11, 30]) :: (260, .invokestatic 195, [6, 1]) :: (263, .aload_n 0, []) :: (264, .getfield 94, [11, 30]) :: (267, .aload_n 0, []) :: (268, .getfield 91, [11, 29]) :: (271, .invokestatic 199, [7, 2]) :: (274, .ifCond .gt 6, [280, 0]) :: (277, .goto 34, [311, 0]) :: []
def p_X11_gaps_256 : List (List (Nat × Nat)) := [] :: [(6, 21)] :: [(7, 69)] :: [] :: [(6, 21)] :: [] :: [(6, 20)] :: [(7, 72)] :: [] :: [] :: []
def b_X11_gaps_250 : List zE := (250, .iinc 5 1, [1]) :: (253, .goto (-113), [140, 1]) :: []
def p_X11_gaps_250 : List (List (Nat × Nat)) := [] :: [] :: []
def b_X11_gaps_219 : List zE := (219, .iload 6, []) :: (221, .sipush 146, [146]) :: (224, .if_icmp .ge 26, [250, 0]) :: (227, .aload_n 0, []) :: (228, .getfield 94, [11, 30]) :: (231, .iload 6, []) :: (233, .dup2, []) :: (234, .laload, []) :: (235, .aload_n 0, []) :: (236, .getfield 16, [11, 2]) :: (239, .iload 6, []) :: (241, .laload, []) :: (242, .ladd, []) :: (243, .lastore, []) :: (244, .iinc 6 1, [1]) :: (247, .goto (-28), [219, 1]) :: []
def p_X11_gaps_219 : List (List (Nat × Nat)) := [] :: [] :: [] :: [] :: [(6, 21)] :: [] :: [] :: [] :: [] :: [(5, 233)] :: [] :: [] :: [] :: [] :: [] :: [] :: []
def b_X11_gaps_212 : List zE := (212, .aload_n 0, []) :: (213, .invokevirtual 211, [5, 0, 11]) :: (216, .iconst 0, [0]) :: (217, .istore 6, []) :: (219, .nop, []) :: []
def p_X11_gaps_212 : List (List (Nat × Nat)) := [] :: [(7, 65)] :: [] :: [] :: [] :: []
def b_X11_gaps_167 : List zE := (167, .iload 6, []) :: (169, .iload_n 3, []) :: (170, .if_icmp .ge 42, [212, 0]) :: (173, .aload_n 0, []) :: (174, .aload_n 0, []) :: (175, .getfield 19, [11, 4]) :: (178, .aload_n 0, []) :: (179, .iload_n 1, []) :: (180, .iload 4, []) :: (182, .iload 6, []) :: (184, .invokevirtual 261, [4, 3, 11]) :: (187, .daload, []) :: (188, .aload_n 0, []) :: (189, .getfield 19, [11, 4]) :: (192, .aload_n 0, []) :: (193, .iload_n 2, []) :: (194, .iload 6, []) :: (196, .iload 5, []) :: (198, .invokevirtual 261, [4, 3, 11]) :: (201, .daload, []) :: (202, .iconst 1, [1]) :: (203, .invokevirtual 223, [3, 3, 11]) :: (206, .iinc 6 1, [1]) :: (209, .goto (-42), [167, 1]) :: []
def p_X11_gaps_167 : List (List (Nat × Nat)) := [] :: [] :: [] :: [] :: [] :: [(5, 235)] :: [] :: [] :: [] :: [] :: [(6, 215)] :: [] :: [] :: [(5, 235)] :: [] :: [] :: [] :: [] :: [(6, 215)] :: [] :: [] :: [(7, 52)] :: [] :: [] :: []
def b_X11_gaps_164 : List zE := (164, .iconst 0, [0]) :: (165, .istore 6, []) :: (167, .nop, []) :: []
def p_X11_gaps_164 : List (List (Nat × Nat)) := [] :: [] :: [] :: []
def b_X11_gaps_140 : List zE := (140, .iload 5, []) :: (142, .iload_n 3, []) :: (143, .if_icmp .ge 113, [256, 0]) :: (146, .aload_n 0, []) :: (147, .invokevirtual 220, [2, 0, 11]) :: (150, .iload 4, []) :: (152, .iload 5, []) :: (154, .if_icmp .ne 10, [164, 0]) :: (157, .aload_n 0, []) :: (158, .dconst 1, [4607182418800017408]) :: (159, .dconst 1, [4607182418800017408]) :: (160, .iconst 0, [0]) :: (161, .invokevirtual 223, [3, 3, 11]) :: (164, .nop, [0]) :: []
def p_X11_gaps_140 : List (List (Nat × Nat)) := [] :: [] :: [] :: [] :: [(7, 48)] :: [] :: [] :: [] :: [] :: [] :: [] :: [] :: [(7, 52)] :: [] :: []
def b_X11_gaps_137 : List zE := (137, .iconst 0, [0]) :: (138, .istore 5, []) :: (140, .nop, []) :: []
def p_X11_gaps_137 : List (List (Nat × Nat)) := [] :: [] :: [] :: []
def b_X11_gaps_115 : List zE := (115, .iload 5, []) :: (117, .sipush 146, [146]) :: (120, .if_icmp .ge 17, [137, 0]) :: (123, .aload_n 0, []) :: (124, .getfield 94, [11, 30]) :: (127, .iload 5, []) :: (129, .lconst 0, [0]) :: (130, .lastore, []) :: (131, .iinc 5 1, [1]) :: (134, .goto (-19), [115, 1]) :: []
def p_X11_gaps_115 : List (List (Nat × Nat)) := [] :: [] :: [] :: [] :: [(6, 21)] :: [] :: [] :: [] :: [] :: [] :: []
def b_X11_gaps_106 : List zE := (106, .iload 4, []) :: (108, .iload_n 3, []) :: (109, .if_icmp .ge 208, [317, 0]) :: (112, .iconst 0, [0]) :: (113, .istore 5, []) :: (115, .nop, []) :: []
def p_X11_gaps_106 : List (List (Nat × Nat)) := [] :: [] :: [] :: [] :: [] :: [] :: []
def b_X11_gaps_103 : List zE := (103, .iconst 0, [0]) :: (104, .istore 4, []) :: (106, .nop, []) :: []
def p_X11_gaps_103 : List (List (Nat × Nat)) := [] :: [] :: [] :: []
def b_X11_gaps_81 : List zE := (81, .iload 4, []) :: (83, .sipush 146, [146]) :: (86, .if_icmp .ge 17, [103, 0]) :: (89, .aload_n 0, []) :: (90, .getfield 91, [11, 29]) :: (93, .iload 4, []) :: (95, .lconst 0, [0]) :: (96, .lastore, []) :: (97, .iinc 4 1, [1]) :: (100, .goto (-19), [81, 1]) :: []
def p_X11_gaps_81 : List (List (Nat × Nat)) := [] :: [] :: [] :: [] :: [(6, 20)] :: [] :: [] :: [] :: [] :: [] :: []
def b_X11_gaps_71 : List zE := (71, .aload_n 0, []) :: (72, .getfield 31, [11, 7]) :: (75, .iload_n 1, []) :: (76, .iaload, []) :: (77, .istore_n 3, []) :: (78, .iconst 0, [0]) :: (79, .istore 4, []) :: (81, .nop, []) :: []
def p_X11_gaps_71 : List (List (Nat × Nat)) := [] :: [(5, 238)] :: [] :: [] :: [] :: [] :: [] :: [] :: []
def b_X11_gaps_69 : List zE := (69, .iconst 0, [0]) :: (70, .ireturn, []) :: []
def p_X11_gaps_69 : List (List (Nat × Nat)) := [] :: [] :: []
def b_X11_gaps_0 : List zE := (0, .aload_n 0, []) :: (1, .iload_n 1, []) :: (2, .invokevirtual 243, [0, 1, 11]) :: (5, .ifCond .eq 64, [69, 0]) :: (8, .aload_n 0, []) :: (9, .iload_n 2, []) :: (10, .invokevirtual 243, [0, 1, 11]) :: (13, .ifCond .eq 56, [69, 0]) :: (16, .aload_n 0, []) :: (17, .getfield 31, [11, 7]) :: (20, .iload_n 1, []) :: (21, .iaload, []) :: (22, .aload_n 0, []) :: (23, .getfield 34, [11, 8]) :: (26, .iload_n 1, []) :: (27, .iaload, []) :: (28, .if_icmp .ne 41, [69, 0]) :: (31, .aload_n 0, []) :: (32, .getfield 31, [11, 7]) :: (35, .iload_n 2, []) :: (36, .iaload, []) :: (37, .aload_n 0, []) :: (38, .getfield 34, [11, 8]) :: (41, .iload_n 2, []) :: (42, .iaload, []) :: (43, .if_icmp .ne 26, [69, 0]) :: (46, .aload_n 0, []) :: (47, .getfield 31, [11, 7]) :: (50, .iload_n 1, []) :: (51, .iaload, []) :: (52, .aload_n 0, []) :: (53, .getfield 31, [11, 7]) :: (56, .iload_n 2, []) :: (57, .iaload, []) :: (58, .if_icmp .ne 11, [69, 0]) :: (61, .aload_n 0, []) :: (62, .iload_n 2, []) :: (63, .invokevirtual 271, [1, 1, 11]) :: (66, .ifCond .ne 5, [71, 0]) :: (69, .nop, [0]) :: []
def p_X11_gaps_0 : List (List (Nat × Nat)) := [] :: [] :: [(6, 186)] :: [] :: [] :: [] :: [(6, 186)] :: [] :: [] :: [(5, 238)] :: [] :: [] :: [] :: [(5, 239)] :: [] :: [] :: [] :: [] :: [(5, 238)] :: [] :: [] :: [] :: [(5, 239)] :: [] :: [] :: [] :: [] :: [(5, 238)] :: [] :: [] :: [] :: [(5, 238)] :: [] :: [] :: [] :: [] :: [] :: [(7, 5)] :: [] :: [] :: []
def bl_X11_gaps : List (Nat × List zE) := [(0, b_X11_gaps_0), (69, b_X11_gaps_69), (71, b_X11_gaps_71), (81, b_X11_gaps_81), (103, b_X11_gaps_103), (106, b_X11_gaps_106), (115, b_X11_gaps_115), (137, b_X11_gaps_137), (140, b_X11_gaps_140), (164, b_X11_gaps_164), (167, b_X11_gaps_167), (212, b_X11_gaps_212), (219, b_X11_gaps_219), (250, b_X11_gaps_250), (256, b_X11_gaps_256), (280, b_X11_gaps_280), (283, b_X11_gaps_283), (311, b_X11_gaps_311), (317, b_X11_gaps_317)]
def pl_X11_gaps : List (List (List (Nat × Nat))) := [p_X11_gaps_0, p_X11_gaps_69, p_X11_gaps_71, p_X11_gaps_81, p_X11_gaps_103, p_X11_gaps_106, p_X11_gaps_115, p_X11_gaps_137, p_X11_gaps_140, p_X11_gaps_164, p_X11_gaps_167, p_X11_gaps_212, p_X11_gaps_219, p_X11_gaps_250, p_X11_gaps_256, p_X11_gaps_280, p_X11_gaps_283, p_X11_gaps_311, p_X11_gaps_317]
theorem k_X11_gaps_0 : zlk 0 bl_X11_gaps = b_X11_gaps_0 := rfl
theorem k_X11_gaps_69 : zlk 69 bl_X11_gaps = b_X11_gaps_69 := rfl
theorem k_X11_gaps_71 : zlk 71 bl_X11_gaps = b_X11_gaps_71 := rfl
theorem k_X11_gaps_81 : zlk 81 bl_X11_gaps = b_X11_gaps_81 := rfl
theorem k_X11_gaps_103 : zlk 103 bl_X11_gaps = b_X11_gaps_103 := rfl
theorem k_X11_gaps_106 : zlk 106 bl_X11_gaps = b_X11_gaps_106 := rfl
theorem k_X11_gaps_115 : zlk 115 bl_X11_gaps = b_X11_gaps_115 := rfl
theorem k_X11_gaps_137 : zlk 137 bl_X11_gaps = b_X11_gaps_137 := rfl
theorem k_X11_gaps_140 : zlk 140 bl_X11_gaps = b_X11_gaps_140 := rfl
theorem k_X11_gaps_164 : zlk 164 bl_X11_gaps = b_X11_gaps_164 := rfl
theorem k_X11_gaps_167 : zlk 167 bl_X11_gaps = b_X11_gaps_167 := rfl
theorem k_X11_gaps_212 : zlk 212 bl_X11_gaps = b_X11_gaps_212 := rfl
theorem k_X11_gaps_219 : zlk 219 bl_X11_gaps = b_X11_gaps_219 := rfl
theorem k_X11_gaps_250 : zlk 250 bl_X11_gaps = b_X11_gaps_250 := rfl
theorem k_X11_gaps_256 : zlk 256 bl_X11_gaps = b_X11_gaps_256 := rfl
theorem k_X11_gaps_280 : zlk 280 bl_X11_gaps = b_X11_gaps_280 := rfl
theorem k_X11_gaps_283 : zlk 283 bl_X11_gaps = b_X11_gaps_283 := rfl
theorem k_X11_gaps_311 : zlk 311 bl_X11_gaps = b_X11_gaps_311 := rfl
theorem k_X11_gaps_317 : zlk 317 bl_X11_gaps = b_X11_gaps_317 := rfl
set_option maxRecDepth 100000 in
theorem ck_X11_gaps : zall q_X11_gaps.2.2.2.2.1 q_X11_gaps.2.1 11 false q_X11_gaps.2.2.1 cal_X11_gaps q_X11_gaps.2.2.2.1 bl_X11_gaps pl_X11_gaps = true := by decide +kernel
theorem nm_X11_gaps : plainName q_X11_gaps.1.cls = true ∧ zRX 11 = q_X11_gaps.1.cls ∧ (false = true → q_X11_gaps.1.name = "<init>") := ⟨by decide +kernel, rfl, fun h => by first | rfl | cases h⟩
set_option maxRecDepth 100000 in
theorem wd_X11_gap : zwd q_X11_gap := ⟨zw_in (p := (8, 98)) (by decide +kernel), zw_in (p := (1, 11)) (by decide +kernel), fun h => absurd h (by decide), fun _ => zw_in (p := (8, 96)) (by decide +kernel), fun _ => zw_in (p := (8, 97)) (by decide +kernel)⟩
def cal_X11_gap : List zCal := [q_X11_gaps, q_X11_isFinite, q_X11_bits]
def b_X11_gap_32 : List zE := (32, .lreturn, []) :: []
def p_X11_gap_32 : List (List (Nat × Nat)) := [] :: []
def b_X11_gap_29 : List zE := (29, .ldc2_w 269, [18446744073709551615]) :: (32, .nop, [0]) :: []
def p_X11_gap_29 : List (List (Nat × Nat)) := [(7, 0)] :: [] :: []
def b_X11_gap_0 : List zE := (0, .aload_n 0, []) :: (1, .iload_n 1, []) :: (2, .iload_n 2, []) :: (3, .invokevirtual 454, [0, 2, 11]) :: (6, .ifCond .eq 23, [29, 0]) :: (9, .aload_n 0, []) :: (10, .getfield 451, [11, 47]) :: (13, .invokestatic 277, [1, 1]) :: (16, .ifCond .eq 13, [29, 0]) :: (19, .aload_n 0, []) :: (20, .getfield 451, [11, 47]) :: (23, .invokestatic 158, [2, 1]) :: (26, .goto 6, [32, 0]) :: []
def p_X11_gap_0 : List (List (Nat × Nat)) := [] :: [] :: [] :: [(8, 99)] :: [] :: [] :: [(6, 38)] :: [(7, 36)] :: [] :: [] :: [(6, 38)] :: [(6, 227)] :: [] :: []
def bl_X11_gap : List (Nat × List zE) := [(0, b_X11_gap_0), (29, b_X11_gap_29), (32, b_X11_gap_32)]
def pl_X11_gap : List (List (List (Nat × Nat))) := [p_X11_gap_0, p_X11_gap_29, p_X11_gap_32]
theorem k_X11_gap_0 : zlk 0 bl_X11_gap = b_X11_gap_0 := rfl
theorem k_X11_gap_29 : zlk 29 bl_X11_gap = b_X11_gap_29 := rfl
theorem k_X11_gap_32 : zlk 32 bl_X11_gap = b_X11_gap_32 := rfl
set_option maxRecDepth 100000 in
theorem ck_X11_gap : zall q_X11_gap.2.2.2.2.1 q_X11_gap.2.1 11 false q_X11_gap.2.2.1 cal_X11_gap q_X11_gap.2.2.2.1 bl_X11_gap pl_X11_gap = true := by decide +kernel
theorem nm_X11_gap : plainName q_X11_gap.1.cls = true ∧ zRX 11 = q_X11_gap.1.cls ∧ (false = true → q_X11_gap.1.name = "<init>") := ⟨by decide +kernel, rfl, fun h => by first | rfl | cases h⟩
set_option maxRecDepth 100000 in
theorem wd_X11_next : zwd q_X11_next := ⟨zw_in (p := (8, 110)) (by decide +kernel), zw_in (p := (1, 11)) (by decide +kernel), fun _ => zw_in (p := (8, 109)) (by decide +kernel), fun h => absurd rfl h, fun h => absurd h (by decide)⟩
def cal_X11_next : List zCal := [q_X11_isFinite, q_X11_above]
def b_X11_next_15 : List zE := (15, .dreturn, []) :: []
def p_X11_next_15 : List (List (Nat × Nat)) := [] :: []
def b_X11_next_14 : List zE := (14, .dload_n 0, []) :: (15, .nop, [0]) :: []
def p_X11_next_14 : List (List (Nat × Nat)) := [] :: [] :: []
def b_X11_next_0 : List zE := (0, .dload_n 0, []) :: (1, .invokestatic 277, [0, 1]) :: (4, .ifCond .eq 10, [14, 0]) :: (7, .dload_n 0, []) :: (8, .invokestatic 465, [1, 1]) :: (11, .goto 4, [15, 0]) :: []
def p_X11_next_0 : List (List (Nat × Nat)) := [] :: [(7, 36)] :: [] :: [] :: [(8, 111)] :: [] :: []
def bl_X11_next : List (Nat × List zE) := [(0, b_X11_next_0), (14, b_X11_next_14), (15, b_X11_next_15)]
def pl_X11_next : List (List (List (Nat × Nat))) := [p_X11_next_0, p_X11_next_14, p_X11_next_15]
theorem k_X11_next_0 : zlk 0 bl_X11_next = b_X11_next_0 := rfl
theorem k_X11_next_14 : zlk 14 bl_X11_next = b_X11_next_14 := rfl
theorem k_X11_next_15 : zlk 15 bl_X11_next = b_X11_next_15 := rfl
set_option maxRecDepth 100000 in
theorem ck_X11_next : zall q_X11_next.2.2.2.2.1 q_X11_next.2.1 11 false q_X11_next.2.2.1 cal_X11_next q_X11_next.2.2.2.1 bl_X11_next pl_X11_next = true := by decide +kernel
theorem nm_X11_next : plainName q_X11_next.1.cls = true ∧ zRX 11 = q_X11_next.1.cls ∧ (false = true → q_X11_next.1.name = "<init>") := ⟨by decide +kernel, rfl, fun h => by first | rfl | cases h⟩
set_option maxRecDepth 100000 in
theorem wd_X11_bound : zwd q_X11_bound := ⟨zw_in (p := (8, 106)) (by decide +kernel), zw_in (p := (1, 11)) (by decide +kernel), fun h => absurd h (by decide), fun _ => zw_in (p := (8, 104)) (by decide +kernel), fun _ => zw_in (p := (8, 105)) (by decide +kernel)⟩
def cal_X11_bound : List zCal := [q_X11_gaps, q_X11_fits, q_X11_bits, q_X11_at, q_X11_size, q_X11_next, q_X11_tries, q_X11_greatestOf, q_X11_rounded, q_X11_below, q_X11_isFinite]
def b_X11_bound_238 : List zE := (238, .lreturn, []) :: []
def p_X11_bound_238 : List (List (Nat × Nat)) := [] :: []
def b_X11_bound_232 : List zE := (232, .ldc2_w 457, [13830554455654793216, 0]) :: (235, .invokestatic 158, [2, 1]) :: (238, .nop, [0]) :: []
def p_X11_bound_232 : List (List (Nat × Nat)) := [(8, 107)] :: [(6, 227)] :: [] :: []
def b_X11_bound_206 : List zE := (206, .dload 13, []) :: (208, .dload 11, []) :: (210, .ddiv, []) :: (211, .invokestatic 459, [5, 1]) :: (214, .dstore 15, []) :: (216, .dload 15, []) :: (218, .invokestatic 277, [10, 1]) :: (221, .ifCond .eq 11, [232, 0]) :: (224, .dload 15, []) :: (226, .invokestatic 158, [2, 1]) :: (229, .goto 9, [238, 0]) :: []
def p_X11_bound_206 : List (List (Nat × Nat)) := [] :: [] :: [] :: [(8, 108)] :: [] :: [] :: [(7, 36)] :: [] :: [] :: [(6, 227)] :: [] :: []
def b_X11_bound_181 : List zE := (181, .dload 7, []) :: (183, .dload 9, []) :: (185, .dmul, []) :: (186, .invokestatic 459, [5, 1]) :: (189, .dstore 13, []) :: (191, .dload 13, []) :: (193, .invokestatic 277, [10, 1]) :: (196, .ifCond .ne 10, [206, 0]) :: (199, .ldc2_w 457, [13830554455654793216, 0]) :: (202, .invokestatic 158, [2, 1]) :: (205, .lreturn, []) :: []
def p_X11_bound_181 : List (List (Nat × Nat)) := [] :: [] :: [] :: [(8, 108)] :: [] :: [] :: [(7, 36)] :: [] :: [(8, 107)] :: [(6, 227)] :: [] :: []
def b_X11_bound_174 : List zE := (174, .ldc2_w 457, [13830554455654793216, 0]) :: (177, .invokestatic 158, [2, 1]) :: (180, .lreturn, []) :: []
def p_X11_bound_174 : List (List (Nat × Nat)) := [(8, 107)] :: [(6, 227)] :: [] :: []
def b_X11_bound_127 : List zE := (127, .aload_n 0, []) :: (128, .iload_n 3, []) :: (129, .invokevirtual 352, [6, 1, 11]) :: (132, .aload_n 0, []) :: (133, .iload_n 2, []) :: (134, .iload 4, []) :: (136, .invokevirtual 359, [7, 2, 11]) :: (139, .aload_n 0, []) :: (140, .getfield 91, [11, 29]) :: (143, .iconst 1, [1]) :: (144, .invokestatic 214, [8, 2]) :: (147, .dstore 9, []) :: (149, .dconst 1, [4607182418800017408]) :: (150, .dload 5, []) :: (152, .dsub, []) :: (153, .invokestatic 462, [9, 1]) :: (156, .dstore 11, []) :: (158, .dload 7, []) :: (160, .invokestatic 277, [10, 1]) :: (163, .ifCond .eq 11, [174, 0]) :: (166, .dload 9, []) :: (168, .invokestatic 277, [10, 1]) :: (171, .ifCond .ne 10, [181, 0]) :: (174, .nop, [0]) :: []
def p_X11_bound_127 : List (List (Nat × Nat)) := [] :: [] :: [(7, 209)] :: [] :: [] :: [] :: [(7, 221)] :: [] :: [(6, 20)] :: [] :: [(7, 75)] :: [] :: [] :: [] :: [] :: [(8, 114)] :: [] :: [] :: [(7, 36)] :: [] :: [] :: [(7, 36)] :: [] :: [] :: []
def b_X11_bound_121 : List zE := (121, .iinc 9 1, [1]) :: (124, .goto (-74), [50, 1]) :: []
def p_X11_bound_121 : List (List (Nat × Nat)) := [] :: [] :: []
def b_X11_bound_109 : List zE := (109, .dload 10, []) :: (111, .dload 7, []) :: (113, .dcmp .l, []) :: (114, .ifCond .le 7, [121, 0]) :: (117, .dload 10, []) :: (119, .dstore 7, []) :: (121, .nop, [0]) :: []
def p_X11_bound_109 : List (List (Nat × Nat)) := [] :: [] :: [] :: [] :: [] :: [] :: [] :: []
def b_X11_bound_67 : List zE := (67, .iload 12, []) :: (69, .aload_n 0, []) :: (70, .getfield 34, [11, 8]) :: (73, .iload_n 1, []) :: (74, .iaload, []) :: (75, .if_icmp .ge 34, [109, 0]) :: (78, .dload 10, []) :: (80, .aload_n 0, []) :: (81, .getfield 19, [11, 4]) :: (84, .aload_n 0, []) :: (85, .iload_n 1, []) :: (86, .iload 9, []) :: (88, .iload 12, []) :: (90, .invokevirtual 261, [3, 3, 11]) :: (93, .daload, []) :: (94, .invokestatic 289, [4, 1]) :: (97, .dadd, []) :: (98, .invokestatic 459, [5, 1]) :: (101, .dstore 10, []) :: (103, .iinc 12 1, [1]) :: (106, .goto (-39), [67, 1]) :: []
def p_X11_bound_67 : List (List (Nat × Nat)) := [] :: [] :: [(5, 239)] :: [] :: [] :: [] :: [] :: [] :: [(5, 235)] :: [] :: [] :: [] :: [] :: [(6, 215)] :: [] :: [(7, 12)] :: [] :: [(8, 108)] :: [] :: [] :: [] :: []
def b_X11_bound_50 : List zE := (50, .iload 9, []) :: (52, .aload_n 0, []) :: (53, .getfield 31, [11, 7]) :: (56, .iload_n 1, []) :: (57, .iaload, []) :: (58, .if_icmp .ge 69, [127, 0]) :: (61, .dconst 0, [0]) :: (62, .dstore 10, []) :: (64, .iconst 0, [0]) :: (65, .istore 12, []) :: (67, .nop, []) :: []
def p_X11_bound_50 : List (List (Nat × Nat)) := [] :: [] :: [(5, 238)] :: [] :: [] :: [] :: [] :: [] :: [] :: [] :: [] :: []
def b_X11_bound_44 : List zE := (44, .dconst 0, [0]) :: (45, .dstore 7, []) :: (47, .iconst 0, [0]) :: (48, .istore 9, []) :: (50, .nop, []) :: []
def p_X11_bound_44 : List (List (Nat × Nat)) := [] :: [] :: [] :: [] :: [] :: []
def b_X11_bound_24 : List zE := (24, .aload_n 0, []) :: (25, .getfield 451, [11, 47]) :: (28, .dstore 5, []) :: (30, .dload 5, []) :: (32, .dconst 1, [4607182418800017408]) :: (33, .dcmp .l, []) :: (34, .ifCond .lt 10, [44, 0]) :: (37, .ldc2_w 457, [13830554455654793216, 0]) :: (40, .invokestatic 158, [2, 1]) :: (43, .lreturn, []) :: []
def p_X11_bound_24 : List (List (Nat × Nat)) := [] :: [(6, 38)] :: [] :: [] :: [] :: [] :: [] :: [(8, 107)] :: [(6, 227)] :: [] :: []
def b_X11_bound_20 : List zE := (20, .ldc2_w 269, [18446744073709551615]) :: (23, .lreturn, []) :: []
def p_X11_bound_20 : List (List (Nat × Nat)) := [(7, 0)] :: [] :: []
def b_X11_bound_0 : List zE := (0, .aload_n 0, []) :: (1, .iload_n 1, []) :: (2, .iload_n 2, []) :: (3, .invokevirtual 454, [0, 2, 11]) :: (6, .ifCond .eq 14, [20, 0]) :: (9, .aload_n 0, []) :: (10, .iload_n 2, []) :: (11, .iload_n 3, []) :: (12, .iload 4, []) :: (14, .invokevirtual 349, [1, 3, 11]) :: (17, .ifCond .ne 7, [24, 0]) :: (20, .nop, [0]) :: []
def p_X11_bound_0 : List (List (Nat × Nat)) := [] :: [] :: [] :: [(8, 99)] :: [] :: [] :: [] :: [] :: [] :: [(7, 205)] :: [] :: [] :: []
def bl_X11_bound : List (Nat × List zE) := [(0, b_X11_bound_0), (20, b_X11_bound_20), (24, b_X11_bound_24), (44, b_X11_bound_44), (50, b_X11_bound_50), (67, b_X11_bound_67), (109, b_X11_bound_109), (121, b_X11_bound_121), (127, b_X11_bound_127), (174, b_X11_bound_174), (181, b_X11_bound_181), (206, b_X11_bound_206), (232, b_X11_bound_232), (238, b_X11_bound_238)]
def pl_X11_bound : List (List (List (Nat × Nat))) := [p_X11_bound_0, p_X11_bound_20, p_X11_bound_24, p_X11_bound_44, p_X11_bound_50, p_X11_bound_67, p_X11_bound_109, p_X11_bound_121, p_X11_bound_127, p_X11_bound_174, p_X11_bound_181, p_X11_bound_206, p_X11_bound_232, p_X11_bound_238]
theorem k_X11_bound_0 : zlk 0 bl_X11_bound = b_X11_bound_0 := rfl
theorem k_X11_bound_20 : zlk 20 bl_X11_bound = b_X11_bound_20 := rfl
theorem k_X11_bound_24 : zlk 24 bl_X11_bound = b_X11_bound_24 := rfl
theorem k_X11_bound_44 : zlk 44 bl_X11_bound = b_X11_bound_44 := rfl
theorem k_X11_bound_50 : zlk 50 bl_X11_bound = b_X11_bound_50 := rfl
theorem k_X11_bound_67 : zlk 67 bl_X11_bound = b_X11_bound_67 := rfl
theorem k_X11_bound_109 : zlk 109 bl_X11_bound = b_X11_bound_109 := rfl
theorem k_X11_bound_121 : zlk 121 bl_X11_bound = b_X11_bound_121 := rfl
theorem k_X11_bound_127 : zlk 127 bl_X11_bound = b_X11_bound_127 := rfl
theorem k_X11_bound_174 : zlk 174 bl_X11_bound = b_X11_bound_174 := rfl
theorem k_X11_bound_181 : zlk 181 bl_X11_bound = b_X11_bound_181 := rfl
theorem k_X11_bound_206 : zlk 206 bl_X11_bound = b_X11_bound_206 := rfl
theorem k_X11_bound_232 : zlk 232 bl_X11_bound = b_X11_bound_232 := rfl
theorem k_X11_bound_238 : zlk 238 bl_X11_bound = b_X11_bound_238 := rfl
set_option maxRecDepth 100000 in
theorem ck_X11_bound : zall q_X11_bound.2.2.2.2.1 q_X11_bound.2.1 11 false q_X11_bound.2.2.1 cal_X11_bound q_X11_bound.2.2.2.1 bl_X11_bound pl_X11_bound = true := by decide +kernel
theorem nm_X11_bound : plainName q_X11_bound.1.cls = true ∧ zRX 11 = q_X11_bound.1.cls ∧ (false = true → q_X11_bound.1.name = "<init>") := ⟨by decide +kernel, rfl, fun h => by first | rfl | cases h⟩
set_option maxRecDepth 100000 in
theorem wd_X11_neighbours : zwd q_X11_neighbours := ⟨zw_in (p := (8, 128)) (by decide +kernel), zw_in (p := (1, 11)) (by decide +kernel), fun h => absurd h (by decide), fun _ => zw_in (p := (8, 127)) (by decide +kernel), fun _ => zw_in (p := (0, 103)) (by decide +kernel)⟩
def cal_X11_neighbours : List zCal := []
def b_X11_neighbours_41 : List zE := (41, .iload_n 3, []) :: (42, .ireturn, []) :: []
def p_X11_neighbours_41 : List (List (Nat × Nat)) := [] :: [] :: []
def b_X11_neighbours_35 : List zE := (35, .iinc 4 1, [1]) :: (38, .goto (-33), [5, 1]) :: []
def p_X11_neighbours_35 : List (List (Nat × Nat)) := [] :: [] :: []
def b_X11_neighbours_5 : List zE := (5, .iload 4, []) :: (7, .iload_n 2, []) :: (8, .if_icmp .ge 33, [41, 0]) :: (11, .iload 4, []) :: (13, .iload_n 1, []) :: (14, .if_icmp .eq 21, [35, 0]) :: (17, .aload_n 0, []) :: (18, .getfield 139, [11, 52]) :: (21, .bipush 8, [8]) :: (23, .iload_n 1, []) :: (24, .imul, []) :: (25, .iload 4, []) :: (27, .iadd, []) :: (28, .baload, []) :: (29, .ifCond .eq 6, [35, 0]) :: (32, .iinc 3 1, [1]) :: (35, .nop, [0]) :: []
def p_X11_neighbours_5 : List (List (Nat × Nat)) := [] :: [] :: [] :: [] :: [] :: [] :: [] :: [(6, 43)] :: [] :: [] :: [] :: [] :: [] :: [] :: [] :: [] :: [] :: []
def b_X11_neighbours_0 : List zE := (0, .iconst 0, [0]) :: (1, .istore_n 3, []) :: (2, .iconst 0, [0]) :: (3, .istore 4, []) :: (5, .nop, []) :: []
def p_X11_neighbours_0 : List (List (Nat × Nat)) := [] :: [] :: [] :: [] :: [] :: []
def bl_X11_neighbours : List (Nat × List zE) := [(0, b_X11_neighbours_0), (5, b_X11_neighbours_5), (35, b_X11_neighbours_35), (41, b_X11_neighbours_41)]
def pl_X11_neighbours : List (List (List (Nat × Nat))) := [p_X11_neighbours_0, p_X11_neighbours_5, p_X11_neighbours_35, p_X11_neighbours_41]
theorem k_X11_neighbours_0 : zlk 0 bl_X11_neighbours = b_X11_neighbours_0 := rfl
theorem k_X11_neighbours_5 : zlk 5 bl_X11_neighbours = b_X11_neighbours_5 := rfl
theorem k_X11_neighbours_35 : zlk 35 bl_X11_neighbours = b_X11_neighbours_35 := rfl
theorem k_X11_neighbours_41 : zlk 41 bl_X11_neighbours = b_X11_neighbours_41 := rfl
set_option maxRecDepth 100000 in
theorem ck_X11_neighbours : zall q_X11_neighbours.2.2.2.2.1 q_X11_neighbours.2.1 11 false q_X11_neighbours.2.2.1 cal_X11_neighbours q_X11_neighbours.2.2.2.1 bl_X11_neighbours pl_X11_neighbours = true := by decide +kernel
theorem nm_X11_neighbours : plainName q_X11_neighbours.1.cls = true ∧ zRX 11 = q_X11_neighbours.1.cls ∧ (false = true → q_X11_neighbours.1.name = "<init>") := ⟨by decide +kernel, rfl, fun h => by first | rfl | cases h⟩
set_option maxRecDepth 100000 in
theorem wd_X11_fewest : zwd q_X11_fewest := ⟨zw_in (p := (8, 124)) (by decide +kernel), zw_in (p := (1, 11)) (by decide +kernel), fun h => absurd h (by decide), fun _ => zw_in (p := (8, 123)) (by decide +kernel), fun _ => zw_in (p := (0, 102)) (by decide +kernel)⟩
def cal_X11_fewest : List zCal := [q_X11_neighbours]
def b_X11_fewest_74 : List zE := (74, .iload_n 3, []) :: (75, .ireturn, []) :: []
def p_X11_fewest_74 : List (List (Nat × Nat)) := [] :: [] :: []
def b_X11_fewest_68 : List zE := (68, .iinc 4 1, [1]) :: (71, .goto (-66), [5, 1]) :: []
def p_X11_fewest_68 : List (List (Nat × Nat)) := [] :: [] :: []
def b_X11_fewest_65 : List zE := (65, .iload 4, []) :: (67, .istore_n 3, []) :: (68, .nop, [0]) :: []
def p_X11_fewest_65 : List (List (Nat × Nat)) := [] :: [] :: [] :: []
def b_X11_fewest_44 : List zE := (44, .iload_n 3, []) :: (45, .iconst (-1), [4294967295]) :: (46, .if_icmp .eq 19, [65, 0]) :: (49, .aload_n 0, []) :: (50, .iload 4, []) :: (52, .iload_n 2, []) :: (53, .invokevirtual 468, [0, 2, 11]) :: (56, .aload_n 0, []) :: (57, .iload_n 3, []) :: (58, .iload_n 2, []) :: (59, .invokevirtual 468, [0, 2, 11]) :: (62, .if_icmp .ge 6, [68, 0]) :: (65, .nop, [0]) :: []
def p_X11_fewest_44 : List (List (Nat × Nat)) := [] :: [] :: [] :: [] :: [] :: [] :: [(8, 125)] :: [] :: [] :: [] :: [(8, 125)] :: [] :: [] :: []
def b_X11_fewest_5 : List zE := (5, .iload 4, []) :: (7, .iload_n 2, []) :: (8, .if_icmp .ge 66, [74, 0]) :: (11, .aload_n 0, []) :: (12, .getfield 136, [11, 51]) :: (15, .iload 4, []) :: (17, .baload, []) :: (18, .ifCond .ne 50, [68, 0]) :: (21, .iload_n 1, []) :: (22, .iconst (-1), [4294967295]) :: (23, .if_icmp .eq 21, [44, 0]) :: (26, .aload_n 0, []) :: (27, .getfield 139, [11, 52]) :: (30, .bipush 8, [8]) :: (32, .iload_n 1, []) :: (33, .imul, []) :: (34, .iload 4, []) :: (36, .iadd, []) :: (37, .baload, []) :: (38, .ifCond .ne 6, [44, 0]) :: (41, .goto 27, [68, 0]) :: []
def p_X11_fewest_5 : List (List (Nat × Nat)) := [] :: [] :: [] :: [] :: [(6, 42)] :: [] :: [] :: [] :: [] :: [] :: [] :: [] :: [(6, 43)] :: [] :: [] :: [] :: [] :: [] :: [] :: [] :: [] :: []
def b_X11_fewest_0 : List zE := (0, .iconst (-1), [4294967295]) :: (1, .istore_n 3, []) :: (2, .iconst 0, [0]) :: (3, .istore 4, []) :: (5, .nop, []) :: []
def p_X11_fewest_0 : List (List (Nat × Nat)) := [] :: [] :: [] :: [] :: [] :: []
def bl_X11_fewest : List (Nat × List zE) := [(0, b_X11_fewest_0), (5, b_X11_fewest_5), (44, b_X11_fewest_44), (65, b_X11_fewest_65), (68, b_X11_fewest_68), (74, b_X11_fewest_74)]
def pl_X11_fewest : List (List (List (Nat × Nat))) := [p_X11_fewest_0, p_X11_fewest_5, p_X11_fewest_44, p_X11_fewest_65, p_X11_fewest_68, p_X11_fewest_74]
theorem k_X11_fewest_0 : zlk 0 bl_X11_fewest = b_X11_fewest_0 := rfl
theorem k_X11_fewest_5 : zlk 5 bl_X11_fewest = b_X11_fewest_5 := rfl
theorem k_X11_fewest_44 : zlk 44 bl_X11_fewest = b_X11_fewest_44 := rfl
theorem k_X11_fewest_65 : zlk 65 bl_X11_fewest = b_X11_fewest_65 := rfl
theorem k_X11_fewest_68 : zlk 68 bl_X11_fewest = b_X11_fewest_68 := rfl
theorem k_X11_fewest_74 : zlk 74 bl_X11_fewest = b_X11_fewest_74 := rfl
set_option maxRecDepth 100000 in
theorem ck_X11_fewest : zall q_X11_fewest.2.2.2.2.1 q_X11_fewest.2.1 11 false q_X11_fewest.2.2.1 cal_X11_fewest q_X11_fewest.2.2.2.1 bl_X11_fewest pl_X11_fewest = true := by decide +kernel
theorem nm_X11_fewest : plainName q_X11_fewest.1.cls = true ∧ zRX 11 = q_X11_fewest.1.cls ∧ (false = true → q_X11_fewest.1.name = "<init>") := ⟨by decide +kernel, rfl, fun h => by first | rfl | cases h⟩
set_option maxRecDepth 100000 in
theorem wd_X11_reorder : zwd q_X11_reorder := ⟨zw_in (p := (8, 120)) (by decide +kernel), zw_in (p := (1, 11)) (by decide +kernel), fun h => absurd h (by decide), fun _ => zw_in (p := (8, 118)) (by decide +kernel), fun _ => zw_in (p := (8, 119)) (by decide +kernel)⟩
def cal_X11_reorder : List zCal := [q_X11_free, q_X11_isMatrix, q_X11_at, q_X11_fewest, q_X11_widthOf, q_X11_worked]
def b_X11_reorder_468 : List zE := (468, .aload_n 0, []) :: (469, .iload_n 3, []) :: (470, .iload_n 3, []) :: (471, .invokevirtual 281, [5, 2, 11]) :: (474, .ireturn, []) :: []
def p_X11_reorder_468 : List (List (Nat × Nat)) := [] :: [] :: [] :: [(7, 32)] :: [] :: []
def b_X11_reorder_462 : List zE := (462, .iinc 8 1, [1]) :: (465, .goto (-61), [404, 1]) :: []
def p_X11_reorder_462 : List (List (Nat × Nat)) := [] :: [] :: []
def b_X11_reorder_413 : List zE := (413, .iload 9, []) :: (415, .iload_n 3, []) :: (416, .if_icmp .ge 46, [462, 0]) :: (419, .aload_n 0, []) :: (420, .getfield 43, [11, 11]) :: (423, .bipush 8, [8]) :: (425, .iload 8, []) :: (427, .imul, []) :: (428, .iload 9, []) :: (430, .iadd, []) :: (431, .aload_n 0, []) :: (432, .getfield 19, [11, 4]) :: (435, .aload_n 0, []) :: (436, .iload_n 1, []) :: (437, .aload_n 0, []) :: (438, .getfield 133, [11, 49]) :: (441, .iload 8, []) :: (443, .iaload, []) :: (444, .aload_n 0, []) :: (445, .getfield 133, [11, 49]) :: (448, .iload 9, []) :: (450, .iaload, []) :: (451, .invokevirtual 261, [2, 3, 11]) :: (454, .daload, []) :: (455, .dastore, []) :: (456, .iinc 9 1, [1]) :: (459, .goto (-46), [413, 1]) :: []
def p_X11_reorder_413 : List (List (Nat × Nat)) := [] :: [] :: [] :: [] :: [(6, 2)] :: [] :: [] :: [] :: [] :: [] :: [] :: [(5, 235)] :: [] :: [] :: [] :: [(6, 40)] :: [] :: [] :: [] :: [(6, 40)] :: [] :: [] :: [(6, 215)] :: [] :: [] :: [] :: [] :: []
def b_X11_reorder_404 : List zE := (404, .iload 8, []) :: (406, .iload_n 3, []) :: (407, .if_icmp .ge 61, [468, 0]) :: (410, .iconst 0, [0]) :: (411, .istore 9, []) :: (413, .nop, []) :: []
def p_X11_reorder_404 : List (List (Nat × Nat)) := [] :: [] :: [] :: [] :: [] :: [] :: []
def b_X11_reorder_396 : List zE := (396, .aload_n 0, []) :: (397, .iload_n 3, []) :: (398, .putfield 474, [11, 50]) :: (401, .iconst 0, [0]) :: (402, .istore 8, []) :: (404, .nop, []) :: []
def p_X11_reorder_396 : List (List (Nat × Nat)) := [] :: [] :: [(6, 41)] :: [] :: [] :: [] :: []
def b_X11_reorder_370 : List zE := (370, .iload 8, []) :: (372, .iload_n 3, []) :: (373, .if_icmp .ge 23, [396, 0]) :: (376, .iload 7, []) :: (378, .ifCond .eq 18, [396, 0]) :: (381, .aload_n 0, []) :: (382, .getfield 133, [11, 49]) :: (385, .iload 8, []) :: (387, .iload 8, []) :: (389, .iastore, []) :: (390, .iinc 8 1, [1]) :: (393, .goto (-23), [370, 1]) :: []
def p_X11_reorder_370 : List (List (Nat × Nat)) := [] :: [] :: [] :: [] :: [] :: [] :: [(6, 40)] :: [] :: [] :: [] :: [] :: [] :: []
def b_X11_reorder_365 : List zE := (365, .istore 7, []) :: (367, .iconst 0, [0]) :: (368, .istore 8, []) :: (370, .nop, []) :: []
def p_X11_reorder_365 : List (List (Nat × Nat)) := [] :: [] :: [] :: [] :: []
def b_X11_reorder_364 : List zE := (364, .iconst 0, [0]) :: (365, .nop, [0]) :: []
def p_X11_reorder_364 : List (List (Nat × Nat)) := [] :: [] :: []
def b_X11_reorder_350 : List zE := (350, .iload 6, []) :: (352, .aload_n 0, []) :: (353, .iload_n 1, []) :: (354, .invokevirtual 274, [4, 1, 11]) :: (357, .if_icmp .le 7, [364, 0]) :: (360, .iconst 1, [1]) :: (361, .goto 4, [365, 0]) :: []
def p_X11_reorder_350 : List (List (Nat × Nat)) := [] :: [] :: [] :: [(7, 24)] :: [] :: [] :: [] :: []
def b_X11_reorder_344 : List zE := (344, .iinc 7 1, [1]) :: (347, .goto (-86), [261, 1]) :: []
def p_X11_reorder_344 : List (List (Nat × Nat)) := [] :: [] :: []
def b_X11_reorder_338 : List zE := (338, .iinc 8 1, [1]) :: (341, .goto (-71), [270, 1]) :: []
def p_X11_reorder_338 : List (List (Nat × Nat)) := [] :: [] :: []
def b_X11_reorder_296 : List zE := (296, .istore 9, []) :: (298, .aload_n 0, []) :: (299, .getfield 19, [11, 4]) :: (302, .aload_n 0, []) :: (303, .iload_n 1, []) :: (304, .aload_n 0, []) :: (305, .getfield 133, [11, 49]) :: (308, .iload 7, []) :: (310, .iaload, []) :: (311, .aload_n 0, []) :: (312, .getfield 133, [11, 49]) :: (315, .iload 8, []) :: (317, .iaload, []) :: (318, .invokevirtual 261, [2, 3, 11]) :: (321, .daload, []) :: (322, .dconst 0, [0]) :: (323, .dcmp .l, []) :: (324, .ifCond .eq 14, [338, 0]) :: (327, .iload 9, []) :: (329, .iload 6, []) :: (331, .if_icmp .le 7, [338, 0]) :: (334, .iload 9, []) :: (336, .istore 6, []) :: (338, .nop, [0]) :: []
def p_X11_reorder_296 : List (List (Nat × Nat)) := [] :: [] :: [(5, 235)] :: [] :: [] :: [] :: [(6, 40)] :: [] :: [] :: [] :: [(6, 40)] :: [] :: [] :: [(6, 215)] :: [] :: [] :: [] :: [] :: [] :: [] :: [] :: [] :: [] :: [] :: []
def b_X11_reorder_291 : List zE := (291, .iload 8, []) :: (293, .iload 7, []) :: (295, .isub, []) :: (296, .nop, [0]) :: []
def p_X11_reorder_291 : List (List (Nat × Nat)) := [] :: [] :: [] :: [] :: []
def b_X11_reorder_270 : List zE := (270, .iload 8, []) :: (272, .iload_n 3, []) :: (273, .if_icmp .ge 71, [344, 0]) :: (276, .iload 7, []) :: (278, .iload 8, []) :: (280, .if_icmp .le 11, [291, 0]) :: (283, .iload 7, []) :: (285, .iload 8, []) :: (287, .isub, []) :: (288, .goto 8, [296, 0]) :: []
def p_X11_reorder_270 : List (List (Nat × Nat)) := [] :: [] :: [] :: [] :: [] :: [] :: [] :: [] :: [] :: [] :: []
def b_X11_reorder_261 : List zE := (261, .iload 7, []) :: (263, .iload_n 3, []) :: (264, .if_icmp .ge 86, [350, 0]) :: (267, .iconst 0, [0]) :: (268, .istore 8, []) :: (270, .nop, []) :: []
def p_X11_reorder_261 : List (List (Nat × Nat)) := [] :: [] :: [] :: [] :: [] :: [] :: []
def b_X11_reorder_255 : List zE := (255, .iconst 0, [0]) :: (256, .istore 6, []) :: (258, .iconst 0, [0]) :: (259, .istore 7, []) :: (261, .nop, []) :: []
def p_X11_reorder_255 : List (List (Nat × Nat)) := [] :: [] :: [] :: [] :: [] :: []
def b_X11_reorder_225 : List zE := (225, .iload 6, []) :: (227, .iload_n 3, []) :: (228, .if_icmp .ge 27, [255, 0]) :: (231, .aload_n 0, []) :: (232, .getfield 133, [11, 49]) :: (235, .iload 6, []) :: (237, .aload_n 0, []) :: (238, .getfield 130, [11, 48]) :: (241, .iload_n 3, []) :: (242, .iconst 1, [1]) :: (243, .isub, []) :: (244, .iload 6, []) :: (246, .isub, []) :: (247, .iaload, []) :: (248, .iastore, []) :: (249, .iinc 6 1, [1]) :: (252, .goto (-27), [225, 1]) :: []
def p_X11_reorder_225 : List (List (Nat × Nat)) := [] :: [] :: [] :: [] :: [(6, 40)] :: [] :: [] :: [(6, 39)] :: [] :: [] :: [] :: [] :: [] :: [] :: [] :: [] :: [] :: []
def b_X11_reorder_222 : List zE := (222, .iconst 0, [0]) :: (223, .istore 6, []) :: (225, .nop, []) :: []
def p_X11_reorder_222 : List (List (Nat × Nat)) := [] :: [] :: [] :: []
def b_X11_reorder_199 : List zE := (199, .aload_n 0, []) :: (200, .getfield 130, [11, 48]) :: (203, .iload 4, []) :: (205, .iload 6, []) :: (207, .iastore, []) :: (208, .aload_n 0, []) :: (209, .getfield 136, [11, 51]) :: (212, .iload 6, []) :: (214, .iconst 1, [1]) :: (215, .bastore, []) :: (216, .iinc 4 1, [1]) :: (219, .goto (-68), [151, 1]) :: []
def p_X11_reorder_199 : List (List (Nat × Nat)) := [] :: [(6, 39)] :: [] :: [] :: [] :: [] :: [(6, 42)] :: [] :: [] :: [] :: [] :: [] :: []
def b_X11_reorder_185 : List zE := (185, .istore 6, []) :: (187, .iload 6, []) :: (189, .iconst (-1), [4294967295]) :: (190, .if_icmp .ne 9, [199, 0]) :: (193, .iinc 5 1, [1]) :: (196, .goto (-45), [151, 1]) :: []
def p_X11_reorder_185 : List (List (Nat × Nat)) := [] :: [] :: [] :: [] :: [] :: [] :: []
def b_X11_reorder_179 : List zE := (179, .aload_n 0, []) :: (180, .iconst (-1), [4294967295]) :: (181, .iload_n 3, []) :: (182, .invokevirtual 471, [3, 2, 11]) :: (185, .nop, [0]) :: []
def p_X11_reorder_179 : List (List (Nat × Nat)) := [] :: [] :: [] :: [(8, 121)] :: [] :: []
def b_X11_reorder_151 : List zE := (151, .iload 4, []) :: (153, .iload_n 3, []) :: (154, .if_icmp .ge 68, [222, 0]) :: (157, .iload 5, []) :: (159, .iload 4, []) :: (161, .if_icmp .ge 18, [179, 0]) :: (164, .aload_n 0, []) :: (165, .aload_n 0, []) :: (166, .getfield 130, [11, 48]) :: (169, .iload 5, []) :: (171, .iaload, []) :: (172, .iload_n 3, []) :: (173, .invokevirtual 471, [3, 2, 11]) :: (176, .goto 9, [185, 0]) :: []
def p_X11_reorder_151 : List (List (Nat × Nat)) := [] :: [] :: [] :: [] :: [] :: [] :: [] :: [] :: [(6, 39)] :: [] :: [] :: [] :: [(8, 121)] :: [] :: []
def b_X11_reorder_145 : List zE := (145, .iconst 0, [0]) :: (146, .istore 4, []) :: (148, .iconst 0, [0]) :: (149, .istore 5, []) :: (151, .nop, []) :: []
def p_X11_reorder_145 : List (List (Nat × Nat)) := [] :: [] :: [] :: [] :: [] :: []
def b_X11_reorder_139 : List zE := (139, .iinc 4 1, [1]) :: (142, .goto (-97), [45, 1]) :: []
def p_X11_reorder_139 : List (List (Nat × Nat)) := [] :: [] :: []
def b_X11_reorder_132 : List zE := (132, .bastore, []) :: (133, .iinc 5 1, [1]) :: (136, .goto (-73), [63, 1]) :: []
def p_X11_reorder_132 : List (List (Nat × Nat)) := [] :: [] :: [] :: []
def b_X11_reorder_131 : List zE := (131, .iconst 0, [0]) :: (132, .nop, [0]) :: []
def p_X11_reorder_131 : List (List (Nat × Nat)) := [] :: [] :: []
def b_X11_reorder_127 : List zE := (127, .iconst 1, [1]) :: (128, .goto 4, [132, 0]) :: []
def p_X11_reorder_127 : List (List (Nat × Nat)) := [] :: [] :: []
def b_X11_reorder_63 : List zE := (63, .iload 5, []) :: (65, .bipush 8, [8]) :: (67, .if_icmp .ge 72, [139, 0]) :: (70, .aload_n 0, []) :: (71, .getfield 139, [11, 52]) :: (74, .bipush 8, [8]) :: (76, .iload 4, []) :: (78, .imul, []) :: (79, .iload 5, []) :: (81, .iadd, []) :: (82, .iload 4, []) :: (84, .iload 5, []) :: (86, .if_icmp .eq 45, [131, 0]) :: (89, .aload_n 0, []) :: (90, .getfield 19, [11, 4]) :: (93, .aload_n 0, []) :: (94, .iload_n 1, []) :: (95, .iload 4, []) :: (97, .iload 5, []) :: (99, .invokevirtual 261, [2, 3, 11]) :: (102, .daload, []) :: (103, .dconst 0, [0]) :: (104, .dcmp .l, []) :: (105, .ifCond .ne 22, [127, 0]) :: (108, .aload_n 0, []) :: (109, .getfield 19, [11, 4]) :: (112, .aload_n 0, []) :: (113, .iload_n 1, []) :: (114, .iload 5, []) :: (116, .iload 4, []) :: (118, .invokevirtual 261, [2, 3, 11]) :: (121, .daload, []) :: (122, .dconst 0, [0]) :: (123, .dcmp .l, []) :: (124, .ifCond .eq 7, [131, 0]) :: (127, .nop, [0]) :: []
def p_X11_reorder_63 : List (List (Nat × Nat)) := [] :: [] :: [] :: [] :: [(6, 43)] :: [] :: [] :: [] :: [] :: [] :: [] :: [] :: [] :: [] :: [(5, 235)] :: [] :: [] :: [] :: [] :: [(6, 215)] :: [] :: [] :: [] :: [] :: [] :: [(5, 235)] :: [] :: [] :: [] :: [] :: [(6, 215)] :: [] :: [] :: [] :: [] :: [] :: []
def b_X11_reorder_45 : List zE := (45, .iload 4, []) :: (47, .bipush 8, [8]) :: (49, .if_icmp .ge 96, [145, 0]) :: (52, .aload_n 0, []) :: (53, .getfield 136, [11, 51]) :: (56, .iload 4, []) :: (58, .iconst 0, [0]) :: (59, .bastore, []) :: (60, .iconst 0, [0]) :: (61, .istore 5, []) :: (63, .nop, []) :: []
def p_X11_reorder_45 : List (List (Nat × Nat)) := [] :: [] :: [] :: [] :: [(6, 42)] :: [] :: [] :: [] :: [] :: [] :: [] :: []
def b_X11_reorder_35 : List zE := (35, .aload_n 0, []) :: (36, .getfield 31, [11, 7]) :: (39, .iload_n 1, []) :: (40, .iaload, []) :: (41, .istore_n 3, []) :: (42, .iconst 0, [0]) :: (43, .istore 4, []) :: (45, .nop, []) :: []
def p_X11_reorder_35 : List (List (Nat × Nat)) := [] :: [(5, 238)] :: [] :: [] :: [] :: [] :: [] :: [] :: []
def b_X11_reorder_33 : List zE := (33, .iconst (-1), [4294967295]) :: (34, .ireturn, []) :: []
def p_X11_reorder_33 : List (List (Nat × Nat)) := [] :: [] :: []
def b_X11_reorder_0 : List zE := (0, .aload_n 0, []) :: (1, .invokevirtual 231, [0, 0, 11]) :: (4, .istore_n 2, []) :: (5, .aload_n 0, []) :: (6, .iload_n 1, []) :: (7, .invokevirtual 243, [1, 1, 11]) :: (10, .ifCond .eq 23, [33, 0]) :: (13, .aload_n 0, []) :: (14, .getfield 31, [11, 7]) :: (17, .iload_n 1, []) :: (18, .iaload, []) :: (19, .aload_n 0, []) :: (20, .getfield 34, [11, 8]) :: (23, .iload_n 1, []) :: (24, .iaload, []) :: (25, .if_icmp .ne 8, [33, 0]) :: (28, .iload_n 2, []) :: (29, .iconst (-1), [4294967295]) :: (30, .if_icmp .ne 5, [35, 0]) :: (33, .nop, [0]) :: []
def p_X11_reorder_0 : List (List (Nat × Nat)) := [] :: [(6, 171)] :: [] :: [] :: [] :: [(6, 186)] :: [] :: [] :: [(5, 238)] :: [] :: [] :: [] :: [(5, 239)] :: [] :: [] :: [] :: [] :: [] :: [] :: [] :: []
def bl_X11_reorder : List (Nat × List zE) := [(0, b_X11_reorder_0), (33, b_X11_reorder_33), (35, b_X11_reorder_35), (45, b_X11_reorder_45), (63, b_X11_reorder_63), (127, b_X11_reorder_127), (131, b_X11_reorder_131), (132, b_X11_reorder_132), (139, b_X11_reorder_139), (145, b_X11_reorder_145), (151, b_X11_reorder_151), (179, b_X11_reorder_179), (185, b_X11_reorder_185), (199, b_X11_reorder_199), (222, b_X11_reorder_222), (225, b_X11_reorder_225), (255, b_X11_reorder_255), (261, b_X11_reorder_261), (270, b_X11_reorder_270), (291, b_X11_reorder_291), (296, b_X11_reorder_296), (338, b_X11_reorder_338), (344, b_X11_reorder_344), (350, b_X11_reorder_350), (364, b_X11_reorder_364), (365, b_X11_reorder_365), (370, b_X11_reorder_370), (396, b_X11_reorder_396), (404, b_X11_reorder_404), (413, b_X11_reorder_413), (462, b_X11_reorder_462), (468, b_X11_reorder_468)]
def pl_X11_reorder : List (List (List (Nat × Nat))) := [p_X11_reorder_0, p_X11_reorder_33, p_X11_reorder_35, p_X11_reorder_45, p_X11_reorder_63, p_X11_reorder_127, p_X11_reorder_131, p_X11_reorder_132, p_X11_reorder_139, p_X11_reorder_145, p_X11_reorder_151, p_X11_reorder_179, p_X11_reorder_185, p_X11_reorder_199, p_X11_reorder_222, p_X11_reorder_225, p_X11_reorder_255, p_X11_reorder_261, p_X11_reorder_270, p_X11_reorder_291, p_X11_reorder_296, p_X11_reorder_338, p_X11_reorder_344, p_X11_reorder_350, p_X11_reorder_364, p_X11_reorder_365, p_X11_reorder_370, p_X11_reorder_396, p_X11_reorder_404, p_X11_reorder_413, p_X11_reorder_462, p_X11_reorder_468]
theorem k_X11_reorder_0 : zlk 0 bl_X11_reorder = b_X11_reorder_0 := rfl
theorem k_X11_reorder_33 : zlk 33 bl_X11_reorder = b_X11_reorder_33 := rfl
theorem k_X11_reorder_35 : zlk 35 bl_X11_reorder = b_X11_reorder_35 := rfl
theorem k_X11_reorder_45 : zlk 45 bl_X11_reorder = b_X11_reorder_45 := rfl
theorem k_X11_reorder_63 : zlk 63 bl_X11_reorder = b_X11_reorder_63 := rfl
theorem k_X11_reorder_127 : zlk 127 bl_X11_reorder = b_X11_reorder_127 := rfl
theorem k_X11_reorder_131 : zlk 131 bl_X11_reorder = b_X11_reorder_131 := rfl
theorem k_X11_reorder_132 : zlk 132 bl_X11_reorder = b_X11_reorder_132 := rfl
theorem k_X11_reorder_139 : zlk 139 bl_X11_reorder = b_X11_reorder_139 := rfl
theorem k_X11_reorder_145 : zlk 145 bl_X11_reorder = b_X11_reorder_145 := rfl
theorem k_X11_reorder_151 : zlk 151 bl_X11_reorder = b_X11_reorder_151 := rfl
theorem k_X11_reorder_179 : zlk 179 bl_X11_reorder = b_X11_reorder_179 := rfl
theorem k_X11_reorder_185 : zlk 185 bl_X11_reorder = b_X11_reorder_185 := rfl
theorem k_X11_reorder_199 : zlk 199 bl_X11_reorder = b_X11_reorder_199 := rfl
theorem k_X11_reorder_222 : zlk 222 bl_X11_reorder = b_X11_reorder_222 := rfl
theorem k_X11_reorder_225 : zlk 225 bl_X11_reorder = b_X11_reorder_225 := rfl
theorem k_X11_reorder_255 : zlk 255 bl_X11_reorder = b_X11_reorder_255 := rfl
theorem k_X11_reorder_261 : zlk 261 bl_X11_reorder = b_X11_reorder_261 := rfl
theorem k_X11_reorder_270 : zlk 270 bl_X11_reorder = b_X11_reorder_270 := rfl
theorem k_X11_reorder_291 : zlk 291 bl_X11_reorder = b_X11_reorder_291 := rfl
theorem k_X11_reorder_296 : zlk 296 bl_X11_reorder = b_X11_reorder_296 := rfl
theorem k_X11_reorder_338 : zlk 338 bl_X11_reorder = b_X11_reorder_338 := rfl
theorem k_X11_reorder_344 : zlk 344 bl_X11_reorder = b_X11_reorder_344 := rfl
theorem k_X11_reorder_350 : zlk 350 bl_X11_reorder = b_X11_reorder_350 := rfl
theorem k_X11_reorder_364 : zlk 364 bl_X11_reorder = b_X11_reorder_364 := rfl
theorem k_X11_reorder_365 : zlk 365 bl_X11_reorder = b_X11_reorder_365 := rfl
theorem k_X11_reorder_370 : zlk 370 bl_X11_reorder = b_X11_reorder_370 := rfl
theorem k_X11_reorder_396 : zlk 396 bl_X11_reorder = b_X11_reorder_396 := rfl
theorem k_X11_reorder_404 : zlk 404 bl_X11_reorder = b_X11_reorder_404 := rfl
theorem k_X11_reorder_413 : zlk 413 bl_X11_reorder = b_X11_reorder_413 := rfl
theorem k_X11_reorder_462 : zlk 462 bl_X11_reorder = b_X11_reorder_462 := rfl
theorem k_X11_reorder_468 : zlk 468 bl_X11_reorder = b_X11_reorder_468 := rfl
set_option maxRecDepth 100000 in
theorem ck_X11_reorder : zall q_X11_reorder.2.2.2.2.1 q_X11_reorder.2.1 11 false q_X11_reorder.2.2.1 cal_X11_reorder q_X11_reorder.2.2.2.1 bl_X11_reorder pl_X11_reorder = true := by decide +kernel
theorem nm_X11_reorder : plainName q_X11_reorder.1.cls = true ∧ zRX 11 = q_X11_reorder.1.cls ∧ (false = true → q_X11_reorder.1.name = "<init>") := ⟨by decide +kernel, rfl, fun h => by first | rfl | cases h⟩
set_option maxRecDepth 100000 in
theorem wd_X11_place : zwd q_X11_place := ⟨zw_in (p := (8, 132)) (by decide +kernel), zw_in (p := (1, 11)) (by decide +kernel), fun h => absurd h (by decide), fun _ => zw_in (p := (8, 130)) (by decide +kernel), fun _ => zw_in (p := (8, 131)) (by decide +kernel)⟩
def cal_X11_place : List zCal := []
def b_X11_place_22 : List zE := (22, .ireturn, []) :: []
def p_X11_place_22 : List (List (Nat × Nat)) := [] :: []
def b_X11_place_21 : List zE := (21, .iconst (-1), [4294967295]) :: (22, .nop, [0]) :: []
def p_X11_place_21 : List (List (Nat × Nat)) := [] :: [] :: []
def b_X11_place_0 : List zE := (0, .iload_n 1, []) :: (1, .ifCond .lt 20, [21, 0]) :: (4, .iload_n 1, []) :: (5, .aload_n 0, []) :: (6, .getfield 474, [11, 50]) :: (9, .if_icmp .ge 12, [21, 0]) :: (12, .aload_n 0, []) :: (13, .getfield 133, [11, 49]) :: (16, .iload_n 1, []) :: (17, .iaload, []) :: (18, .goto 4, [22, 0]) :: []
def p_X11_place_0 : List (List (Nat × Nat)) := [] :: [] :: [] :: [] :: [(6, 41)] :: [] :: [] :: [(6, 40)] :: [] :: [] :: [] :: []
def bl_X11_place : List (Nat × List zE) := [(0, b_X11_place_0), (21, b_X11_place_21), (22, b_X11_place_22)]
def pl_X11_place : List (List (List (Nat × Nat))) := [p_X11_place_0, p_X11_place_21, p_X11_place_22]
theorem k_X11_place_0 : zlk 0 bl_X11_place = b_X11_place_0 := rfl
theorem k_X11_place_21 : zlk 21 bl_X11_place = b_X11_place_21 := rfl
theorem k_X11_place_22 : zlk 22 bl_X11_place = b_X11_place_22 := rfl
set_option maxRecDepth 100000 in
theorem ck_X11_place : zall q_X11_place.2.2.2.2.1 q_X11_place.2.1 11 false q_X11_place.2.2.1 cal_X11_place q_X11_place.2.2.2.1 bl_X11_place pl_X11_place = true := by decide +kernel
theorem nm_X11_place : plainName q_X11_place.1.cls = true ∧ zRX 11 = q_X11_place.1.cls ∧ (false = true → q_X11_place.1.name = "<init>") := ⟨by decide +kernel, rfl, fun h => by first | rfl | cases h⟩
set_option maxRecDepth 100000 in
theorem wd_X11_pack0 : zwd q_X11_pack0 := ⟨zw_in (p := (8, 140)) (by decide +kernel), zw_in (p := (1, 11)) (by decide +kernel), fun h => absurd h (by decide), fun _ => zw_in (p := (8, 139)) (by decide +kernel), fun _ => zw_in (p := (0, 104)) (by decide +kernel)⟩
def cal_X11_pack0 : List zCal := []
def b_X11_pack0_0 : List zE := (0, .aload_n 0, []) :: (1, .getfield 142, [11, 53]) :: (4, .aload_n 0, []) :: (5, .getfield 477, [11, 54]) :: (8, .iload_n 1, []) :: (9, .sipush 255, [255]) :: (12, .iand, []) :: (13, .iastore, []) :: (14, .aload_n 0, []) :: (15, .dup, []) :: (16, .getfield 477, [11, 54]) :: (19, .iconst 1, [1]) :: (20, .iadd, []) :: (21, .putfield 477, [11, 54]) :: (24, .return_, []) :: []
def p_X11_pack0_0 : List (List (Nat × Nat)) := [] :: [(6, 44)] :: [] :: [(6, 45)] :: [] :: [] :: [] :: [] :: [] :: [] :: [(6, 45)] :: [] :: [] :: [(6, 45)] :: [] :: []
def bl_X11_pack0 : List (Nat × List zE) := [(0, b_X11_pack0_0)]
def pl_X11_pack0 : List (List (List (Nat × Nat))) := [p_X11_pack0_0]
theorem k_X11_pack0_0 : zlk 0 bl_X11_pack0 = b_X11_pack0_0 := rfl
set_option maxRecDepth 100000 in
theorem ck_X11_pack0 : zall q_X11_pack0.2.2.2.2.1 q_X11_pack0.2.1 11 false q_X11_pack0.2.2.1 cal_X11_pack0 q_X11_pack0.2.2.2.1 bl_X11_pack0 pl_X11_pack0 = true := by decide +kernel
theorem nm_X11_pack0 : plainName q_X11_pack0.1.cls = true ∧ zRX 11 = q_X11_pack0.1.cls ∧ (false = true → q_X11_pack0.1.name = "<init>") := ⟨by decide +kernel, rfl, fun h => by first | rfl | cases h⟩
set_option maxRecDepth 100000 in
theorem wd_X11_check : zwd q_X11_check := ⟨zw_in (p := (8, 147)) (by decide +kernel), zw_in (p := (1, 11)) (by decide +kernel), fun _ => zw_in (p := (8, 146)) (by decide +kernel), fun h => absurd rfl h, fun h => absurd h (by decide)⟩
def cal_X11_check : List zCal := []
def b_X11_check_28 : List zE := (28, .iload_n 2, []) :: (29, .ireturn, []) :: []
def p_X11_check_28 : List (List (Nat × Nat)) := [] :: [] :: []
def b_X11_check_4 : List zE := (4, .iload_n 3, []) :: (5, .iload_n 1, []) :: (6, .if_icmp .ge 22, [28, 0]) :: (9, .bipush 31, [31]) :: (11, .iload_n 2, []) :: (12, .imul, []) :: (13, .aload_n 0, []) :: (14, .iload_n 3, []) :: (15, .iaload, []) :: (16, .iadd, []) :: (17, .ldc_w 480, [65521]) :: (20, .irem, []) :: (21, .istore_n 2, []) :: (22, .iinc 3 1, [1]) :: (25, .goto (-21), [4, 1]) :: []
def p_X11_check_4 : List (List (Nat × Nat)) := [] :: [] :: [] :: [] :: [] :: [] :: [] :: [] :: [] :: [] :: [(8, 148)] :: [] :: [] :: [] :: [] :: []
def b_X11_check_0 : List zE := (0, .iconst 1, [1]) :: (1, .istore_n 2, []) :: (2, .iconst 0, [0]) :: (3, .istore_n 3, []) :: (4, .nop, []) :: []
def p_X11_check_0 : List (List (Nat × Nat)) := [] :: [] :: [] :: [] :: [] :: []
def bl_X11_check : List (Nat × List zE) := [(0, b_X11_check_0), (4, b_X11_check_4), (28, b_X11_check_28)]
def pl_X11_check : List (List (List (Nat × Nat))) := [p_X11_check_0, p_X11_check_4, p_X11_check_28]
theorem k_X11_check_0 : zlk 0 bl_X11_check = b_X11_check_0 := rfl
theorem k_X11_check_4 : zlk 4 bl_X11_check = b_X11_check_4 := rfl
theorem k_X11_check_28 : zlk 28 bl_X11_check = b_X11_check_28 := rfl
set_option maxRecDepth 100000 in
theorem ck_X11_check : zall q_X11_check.2.2.2.2.1 q_X11_check.2.1 11 false q_X11_check.2.2.1 cal_X11_check q_X11_check.2.2.2.1 bl_X11_check pl_X11_check = true := by decide +kernel
theorem nm_X11_check : plainName q_X11_check.1.cls = true ∧ zRX 11 = q_X11_check.1.cls ∧ (false = true → q_X11_check.1.name = "<init>") := ⟨by decide +kernel, rfl, fun h => by first | rfl | cases h⟩
set_option maxRecDepth 100000 in
theorem wd_X11_packNumber : zwd q_X11_packNumber := ⟨zw_in (p := (8, 144)) (by decide +kernel), zw_in (p := (1, 11)) (by decide +kernel), fun h => absurd h (by decide), fun _ => zw_in (p := (8, 143)) (by decide +kernel), fun _ => zw_in (p := (0, 105)) (by decide +kernel)⟩
def cal_X11_packNumber : List zCal := [q_X11_bits, q_X11_pack0]
def b_X11_packNumber_24 : List zE := (24, .return_, []) :: []
def p_X11_packNumber_24 : List (List (Nat × Nat)) := [] :: []
def b_X11_packNumber_3 : List zE := (3, .iload_n 3, []) :: (4, .ifCond .lt 20, [24, 0]) :: (7, .aload_n 0, []) :: (8, .dload_n 1, []) :: (9, .invokestatic 158, [0, 1]) :: (12, .iload_n 3, []) :: (13, .lshr, []) :: (14, .l2i, []) :: (15, .invokevirtual 481, [1, 1, 11]) :: (18, .iinc 3 (-8), [4294967288]) :: (21, .goto (-18), [3, 1]) :: []
def p_X11_packNumber_3 : List (List (Nat × Nat)) := [] :: [] :: [] :: [] :: [(6, 227)] :: [] :: [] :: [] :: [(8, 137)] :: [] :: [] :: []
def b_X11_packNumber_0 : List zE := (0, .bipush 56, [56]) :: (2, .istore_n 3, []) :: (3, .nop, []) :: []
def p_X11_packNumber_0 : List (List (Nat × Nat)) := [] :: [] :: [] :: []
def bl_X11_packNumber : List (Nat × List zE) := [(0, b_X11_packNumber_0), (3, b_X11_packNumber_3), (24, b_X11_packNumber_24)]
def pl_X11_packNumber : List (List (List (Nat × Nat))) := [p_X11_packNumber_0, p_X11_packNumber_3, p_X11_packNumber_24]
theorem k_X11_packNumber_0 : zlk 0 bl_X11_packNumber = b_X11_packNumber_0 := rfl
theorem k_X11_packNumber_3 : zlk 3 bl_X11_packNumber = b_X11_packNumber_3 := rfl
theorem k_X11_packNumber_24 : zlk 24 bl_X11_packNumber = b_X11_packNumber_24 := rfl
set_option maxRecDepth 100000 in
theorem ck_X11_packNumber : zall q_X11_packNumber.2.2.2.2.1 q_X11_packNumber.2.1 11 false q_X11_packNumber.2.2.1 cal_X11_packNumber q_X11_packNumber.2.2.2.1 bl_X11_packNumber pl_X11_packNumber = true := by decide +kernel
theorem nm_X11_packNumber : plainName q_X11_packNumber.1.cls = true ∧ zRX 11 = q_X11_packNumber.1.cls ∧ (false = true → q_X11_packNumber.1.name = "<init>") := ⟨by decide +kernel, rfl, fun h => by first | rfl | cases h⟩
set_option maxRecDepth 100000 in
theorem wd_X11_pack : zwd q_X11_pack := ⟨zw_in (p := (8, 136)) (by decide +kernel), zw_in (p := (1, 11)) (by decide +kernel), fun h => absurd h (by decide), fun _ => zw_in (p := (8, 134)) (by decide +kernel), fun _ => zw_in (p := (8, 135)) (by decide +kernel)⟩
def cal_X11_pack : List zCal := [q_X11_isMatrix, q_X11_pack0, q_X11_filled, q_X11_at, q_X11_isPlace, q_X11_packNumber, q_X11_check]
def b_X11_pack_218 : List zE := (218, .aload_n 0, []) :: (219, .getfield 142, [11, 53]) :: (222, .aload_n 0, []) :: (223, .getfield 477, [11, 54]) :: (226, .invokestatic 488, [6, 2]) :: (229, .istore_n 3, []) :: (230, .aload_n 0, []) :: (231, .iload_n 3, []) :: (232, .sipush 256, [256]) :: (235, .idiv, []) :: (236, .invokevirtual 481, [1, 1, 11]) :: (239, .aload_n 0, []) :: (240, .iload_n 3, []) :: (241, .invokevirtual 481, [1, 1, 11]) :: (244, .aload_n 0, []) :: (245, .getfield 477, [11, 54]) :: (248, .ireturn, []) :: []
def p_X11_pack_218 : List (List (Nat × Nat)) := [] :: [(6, 44)] :: [] :: [(6, 45)] :: [(8, 145)] :: [] :: [] :: [] :: [] :: [] :: [(8, 137)] :: [] :: [] :: [(8, 137)] :: [] :: [(6, 45)] :: [] :: []
def b_X11_pack_212 : List zE := (212, .iinc 3 1, [1]) :: (215, .goto (-113), [102, 1]) :: []
def p_X11_pack_212 : List (List (Nat × Nat)) := [] :: [] :: []
def b_X11_pack_206 : List zE := (206, .iinc 4 1, [1]) :: (209, .goto (-94), [115, 1]) :: []
def p_X11_pack_206 : List (List (Nat × Nat)) := [] :: [] :: []
def b_X11_pack_200 : List zE := (200, .aload_n 0, []) :: (201, .dload 5, []) :: (203, .invokevirtual 484, [5, 1, 11]) :: (206, .nop, [0]) :: []
def p_X11_pack_200 : List (List (Nat × Nat)) := [] :: [] :: [(8, 141)] :: [] :: []
def b_X11_pack_185 : List zE := (185, .iload_n 2, []) :: (186, .ifCond .eq 14, [200, 0]) :: (189, .aload_n 0, []) :: (190, .iload_n 3, []) :: (191, .invokevirtual 481, [1, 1, 11]) :: (194, .aload_n 0, []) :: (195, .iload 4, []) :: (197, .invokevirtual 481, [1, 1, 11]) :: (200, .nop, [0]) :: []
def p_X11_pack_185 : List (List (Nat × Nat)) := [] :: [] :: [] :: [] :: [(8, 137)] :: [] :: [] :: [(8, 137)] :: [] :: []
def b_X11_pack_155 : List zE := (155, .aload_n 0, []) :: (156, .getfield 27, [11, 6]) :: (159, .iload_n 1, []) :: (160, .iaload, []) :: (161, .aload_n 0, []) :: (162, .getfield 37, [11, 9]) :: (165, .iload_n 1, []) :: (166, .iaload, []) :: (167, .aload_n 0, []) :: (168, .getfield 40, [11, 10]) :: (171, .iload_n 1, []) :: (172, .iaload, []) :: (173, .iload_n 3, []) :: (174, .iload 4, []) :: (176, .invokestatic 250, [4, 5]) :: (179, .ifCond .ne 6, [185, 0]) :: (182, .goto 24, [206, 0]) :: []
def p_X11_pack_155 : List (List (Nat × Nat)) := [] :: [(5, 237)] :: [] :: [] :: [] :: [(6, 0)] :: [] :: [] :: [] :: [(6, 1)] :: [] :: [] :: [] :: [] :: [(6, 198)] :: [] :: [] :: []
def b_X11_pack_115 : List zE := (115, .iload 4, []) :: (117, .aload_n 0, []) :: (118, .getfield 34, [11, 8]) :: (121, .iload_n 1, []) :: (122, .iaload, []) :: (123, .if_icmp .ge 89, [212, 0]) :: (126, .aload_n 0, []) :: (127, .getfield 19, [11, 4]) :: (130, .aload_n 0, []) :: (131, .iload_n 1, []) :: (132, .iload_n 3, []) :: (133, .iload 4, []) :: (135, .invokevirtual 261, [3, 3, 11]) :: (138, .daload, []) :: (139, .dstore 5, []) :: (141, .iload_n 2, []) :: (142, .ifCond .eq 13, [155, 0]) :: (145, .dload 5, []) :: (147, .dconst 0, [0]) :: (148, .dcmp .l, []) :: (149, .ifCond .ne 36, [185, 0]) :: (152, .goto 54, [206, 0]) :: []
def p_X11_pack_115 : List (List (Nat × Nat)) := [] :: [] :: [(5, 239)] :: [] :: [] :: [] :: [] :: [(5, 235)] :: [] :: [] :: [] :: [] :: [(6, 215)] :: [] :: [] :: [] :: [] :: [] :: [] :: [] :: [] :: [] :: []
def b_X11_pack_102 : List zE := (102, .iload_n 3, []) :: (103, .aload_n 0, []) :: (104, .getfield 31, [11, 7]) :: (107, .iload_n 1, []) :: (108, .iaload, []) :: (109, .if_icmp .ge 109, [218, 0]) :: (112, .iconst 0, [0]) :: (113, .istore 4, []) :: (115, .nop, []) :: []
def p_X11_pack_102 : List (List (Nat × Nat)) := [] :: [] :: [(5, 238)] :: [] :: [] :: [] :: [] :: [] :: [] :: []
def b_X11_pack_100 : List zE := (100, .iconst 0, [0]) :: (101, .istore_n 3, []) :: (102, .nop, []) :: []
def p_X11_pack_100 : List (List (Nat × Nat)) := [] :: [] :: [] :: []
def b_X11_pack_86 : List zE := (86, .istore_n 2, []) :: (87, .iload_n 2, []) :: (88, .ifCond .eq 12, [100, 0]) :: (91, .aload_n 0, []) :: (92, .aload_n 0, []) :: (93, .iload_n 1, []) :: (94, .invokevirtual 265, [2, 1, 11]) :: (97, .invokevirtual 481, [1, 1, 11]) :: (100, .nop, [0]) :: []
def p_X11_pack_86 : List (List (Nat × Nat)) := [] :: [] :: [] :: [] :: [] :: [] :: [(6, 219)] :: [(8, 137)] :: [] :: []
def b_X11_pack_85 : List zE := (85, .iconst 0, [0]) :: (86, .nop, [0]) :: []
def p_X11_pack_85 : List (List (Nat × Nat)) := [] :: [] :: []
def b_X11_pack_10 : List zE := (10, .aload_n 0, []) :: (11, .iconst 0, [0]) :: (12, .putfield 477, [11, 54]) :: (15, .aload_n 0, []) :: (16, .bipush 77, [77]) :: (18, .invokevirtual 481, [1, 1, 11]) :: (21, .aload_n 0, []) :: (22, .aload_n 0, []) :: (23, .getfield 27, [11, 6]) :: (26, .iload_n 1, []) :: (27, .iaload, []) :: (28, .invokevirtual 481, [1, 1, 11]) :: (31, .aload_n 0, []) :: (32, .aload_n 0, []) :: (33, .getfield 31, [11, 7]) :: (36, .iload_n 1, []) :: (37, .iaload, []) :: (38, .invokevirtual 481, [1, 1, 11]) :: (41, .aload_n 0, []) :: (42, .aload_n 0, []) :: (43, .getfield 34, [11, 8]) :: (46, .iload_n 1, []) :: (47, .iaload, []) :: (48, .invokevirtual 481, [1, 1, 11]) :: (51, .aload_n 0, []) :: (52, .aload_n 0, []) :: (53, .getfield 37, [11, 9]) :: (56, .iload_n 1, []) :: (57, .iaload, []) :: (58, .invokevirtual 481, [1, 1, 11]) :: (61, .aload_n 0, []) :: (62, .aload_n 0, []) :: (63, .getfield 40, [11, 10]) :: (66, .iload_n 1, []) :: (67, .iaload, []) :: (68, .invokevirtual 481, [1, 1, 11]) :: (71, .aload_n 0, []) :: (72, .getfield 27, [11, 6]) :: (75, .iload_n 1, []) :: (76, .iaload, []) :: (77, .iconst 3, [3]) :: (78, .if_icmp .ne 7, [85, 0]) :: (81, .iconst 1, [1]) :: (82, .goto 4, [86, 0]) :: []
def p_X11_pack_10 : List (List (Nat × Nat)) := [] :: [] :: [(6, 45)] :: [] :: [] :: [(8, 137)] :: [] :: [] :: [(5, 237)] :: [] :: [] :: [(8, 137)] :: [] :: [] :: [(5, 238)] :: [] :: [] :: [(8, 137)] :: [] :: [] :: [(5, 239)] :: [] :: [] :: [(8, 137)] :: [] :: [] :: [(6, 0)] :: [] :: [] :: [(8, 137)] :: [] :: [] :: [(6, 1)] :: [] :: [] :: [(8, 137)] :: [] :: [(5, 237)] :: [] :: [] :: [] :: [] :: [] :: [] :: []
def b_X11_pack_0 : List zE := (0, .aload_n 0, []) :: (1, .iload_n 1, []) :: (2, .invokevirtual 243, [0, 1, 11]) :: (5, .ifCond .ne 5, [10, 0]) :: (8, .iconst (-1), [4294967295]) :: (9, .ireturn, []) :: []
def p_X11_pack_0 : List (List (Nat × Nat)) := [] :: [] :: [(6, 186)] :: [] :: [] :: [] :: []
def bl_X11_pack : List (Nat × List zE) := [(0, b_X11_pack_0), (10, b_X11_pack_10), (85, b_X11_pack_85), (86, b_X11_pack_86), (100, b_X11_pack_100), (102, b_X11_pack_102), (115, b_X11_pack_115), (155, b_X11_pack_155), (185, b_X11_pack_185), (200, b_X11_pack_200), (206, b_X11_pack_206), (212, b_X11_pack_212), (218, b_X11_pack_218)]
def pl_X11_pack : List (List (List (Nat × Nat))) := [p_X11_pack_0, p_X11_pack_10, p_X11_pack_85, p_X11_pack_86, p_X11_pack_100, p_X11_pack_102, p_X11_pack_115, p_X11_pack_155, p_X11_pack_185, p_X11_pack_200, p_X11_pack_206, p_X11_pack_212, p_X11_pack_218]
theorem k_X11_pack_0 : zlk 0 bl_X11_pack = b_X11_pack_0 := rfl
theorem k_X11_pack_10 : zlk 10 bl_X11_pack = b_X11_pack_10 := rfl
theorem k_X11_pack_85 : zlk 85 bl_X11_pack = b_X11_pack_85 := rfl
theorem k_X11_pack_86 : zlk 86 bl_X11_pack = b_X11_pack_86 := rfl
theorem k_X11_pack_100 : zlk 100 bl_X11_pack = b_X11_pack_100 := rfl
theorem k_X11_pack_102 : zlk 102 bl_X11_pack = b_X11_pack_102 := rfl
theorem k_X11_pack_115 : zlk 115 bl_X11_pack = b_X11_pack_115 := rfl
theorem k_X11_pack_155 : zlk 155 bl_X11_pack = b_X11_pack_155 := rfl
theorem k_X11_pack_185 : zlk 185 bl_X11_pack = b_X11_pack_185 := rfl
theorem k_X11_pack_200 : zlk 200 bl_X11_pack = b_X11_pack_200 := rfl
theorem k_X11_pack_206 : zlk 206 bl_X11_pack = b_X11_pack_206 := rfl
theorem k_X11_pack_212 : zlk 212 bl_X11_pack = b_X11_pack_212 := rfl
theorem k_X11_pack_218 : zlk 218 bl_X11_pack = b_X11_pack_218 := rfl
set_option maxRecDepth 100000 in
theorem ck_X11_pack : zall q_X11_pack.2.2.2.2.1 q_X11_pack.2.1 11 false q_X11_pack.2.2.1 cal_X11_pack q_X11_pack.2.2.2.1 bl_X11_pack pl_X11_pack = true := by decide +kernel
theorem nm_X11_pack : plainName q_X11_pack.1.cls = true ∧ zRX 11 = q_X11_pack.1.cls ∧ (false = true → q_X11_pack.1.name = "<init>") := ⟨by decide +kernel, rfl, fun h => by first | rfl | cases h⟩
set_option maxRecDepth 100000 in
theorem wd_X11_octet : zwd q_X11_octet := ⟨zw_in (p := (8, 152)) (by decide +kernel), zw_in (p := (1, 11)) (by decide +kernel), fun h => absurd h (by decide), fun _ => zw_in (p := (8, 150)) (by decide +kernel), fun _ => zw_in (p := (8, 151)) (by decide +kernel)⟩
def cal_X11_octet : List zCal := []
def b_X11_octet_22 : List zE := (22, .ireturn, []) :: []
def p_X11_octet_22 : List (List (Nat × Nat)) := [] :: []
def b_X11_octet_21 : List zE := (21, .iconst (-1), [4294967295]) :: (22, .nop, [0]) :: []
def p_X11_octet_21 : List (List (Nat × Nat)) := [] :: [] :: []
def b_X11_octet_0 : List zE := (0, .iload_n 1, []) :: (1, .ifCond .lt 20, [21, 0]) :: (4, .iload_n 1, []) :: (5, .aload_n 0, []) :: (6, .getfield 477, [11, 54]) :: (9, .if_icmp .ge 12, [21, 0]) :: (12, .aload_n 0, []) :: (13, .getfield 142, [11, 53]) :: (16, .iload_n 1, []) :: (17, .iaload, []) :: (18, .goto 4, [22, 0]) :: []
def p_X11_octet_0 : List (List (Nat × Nat)) := [] :: [] :: [] :: [] :: [(6, 45)] :: [] :: [] :: [(6, 44)] :: [] :: [] :: [] :: []
def bl_X11_octet : List (Nat × List zE) := [(0, b_X11_octet_0), (21, b_X11_octet_21), (22, b_X11_octet_22)]
def pl_X11_octet : List (List (List (Nat × Nat))) := [p_X11_octet_0, p_X11_octet_21, p_X11_octet_22]
theorem k_X11_octet_0 : zlk 0 bl_X11_octet = b_X11_octet_0 := rfl
theorem k_X11_octet_21 : zlk 21 bl_X11_octet = b_X11_octet_21 := rfl
theorem k_X11_octet_22 : zlk 22 bl_X11_octet = b_X11_octet_22 := rfl
set_option maxRecDepth 100000 in
theorem ck_X11_octet : zall q_X11_octet.2.2.2.2.1 q_X11_octet.2.1 11 false q_X11_octet.2.2.1 cal_X11_octet q_X11_octet.2.2.2.1 bl_X11_octet pl_X11_octet = true := by decide +kernel
theorem nm_X11_octet : plainName q_X11_octet.1.cls = true ∧ zRX 11 = q_X11_octet.1.cls ∧ (false = true → q_X11_octet.1.name = "<init>") := ⟨by decide +kernel, rfl, fun h => by first | rfl | cases h⟩
set_option maxRecDepth 100000 in
theorem wd_X11_feed : zwd q_X11_feed := ⟨zw_in (p := (8, 156)) (by decide +kernel), zw_in (p := (1, 11)) (by decide +kernel), fun h => absurd h (by decide), fun _ => zw_in (p := (8, 154)) (by decide +kernel), fun _ => zw_in (p := (8, 155)) (by decide +kernel)⟩
def cal_X11_feed : List zCal := []
def b_X11_feed_114 : List zE := (114, .aload_n 0, []) :: (115, .getfield 492, [11, 56]) :: (118, .ireturn, []) :: []
def p_X11_feed_114 : List (List (Nat × Nat)) := [] :: [(6, 47)] :: [] :: []
def b_X11_feed_71 : List zE := (71, .istore 7, []) :: (73, .aload_n 0, []) :: (74, .getfield 145, [11, 55]) :: (77, .aload_n 0, []) :: (78, .getfield 492, [11, 56]) :: (81, .iload 7, []) :: (83, .bipush 8, [8]) :: (85, .iconst 3, [3]) :: (86, .iload 6, []) :: (88, .iconst 4, [4]) :: (89, .irem, []) :: (90, .isub, []) :: (91, .imul, []) :: (92, .ishr, []) :: (93, .sipush 255, [255]) :: (96, .iand, []) :: (97, .iastore, []) :: (98, .aload_n 0, []) :: (99, .dup, []) :: (100, .getfield 492, [11, 56]) :: (103, .iconst 1, [1]) :: (104, .iadd, []) :: (105, .putfield 492, [11, 56]) :: (108, .iinc 6 1, [1]) :: (111, .goto (-93), [18, 1]) :: []
def p_X11_feed_71 : List (List (Nat × Nat)) := [] :: [] :: [(6, 46)] :: [] :: [(6, 47)] :: [] :: [] :: [] :: [] :: [] :: [] :: [] :: [] :: [] :: [] :: [] :: [] :: [] :: [] :: [(6, 47)] :: [] :: [] :: [(6, 47)] :: [] :: [] :: []
def b_X11_feed_69 : List zE := (69, .iload 5, []) :: (71, .nop, [0]) :: []
def p_X11_feed_69 : List (List (Nat × Nat)) := [] :: [] :: []
def b_X11_feed_57 : List zE := (57, .iload 6, []) :: (59, .bipush 16, [16]) :: (61, .if_icmp .ge 8, [69, 0]) :: (64, .iload 4, []) :: (66, .goto 5, [71, 0]) :: []
def p_X11_feed_57 : List (List (Nat × Nat)) := [] :: [] :: [] :: [] :: [] :: []
def b_X11_feed_46 : List zE := (46, .iload 6, []) :: (48, .bipush 12, [12]) :: (50, .if_icmp .ge 7, [57, 0]) :: (53, .iload_n 3, []) :: (54, .goto 17, [71, 0]) :: []
def p_X11_feed_46 : List (List (Nat × Nat)) := [] :: [] :: [] :: [] :: [] :: []
def b_X11_feed_35 : List zE := (35, .iload 6, []) :: (37, .bipush 8, [8]) :: (39, .if_icmp .ge 7, [46, 0]) :: (42, .iload_n 2, []) :: (43, .goto 28, [71, 0]) :: []
def p_X11_feed_35 : List (List (Nat × Nat)) := [] :: [] :: [] :: [] :: [] :: []
def b_X11_feed_18 : List zE := (18, .iload 6, []) :: (20, .bipush 20, [20]) :: (22, .if_icmp .ge 92, [114, 0]) :: (25, .iload 6, []) :: (27, .iconst 4, [4]) :: (28, .if_icmp .ge 7, [35, 0]) :: (31, .iload_n 1, []) :: (32, .goto 39, [71, 0]) :: []
def p_X11_feed_18 : List (List (Nat × Nat)) := [] :: [] :: [] :: [] :: [] :: [] :: [] :: [] :: []
def b_X11_feed_15 : List zE := (15, .iconst 0, [0]) :: (16, .istore 6, []) :: (18, .nop, []) :: []
def p_X11_feed_15 : List (List (Nat × Nat)) := [] :: [] :: [] :: []
def b_X11_feed_0 : List zE := (0, .aload_n 0, []) :: (1, .getfield 492, [11, 56]) :: (4, .bipush 20, [20]) :: (6, .iadd, []) :: (7, .sipush 600, [600]) :: (10, .if_icmp .le 5, [15, 0]) :: (13, .iconst (-1), [4294967295]) :: (14, .ireturn, []) :: []
def p_X11_feed_0 : List (List (Nat × Nat)) := [] :: [(6, 47)] :: [] :: [] :: [] :: [] :: [] :: [] :: []
def bl_X11_feed : List (Nat × List zE) := [(0, b_X11_feed_0), (15, b_X11_feed_15), (18, b_X11_feed_18), (35, b_X11_feed_35), (46, b_X11_feed_46), (57, b_X11_feed_57), (69, b_X11_feed_69), (71, b_X11_feed_71), (114, b_X11_feed_114)]
def pl_X11_feed : List (List (List (Nat × Nat))) := [p_X11_feed_0, p_X11_feed_15, p_X11_feed_18, p_X11_feed_35, p_X11_feed_46, p_X11_feed_57, p_X11_feed_69, p_X11_feed_71, p_X11_feed_114]
theorem k_X11_feed_0 : zlk 0 bl_X11_feed = b_X11_feed_0 := rfl
theorem k_X11_feed_15 : zlk 15 bl_X11_feed = b_X11_feed_15 := rfl
theorem k_X11_feed_18 : zlk 18 bl_X11_feed = b_X11_feed_18 := rfl
theorem k_X11_feed_35 : zlk 35 bl_X11_feed = b_X11_feed_35 := rfl
theorem k_X11_feed_46 : zlk 46 bl_X11_feed = b_X11_feed_46 := rfl
theorem k_X11_feed_57 : zlk 57 bl_X11_feed = b_X11_feed_57 := rfl
theorem k_X11_feed_69 : zlk 69 bl_X11_feed = b_X11_feed_69 := rfl
theorem k_X11_feed_71 : zlk 71 bl_X11_feed = b_X11_feed_71 := rfl
theorem k_X11_feed_114 : zlk 114 bl_X11_feed = b_X11_feed_114 := rfl
set_option maxRecDepth 100000 in
theorem ck_X11_feed : zall q_X11_feed.2.2.2.2.1 q_X11_feed.2.1 11 false q_X11_feed.2.2.1 cal_X11_feed q_X11_feed.2.2.2.1 bl_X11_feed pl_X11_feed = true := by decide +kernel
theorem nm_X11_feed : plainName q_X11_feed.1.cls = true ∧ zRX 11 = q_X11_feed.1.cls ∧ (false = true → q_X11_feed.1.name = "<init>") := ⟨by decide +kernel, rfl, fun h => by first | rfl | cases h⟩
set_option maxRecDepth 100000 in
theorem wd_X11_end : zwd q_X11_end := ⟨zw_in (p := (8, 160)) (by decide +kernel), zw_in (p := (1, 11)) (by decide +kernel), fun h => absurd h (by decide), fun _ => zw_in (p := (8, 158)) (by decide +kernel), fun _ => zw_in (p := (8, 159)) (by decide +kernel)⟩
def cal_X11_end : List zCal := []
def b_X11_end_14 : List zE := (14, .aload_n 0, []) :: (15, .iload_n 1, []) :: (16, .putfield 492, [11, 56]) :: (19, .iconst 1, [1]) :: (20, .ireturn, []) :: []
def p_X11_end_14 : List (List (Nat × Nat)) := [] :: [] :: [(6, 47)] :: [] :: [] :: []
def b_X11_end_12 : List zE := (12, .iconst 0, [0]) :: (13, .ireturn, []) :: []
def p_X11_end_12 : List (List (Nat × Nat)) := [] :: [] :: []
def b_X11_end_0 : List zE := (0, .iload_n 1, []) :: (1, .ifCond .lt 11, [12, 0]) :: (4, .iload_n 1, []) :: (5, .aload_n 0, []) :: (6, .getfield 492, [11, 56]) :: (9, .if_icmp .le 5, [14, 0]) :: (12, .nop, [0]) :: []
def p_X11_end_0 : List (List (Nat × Nat)) := [] :: [] :: [] :: [] :: [(6, 47)] :: [] :: [] :: []
def bl_X11_end : List (Nat × List zE) := [(0, b_X11_end_0), (12, b_X11_end_12), (14, b_X11_end_14)]
def pl_X11_end : List (List (List (Nat × Nat))) := [p_X11_end_0, p_X11_end_12, p_X11_end_14]
theorem k_X11_end_0 : zlk 0 bl_X11_end = b_X11_end_0 := rfl
theorem k_X11_end_12 : zlk 12 bl_X11_end = b_X11_end_12 := rfl
theorem k_X11_end_14 : zlk 14 bl_X11_end = b_X11_end_14 := rfl
set_option maxRecDepth 100000 in
theorem ck_X11_end : zall q_X11_end.2.2.2.2.1 q_X11_end.2.1 11 false q_X11_end.2.2.1 cal_X11_end q_X11_end.2.2.2.1 bl_X11_end pl_X11_end = true := by decide +kernel
theorem nm_X11_end : plainName q_X11_end.1.cls = true ∧ zRX 11 = q_X11_end.1.cls ∧ (false = true → q_X11_end.1.name = "<init>") := ⟨by decide +kernel, rfl, fun h => by first | rfl | cases h⟩
set_option maxRecDepth 100000 in
theorem wd_X11_take : zwd q_X11_take := ⟨zw_in (p := (8, 164)) (by decide +kernel), zw_in (p := (1, 11)) (by decide +kernel), fun h => absurd h (by decide), fun _ => zw_in (p := (8, 162)) (by decide +kernel), fun _ => zw_in (p := (8, 163)) (by decide +kernel)⟩
def cal_X11_take : List zCal := []
def b_X11_take_36 : List zE := (36, .aload_n 0, []) :: (37, .getfield 492, [11, 56]) :: (40, .ireturn, []) :: []
def p_X11_take_36 : List (List (Nat × Nat)) := [] :: [(6, 47)] :: [] :: []
def b_X11_take_10 : List zE := (10, .iload_n 1, []) :: (11, .aload_n 0, []) :: (12, .getfield 492, [11, 56]) :: (15, .if_icmp .ge 21, [36, 0]) :: (18, .aload_n 0, []) :: (19, .getfield 145, [11, 55]) :: (22, .iload_n 1, []) :: (23, .aload_n 0, []) :: (24, .getfield 142, [11, 53]) :: (27, .iload_n 1, []) :: (28, .iaload, []) :: (29, .iastore, []) :: (30, .iinc 1 1, [1]) :: (33, .goto (-23), [10, 1]) :: []
def p_X11_take_10 : List (List (Nat × Nat)) := [] :: [] :: [(6, 47)] :: [] :: [] :: [(6, 46)] :: [] :: [] :: [(6, 44)] :: [] :: [] :: [] :: [] :: [] :: []
def b_X11_take_0 : List zE := (0, .aload_n 0, []) :: (1, .aload_n 0, []) :: (2, .getfield 477, [11, 54]) :: (5, .putfield 492, [11, 56]) :: (8, .iconst 0, [0]) :: (9, .istore_n 1, []) :: (10, .nop, []) :: []
def p_X11_take_0 : List (List (Nat × Nat)) := [] :: [] :: [(6, 45)] :: [(6, 47)] :: [] :: [] :: [] :: []
def bl_X11_take : List (Nat × List zE) := [(0, b_X11_take_0), (10, b_X11_take_10), (36, b_X11_take_36)]
def pl_X11_take : List (List (List (Nat × Nat))) := [p_X11_take_0, p_X11_take_10, p_X11_take_36]
theorem k_X11_take_0 : zlk 0 bl_X11_take = b_X11_take_0 := rfl
theorem k_X11_take_10 : zlk 10 bl_X11_take = b_X11_take_10 := rfl
theorem k_X11_take_36 : zlk 36 bl_X11_take = b_X11_take_36 := rfl
set_option maxRecDepth 100000 in
theorem ck_X11_take : zall q_X11_take.2.2.2.2.1 q_X11_take.2.1 11 false q_X11_take.2.2.1 cal_X11_take q_X11_take.2.2.2.1 bl_X11_take pl_X11_take = true := by decide +kernel
theorem nm_X11_take : plainName q_X11_take.1.cls = true ∧ zRX 11 = q_X11_take.1.cls ∧ (false = true → q_X11_take.1.name = "<init>") := ⟨by decide +kernel, rfl, fun h => by first | rfl | cases h⟩
set_option maxRecDepth 100000 in
theorem wd_X11_numberHere : zwd q_X11_numberHere := ⟨zw_in (p := (8, 176)) (by decide +kernel), zw_in (p := (1, 11)) (by decide +kernel), fun h => absurd h (by decide), fun _ => zw_in (p := (8, 175)) (by decide +kernel), fun _ => zw_in (p := (0, 107)) (by decide +kernel)⟩
def cal_X11_numberHere : List zCal := []
def b_X11_numberHere_34 : List zE := (34, .aload_n 0, []) :: (35, .dup, []) :: (36, .getfield 495, [11, 57]) :: (39, .bipush 8, [8]) :: (41, .iadd, []) :: (42, .putfield 495, [11, 57]) :: (45, .lload_n 1, []) :: (46, .lreturn, []) :: []
def p_X11_numberHere_34 : List (List (Nat × Nat)) := [] :: [] :: [(6, 48)] :: [] :: [] :: [(6, 48)] :: [] :: [] :: []
def b_X11_numberHere_4 : List zE := (4, .iload_n 3, []) :: (5, .bipush 8, [8]) :: (7, .if_icmp .ge 27, [34, 0]) :: (10, .lload_n 1, []) :: (11, .bipush 8, [8]) :: (13, .lshl, []) :: (14, .aload_n 0, []) :: (15, .getfield 145, [11, 55]) :: (18, .aload_n 0, []) :: (19, .getfield 495, [11, 57]) :: (22, .iload_n 3, []) :: (23, .iadd, []) :: (24, .iaload, []) :: (25, .i2l, []) :: (26, .lor, []) :: (27, .lstore_n 1, []) :: (28, .iinc 3 1, [1]) :: (31, .goto (-27), [4, 1]) :: []
def p_X11_numberHere_4 : List (List (Nat × Nat)) := [] :: [] :: [] :: [] :: [] :: [] :: [] :: [(6, 46)] :: [] :: [(6, 48)] :: [] :: [] :: [] :: [] :: [] :: [] :: [] :: [] :: []
def b_X11_numberHere_0 : List zE := (0, .lconst 0, [0]) :: (1, .lstore_n 1, []) :: (2, .iconst 0, [0]) :: (3, .istore_n 3, []) :: (4, .nop, []) :: []
def p_X11_numberHere_0 : List (List (Nat × Nat)) := [] :: [] :: [] :: [] :: [] :: []
def bl_X11_numberHere : List (Nat × List zE) := [(0, b_X11_numberHere_0), (4, b_X11_numberHere_4), (34, b_X11_numberHere_34)]
def pl_X11_numberHere : List (List (List (Nat × Nat))) := [p_X11_numberHere_0, p_X11_numberHere_4, p_X11_numberHere_34]
theorem k_X11_numberHere_0 : zlk 0 bl_X11_numberHere = b_X11_numberHere_0 := rfl
theorem k_X11_numberHere_4 : zlk 4 bl_X11_numberHere = b_X11_numberHere_4 := rfl
theorem k_X11_numberHere_34 : zlk 34 bl_X11_numberHere = b_X11_numberHere_34 := rfl
set_option maxRecDepth 100000 in
theorem ck_X11_numberHere : zall q_X11_numberHere.2.2.2.2.1 q_X11_numberHere.2.1 11 false q_X11_numberHere.2.2.1 cal_X11_numberHere q_X11_numberHere.2.2.2.1 bl_X11_numberHere pl_X11_numberHere = true := by decide +kernel
theorem nm_X11_numberHere : plainName q_X11_numberHere.1.cls = true ∧ zRX 11 = q_X11_numberHere.1.cls ∧ (false = true → q_X11_numberHere.1.name = "<init>") := ⟨by decide +kernel, rfl, fun h => by first | rfl | cases h⟩
set_option maxRecDepth 100000 in
theorem wd_X11_mayBe : zwd q_X11_mayBe := ⟨zw_in (p := (8, 179)) (by decide +kernel), zw_in (p := (1, 11)) (by decide +kernel), fun _ => zw_in (p := (8, 178)) (by decide +kernel), fun h => absurd rfl h, fun h => absurd h (by decide)⟩
def cal_X11_mayBe : List zCal := [q_X11_isGood]
def b_X11_mayBe_20 : List zE := (20, .ireturn, []) :: []
def p_X11_mayBe_20 : List (List (Nat × Nat)) := [] :: []
def b_X11_mayBe_19 : List zE := (19, .iconst 0, [0]) :: (20, .nop, [0]) :: []
def p_X11_mayBe_19 : List (List (Nat × Nat)) := [] :: [] :: []
def b_X11_mayBe_0 : List zE := (0, .lload_n 0, []) :: (1, .invokestatic 253, [0, 1]) :: (4, .ifCond .eq 15, [19, 0]) :: (7, .lload_n 0, []) :: (8, .ldc2_w 498, [9223372036854775808]) :: (11, .lcmp, []) :: (12, .ifCond .eq 7, [19, 0]) :: (15, .iconst 1, [1]) :: (16, .goto 4, [20, 0]) :: []
def p_X11_mayBe_0 : List (List (Nat × Nat)) := [] :: [(6, 201)] :: [] :: [] :: [(8, 180)] :: [] :: [] :: [] :: [] :: []
def bl_X11_mayBe : List (Nat × List zE) := [(0, b_X11_mayBe_0), (19, b_X11_mayBe_19), (20, b_X11_mayBe_20)]
def pl_X11_mayBe : List (List (List (Nat × Nat))) := [p_X11_mayBe_0, p_X11_mayBe_19, p_X11_mayBe_20]
theorem k_X11_mayBe_0 : zlk 0 bl_X11_mayBe = b_X11_mayBe_0 := rfl
theorem k_X11_mayBe_19 : zlk 19 bl_X11_mayBe = b_X11_mayBe_19 := rfl
theorem k_X11_mayBe_20 : zlk 20 bl_X11_mayBe = b_X11_mayBe_20 := rfl
set_option maxRecDepth 100000 in
theorem ck_X11_mayBe : zall q_X11_mayBe.2.2.2.2.1 q_X11_mayBe.2.1 11 false q_X11_mayBe.2.2.1 cal_X11_mayBe q_X11_mayBe.2.2.2.1 bl_X11_mayBe pl_X11_mayBe = true := by decide +kernel
theorem nm_X11_mayBe : plainName q_X11_mayBe.1.cls = true ∧ zRX 11 = q_X11_mayBe.1.cls ∧ (false = true → q_X11_mayBe.1.name = "<init>") := ⟨by decide +kernel, rfl, fun h => by first | rfl | cases h⟩
set_option maxRecDepth 100000 in
theorem wd_X11_unpacked : zwd q_X11_unpacked := ⟨zw_in (p := (8, 184)) (by decide +kernel), zw_in (p := (1, 11)) (by decide +kernel), fun h => absurd h (by decide), fun _ => zw_in (p := (8, 183)) (by decide +kernel), fun _ => zw_in (p := (0, 108)) (by decide +kernel)⟩
def cal_X11_unpacked : List zCal := [q_X11_made]
def b_X11_unpacked_49 : List zE := (49, .iload_n 1, []) :: (50, .ireturn, []) :: []
def p_X11_unpacked_49 : List (List (Nat × Nat)) := [] :: [] :: []
def b_X11_unpacked_17 : List zE := (17, .iload 7, []) :: (19, .bipush 64, [64]) :: (21, .if_icmp .ge 28, [49, 0]) :: (24, .aload_n 0, []) :: (25, .getfield 19, [11, 4]) :: (28, .bipush 64, [64]) :: (30, .iload_n 1, []) :: (31, .imul, []) :: (32, .iload 7, []) :: (34, .iadd, []) :: (35, .aload_n 0, []) :: (36, .getfield 43, [11, 11]) :: (39, .iload 7, []) :: (41, .daload, []) :: (42, .dastore, []) :: (43, .iinc 7 1, [1]) :: (46, .goto (-29), [17, 1]) :: []
def p_X11_unpacked_17 : List (List (Nat × Nat)) := [] :: [] :: [] :: [] :: [(5, 235)] :: [] :: [] :: [] :: [] :: [] :: [] :: [(6, 2)] :: [] :: [] :: [] :: [] :: [] :: []
def b_X11_unpacked_0 : List zE := (0, .aload_n 0, []) :: (1, .iload_n 1, []) :: (2, .iload_n 2, []) :: (3, .iload_n 3, []) :: (4, .iload 4, []) :: (6, .iload 5, []) :: (8, .iload 6, []) :: (10, .invokevirtual 239, [0, 6, 11]) :: (13, .pop, []) :: (14, .iconst 0, [0]) :: (15, .istore 7, []) :: (17, .nop, []) :: []
def p_X11_unpacked_0 : List (List (Nat × Nat)) := [] :: [] :: [] :: [] :: [] :: [] :: [] :: [(6, 178)] :: [] :: [] :: [] :: [] :: []
def bl_X11_unpacked : List (Nat × List zE) := [(0, b_X11_unpacked_0), (17, b_X11_unpacked_17), (49, b_X11_unpacked_49)]
def pl_X11_unpacked : List (List (List (Nat × Nat))) := [p_X11_unpacked_0, p_X11_unpacked_17, p_X11_unpacked_49]
theorem k_X11_unpacked_0 : zlk 0 bl_X11_unpacked = b_X11_unpacked_0 := rfl
theorem k_X11_unpacked_17 : zlk 17 bl_X11_unpacked = b_X11_unpacked_17 := rfl
theorem k_X11_unpacked_49 : zlk 49 bl_X11_unpacked = b_X11_unpacked_49 := rfl
set_option maxRecDepth 100000 in
theorem ck_X11_unpacked : zall q_X11_unpacked.2.2.2.2.1 q_X11_unpacked.2.1 11 false q_X11_unpacked.2.2.1 cal_X11_unpacked q_X11_unpacked.2.2.2.1 bl_X11_unpacked pl_X11_unpacked = true := by decide +kernel
theorem nm_X11_unpacked : plainName q_X11_unpacked.1.cls = true ∧ zRX 11 = q_X11_unpacked.1.cls ∧ (false = true → q_X11_unpacked.1.name = "<init>") := ⟨by decide +kernel, rfl, fun h => by first | rfl | cases h⟩
set_option maxRecDepth 100000 in
theorem wd_X11_unpackSparse : zwd q_X11_unpackSparse := ⟨zw_in (p := (8, 172)) (by decide +kernel), zw_in (p := (1, 11)) (by decide +kernel), fun h => absurd h (by decide), fun _ => zw_in (p := (8, 171)) (by decide +kernel), fun _ => zw_in (p := (0, 106)) (by decide +kernel)⟩
def cal_X11_unpackSparse : List zCal := [q_X11_numberHere, q_X11_mayBe, q_X11_real, q_X11_unpacked]
def b_X11_unpackSparse_175 : List zE := (175, .aload_n 0, []) :: (176, .iload_n 1, []) :: (177, .iconst 3, [3]) :: (178, .iload_n 2, []) :: (179, .iload_n 3, []) :: (180, .iconst 0, [0]) :: (181, .iconst 0, [0]) :: (182, .invokevirtual 514, [3, 6, 11]) :: (185, .ireturn, []) :: []
def p_X11_unpackSparse_175 : List (List (Nat × Nat)) := [] :: [] :: [] :: [] :: [] :: [] :: [] :: [(8, 181)] :: [] :: []
def b_X11_unpackSparse_141 : List zE := (141, .bipush 8, [8]) :: (143, .iload 8, []) :: (145, .imul, []) :: (146, .iload 9, []) :: (148, .iadd, []) :: (149, .istore 6, []) :: (151, .aload_n 0, []) :: (152, .getfield 43, [11, 11]) :: (155, .bipush 8, [8]) :: (157, .iload 8, []) :: (159, .imul, []) :: (160, .iload 9, []) :: (162, .iadd, []) :: (163, .lload 10, []) :: (165, .invokestatic 165, [2, 1]) :: (168, .dastore, []) :: (169, .iinc 7 1, [1]) :: (172, .goto (-120), [52, 1]) :: []
def p_X11_unpackSparse_141 : List (List (Nat × Nat)) := [] :: [] :: [] :: [] :: [] :: [] :: [] :: [(6, 2)] :: [] :: [] :: [] :: [] :: [] :: [] :: [(6, 206)] :: [] :: [] :: [] :: []
def b_X11_unpackSparse_139 : List zE := (139, .iconst (-1), [4294967295]) :: (140, .ireturn, []) :: []
def p_X11_unpackSparse_139 : List (List (Nat × Nat)) := [] :: [] :: []
def b_X11_unpackSparse_52 : List zE := (52, .iload 7, []) :: (54, .iload 5, []) :: (56, .if_icmp .ge 119, [175, 0]) :: (59, .aload_n 0, []) :: (60, .getfield 145, [11, 55]) :: (63, .aload_n 0, []) :: (64, .getfield 495, [11, 57]) :: (67, .iaload, []) :: (68, .istore 8, []) :: (70, .aload_n 0, []) :: (71, .getfield 145, [11, 55]) :: (74, .aload_n 0, []) :: (75, .getfield 495, [11, 57]) :: (78, .iconst 1, [1]) :: (79, .iadd, []) :: (80, .iaload, []) :: (81, .istore 9, []) :: (83, .aload_n 0, []) :: (84, .dup, []) :: (85, .getfield 495, [11, 57]) :: (88, .iconst 2, [2]) :: (89, .iadd, []) :: (90, .putfield 495, [11, 57]) :: (93, .aload_n 0, []) :: (94, .invokevirtual 507, [0, 0, 11]) :: (97, .lstore 10, []) :: (99, .iload 8, []) :: (101, .iload_n 2, []) :: (102, .if_icmp .ge 37, [139, 0]) :: (105, .iload 9, []) :: (107, .iload_n 3, []) :: (108, .if_icmp .ge 31, [139, 0]) :: (111, .bipush 8, [8]) :: (113, .iload 8, []) :: (115, .imul, []) :: (116, .iload 9, []) :: (118, .iadd, []) :: (119, .iload 6, []) :: (121, .if_icmp .le 18, [139, 0]) :: (124, .lload 10, []) :: (126, .invokestatic 511, [1, 1]) :: (129, .ifCond .eq 10, [139, 0]) :: (132, .lload 10, []) :: (134, .lconst 0, [0]) :: (135, .lcmp, []) :: (136, .ifCond .ne 5, [141, 0]) :: (139, .nop, [0]) :: []
def p_X11_unpackSparse_52 : List (List (Nat × Nat)) := [] :: [] :: [] :: [] :: [(6, 46)] :: [] :: [(6, 48)] :: [] :: [] :: [] :: [(6, 46)] :: [] :: [(6, 48)] :: [] :: [] :: [] :: [] :: [] :: [] :: [(6, 48)] :: [] :: [] :: [(6, 48)] :: [] :: [(8, 173)] :: [] :: [] :: [] :: [] :: [] :: [] :: [] :: [] :: [] :: [] :: [] :: [] :: [] :: [] :: [] :: [(8, 177)] :: [] :: [] :: [] :: [] :: [] :: [] :: []
def b_X11_unpackSparse_40 : List zE := (40, .aload_n 0, []) :: (41, .bipush 7, [7]) :: (43, .putfield 495, [11, 57]) :: (46, .iconst (-1), [4294967295]) :: (47, .istore 6, []) :: (49, .iconst 0, [0]) :: (50, .istore 7, []) :: (52, .nop, []) :: []
def p_X11_unpackSparse_40 : List (List (Nat × Nat)) := [] :: [] :: [(6, 48)] :: [] :: [] :: [] :: [] :: [] :: []
def b_X11_unpackSparse_38 : List zE := (38, .iconst (-1), [4294967295]) :: (39, .ireturn, []) :: []
def p_X11_unpackSparse_38 : List (List (Nat × Nat)) := [] :: [] :: []
def b_X11_unpackSparse_9 : List zE := (9, .aload_n 0, []) :: (10, .getfield 145, [11, 55]) :: (13, .bipush 6, [6]) :: (15, .iaload, []) :: (16, .istore 5, []) :: (18, .iload 5, []) :: (20, .bipush 20, [20]) :: (22, .if_icmp .gt 16, [38, 0]) :: (25, .iload 4, []) :: (27, .bipush 7, [7]) :: (29, .bipush 10, [10]) :: (31, .iload 5, []) :: (33, .imul, []) :: (34, .iadd, []) :: (35, .if_icmp .eq 5, [40, 0]) :: (38, .nop, [0]) :: []
def p_X11_unpackSparse_9 : List (List (Nat × Nat)) := [] :: [(6, 46)] :: [] :: [] :: [] :: [] :: [] :: [] :: [] :: [] :: [] :: [] :: [] :: [] :: [] :: [] :: []
def b_X11_unpackSparse_0 : List zE := (0, .iload 4, []) :: (2, .bipush 7, [7]) :: (4, .if_icmp .ge 5, [9, 0]) :: (7, .iconst (-1), [4294967295]) :: (8, .ireturn, []) :: []
def p_X11_unpackSparse_0 : List (List (Nat × Nat)) := [] :: [] :: [] :: [] :: [] :: []
def bl_X11_unpackSparse : List (Nat × List zE) := [(0, b_X11_unpackSparse_0), (9, b_X11_unpackSparse_9), (38, b_X11_unpackSparse_38), (40, b_X11_unpackSparse_40), (52, b_X11_unpackSparse_52), (139, b_X11_unpackSparse_139), (141, b_X11_unpackSparse_141), (175, b_X11_unpackSparse_175)]
def pl_X11_unpackSparse : List (List (List (Nat × Nat))) := [p_X11_unpackSparse_0, p_X11_unpackSparse_9, p_X11_unpackSparse_38, p_X11_unpackSparse_40, p_X11_unpackSparse_52, p_X11_unpackSparse_139, p_X11_unpackSparse_141, p_X11_unpackSparse_175]
theorem k_X11_unpackSparse_0 : zlk 0 bl_X11_unpackSparse = b_X11_unpackSparse_0 := rfl
theorem k_X11_unpackSparse_9 : zlk 9 bl_X11_unpackSparse = b_X11_unpackSparse_9 := rfl
theorem k_X11_unpackSparse_38 : zlk 38 bl_X11_unpackSparse = b_X11_unpackSparse_38 := rfl
theorem k_X11_unpackSparse_40 : zlk 40 bl_X11_unpackSparse = b_X11_unpackSparse_40 := rfl
theorem k_X11_unpackSparse_52 : zlk 52 bl_X11_unpackSparse = b_X11_unpackSparse_52 := rfl
theorem k_X11_unpackSparse_139 : zlk 139 bl_X11_unpackSparse = b_X11_unpackSparse_139 := rfl
theorem k_X11_unpackSparse_141 : zlk 141 bl_X11_unpackSparse = b_X11_unpackSparse_141 := rfl
theorem k_X11_unpackSparse_175 : zlk 175 bl_X11_unpackSparse = b_X11_unpackSparse_175 := rfl
set_option maxRecDepth 100000 in
theorem ck_X11_unpackSparse : zall q_X11_unpackSparse.2.2.2.2.1 q_X11_unpackSparse.2.1 11 false q_X11_unpackSparse.2.2.1 cal_X11_unpackSparse q_X11_unpackSparse.2.2.2.1 bl_X11_unpackSparse pl_X11_unpackSparse = true := by decide +kernel
theorem nm_X11_unpackSparse : plainName q_X11_unpackSparse.1.cls = true ∧ zRX 11 = q_X11_unpackSparse.1.cls ∧ (false = true → q_X11_unpackSparse.1.name = "<init>") := ⟨by decide +kernel, rfl, fun h => by first | rfl | cases h⟩
set_option maxRecDepth 100000 in
theorem wd_X11_unpackPlaces : zwd q_X11_unpackPlaces := ⟨zw_in (p := (8, 188)) (by decide +kernel), zw_in (p := (1, 11)) (by decide +kernel), fun h => absurd h (by decide), fun _ => zw_in (p := (8, 187)) (by decide +kernel), fun _ => zw_in (p := (0, 109)) (by decide +kernel)⟩
def cal_X11_unpackPlaces : List zCal := [q_X11_isPlace, q_X11_numberHere, q_X11_mayBe, q_X11_real, q_X11_unpacked]
def b_X11_unpackPlaces_174 : List zE := (174, .aload_n 0, []) :: (175, .iload_n 1, []) :: (176, .iload 5, []) :: (178, .iload_n 2, []) :: (179, .iload_n 3, []) :: (180, .iload 6, []) :: (182, .iload 7, []) :: (184, .invokevirtual 514, [4, 6, 11]) :: (187, .ireturn, []) :: []
def p_X11_unpackPlaces_174 : List (List (Nat × Nat)) := [] :: [] :: [] :: [] :: [] :: [] :: [] :: [(8, 181)] :: [] :: []
def b_X11_unpackPlaces_168 : List zE := (168, .iinc 9 1, [1]) :: (171, .goto (-77), [94, 1]) :: []
def p_X11_unpackPlaces_168 : List (List (Nat × Nat)) := [] :: [] :: []
def b_X11_unpackPlaces_162 : List zE := (162, .iinc 10 1, [1]) :: (165, .goto (-62), [103, 1]) :: []
def p_X11_unpackPlaces_162 : List (List (Nat × Nat)) := [] :: [] :: []
def b_X11_unpackPlaces_144 : List zE := (144, .aload_n 0, []) :: (145, .getfield 43, [11, 11]) :: (148, .bipush 8, [8]) :: (150, .iload 9, []) :: (152, .imul, []) :: (153, .iload 10, []) :: (155, .iadd, []) :: (156, .lload 11, []) :: (158, .invokestatic 165, [3, 1]) :: (161, .dastore, []) :: (162, .nop, [0]) :: []
def p_X11_unpackPlaces_144 : List (List (Nat × Nat)) := [] :: [(6, 2)] :: [] :: [] :: [] :: [] :: [] :: [] :: [(6, 206)] :: [] :: [] :: []
def b_X11_unpackPlaces_128 : List zE := (128, .aload_n 0, []) :: (129, .invokevirtual 507, [1, 0, 11]) :: (132, .lstore 11, []) :: (134, .lload 11, []) :: (136, .invokestatic 511, [2, 1]) :: (139, .ifCond .ne 5, [144, 0]) :: (142, .iconst (-1), [4294967295]) :: (143, .ireturn, []) :: []
def p_X11_unpackPlaces_128 : List (List (Nat × Nat)) := [] :: [(8, 173)] :: [] :: [] :: [(8, 177)] :: [] :: [] :: [] :: []
def b_X11_unpackPlaces_103 : List zE := (103, .iload 10, []) :: (105, .iload_n 3, []) :: (106, .if_icmp .ge 62, [168, 0]) :: (109, .iload 5, []) :: (111, .iload 6, []) :: (113, .iload 7, []) :: (115, .iload 9, []) :: (117, .iload 10, []) :: (119, .invokestatic 250, [0, 5]) :: (122, .ifCond .ne 6, [128, 0]) :: (125, .goto 37, [162, 0]) :: []
def p_X11_unpackPlaces_103 : List (List (Nat × Nat)) := [] :: [] :: [] :: [] :: [] :: [] :: [] :: [] :: [(6, 198)] :: [] :: [] :: []
def b_X11_unpackPlaces_94 : List zE := (94, .iload 9, []) :: (96, .iload_n 2, []) :: (97, .if_icmp .ge 77, [174, 0]) :: (100, .iconst 0, [0]) :: (101, .istore 10, []) :: (103, .nop, []) :: []
def p_X11_unpackPlaces_94 : List (List (Nat × Nat)) := [] :: [] :: [] :: [] :: [] :: [] :: []
def b_X11_unpackPlaces_91 : List zE := (91, .iconst 0, [0]) :: (92, .istore 9, []) :: (94, .nop, []) :: []
def p_X11_unpackPlaces_91 : List (List (Nat × Nat)) := [] :: [] :: [] :: []
def b_X11_unpackPlaces_76 : List zE := (76, .iload 4, []) :: (78, .bipush 6, [6]) :: (80, .bipush 8, [8]) :: (82, .iload 8, []) :: (84, .imul, []) :: (85, .iadd, []) :: (86, .if_icmp .eq 5, [91, 0]) :: (89, .iconst (-1), [4294967295]) :: (90, .ireturn, []) :: []
def p_X11_unpackPlaces_76 : List (List (Nat × Nat)) := [] :: [] :: [] :: [] :: [] :: [] :: [] :: [] :: [] :: []
def b_X11_unpackPlaces_70 : List zE := (70, .iinc 9 1, [1]) :: (73, .goto (-43), [30, 1]) :: []
def p_X11_unpackPlaces_70 : List (List (Nat × Nat)) := [] :: [] :: []
def b_X11_unpackPlaces_64 : List zE := (64, .iinc 10 1, [1]) :: (67, .goto (-28), [39, 1]) :: []
def p_X11_unpackPlaces_64 : List (List (Nat × Nat)) := [] :: [] :: []
def b_X11_unpackPlaces_39 : List zE := (39, .iload 10, []) :: (41, .iload_n 3, []) :: (42, .if_icmp .ge 28, [70, 0]) :: (45, .iload 5, []) :: (47, .iload 6, []) :: (49, .iload 7, []) :: (51, .iload 9, []) :: (53, .iload 10, []) :: (55, .invokestatic 250, [0, 5]) :: (58, .ifCond .eq 6, [64, 0]) :: (61, .iinc 8 1, [1]) :: (64, .nop, [0]) :: []
def p_X11_unpackPlaces_39 : List (List (Nat × Nat)) := [] :: [] :: [] :: [] :: [] :: [] :: [] :: [] :: [(6, 198)] :: [] :: [] :: [] :: []
def b_X11_unpackPlaces_30 : List zE := (30, .iload 9, []) :: (32, .iload_n 2, []) :: (33, .if_icmp .ge 43, [76, 0]) :: (36, .iconst 0, [0]) :: (37, .istore 10, []) :: (39, .nop, []) :: []
def p_X11_unpackPlaces_30 : List (List (Nat × Nat)) := [] :: [] :: [] :: [] :: [] :: [] :: []
def b_X11_unpackPlaces_0 : List zE := (0, .aload_n 0, []) :: (1, .getfield 145, [11, 55]) :: (4, .iconst 1, [1]) :: (5, .iaload, []) :: (6, .istore 5, []) :: (8, .aload_n 0, []) :: (9, .getfield 145, [11, 55]) :: (12, .iconst 4, [4]) :: (13, .iaload, []) :: (14, .istore 6, []) :: (16, .aload_n 0, []) :: (17, .getfield 145, [11, 55]) :: (20, .iconst 5, [5]) :: (21, .iaload, []) :: (22, .istore 7, []) :: (24, .iconst 0, [0]) :: (25, .istore 8, []) :: (27, .iconst 0, [0]) :: (28, .istore 9, []) :: (30, .nop, []) :: []
def p_X11_unpackPlaces_0 : List (List (Nat × Nat)) := [] :: [(6, 46)] :: [] :: [] :: [] :: [] :: [(6, 46)] :: [] :: [] :: [] :: [] :: [(6, 46)] :: [] :: [] :: [] :: [] :: [] :: [] :: [] :: [] :: []
def bl_X11_unpackPlaces : List (Nat × List zE) := [(0, b_X11_unpackPlaces_0), (30, b_X11_unpackPlaces_30), (39, b_X11_unpackPlaces_39), (64, b_X11_unpackPlaces_64), (70, b_X11_unpackPlaces_70), (76, b_X11_unpackPlaces_76), (91, b_X11_unpackPlaces_91), (94, b_X11_unpackPlaces_94), (103, b_X11_unpackPlaces_103), (128, b_X11_unpackPlaces_128), (144, b_X11_unpackPlaces_144), (162, b_X11_unpackPlaces_162), (168, b_X11_unpackPlaces_168), (174, b_X11_unpackPlaces_174)]
def pl_X11_unpackPlaces : List (List (List (Nat × Nat))) := [p_X11_unpackPlaces_0, p_X11_unpackPlaces_30, p_X11_unpackPlaces_39, p_X11_unpackPlaces_64, p_X11_unpackPlaces_70, p_X11_unpackPlaces_76, p_X11_unpackPlaces_91, p_X11_unpackPlaces_94, p_X11_unpackPlaces_103, p_X11_unpackPlaces_128, p_X11_unpackPlaces_144, p_X11_unpackPlaces_162, p_X11_unpackPlaces_168, p_X11_unpackPlaces_174]
theorem k_X11_unpackPlaces_0 : zlk 0 bl_X11_unpackPlaces = b_X11_unpackPlaces_0 := rfl
theorem k_X11_unpackPlaces_30 : zlk 30 bl_X11_unpackPlaces = b_X11_unpackPlaces_30 := rfl
theorem k_X11_unpackPlaces_39 : zlk 39 bl_X11_unpackPlaces = b_X11_unpackPlaces_39 := rfl
theorem k_X11_unpackPlaces_64 : zlk 64 bl_X11_unpackPlaces = b_X11_unpackPlaces_64 := rfl
theorem k_X11_unpackPlaces_70 : zlk 70 bl_X11_unpackPlaces = b_X11_unpackPlaces_70 := rfl
theorem k_X11_unpackPlaces_76 : zlk 76 bl_X11_unpackPlaces = b_X11_unpackPlaces_76 := rfl
theorem k_X11_unpackPlaces_91 : zlk 91 bl_X11_unpackPlaces = b_X11_unpackPlaces_91 := rfl
theorem k_X11_unpackPlaces_94 : zlk 94 bl_X11_unpackPlaces = b_X11_unpackPlaces_94 := rfl
theorem k_X11_unpackPlaces_103 : zlk 103 bl_X11_unpackPlaces = b_X11_unpackPlaces_103 := rfl
theorem k_X11_unpackPlaces_128 : zlk 128 bl_X11_unpackPlaces = b_X11_unpackPlaces_128 := rfl
theorem k_X11_unpackPlaces_144 : zlk 144 bl_X11_unpackPlaces = b_X11_unpackPlaces_144 := rfl
theorem k_X11_unpackPlaces_162 : zlk 162 bl_X11_unpackPlaces = b_X11_unpackPlaces_162 := rfl
theorem k_X11_unpackPlaces_168 : zlk 168 bl_X11_unpackPlaces = b_X11_unpackPlaces_168 := rfl
theorem k_X11_unpackPlaces_174 : zlk 174 bl_X11_unpackPlaces = b_X11_unpackPlaces_174 := rfl
set_option maxRecDepth 100000 in
theorem ck_X11_unpackPlaces : zall q_X11_unpackPlaces.2.2.2.2.1 q_X11_unpackPlaces.2.1 11 false q_X11_unpackPlaces.2.2.1 cal_X11_unpackPlaces q_X11_unpackPlaces.2.2.2.1 bl_X11_unpackPlaces pl_X11_unpackPlaces = true := by decide +kernel
theorem nm_X11_unpackPlaces : plainName q_X11_unpackPlaces.1.cls = true ∧ zRX 11 = q_X11_unpackPlaces.1.cls ∧ (false = true → q_X11_unpackPlaces.1.name = "<init>") := ⟨by decide +kernel, rfl, fun h => by first | rfl | cases h⟩
set_option maxRecDepth 100000 in
theorem wd_X11_unpack : zwd q_X11_unpack := ⟨zw_in (p := (8, 168)) (by decide +kernel), zw_in (p := (1, 11)) (by decide +kernel), fun h => absurd h (by decide), fun _ => zw_in (p := (8, 166)) (by decide +kernel), fun _ => zw_in (p := (8, 167)) (by decide +kernel)⟩
def cal_X11_unpack : List zCal := [q_X11_free, q_X11_isForm, q_X11_check, q_X11_unpackSparse, q_X11_unpackPlaces]
def b_X11_unpack_203 : List zE := (203, .ireturn, []) :: []
def p_X11_unpack_203 : List (List (Nat × Nat)) := [] :: []
def b_X11_unpack_191 : List zE := (191, .aload_n 0, []) :: (192, .iload_n 2, []) :: (193, .iload 4, []) :: (195, .iload 5, []) :: (197, .iload_n 1, []) :: (198, .iconst 2, [2]) :: (199, .isub, []) :: (200, .invokevirtual 504, [4, 4, 11]) :: (203, .nop, [0]) :: []
def p_X11_unpack_191 : List (List (Nat × Nat)) := [] :: [] :: [] :: [] :: [] :: [] :: [] :: [(8, 185)] :: [] :: []
def b_X11_unpack_160 : List zE := (160, .aload_n 0, []) :: (161, .bipush 6, [6]) :: (163, .putfield 495, [11, 57]) :: (166, .aload_n 0, []) :: (167, .getfield 145, [11, 55]) :: (170, .iconst 1, [1]) :: (171, .iaload, []) :: (172, .iconst 3, [3]) :: (173, .if_icmp .ne 18, [191, 0]) :: (176, .aload_n 0, []) :: (177, .iload_n 2, []) :: (178, .iload 4, []) :: (180, .iload 5, []) :: (182, .iload_n 1, []) :: (183, .iconst 2, [2]) :: (184, .isub, []) :: (185, .invokevirtual 500, [3, 4, 11]) :: (188, .goto 15, [203, 0]) :: []
def p_X11_unpack_160 : List (List (Nat × Nat)) := [] :: [] :: [(6, 48)] :: [] :: [(6, 46)] :: [] :: [] :: [] :: [] :: [] :: [] :: [] :: [] :: [] :: [] :: [] :: [(8, 169)] :: [] :: []
def b_X11_unpack_139 : List zE := (139, .iload 6, []) :: (141, .bipush 64, [64]) :: (143, .if_icmp .ge 17, [160, 0]) :: (146, .aload_n 0, []) :: (147, .getfield 43, [11, 11]) :: (150, .iload 6, []) :: (152, .dconst 0, [0]) :: (153, .dastore, []) :: (154, .iinc 6 1, [1]) :: (157, .goto (-18), [139, 1]) :: []
def p_X11_unpack_139 : List (List (Nat × Nat)) := [] :: [] :: [] :: [] :: [(6, 2)] :: [] :: [] :: [] :: [] :: [] :: []
def b_X11_unpack_120 : List zE := (120, .aload_n 0, []) :: (121, .getfield 145, [11, 55]) :: (124, .iconst 2, [2]) :: (125, .iaload, []) :: (126, .istore 4, []) :: (128, .aload_n 0, []) :: (129, .getfield 145, [11, 55]) :: (132, .iconst 3, [3]) :: (133, .iaload, []) :: (134, .istore 5, []) :: (136, .iconst 0, [0]) :: (137, .istore 6, []) :: (139, .nop, []) :: []
def p_X11_unpack_120 : List (List (Nat × Nat)) := [] :: [(6, 46)] :: [] :: [] :: [] :: [] :: [(6, 46)] :: [] :: [] :: [] :: [] :: [] :: [] :: []
def b_X11_unpack_118 : List zE := (118, .iconst (-1), [4294967295]) :: (119, .ireturn, []) :: []
def p_X11_unpack_118 : List (List (Nat × Nat)) := [] :: [] :: []
def b_X11_unpack_75 : List zE := (75, .aload_n 0, []) :: (76, .getfield 145, [11, 55]) :: (79, .iload_n 1, []) :: (80, .iconst 2, [2]) :: (81, .isub, []) :: (82, .invokestatic 488, [2, 2]) :: (85, .istore_n 3, []) :: (86, .aload_n 0, []) :: (87, .getfield 145, [11, 55]) :: (90, .iload_n 1, []) :: (91, .iconst 2, [2]) :: (92, .isub, []) :: (93, .iaload, []) :: (94, .iload_n 3, []) :: (95, .sipush 256, [256]) :: (98, .idiv, []) :: (99, .if_icmp .ne 19, [118, 0]) :: (102, .aload_n 0, []) :: (103, .getfield 145, [11, 55]) :: (106, .iload_n 1, []) :: (107, .iconst 1, [1]) :: (108, .isub, []) :: (109, .iaload, []) :: (110, .iload_n 3, []) :: (111, .sipush 256, [256]) :: (114, .irem, []) :: (115, .if_icmp .eq 5, [120, 0]) :: (118, .nop, [0]) :: []
def p_X11_unpack_75 : List (List (Nat × Nat)) := [] :: [(6, 46)] :: [] :: [] :: [] :: [(8, 145)] :: [] :: [] :: [(6, 46)] :: [] :: [] :: [] :: [] :: [] :: [] :: [] :: [] :: [] :: [(6, 46)] :: [] :: [] :: [] :: [] :: [] :: [] :: [] :: [] :: [] :: []
def b_X11_unpack_73 : List zE := (73, .iconst (-1), [4294967295]) :: (74, .ireturn, []) :: []
def p_X11_unpack_73 : List (List (Nat × Nat)) := [] :: [] :: []
def b_X11_unpack_0 : List zE := (0, .aload_n 0, []) :: (1, .getfield 492, [11, 56]) :: (4, .istore_n 1, []) :: (5, .aload_n 0, []) :: (6, .iconst 0, [0]) :: (7, .putfield 492, [11, 56]) :: (10, .aload_n 0, []) :: (11, .invokevirtual 231, [0, 0, 11]) :: (14, .istore_n 2, []) :: (15, .iload_n 1, []) :: (16, .bipush 8, [8]) :: (18, .if_icmp .lt 55, [73, 0]) :: (21, .iload_n 2, []) :: (22, .iconst (-1), [4294967295]) :: (23, .if_icmp .eq 50, [73, 0]) :: (26, .aload_n 0, []) :: (27, .getfield 145, [11, 55]) :: (30, .iconst 0, [0]) :: (31, .iaload, []) :: (32, .bipush 77, [77]) :: (34, .if_icmp .ne 39, [73, 0]) :: (37, .aload_n 0, []) :: (38, .getfield 145, [11, 55]) :: (41, .iconst 1, [1]) :: (42, .iaload, []) :: (43, .aload_n 0, []) :: (44, .getfield 145, [11, 55]) :: (47, .iconst 2, [2]) :: (48, .iaload, []) :: (49, .aload_n 0, []) :: (50, .getfield 145, [11, 55]) :: (53, .iconst 3, [3]) :: (54, .iaload, []) :: (55, .aload_n 0, []) :: (56, .getfield 145, [11, 55]) :: (59, .iconst 4, [4]) :: (60, .iaload, []) :: (61, .aload_n 0, []) :: (62, .getfield 145, [11, 55]) :: (65, .iconst 5, [5]) :: (66, .iaload, []) :: (67, .invokestatic 235, [1, 5]) :: (70, .ifCond .ne 5, [75, 0]) :: (73, .nop, [0]) :: []
def p_X11_unpack_0 : List (List (Nat × Nat)) := [] :: [(6, 47)] :: [] :: [] :: [] :: [(6, 47)] :: [] :: [(6, 171)] :: [] :: [] :: [] :: [] :: [] :: [] :: [] :: [] :: [(6, 46)] :: [] :: [] :: [] :: [] :: [] :: [(6, 46)] :: [] :: [] :: [] :: [(6, 46)] :: [] :: [] :: [] :: [(6, 46)] :: [] :: [] :: [] :: [(6, 46)] :: [] :: [] :: [] :: [(6, 46)] :: [] :: [] :: [(6, 175)] :: [] :: [] :: []
def bl_X11_unpack : List (Nat × List zE) := [(0, b_X11_unpack_0), (73, b_X11_unpack_73), (75, b_X11_unpack_75), (118, b_X11_unpack_118), (120, b_X11_unpack_120), (139, b_X11_unpack_139), (160, b_X11_unpack_160), (191, b_X11_unpack_191), (203, b_X11_unpack_203)]
def pl_X11_unpack : List (List (List (Nat × Nat))) := [p_X11_unpack_0, p_X11_unpack_73, p_X11_unpack_75, p_X11_unpack_118, p_X11_unpack_120, p_X11_unpack_139, p_X11_unpack_160, p_X11_unpack_191, p_X11_unpack_203]
theorem k_X11_unpack_0 : zlk 0 bl_X11_unpack = b_X11_unpack_0 := rfl
theorem k_X11_unpack_73 : zlk 73 bl_X11_unpack = b_X11_unpack_73 := rfl
theorem k_X11_unpack_75 : zlk 75 bl_X11_unpack = b_X11_unpack_75 := rfl
theorem k_X11_unpack_118 : zlk 118 bl_X11_unpack = b_X11_unpack_118 := rfl
theorem k_X11_unpack_120 : zlk 120 bl_X11_unpack = b_X11_unpack_120 := rfl
theorem k_X11_unpack_139 : zlk 139 bl_X11_unpack = b_X11_unpack_139 := rfl
theorem k_X11_unpack_160 : zlk 160 bl_X11_unpack = b_X11_unpack_160 := rfl
theorem k_X11_unpack_191 : zlk 191 bl_X11_unpack = b_X11_unpack_191 := rfl
theorem k_X11_unpack_203 : zlk 203 bl_X11_unpack = b_X11_unpack_203 := rfl
set_option maxRecDepth 100000 in
theorem ck_X11_unpack : zall q_X11_unpack.2.2.2.2.1 q_X11_unpack.2.1 11 false q_X11_unpack.2.2.1 cal_X11_unpack q_X11_unpack.2.2.2.1 bl_X11_unpack pl_X11_unpack = true := by decide +kernel
theorem nm_X11_unpack : plainName q_X11_unpack.1.cls = true ∧ zRX 11 = q_X11_unpack.1.cls ∧ (false = true → q_X11_unpack.1.name = "<init>") := ⟨by decide +kernel, rfl, fun h => by first | rfl | cases h⟩
set_option maxRecDepth 100000 in
theorem wd_X11_count : zwd q_X11_count := ⟨zw_in (p := (8, 192)) (by decide +kernel), zw_in (p := (1, 11)) (by decide +kernel), fun h => absurd h (by decide), fun _ => zw_in (p := (8, 190)) (by decide +kernel), fun _ => zw_in (p := (8, 191)) (by decide +kernel)⟩
def cal_X11_count : List zCal := []
def b_X11_count_121 : List zE := (121, .iconst (-1), [4294967295]) :: (122, .ireturn, []) :: []
def p_X11_count_121 : List (List (Nat × Nat)) := [] :: [] :: []
def b_X11_count_116 : List zE := (116, .aload_n 0, []) :: (117, .getfield 492, [11, 56]) :: (120, .ireturn, []) :: []
def p_X11_count_116 : List (List (Nat × Nat)) := [] :: [(6, 47)] :: [] :: []
def b_X11_count_114 : List zE := (114, .iload_n 2, []) :: (115, .ireturn, []) :: []
def p_X11_count_114 : List (List (Nat × Nat)) := [] :: [] :: []
def b_X11_count_108 : List zE := (108, .iinc 3 1, [1]) :: (111, .goto (-21), [90, 1]) :: []
def p_X11_count_108 : List (List (Nat × Nat)) := [] :: [] :: []
def b_X11_count_90 : List zE := (90, .iload_n 3, []) :: (91, .bipush 24, [24]) :: (93, .if_icmp .ge 21, [114, 0]) :: (96, .aload_n 0, []) :: (97, .getfield 76, [11, 24]) :: (100, .iload_n 3, []) :: (101, .iaload, []) :: (102, .ifCond .le 6, [108, 0]) :: (105, .iinc 2 1, [1]) :: (108, .nop, [0]) :: []
def p_X11_count_90 : List (List (Nat × Nat)) := [] :: [] :: [] :: [] :: [(6, 15)] :: [] :: [] :: [] :: [] :: [] :: []
def b_X11_count_88 : List zE := (88, .iconst 0, [0]) :: (89, .istore_n 3, []) :: (90, .nop, []) :: []
def p_X11_count_88 : List (List (Nat × Nat)) := [] :: [] :: [] :: []
def b_X11_count_86 : List zE := (86, .iload_n 2, []) :: (87, .ireturn, []) :: []
def p_X11_count_86 : List (List (Nat × Nat)) := [] :: [] :: []
def b_X11_count_80 : List zE := (80, .iinc 3 1, [1]) :: (83, .goto (-21), [62, 1]) :: []
def p_X11_count_80 : List (List (Nat × Nat)) := [] :: [] :: []
def b_X11_count_62 : List zE := (62, .iload_n 3, []) :: (63, .bipush 12, [12]) :: (65, .if_icmp .ge 21, [86, 0]) :: (68, .aload_n 0, []) :: (69, .getfield 49, [11, 13]) :: (72, .iload_n 3, []) :: (73, .baload, []) :: (74, .ifCond .eq 6, [80, 0]) :: (77, .iinc 2 1, [1]) :: (80, .nop, [0]) :: []
def p_X11_count_62 : List (List (Nat × Nat)) := [] :: [] :: [] :: [] :: [(6, 4)] :: [] :: [] :: [] :: [] :: [] :: []
def b_X11_count_60 : List zE := (60, .iconst 0, [0]) :: (61, .istore_n 3, []) :: (62, .nop, []) :: []
def p_X11_count_60 : List (List (Nat × Nat)) := [] :: [] :: [] :: []
def b_X11_count_58 : List zE := (58, .iload_n 2, []) :: (59, .ireturn, []) :: []
def p_X11_count_58 : List (List (Nat × Nat)) := [] :: [] :: []
def b_X11_count_52 : List zE := (52, .iinc 3 1, [1]) :: (55, .goto (-21), [34, 1]) :: []
def p_X11_count_52 : List (List (Nat × Nat)) := [] :: [] :: []
def b_X11_count_34 : List zE := (34, .iload_n 3, []) :: (35, .bipush 24, [24]) :: (37, .if_icmp .ge 21, [58, 0]) :: (40, .aload_n 0, []) :: (41, .getfield 23, [11, 5]) :: (44, .iload_n 3, []) :: (45, .baload, []) :: (46, .ifCond .eq 6, [52, 0]) :: (49, .iinc 2 1, [1]) :: (52, .nop, [0]) :: []
def p_X11_count_34 : List (List (Nat × Nat)) := [] :: [] :: [] :: [] :: [(5, 236)] :: [] :: [] :: [] :: [] :: [] :: []
def b_X11_count_32 : List zE := (32, .iconst 0, [0]) :: (33, .istore_n 3, []) :: (34, .nop, []) :: []
def p_X11_count_32 : List (List (Nat × Nat)) := [] :: [] :: [] :: []
def b_X11_count_0 : List zE := (0, .iconst 0, [0]) :: (1, .istore_n 2, []) :: (2, .iload_n 1, []) :: (3, .tableswitch 118 0 3 #[29, 57, 85, 113], [121, 32, 60, 88, 116]) :: []
def p_X11_count_0 : List (List (Nat × Nat)) := [] :: [] :: [] :: [] :: []
def bl_X11_count : List (Nat × List zE) := [(0, b_X11_count_0), (32, b_X11_count_32), (34, b_X11_count_34), (52, b_X11_count_52), (58, b_X11_count_58), (60, b_X11_count_60), (62, b_X11_count_62), (80, b_X11_count_80), (86, b_X11_count_86), (88, b_X11_count_88), (90, b_X11_count_90), (108, b_X11_count_108), (114, b_X11_count_114), (116, b_X11_count_116), (121, b_X11_count_121)]
def pl_X11_count : List (List (List (Nat × Nat))) := [p_X11_count_0, p_X11_count_32, p_X11_count_34, p_X11_count_52, p_X11_count_58, p_X11_count_60, p_X11_count_62, p_X11_count_80, p_X11_count_86, p_X11_count_88, p_X11_count_90, p_X11_count_108, p_X11_count_114, p_X11_count_116, p_X11_count_121]
theorem k_X11_count_0 : zlk 0 bl_X11_count = b_X11_count_0 := rfl
theorem k_X11_count_32 : zlk 32 bl_X11_count = b_X11_count_32 := rfl
theorem k_X11_count_34 : zlk 34 bl_X11_count = b_X11_count_34 := rfl
theorem k_X11_count_52 : zlk 52 bl_X11_count = b_X11_count_52 := rfl
theorem k_X11_count_58 : zlk 58 bl_X11_count = b_X11_count_58 := rfl
theorem k_X11_count_60 : zlk 60 bl_X11_count = b_X11_count_60 := rfl
theorem k_X11_count_62 : zlk 62 bl_X11_count = b_X11_count_62 := rfl
theorem k_X11_count_80 : zlk 80 bl_X11_count = b_X11_count_80 := rfl
theorem k_X11_count_86 : zlk 86 bl_X11_count = b_X11_count_86 := rfl
theorem k_X11_count_88 : zlk 88 bl_X11_count = b_X11_count_88 := rfl
theorem k_X11_count_90 : zlk 90 bl_X11_count = b_X11_count_90 := rfl
theorem k_X11_count_108 : zlk 108 bl_X11_count = b_X11_count_108 := rfl
theorem k_X11_count_114 : zlk 114 bl_X11_count = b_X11_count_114 := rfl
theorem k_X11_count_116 : zlk 116 bl_X11_count = b_X11_count_116 := rfl
theorem k_X11_count_121 : zlk 121 bl_X11_count = b_X11_count_121 := rfl
set_option maxRecDepth 100000 in
theorem ck_X11_count : zall q_X11_count.2.2.2.2.1 q_X11_count.2.1 11 false q_X11_count.2.2.1 cal_X11_count q_X11_count.2.2.2.1 bl_X11_count pl_X11_count = true := by decide +kernel
theorem nm_X11_count : plainName q_X11_count.1.cls = true ∧ zRX 11 = q_X11_count.1.cls ∧ (false = true → q_X11_count.1.name = "<init>") := ⟨by decide +kernel, rfl, fun h => by first | rfl | cases h⟩
