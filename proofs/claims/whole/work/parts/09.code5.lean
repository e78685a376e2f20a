/-! the methods' code as data (written by wip/whole/gen/code.py) -/
set_option maxRecDepth 100000 in
theorem wd_X11_factor : zwd q_X11_factor := ⟨zw_in (p := (7, 103)) (by decide +kernel), zw_in (p := (1, 11)) (by decide +kernel), fun h => absurd h (by decide), fun _ => zw_in (p := (7, 101)) (by decide +kernel), fun _ => zw_in (p := (7, 102)) (by decide +kernel)⟩
def cal_X11_factor : List zCal := [q_X11_isMatrix, q_X11_at, q_X11_size, q_X11_rootRow, q_X11_step]
def b_X11_factor_329 : List zE := (329, .aload_n 0, []) :: (330, .getfield 49, [11, 13]) :: (333, .iload 4, []) :: (335, .iconst 1, [1]) :: (336, .bastore, []) :: (337, .iload 4, []) :: (339, .ireturn, []) :: []
def p_X11_factor_329 : List (List (Nat × Nat)) := [] :: [(6, 4)] :: [] :: [] :: [] :: [] :: [] :: []
def b_X11_factor_323 : List zE := (323, .iinc 5 1, [1]) :: (326, .goto (-52), [274, 1]) :: []
def p_X11_factor_323 : List (List (Nat × Nat)) := [] :: [] :: []
def b_X11_factor_310 : List zE := (310, .istore 6, []) :: (312, .iload 6, []) :: (314, .ifCond .ne 9, [323, 0]) :: (317, .bipush (-2), [4294967294]) :: (319, .iload 5, []) :: (321, .isub, []) :: (322, .ireturn, []) :: []
def p_X11_factor_310 : List (List (Nat × Nat)) := [] :: [] :: [] :: [] :: [] :: [] :: [] :: []
def b_X11_factor_302 : List zE := (302, .aload_n 0, []) :: (303, .iload 4, []) :: (305, .iload 5, []) :: (307, .invokevirtual 306, [4, 2, 11]) :: (310, .nop, [0]) :: []
def p_X11_factor_302 : List (List (Nat × Nat)) := [] :: [] :: [] :: [(7, 113)] :: [] :: []
def b_X11_factor_274 : List zE := (274, .iload 5, []) :: (276, .aload_n 0, []) :: (277, .getfield 58, [11, 16]) :: (280, .iload 4, []) :: (282, .iaload, []) :: (283, .if_icmp .ge 46, [329, 0]) :: (286, .iload_n 2, []) :: (287, .iconst 3, [3]) :: (288, .if_icmp .ne 14, [302, 0]) :: (291, .aload_n 0, []) :: (292, .iload 4, []) :: (294, .iload 5, []) :: (296, .invokevirtual 302, [3, 2, 11]) :: (299, .goto 11, [310, 0]) :: []
def p_X11_factor_274 : List (List (Nat × Nat)) := [] :: [] :: [(6, 7)] :: [] :: [] :: [] :: [] :: [] :: [] :: [] :: [] :: [] :: [(7, 104)] :: [] :: []
def b_X11_factor_271 : List zE := (271, .iconst 0, [0]) :: (272, .istore 5, []) :: (274, .nop, []) :: []
def p_X11_factor_271 : List (List (Nat × Nat)) := [] :: [] :: [] :: []
def b_X11_factor_265 : List zE := (265, .iinc 5 1, [1]) :: (268, .goto (-107), [161, 1]) :: []
def p_X11_factor_265 : List (List (Nat × Nat)) := [] :: [] :: []
def b_X11_factor_259 : List zE := (259, .iinc 6 1, [1]) :: (262, .goto (-91), [171, 1]) :: []
def p_X11_factor_259 : List (List (Nat × Nat)) := [] :: [] :: []
def b_X11_factor_230 : List zE := (230, .dastore, []) :: (231, .dload 7, []) :: (233, .invokestatic 289, [2, 1]) :: (236, .aload_n 0, []) :: (237, .getfield 70, [11, 20]) :: (240, .iload 4, []) :: (242, .daload, []) :: (243, .dcmp .l, []) :: (244, .ifCond .le 15, [259, 0]) :: (247, .aload_n 0, []) :: (248, .getfield 70, [11, 20]) :: (251, .iload 4, []) :: (253, .dload 7, []) :: (255, .invokestatic 289, [2, 1]) :: (258, .dastore, []) :: (259, .nop, [0]) :: []
def p_X11_factor_230 : List (List (Nat × Nat)) := [] :: [] :: [(7, 12)] :: [] :: [(6, 11)] :: [] :: [] :: [] :: [] :: [] :: [(6, 11)] :: [] :: [] :: [(7, 12)] :: [] :: [] :: []
def b_X11_factor_228 : List zE := (228, .dload 7, []) :: (230, .nop, [0]) :: []
def p_X11_factor_228 : List (List (Nat × Nat)) := [] :: [] :: []
def b_X11_factor_171 : List zE := (171, .iload 6, []) :: (173, .bipush 8, [8]) :: (175, .if_icmp .ge 90, [265, 0]) :: (178, .aload_n 0, []) :: (179, .getfield 19, [11, 4]) :: (182, .aload_n 0, []) :: (183, .iload_n 1, []) :: (184, .iload 5, []) :: (186, .iload 6, []) :: (188, .invokevirtual 261, [1, 3, 11]) :: (191, .daload, []) :: (192, .dstore 7, []) :: (194, .aload_n 0, []) :: (195, .getfield 46, [11, 12]) :: (198, .bipush 64, [64]) :: (200, .iload 4, []) :: (202, .imul, []) :: (203, .bipush 8, [8]) :: (205, .iload 5, []) :: (207, .imul, []) :: (208, .iadd, []) :: (209, .iload 6, []) :: (211, .iadd, []) :: (212, .iload_n 2, []) :: (213, .iconst 3, [3]) :: (214, .if_icmp .ne 14, [228, 0]) :: (217, .iload 6, []) :: (219, .iload 5, []) :: (221, .if_icmp .le 7, [228, 0]) :: (224, .dconst 0, [0]) :: (225, .goto 5, [230, 0]) :: []
def p_X11_factor_171 : List (List (Nat × Nat)) := [] :: [] :: [] :: [] :: [(5, 235)] :: [] :: [] :: [] :: [] :: [(6, 215)] :: [] :: [] :: [] :: [(6, 3)] :: [] :: [] :: [] :: [] :: [] :: [] :: [] :: [] :: [] :: [] :: [] :: [] :: [] :: [] :: [] :: [] :: [] :: []
def b_X11_factor_161 : List zE := (161, .iload 5, []) :: (163, .bipush 8, [8]) :: (165, .if_icmp .ge 106, [271, 0]) :: (168, .iconst 0, [0]) :: (169, .istore 6, []) :: (171, .nop, []) :: []
def p_X11_factor_161 : List (List (Nat × Nat)) := [] :: [] :: [] :: [] :: [] :: [] :: []
def b_X11_factor_158 : List zE := (158, .iconst 0, [0]) :: (159, .istore 5, []) :: (161, .nop, []) :: []
def p_X11_factor_158 : List (List (Nat × Nat)) := [] :: [] :: [] :: []
def b_X11_factor_115 : List zE := (115, .iload 5, []) :: (117, .bipush 8, [8]) :: (119, .if_icmp .ge 39, [158, 0]) :: (122, .aload_n 0, []) :: (123, .getfield 61, [11, 17]) :: (126, .bipush 8, [8]) :: (128, .iload 4, []) :: (130, .imul, []) :: (131, .iload 5, []) :: (133, .iadd, []) :: (134, .iload 5, []) :: (136, .iastore, []) :: (137, .aload_n 0, []) :: (138, .getfield 64, [11, 18]) :: (141, .bipush 8, [8]) :: (143, .iload 4, []) :: (145, .imul, []) :: (146, .iload 5, []) :: (148, .iadd, []) :: (149, .iload 5, []) :: (151, .iastore, []) :: (152, .iinc 5 1, [1]) :: (155, .goto (-40), [115, 1]) :: []
def p_X11_factor_115 : List (List (Nat × Nat)) := [] :: [] :: [] :: [] :: [(6, 8)] :: [] :: [] :: [] :: [] :: [] :: [] :: [] :: [] :: [(6, 9)] :: [] :: [] :: [] :: [] :: [] :: [] :: [] :: [] :: [] :: []
def b_X11_factor_67 : List zE := (67, .aload_n 0, []) :: (68, .getfield 52, [11, 14]) :: (71, .iload 4, []) :: (73, .iload_n 2, []) :: (74, .iastore, []) :: (75, .aload_n 0, []) :: (76, .getfield 55, [11, 15]) :: (79, .iload 4, []) :: (81, .iload_n 3, []) :: (82, .bastore, []) :: (83, .aload_n 0, []) :: (84, .getfield 58, [11, 16]) :: (87, .iload 4, []) :: (89, .aload_n 0, []) :: (90, .getfield 31, [11, 7]) :: (93, .iload_n 1, []) :: (94, .iaload, []) :: (95, .iastore, []) :: (96, .aload_n 0, []) :: (97, .getfield 67, [11, 19]) :: (100, .iload 4, []) :: (102, .iconst 0, [0]) :: (103, .iastore, []) :: (104, .aload_n 0, []) :: (105, .getfield 70, [11, 20]) :: (108, .iload 4, []) :: (110, .dconst 0, [0]) :: (111, .dastore, []) :: (112, .iconst 0, [0]) :: (113, .istore 5, []) :: (115, .nop, []) :: []
def p_X11_factor_67 : List (List (Nat × Nat)) := [] :: [(6, 5)] :: [] :: [] :: [] :: [] :: [(6, 6)] :: [] :: [] :: [] :: [] :: [(6, 7)] :: [] :: [] :: [(5, 238)] :: [] :: [] :: [] :: [] :: [(6, 10)] :: [] :: [] :: [] :: [] :: [(6, 11)] :: [] :: [] :: [] :: [] :: [] :: [] :: []
def b_X11_factor_65 : List zE := (65, .iconst (-1), [4294967295]) :: (66, .ireturn, []) :: []
def p_X11_factor_65 : List (List (Nat × Nat)) := [] :: [] :: []
def b_X11_factor_26 : List zE := (26, .aload_n 0, []) :: (27, .iload_n 1, []) :: (28, .invokevirtual 243, [0, 1, 11]) :: (31, .ifCond .eq 34, [65, 0]) :: (34, .iload_n 2, []) :: (35, .ifCond .lt 30, [65, 0]) :: (38, .iload_n 2, []) :: (39, .iconst 3, [3]) :: (40, .if_icmp .gt 25, [65, 0]) :: (43, .aload_n 0, []) :: (44, .getfield 31, [11, 7]) :: (47, .iload_n 1, []) :: (48, .iaload, []) :: (49, .aload_n 0, []) :: (50, .getfield 34, [11, 8]) :: (53, .iload_n 1, []) :: (54, .iaload, []) :: (55, .if_icmp .ne 10, [65, 0]) :: (58, .iload 4, []) :: (60, .bipush 12, [12]) :: (62, .if_icmp .ne 5, [67, 0]) :: (65, .nop, [0]) :: []
def p_X11_factor_26 : List (List (Nat × Nat)) := [] :: [] :: [(6, 186)] :: [] :: [] :: [] :: [] :: [] :: [] :: [] :: [(5, 238)] :: [] :: [] :: [] :: [(5, 239)] :: [] :: [] :: [] :: [] :: [] :: [] :: [] :: []
def b_X11_factor_3 : List zE := (3, .iload 4, []) :: (5, .bipush 12, [12]) :: (7, .if_icmp .ge 19, [26, 0]) :: (10, .aload_n 0, []) :: (11, .getfield 49, [11, 13]) :: (14, .iload 4, []) :: (16, .baload, []) :: (17, .ifCond .eq 9, [26, 0]) :: (20, .iinc 4 1, [1]) :: (23, .goto (-20), [3, 1]) :: []
def p_X11_factor_3 : List (List (Nat × Nat)) := [] :: [] :: [] :: [] :: [(6, 4)] :: [] :: [] :: [] :: [] :: [] :: []
def b_X11_factor_0 : List zE := (0, .iconst 0, [0]) :: (1, .istore 4, []) :: (3, .nop, []) :: []
def p_X11_factor_0 : List (List (Nat × Nat)) := [] :: [] :: [] :: []
def bl_X11_factor : List (Nat × List zE) := [(0, b_X11_factor_0), (3, b_X11_factor_3), (26, b_X11_factor_26), (65, b_X11_factor_65), (67, b_X11_factor_67), (115, b_X11_factor_115), (158, b_X11_factor_158), (161, b_X11_factor_161), (171, b_X11_factor_171), (228, b_X11_factor_228), (230, b_X11_factor_230), (259, b_X11_factor_259), (265, b_X11_factor_265), (271, b_X11_factor_271), (274, b_X11_factor_274), (302, b_X11_factor_302), (310, b_X11_factor_310), (323, b_X11_factor_323), (329, b_X11_factor_329)]
def pl_X11_factor : List (List (List (Nat × Nat))) := [p_X11_factor_0, p_X11_factor_3, p_X11_factor_26, p_X11_factor_65, p_X11_factor_67, p_X11_factor_115, p_X11_factor_158, p_X11_factor_161, p_X11_factor_171, p_X11_factor_228, p_X11_factor_230, p_X11_factor_259, p_X11_factor_265, p_X11_factor_271, p_X11_factor_274, p_X11_factor_302, p_X11_factor_310, p_X11_factor_323, p_X11_factor_329]
theorem k_X11_factor_0 : zlk 0 bl_X11_factor = b_X11_factor_0 := rfl
theorem k_X11_factor_3 : zlk 3 bl_X11_factor = b_X11_factor_3 := rfl
theorem k_X11_factor_26 : zlk 26 bl_X11_factor = b_X11_factor_26 := rfl
theorem k_X11_factor_65 : zlk 65 bl_X11_factor = b_X11_factor_65 := rfl
theorem k_X11_factor_67 : zlk 67 bl_X11_factor = b_X11_factor_67 := rfl
theorem k_X11_factor_115 : zlk 115 bl_X11_factor = b_X11_factor_115 := rfl
theorem k_X11_factor_158 : zlk 158 bl_X11_factor = b_X11_factor_158 := rfl
theorem k_X11_factor_161 : zlk 161 bl_X11_factor = b_X11_factor_161 := rfl
theorem k_X11_factor_171 : zlk 171 bl_X11_factor = b_X11_factor_171 := rfl
theorem k_X11_factor_228 : zlk 228 bl_X11_factor = b_X11_factor_228 := rfl
theorem k_X11_factor_230 : zlk 230 bl_X11_factor = b_X11_factor_230 := rfl
theorem k_X11_factor_259 : zlk 259 bl_X11_factor = b_X11_factor_259 := rfl
theorem k_X11_factor_265 : zlk 265 bl_X11_factor = b_X11_factor_265 := rfl
theorem k_X11_factor_271 : zlk 271 bl_X11_factor = b_X11_factor_271 := rfl
theorem k_X11_factor_274 : zlk 274 bl_X11_factor = b_X11_factor_274 := rfl
theorem k_X11_factor_302 : zlk 302 bl_X11_factor = b_X11_factor_302 := rfl
theorem k_X11_factor_310 : zlk 310 bl_X11_factor = b_X11_factor_310 := rfl
theorem k_X11_factor_323 : zlk 323 bl_X11_factor = b_X11_factor_323 := rfl
theorem k_X11_factor_329 : zlk 329 bl_X11_factor = b_X11_factor_329 := rfl
set_option maxRecDepth 100000 in
theorem ck_X11_factor : zall q_X11_factor.2.2.2.2.1 q_X11_factor.2.1 11 false q_X11_factor.2.2.1 cal_X11_factor q_X11_factor.2.2.2.1 bl_X11_factor pl_X11_factor = true := by decide +kernel
theorem nm_X11_factor : plainName q_X11_factor.1.cls = true ∧ zRX 11 = q_X11_factor.1.cls ∧ (false = true → q_X11_factor.1.name = "<init>") := ⟨by decide +kernel, rfl, fun h => by first | rfl | cases h⟩
set_option maxRecDepth 100000 in
theorem wd_X11_release : zwd q_X11_release := ⟨zw_in (p := (7, 128)) (by decide +kernel), zw_in (p := (1, 11)) (by decide +kernel), fun h => absurd h (by decide), fun _ => zw_in (p := (7, 126)) (by decide +kernel), fun _ => zw_in (p := (7, 127)) (by decide +kernel)⟩
def cal_X11_release : List zCal := [q_X11_isFactor]
def b_X11_release_10 : List zE := (10, .aload_n 0, []) :: (11, .getfield 49, [11, 13]) :: (14, .iload_n 1, []) :: (15, .iconst 0, [0]) :: (16, .bastore, []) :: (17, .iconst 1, [1]) :: (18, .ireturn, []) :: []
def p_X11_release_10 : List (List (Nat × Nat)) := [] :: [(6, 4)] :: [] :: [] :: [] :: [] :: [] :: []
def b_X11_release_0 : List zE := (0, .aload_n 0, []) :: (1, .iload_n 1, []) :: (2, .invokevirtual 309, [0, 1, 11]) :: (5, .ifCond .ne 5, [10, 0]) :: (8, .iconst 0, [0]) :: (9, .ireturn, []) :: []
def p_X11_release_0 : List (List (Nat × Nat)) := [] :: [] :: [(7, 129)] :: [] :: [] :: [] :: []
def bl_X11_release : List (Nat × List zE) := [(0, b_X11_release_0), (10, b_X11_release_10)]
def pl_X11_release : List (List (List (Nat × Nat))) := [p_X11_release_0, p_X11_release_10]
theorem k_X11_release_0 : zlk 0 bl_X11_release = b_X11_release_0 := rfl
theorem k_X11_release_10 : zlk 10 bl_X11_release = b_X11_release_10 := rfl
set_option maxRecDepth 100000 in
theorem ck_X11_release : zall q_X11_release.2.2.2.2.1 q_X11_release.2.1 11 false q_X11_release.2.2.1 cal_X11_release q_X11_release.2.2.2.1 bl_X11_release pl_X11_release = true := by decide +kernel
theorem nm_X11_release : plainName q_X11_release.1.cls = true ∧ zRX 11 = q_X11_release.1.cls ∧ (false = true → q_X11_release.1.name = "<init>") := ⟨by decide +kernel, rfl, fun h => by first | rfl | cases h⟩
set_option maxRecDepth 100000 in
theorem wd_X11_isOfFactor : zwd q_X11_isOfFactor := ⟨zw_in (p := (7, 140)) (by decide +kernel), zw_in (p := (1, 11)) (by decide +kernel), fun h => absurd h (by decide), fun _ => zw_in (p := (7, 139)) (by decide +kernel), fun _ => zw_in (p := (0, 74)) (by decide +kernel)⟩
def cal_X11_isOfFactor : List zCal := [q_X11_isFactor]
def b_X11_isOfFactor_27 : List zE := (27, .ireturn, []) :: []
def p_X11_isOfFactor_27 : List (List (Nat × Nat)) := [] :: []
def b_X11_isOfFactor_26 : List zE := (26, .iconst 0, [0]) :: (27, .nop, [0]) :: []
def p_X11_isOfFactor_26 : List (List (Nat × Nat)) := [] :: [] :: []
def b_X11_isOfFactor_0 : List zE := (0, .aload_n 0, []) :: (1, .iload_n 1, []) :: (2, .invokevirtual 309, [0, 1, 11]) :: (5, .ifCond .eq 21, [26, 0]) :: (8, .iload_n 2, []) :: (9, .ifCond .lt 17, [26, 0]) :: (12, .iload_n 2, []) :: (13, .aload_n 0, []) :: (14, .getfield 58, [11, 16]) :: (17, .iload_n 1, []) :: (18, .iaload, []) :: (19, .if_icmp .ge 7, [26, 0]) :: (22, .iconst 1, [1]) :: (23, .goto 4, [27, 0]) :: []
def p_X11_isOfFactor_0 : List (List (Nat × Nat)) := [] :: [] :: [(7, 129)] :: [] :: [] :: [] :: [] :: [] :: [(6, 7)] :: [] :: [] :: [] :: [] :: [] :: []
def bl_X11_isOfFactor : List (Nat × List zE) := [(0, b_X11_isOfFactor_0), (26, b_X11_isOfFactor_26), (27, b_X11_isOfFactor_27)]
def pl_X11_isOfFactor : List (List (List (Nat × Nat))) := [p_X11_isOfFactor_0, p_X11_isOfFactor_26, p_X11_isOfFactor_27]
theorem k_X11_isOfFactor_0 : zlk 0 bl_X11_isOfFactor = b_X11_isOfFactor_0 := rfl
theorem k_X11_isOfFactor_26 : zlk 26 bl_X11_isOfFactor = b_X11_isOfFactor_26 := rfl
theorem k_X11_isOfFactor_27 : zlk 27 bl_X11_isOfFactor = b_X11_isOfFactor_27 := rfl
set_option maxRecDepth 100000 in
theorem ck_X11_isOfFactor : zall q_X11_isOfFactor.2.2.2.2.1 q_X11_isOfFactor.2.1 11 false q_X11_isOfFactor.2.2.1 cal_X11_isOfFactor q_X11_isOfFactor.2.2.2.1 bl_X11_isOfFactor pl_X11_isOfFactor = true := by decide +kernel
theorem nm_X11_isOfFactor : plainName q_X11_isOfFactor.1.cls = true ∧ zRX 11 = q_X11_isOfFactor.1.cls ∧ (false = true → q_X11_isOfFactor.1.name = "<init>") := ⟨by decide +kernel, rfl, fun h => by first | rfl | cases h⟩
set_option maxRecDepth 100000 in
theorem wd_X11_part : zwd q_X11_part := ⟨zw_in (p := (7, 136)) (by decide +kernel), zw_in (p := (1, 11)) (by decide +kernel), fun h => absurd h (by decide), fun _ => zw_in (p := (7, 134)) (by decide +kernel), fun _ => zw_in (p := (7, 135)) (by decide +kernel)⟩
def cal_X11_part : List zCal := [q_X11_isOfFactor, q_X11_bits]
def b_X11_part_43 : List zE := (43, .lreturn, []) :: []
def p_X11_part_43 : List (List (Nat × Nat)) := [] :: []
def b_X11_part_40 : List zE := (40, .ldc2_w 269, [18446744073709551615]) :: (43, .nop, [0]) :: []
def p_X11_part_40 : List (List (Nat × Nat)) := [(7, 0)] :: [] :: []
def b_X11_part_0 : List zE := (0, .aload_n 0, []) :: (1, .iload_n 1, []) :: (2, .iload_n 2, []) :: (3, .invokevirtual 312, [0, 2, 11]) :: (6, .ifCond .eq 34, [40, 0]) :: (9, .aload_n 0, []) :: (10, .iload_n 1, []) :: (11, .iload_n 3, []) :: (12, .invokevirtual 312, [0, 2, 11]) :: (15, .ifCond .eq 25, [40, 0]) :: (18, .aload_n 0, []) :: (19, .getfield 46, [11, 12]) :: (22, .bipush 64, [64]) :: (24, .iload_n 1, []) :: (25, .imul, []) :: (26, .bipush 8, [8]) :: (28, .iload_n 2, []) :: (29, .imul, []) :: (30, .iadd, []) :: (31, .iload_n 3, []) :: (32, .iadd, []) :: (33, .daload, []) :: (34, .invokestatic 158, [1, 1]) :: (37, .goto 6, [43, 0]) :: []
def p_X11_part_0 : List (List (Nat × Nat)) := [] :: [] :: [] :: [(7, 137)] :: [] :: [] :: [] :: [] :: [(7, 137)] :: [] :: [] :: [(6, 3)] :: [] :: [] :: [] :: [] :: [] :: [] :: [] :: [] :: [] :: [] :: [(6, 227)] :: [] :: []
def bl_X11_part : List (Nat × List zE) := [(0, b_X11_part_0), (40, b_X11_part_40), (43, b_X11_part_43)]
def pl_X11_part : List (List (List (Nat × Nat))) := [p_X11_part_0, p_X11_part_40, p_X11_part_43]
theorem k_X11_part_0 : zlk 0 bl_X11_part = b_X11_part_0 := rfl
theorem k_X11_part_40 : zlk 40 bl_X11_part = b_X11_part_40 := rfl
theorem k_X11_part_43 : zlk 43 bl_X11_part = b_X11_part_43 := rfl
set_option maxRecDepth 100000 in
theorem ck_X11_part : zall q_X11_part.2.2.2.2.1 q_X11_part.2.1 11 false q_X11_part.2.2.1 cal_X11_part q_X11_part.2.2.2.1 bl_X11_part pl_X11_part = true := by decide +kernel
theorem nm_X11_part : plainName q_X11_part.1.cls = true ∧ zRX 11 = q_X11_part.1.cls ∧ (false = true → q_X11_part.1.name = "<init>") := ⟨by decide +kernel, rfl, fun h => by first | rfl | cases h⟩
set_option maxRecDepth 100000 in
theorem wd_X11_order_ : zwd q_X11_order_ := ⟨zw_in (p := (7, 144)) (by decide +kernel), zw_in (p := (1, 11)) (by decide +kernel), fun h => absurd h (by decide), fun _ => zw_in (p := (7, 142)) (by decide +kernel), fun _ => zw_in (p := (7, 143)) (by decide +kernel)⟩
def cal_X11_order_ : List zCal := [q_X11_isOfFactor]
def b_X11_order__49 : List zE := (49, .ireturn, []) :: []
def p_X11_order__49 : List (List (Nat × Nat)) := [] :: []
def b_X11_order__38 : List zE := (38, .aload_n 0, []) :: (39, .getfield 64, [11, 18]) :: (42, .bipush 8, [8]) :: (44, .iload_n 1, []) :: (45, .imul, []) :: (46, .iload_n 3, []) :: (47, .iadd, []) :: (48, .iaload, []) :: (49, .nop, [0]) :: []
def p_X11_order__38 : List (List (Nat × Nat)) := [] :: [(6, 9)] :: [] :: [] :: [] :: [] :: [] :: [] :: [] :: []
def b_X11_order__20 : List zE := (20, .iload_n 2, []) :: (21, .ifCond .ne 17, [38, 0]) :: (24, .aload_n 0, []) :: (25, .getfield 61, [11, 17]) :: (28, .bipush 8, [8]) :: (30, .iload_n 1, []) :: (31, .imul, []) :: (32, .iload_n 3, []) :: (33, .iadd, []) :: (34, .iaload, []) :: (35, .goto 14, [49, 0]) :: []
def p_X11_order__20 : List (List (Nat × Nat)) := [] :: [] :: [] :: [(6, 8)] :: [] :: [] :: [] :: [] :: [] :: [] :: [] :: []
def b_X11_order__18 : List zE := (18, .iconst (-1), [4294967295]) :: (19, .ireturn, []) :: []
def p_X11_order__18 : List (List (Nat × Nat)) := [] :: [] :: []
def b_X11_order__0 : List zE := (0, .aload_n 0, []) :: (1, .iload_n 1, []) :: (2, .iload_n 3, []) :: (3, .invokevirtual 312, [0, 2, 11]) :: (6, .ifCond .eq 12, [18, 0]) :: (9, .iload_n 2, []) :: (10, .ifCond .eq 10, [20, 0]) :: (13, .iload_n 2, []) :: (14, .iconst 1, [1]) :: (15, .if_icmp .eq 5, [20, 0]) :: (18, .nop, [0]) :: []
def p_X11_order__0 : List (List (Nat × Nat)) := [] :: [] :: [] :: [(7, 137)] :: [] :: [] :: [] :: [] :: [] :: [] :: [] :: []
def bl_X11_order_ : List (Nat × List zE) := [(0, b_X11_order__0), (18, b_X11_order__18), (20, b_X11_order__20), (38, b_X11_order__38), (49, b_X11_order__49)]
def pl_X11_order_ : List (List (List (Nat × Nat))) := [p_X11_order__0, p_X11_order__18, p_X11_order__20, p_X11_order__38, p_X11_order__49]
theorem k_X11_order__0 : zlk 0 bl_X11_order_ = b_X11_order__0 := rfl
theorem k_X11_order__18 : zlk 18 bl_X11_order_ = b_X11_order__18 := rfl
theorem k_X11_order__20 : zlk 20 bl_X11_order_ = b_X11_order__20 := rfl
theorem k_X11_order__38 : zlk 38 bl_X11_order_ = b_X11_order__38 := rfl
theorem k_X11_order__49 : zlk 49 bl_X11_order_ = b_X11_order__49 := rfl
set_option maxRecDepth 100000 in
theorem ck_X11_order_ : zall q_X11_order_.2.2.2.2.1 q_X11_order_.2.1 11 false q_X11_order_.2.2.1 cal_X11_order_ q_X11_order_.2.2.2.1 bl_X11_order_ pl_X11_order_ = true := by decide +kernel
theorem nm_X11_order_ : plainName q_X11_order_.1.cls = true ∧ zRX 11 = q_X11_order_.1.cls ∧ (false = true → q_X11_order_.1.name = "<init>") := ⟨by decide +kernel, rfl, fun h => by first | rfl | cases h⟩
set_option maxRecDepth 100000 in
theorem wd_X11_growth : zwd q_X11_growth := ⟨zw_in (p := (7, 148)) (by decide +kernel), zw_in (p := (1, 11)) (by decide +kernel), fun h => absurd h (by decide), fun _ => zw_in (p := (7, 146)) (by decide +kernel), fun _ => zw_in (p := (7, 147)) (by decide +kernel)⟩
def cal_X11_growth : List zCal := [q_X11_isFactor, q_X11_size, q_X11_bits]
def b_X11_growth_114 : List zE := (114, .dload_n 2, []) :: (115, .aload_n 0, []) :: (116, .getfield 70, [11, 20]) :: (119, .iload_n 1, []) :: (120, .daload, []) :: (121, .ddiv, []) :: (122, .invokestatic 158, [2, 1]) :: (125, .lreturn, []) :: []
def p_X11_growth_114 : List (List (Nat × Nat)) := [] :: [] :: [(6, 11)] :: [] :: [] :: [] :: [(6, 227)] :: [] :: []
def b_X11_growth_108 : List zE := (108, .iinc 4 1, [1]) :: (111, .goto (-94), [17, 1]) :: []
def p_X11_growth_108 : List (List (Nat × Nat)) := [] :: [] :: []
def b_X11_growth_102 : List zE := (102, .iinc 5 1, [1]) :: (105, .goto (-74), [31, 1]) :: []
def p_X11_growth_102 : List (List (Nat × Nat)) := [] :: [] :: []
def b_X11_growth_92 : List zE := (92, .dload 6, []) :: (94, .dload_n 2, []) :: (95, .dcmp .l, []) :: (96, .ifCond .le 6, [102, 0]) :: (99, .dload 6, []) :: (101, .dstore_n 2, []) :: (102, .nop, [0]) :: []
def p_X11_growth_92 : List (List (Nat × Nat)) := [] :: [] :: [] :: [] :: [] :: [] :: [] :: []
def b_X11_growth_85 : List zE := (85, .iload 5, []) :: (87, .iload 4, []) :: (89, .if_icmp .lt 13, [102, 0]) :: (92, .nop, [0]) :: []
def p_X11_growth_85 : List (List (Nat × Nat)) := [] :: [] :: [] :: [] :: []
def b_X11_growth_31 : List zE := (31, .iload 5, []) :: (33, .aload_n 0, []) :: (34, .getfield 58, [11, 16]) :: (37, .iload_n 1, []) :: (38, .iaload, []) :: (39, .if_icmp .ge 69, [108, 0]) :: (42, .aload_n 0, []) :: (43, .getfield 46, [11, 12]) :: (46, .bipush 64, [64]) :: (48, .iload_n 1, []) :: (49, .imul, []) :: (50, .bipush 8, [8]) :: (52, .iload 4, []) :: (54, .imul, []) :: (55, .iadd, []) :: (56, .iload 5, []) :: (58, .iadd, []) :: (59, .daload, []) :: (60, .invokestatic 289, [1, 1]) :: (63, .dstore 6, []) :: (65, .aload_n 0, []) :: (66, .getfield 52, [11, 14]) :: (69, .iload_n 1, []) :: (70, .iaload, []) :: (71, .iconst 3, [3]) :: (72, .if_icmp .ne 13, [85, 0]) :: (75, .iload 5, []) :: (77, .iload 4, []) :: (79, .if_icmp .gt 23, [102, 0]) :: (82, .goto 10, [92, 0]) :: []
def p_X11_growth_31 : List (List (Nat × Nat)) := [] :: [] :: [(6, 7)] :: [] :: [] :: [] :: [] :: [(6, 3)] :: [] :: [] :: [] :: [] :: [] :: [] :: [] :: [] :: [] :: [] :: [(7, 12)] :: [] :: [] :: [(6, 5)] :: [] :: [] :: [] :: [] :: [] :: [] :: [] :: [] :: []
def b_X11_growth_17 : List zE := (17, .iload 4, []) :: (19, .aload_n 0, []) :: (20, .getfield 58, [11, 16]) :: (23, .iload_n 1, []) :: (24, .iaload, []) :: (25, .if_icmp .ge 89, [114, 0]) :: (28, .iconst 0, [0]) :: (29, .istore 5, []) :: (31, .nop, []) :: []
def p_X11_growth_17 : List (List (Nat × Nat)) := [] :: [] :: [(6, 7)] :: [] :: [] :: [] :: [] :: [] :: [] :: []
def b_X11_growth_12 : List zE := (12, .dconst 0, [0]) :: (13, .dstore_n 2, []) :: (14, .iconst 0, [0]) :: (15, .istore 4, []) :: (17, .nop, []) :: []
def p_X11_growth_12 : List (List (Nat × Nat)) := [] :: [] :: [] :: [] :: [] :: []
def b_X11_growth_0 : List zE := (0, .aload_n 0, []) :: (1, .iload_n 1, []) :: (2, .invokevirtual 309, [0, 1, 11]) :: (5, .ifCond .ne 7, [12, 0]) :: (8, .ldc2_w 269, [18446744073709551615]) :: (11, .lreturn, []) :: []
def p_X11_growth_0 : List (List (Nat × Nat)) := [] :: [] :: [(7, 129)] :: [] :: [(7, 0)] :: [] :: []
def bl_X11_growth : List (Nat × List zE) := [(0, b_X11_growth_0), (12, b_X11_growth_12), (17, b_X11_growth_17), (31, b_X11_growth_31), (85, b_X11_growth_85), (92, b_X11_growth_92), (102, b_X11_growth_102), (108, b_X11_growth_108), (114, b_X11_growth_114)]
def pl_X11_growth : List (List (List (Nat × Nat))) := [p_X11_growth_0, p_X11_growth_12, p_X11_growth_17, p_X11_growth_31, p_X11_growth_85, p_X11_growth_92, p_X11_growth_102, p_X11_growth_108, p_X11_growth_114]
theorem k_X11_growth_0 : zlk 0 bl_X11_growth = b_X11_growth_0 := rfl
theorem k_X11_growth_12 : zlk 12 bl_X11_growth = b_X11_growth_12 := rfl
theorem k_X11_growth_17 : zlk 17 bl_X11_growth = b_X11_growth_17 := rfl
theorem k_X11_growth_31 : zlk 31 bl_X11_growth = b_X11_growth_31 := rfl
theorem k_X11_growth_85 : zlk 85 bl_X11_growth = b_X11_growth_85 := rfl
theorem k_X11_growth_92 : zlk 92 bl_X11_growth = b_X11_growth_92 := rfl
theorem k_X11_growth_102 : zlk 102 bl_X11_growth = b_X11_growth_102 := rfl
theorem k_X11_growth_108 : zlk 108 bl_X11_growth = b_X11_growth_108 := rfl
theorem k_X11_growth_114 : zlk 114 bl_X11_growth = b_X11_growth_114 := rfl
set_option maxRecDepth 100000 in
theorem ck_X11_growth : zall q_X11_growth.2.2.2.2.1 q_X11_growth.2.1 11 false q_X11_growth.2.2.1 cal_X11_growth q_X11_growth.2.2.2.1 bl_X11_growth pl_X11_growth = true := by decide +kernel
theorem nm_X11_growth : plainName q_X11_growth.1.cls = true ∧ zRX 11 = q_X11_growth.1.cls ∧ (false = true → q_X11_growth.1.name = "<init>") := ⟨by decide +kernel, rfl, fun h => by first | rfl | cases h⟩
set_option maxRecDepth 100000 in
theorem wd_X11_multiplies : zwd q_X11_multiplies := ⟨zw_in (p := (7, 157)) (by decide +kernel), zw_in (p := (1, 11)) (by decide +kernel), fun h => absurd h (by decide), fun _ => zw_in (p := (7, 156)) (by decide +kernel), fun _ => zw_in (p := (0, 75)) (by decide +kernel)⟩
def cal_X11_multiplies : List zCal := [q_X11_size]
def b_X11_multiplies_56 : List zE := (56, .return_, []) :: []
def p_X11_multiplies_56 : List (List (Nat × Nat)) := [] :: []
def b_X11_multiplies_0 : List zE := (0, .aload_n 0, []) :: (1, .aload_n 0, []) :: (2, .getfield 315, [11, 21]) :: (5, .dload_n 1, []) :: (6, .dmul, []) :: (7, .putfield 315, [11, 21]) :: (10, .aload_n 0, []) :: (11, .dup, []) :: (12, .getfield 319, [11, 22]) :: (15, .lload_n 3, []) :: (16, .ladd, []) :: (17, .putfield 319, [11, 22]) :: (20, .aload_n 0, []) :: (21, .getfield 315, [11, 21]) :: (24, .invokestatic 289, [0, 1]) :: (27, .ldc2_w 323, [4611686018427387904, 0]) :: (30, .dcmp .l, []) :: (31, .ifCond .lt 25, [56, 0]) :: (34, .aload_n 0, []) :: (35, .aload_n 0, []) :: (36, .getfield 315, [11, 21]) :: (39, .ldc2_w 325, [4602678819172646912, 0]) :: (42, .dmul, []) :: (43, .putfield 315, [11, 21]) :: (46, .aload_n 0, []) :: (47, .dup, []) :: (48, .getfield 319, [11, 22]) :: (51, .lconst 1, [1]) :: (52, .ladd, []) :: (53, .putfield 319, [11, 22]) :: (56, .nop, [0]) :: []
def p_X11_multiplies_0 : List (List (Nat × Nat)) := [] :: [] :: [(6, 12)] :: [] :: [] :: [(6, 12)] :: [] :: [] :: [(6, 13)] :: [] :: [] :: [(6, 13)] :: [] :: [(6, 12)] :: [(7, 12)] :: [(7, 158)] :: [] :: [] :: [] :: [] :: [(6, 12)] :: [(7, 159)] :: [] :: [(6, 12)] :: [] :: [] :: [(6, 13)] :: [] :: [] :: [(6, 13)] :: [] :: []
def bl_X11_multiplies : List (Nat × List zE) := [(0, b_X11_multiplies_0), (56, b_X11_multiplies_56)]
def pl_X11_multiplies : List (List (List (Nat × Nat))) := [p_X11_multiplies_0, p_X11_multiplies_56]
theorem k_X11_multiplies_0 : zlk 0 bl_X11_multiplies = b_X11_multiplies_0 := rfl
theorem k_X11_multiplies_56 : zlk 56 bl_X11_multiplies = b_X11_multiplies_56 := rfl
set_option maxRecDepth 100000 in
theorem ck_X11_multiplies : zall q_X11_multiplies.2.2.2.2.1 q_X11_multiplies.2.1 11 false q_X11_multiplies.2.2.1 cal_X11_multiplies q_X11_multiplies.2.2.2.1 bl_X11_multiplies pl_X11_multiplies = true := by decide +kernel
theorem nm_X11_multiplies : plainName q_X11_multiplies.1.cls = true ∧ zRX 11 = q_X11_multiplies.1.cls ∧ (false = true → q_X11_multiplies.1.name = "<init>") := ⟨by decide +kernel, rfl, fun h => by first | rfl | cases h⟩
set_option maxRecDepth 100000 in
theorem wd_X11_pivots : zwd q_X11_pivots := ⟨zw_in (p := (7, 152)) (by decide +kernel), zw_in (p := (1, 11)) (by decide +kernel), fun h => absurd h (by decide), fun _ => zw_in (p := (7, 150)) (by decide +kernel), fun _ => zw_in (p := (7, 151)) (by decide +kernel)⟩
def cal_X11_pivots : List zCal := [q_X11_isFactor, q_X11_whole, q_X11_power, q_X11_composed, q_X11_bits, q_X11_multiplies]
def b_X11_pivots_201 : List zE := (201, .lreturn, []) :: []
def p_X11_pivots_201 : List (List (Nat × Nat)) := [] :: []
def b_X11_pivots_197 : List zE := (197, .aload_n 0, []) :: (198, .getfield 319, [11, 22]) :: (201, .nop, [0]) :: []
def p_X11_pivots_197 : List (List (Nat × Nat)) := [] :: [(6, 13)] :: [] :: []
def b_X11_pivots_183 : List zE := (183, .iload_n 2, []) :: (184, .ifCond .ne 13, [197, 0]) :: (187, .aload_n 0, []) :: (188, .getfield 315, [11, 21]) :: (191, .invokestatic 158, [4, 1]) :: (194, .goto 7, [201, 0]) :: []
def p_X11_pivots_183 : List (List (Nat × Nat)) := [] :: [] :: [] :: [(6, 12)] :: [(6, 227)] :: [] :: []
def b_X11_pivots_162 : List zE := (162, .aload_n 0, []) :: (163, .getfield 67, [11, 19]) :: (166, .iload_n 1, []) :: (167, .iaload, []) :: (168, .iconst 2, [2]) :: (169, .irem, []) :: (170, .iconst 1, [1]) :: (171, .if_icmp .ne 12, [183, 0]) :: (174, .aload_n 0, []) :: (175, .aload_n 0, []) :: (176, .getfield 315, [11, 21]) :: (179, .dneg, []) :: (180, .putfield 315, [11, 21]) :: (183, .nop, [0]) :: []
def p_X11_pivots_162 : List (List (Nat × Nat)) := [] :: [(6, 10)] :: [] :: [] :: [] :: [] :: [] :: [] :: [] :: [] :: [(6, 12)] :: [] :: [(6, 12)] :: [] :: []
def b_X11_pivots_140 : List zE := (140, .aload_n 0, []) :: (141, .getfield 52, [11, 14]) :: (144, .iload_n 1, []) :: (145, .iaload, []) :: (146, .iconst 3, [3]) :: (147, .if_icmp .ne 15, [162, 0]) :: (150, .aload_n 0, []) :: (151, .aload_n 0, []) :: (152, .getfield 315, [11, 21]) :: (155, .aload_n 0, []) :: (156, .getfield 319, [11, 22]) :: (159, .invokevirtual 329, [5, 2, 11]) :: (162, .nop, [0]) :: []
def p_X11_pivots_140 : List (List (Nat × Nat)) := [] :: [(6, 5)] :: [] :: [] :: [] :: [] :: [] :: [] :: [(6, 12)] :: [] :: [(6, 13)] :: [(7, 154)] :: [] :: []
def b_X11_pivots_124 : List zE := (124, .iload 8, []) :: (126, .i2l, []) :: (127, .ldc2_w 327, [52]) :: (130, .ladd, []) :: (131, .invokevirtual 329, [5, 2, 11]) :: (134, .iinc 3 1, [1]) :: (137, .goto (-104), [33, 1]) :: []
def p_X11_pivots_124 : List (List (Nat × Nat)) := [] :: [] :: [(7, 153)] :: [] :: [(7, 154)] :: [] :: [] :: []
def b_X11_pivots_122 : List zE := (122, .dload 9, []) :: (124, .nop, [0]) :: []
def p_X11_pivots_122 : List (List (Nat × Nat)) := [] :: [] :: []
def b_X11_pivots_96 : List zE := (96, .lload 6, []) :: (98, .bipush (-52), [4294967244]) :: (100, .invokestatic 183, [3, 2]) :: (103, .dstore 9, []) :: (105, .aload_n 0, []) :: (106, .dload 4, []) :: (108, .invokestatic 158, [4, 1]) :: (111, .lconst 0, [0]) :: (112, .lcmp, []) :: (113, .ifCond .ge 9, [122, 0]) :: (116, .dload 9, []) :: (118, .dneg, []) :: (119, .goto 5, [124, 0]) :: []
def p_X11_pivots_96 : List (List (Nat × Nat)) := [] :: [] :: [(7, 81)] :: [] :: [] :: [] :: [(6, 227)] :: [] :: [] :: [] :: [] :: [] :: [] :: []
def b_X11_pivots_73 : List zE := (73, .lload 6, []) :: (75, .ldc2_w 168, [4503599627370496]) :: (78, .lcmp, []) :: (79, .ifCond .ge 17, [96, 0]) :: (82, .lload 6, []) :: (84, .ldc2_w 177, [2]) :: (87, .lmul, []) :: (88, .lstore 6, []) :: (90, .iinc 8 (-1), [4294967295]) :: (93, .goto (-20), [73, 1]) :: []
def p_X11_pivots_73 : List (List (Nat × Nat)) := [] :: [(7, 19)] :: [] :: [] :: [] :: [(7, 23)] :: [] :: [] :: [] :: [] :: []
def b_X11_pivots_33 : List zE := (33, .iload_n 3, []) :: (34, .aload_n 0, []) :: (35, .getfield 58, [11, 16]) :: (38, .iload_n 1, []) :: (39, .iaload, []) :: (40, .if_icmp .ge 100, [140, 0]) :: (43, .aload_n 0, []) :: (44, .getfield 46, [11, 12]) :: (47, .bipush 64, [64]) :: (49, .iload_n 1, []) :: (50, .imul, []) :: (51, .bipush 9, [9]) :: (53, .iload_n 3, []) :: (54, .imul, []) :: (55, .iadd, []) :: (56, .daload, []) :: (57, .dstore 4, []) :: (59, .dload 4, []) :: (61, .invokestatic 170, [1, 1]) :: (64, .lstore 6, []) :: (66, .dload 4, []) :: (68, .invokestatic 173, [2, 1]) :: (71, .istore 8, []) :: (73, .nop, []) :: []
def p_X11_pivots_33 : List (List (Nat × Nat)) := [] :: [] :: [(6, 7)] :: [] :: [] :: [] :: [] :: [(6, 3)] :: [] :: [] :: [] :: [] :: [] :: [] :: [] :: [] :: [] :: [] :: [(7, 16)] :: [] :: [] :: [(7, 20)] :: [] :: [] :: []
def b_X11_pivots_21 : List zE := (21, .aload_n 0, []) :: (22, .dconst 1, [4607182418800017408]) :: (23, .putfield 315, [11, 21]) :: (26, .aload_n 0, []) :: (27, .lconst 0, [0]) :: (28, .putfield 319, [11, 22]) :: (31, .iconst 0, [0]) :: (32, .istore_n 3, []) :: (33, .nop, []) :: []
def p_X11_pivots_21 : List (List (Nat × Nat)) := [] :: [] :: [(6, 12)] :: [] :: [] :: [(6, 13)] :: [] :: [] :: [] :: []
def b_X11_pivots_17 : List zE := (17, .ldc2_w 269, [18446744073709551615]) :: (20, .lreturn, []) :: []
def p_X11_pivots_17 : List (List (Nat × Nat)) := [(7, 0)] :: [] :: []
def b_X11_pivots_0 : List zE := (0, .aload_n 0, []) :: (1, .iload_n 1, []) :: (2, .invokevirtual 309, [0, 1, 11]) :: (5, .ifCond .eq 12, [17, 0]) :: (8, .iload_n 2, []) :: (9, .ifCond .eq 12, [21, 0]) :: (12, .iload_n 2, []) :: (13, .iconst 1, [1]) :: (14, .if_icmp .eq 7, [21, 0]) :: (17, .nop, [0]) :: []
def p_X11_pivots_0 : List (List (Nat × Nat)) := [] :: [] :: [(7, 129)] :: [] :: [] :: [] :: [] :: [] :: [] :: [] :: []
def bl_X11_pivots : List (Nat × List zE) := [(0, b_X11_pivots_0), (17, b_X11_pivots_17), (21, b_X11_pivots_21), (33, b_X11_pivots_33), (73, b_X11_pivots_73), (96, b_X11_pivots_96), (122, b_X11_pivots_122), (124, b_X11_pivots_124), (140, b_X11_pivots_140), (162, b_X11_pivots_162), (183, b_X11_pivots_183), (197, b_X11_pivots_197), (201, b_X11_pivots_201)]
def pl_X11_pivots : List (List (List (Nat × Nat))) := [p_X11_pivots_0, p_X11_pivots_17, p_X11_pivots_21, p_X11_pivots_33, p_X11_pivots_73, p_X11_pivots_96, p_X11_pivots_122, p_X11_pivots_124, p_X11_pivots_140, p_X11_pivots_162, p_X11_pivots_183, p_X11_pivots_197, p_X11_pivots_201]
theorem k_X11_pivots_0 : zlk 0 bl_X11_pivots = b_X11_pivots_0 := rfl
theorem k_X11_pivots_17 : zlk 17 bl_X11_pivots = b_X11_pivots_17 := rfl
theorem k_X11_pivots_21 : zlk 21 bl_X11_pivots = b_X11_pivots_21 := rfl
theorem k_X11_pivots_33 : zlk 33 bl_X11_pivots = b_X11_pivots_33 := rfl
theorem k_X11_pivots_73 : zlk 73 bl_X11_pivots = b_X11_pivots_73 := rfl
theorem k_X11_pivots_96 : zlk 96 bl_X11_pivots = b_X11_pivots_96 := rfl
theorem k_X11_pivots_122 : zlk 122 bl_X11_pivots = b_X11_pivots_122 := rfl
theorem k_X11_pivots_124 : zlk 124 bl_X11_pivots = b_X11_pivots_124 := rfl
theorem k_X11_pivots_140 : zlk 140 bl_X11_pivots = b_X11_pivots_140 := rfl
theorem k_X11_pivots_162 : zlk 162 bl_X11_pivots = b_X11_pivots_162 := rfl
theorem k_X11_pivots_183 : zlk 183 bl_X11_pivots = b_X11_pivots_183 := rfl
theorem k_X11_pivots_197 : zlk 197 bl_X11_pivots = b_X11_pivots_197 := rfl
theorem k_X11_pivots_201 : zlk 201 bl_X11_pivots = b_X11_pivots_201 := rfl
set_option maxRecDepth 100000 in
theorem ck_X11_pivots : zall q_X11_pivots.2.2.2.2.1 q_X11_pivots.2.1 11 false q_X11_pivots.2.2.1 cal_X11_pivots q_X11_pivots.2.2.2.1 bl_X11_pivots pl_X11_pivots = true := by decide +kernel
theorem nm_X11_pivots : plainName q_X11_pivots.1.cls = true ∧ zRX 11 = q_X11_pivots.1.cls ∧ (false = true → q_X11_pivots.1.name = "<init>") := ⟨by decide +kernel, rfl, fun h => by first | rfl | cases h⟩
set_option maxRecDepth 100000 in
theorem wd_X11_isVector : zwd q_X11_isVector := ⟨zw_in (p := (7, 175)) (by decide +kernel), zw_in (p := (1, 11)) (by decide +kernel), fun h => absurd h (by decide), fun _ => zw_in (p := (7, 174)) (by decide +kernel), fun _ => zw_in (p := (0, 77)) (by decide +kernel)⟩
def cal_X11_isVector : List zCal := []
def b_X11_isVector_24 : List zE := (24, .ireturn, []) :: []
def p_X11_isVector_24 : List (List (Nat × Nat)) := [] :: []
def b_X11_isVector_23 : List zE := (23, .iconst 0, [0]) :: (24, .nop, [0]) :: []
def p_X11_isVector_23 : List (List (Nat × Nat)) := [] :: [] :: []
def b_X11_isVector_0 : List zE := (0, .iload_n 1, []) :: (1, .ifCond .lt 22, [23, 0]) :: (4, .iload_n 1, []) :: (5, .bipush 24, [24]) :: (7, .if_icmp .ge 16, [23, 0]) :: (10, .aload_n 0, []) :: (11, .getfield 76, [11, 24]) :: (14, .iload_n 1, []) :: (15, .iaload, []) :: (16, .ifCond .le 7, [23, 0]) :: (19, .iconst 1, [1]) :: (20, .goto 4, [24, 0]) :: []
def p_X11_isVector_0 : List (List (Nat × Nat)) := [] :: [] :: [] :: [] :: [] :: [] :: [(6, 15)] :: [] :: [] :: [] :: [] :: [] :: []
def bl_X11_isVector : List (Nat × List zE) := [(0, b_X11_isVector_0), (23, b_X11_isVector_23), (24, b_X11_isVector_24)]
def pl_X11_isVector : List (List (List (Nat × Nat))) := [p_X11_isVector_0, p_X11_isVector_23, p_X11_isVector_24]
theorem k_X11_isVector_0 : zlk 0 bl_X11_isVector = b_X11_isVector_0 := rfl
theorem k_X11_isVector_23 : zlk 23 bl_X11_isVector = b_X11_isVector_23 := rfl
theorem k_X11_isVector_24 : zlk 24 bl_X11_isVector = b_X11_isVector_24 := rfl
set_option maxRecDepth 100000 in
theorem ck_X11_isVector : zall q_X11_isVector.2.2.2.2.1 q_X11_isVector.2.1 11 false q_X11_isVector.2.2.1 cal_X11_isVector q_X11_isVector.2.2.2.1 bl_X11_isVector pl_X11_isVector = true := by decide +kernel
theorem nm_X11_isVector : plainName q_X11_isVector.1.cls = true ∧ zRX 11 = q_X11_isVector.1.cls ∧ (false = true → q_X11_isVector.1.name = "<init>") := ⟨by decide +kernel, rfl, fun h => by first | rfl | cases h⟩
set_option maxRecDepth 100000 in
theorem wd_X11_freeVector : zwd q_X11_freeVector := ⟨zw_in (p := (7, 167)) (by decide +kernel), zw_in (p := (1, 11)) (by decide +kernel), fun h => absurd h (by decide), fun _ => zw_in (p := (7, 166)) (by decide +kernel), fun _ => zw_in (p := (0, 76)) (by decide +kernel)⟩
def cal_X11_freeVector : List zCal := []
def b_X11_freeVector_34 : List zE := (34, .ireturn, []) :: []
def p_X11_freeVector_34 : List (List (Nat × Nat)) := [] :: []
def b_X11_freeVector_33 : List zE := (33, .iconst (-1), [4294967295]) :: (34, .nop, [0]) :: []
def p_X11_freeVector_33 : List (List (Nat × Nat)) := [] :: [] :: []
def b_X11_freeVector_23 : List zE := (23, .iload_n 1, []) :: (24, .bipush 24, [24]) :: (26, .if_icmp .ge 7, [33, 0]) :: (29, .iload_n 1, []) :: (30, .goto 4, [34, 0]) :: []
def p_X11_freeVector_23 : List (List (Nat × Nat)) := [] :: [] :: [] :: [] :: [] :: []
def b_X11_freeVector_2 : List zE := (2, .iload_n 1, []) :: (3, .bipush 24, [24]) :: (5, .if_icmp .ge 18, [23, 0]) :: (8, .aload_n 0, []) :: (9, .getfield 76, [11, 24]) :: (12, .iload_n 1, []) :: (13, .iaload, []) :: (14, .ifCond .le 9, [23, 0]) :: (17, .iinc 1 1, [1]) :: (20, .goto (-18), [2, 1]) :: []
def p_X11_freeVector_2 : List (List (Nat × Nat)) := [] :: [] :: [] :: [] :: [(6, 15)] :: [] :: [] :: [] :: [] :: [] :: []
def b_X11_freeVector_0 : List zE := (0, .iconst 0, [0]) :: (1, .istore_n 1, []) :: (2, .nop, []) :: []
def p_X11_freeVector_0 : List (List (Nat × Nat)) := [] :: [] :: [] :: []
def bl_X11_freeVector : List (Nat × List zE) := [(0, b_X11_freeVector_0), (2, b_X11_freeVector_2), (23, b_X11_freeVector_23), (33, b_X11_freeVector_33), (34, b_X11_freeVector_34)]
def pl_X11_freeVector : List (List (List (Nat × Nat))) := [p_X11_freeVector_0, p_X11_freeVector_2, p_X11_freeVector_23, p_X11_freeVector_33, p_X11_freeVector_34]
theorem k_X11_freeVector_0 : zlk 0 bl_X11_freeVector = b_X11_freeVector_0 := rfl
theorem k_X11_freeVector_2 : zlk 2 bl_X11_freeVector = b_X11_freeVector_2 := rfl
theorem k_X11_freeVector_23 : zlk 23 bl_X11_freeVector = b_X11_freeVector_23 := rfl
theorem k_X11_freeVector_33 : zlk 33 bl_X11_freeVector = b_X11_freeVector_33 := rfl
theorem k_X11_freeVector_34 : zlk 34 bl_X11_freeVector = b_X11_freeVector_34 := rfl
set_option maxRecDepth 100000 in
theorem ck_X11_freeVector : zall q_X11_freeVector.2.2.2.2.1 q_X11_freeVector.2.1 11 false q_X11_freeVector.2.2.1 cal_X11_freeVector q_X11_freeVector.2.2.2.1 bl_X11_freeVector pl_X11_freeVector = true := by decide +kernel
theorem nm_X11_freeVector : plainName q_X11_freeVector.1.cls = true ∧ zRX 11 = q_X11_freeVector.1.cls ∧ (false = true → q_X11_freeVector.1.name = "<init>") := ⟨by decide +kernel, rfl, fun h => by first | rfl | cases h⟩
set_option maxRecDepth 100000 in
theorem wd_X11_vector : zwd q_X11_vector := ⟨zw_in (p := (7, 163)) (by decide +kernel), zw_in (p := (1, 11)) (by decide +kernel), fun h => absurd h (by decide), fun _ => zw_in (p := (7, 161)) (by decide +kernel), fun _ => zw_in (p := (7, 162)) (by decide +kernel)⟩
def cal_X11_vector : List zCal := [q_X11_freeVector]
def b_X11_vector_56 : List zE := (56, .iload_n 2, []) :: (57, .ireturn, []) :: []
def p_X11_vector_56 : List (List (Nat × Nat)) := [] :: [] :: []
def b_X11_vector_32 : List zE := (32, .iload_n 3, []) :: (33, .bipush 8, [8]) :: (35, .if_icmp .ge 21, [56, 0]) :: (38, .aload_n 0, []) :: (39, .getfield 73, [11, 23]) :: (42, .bipush 8, [8]) :: (44, .iload_n 2, []) :: (45, .imul, []) :: (46, .iload_n 3, []) :: (47, .iadd, []) :: (48, .dconst 0, [0]) :: (49, .dastore, []) :: (50, .iinc 3 1, [1]) :: (53, .goto (-21), [32, 1]) :: []
def p_X11_vector_32 : List (List (Nat × Nat)) := [] :: [] :: [] :: [] :: [(6, 14)] :: [] :: [] :: [] :: [] :: [] :: [] :: [] :: [] :: [] :: []
def b_X11_vector_23 : List zE := (23, .aload_n 0, []) :: (24, .getfield 76, [11, 24]) :: (27, .iload_n 2, []) :: (28, .iload_n 1, []) :: (29, .iastore, []) :: (30, .iconst 0, [0]) :: (31, .istore_n 3, []) :: (32, .nop, []) :: []
def p_X11_vector_23 : List (List (Nat × Nat)) := [] :: [(6, 15)] :: [] :: [] :: [] :: [] :: [] :: [] :: []
def b_X11_vector_21 : List zE := (21, .iconst (-1), [4294967295]) :: (22, .ireturn, []) :: []
def p_X11_vector_21 : List (List (Nat × Nat)) := [] :: [] :: []
def b_X11_vector_0 : List zE := (0, .aload_n 0, []) :: (1, .invokevirtual 333, [0, 0, 11]) :: (4, .istore_n 2, []) :: (5, .iload_n 2, []) :: (6, .iconst (-1), [4294967295]) :: (7, .if_icmp .eq 14, [21, 0]) :: (10, .iload_n 1, []) :: (11, .iconst 1, [1]) :: (12, .if_icmp .lt 9, [21, 0]) :: (15, .iload_n 1, []) :: (16, .bipush 8, [8]) :: (18, .if_icmp .le 5, [23, 0]) :: (21, .nop, [0]) :: []
def p_X11_vector_0 : List (List (Nat × Nat)) := [] :: [(7, 164)] :: [] :: [] :: [] :: [] :: [] :: [] :: [] :: [] :: [] :: [] :: [] :: []
def bl_X11_vector : List (Nat × List zE) := [(0, b_X11_vector_0), (21, b_X11_vector_21), (23, b_X11_vector_23), (32, b_X11_vector_32), (56, b_X11_vector_56)]
def pl_X11_vector : List (List (List (Nat × Nat))) := [p_X11_vector_0, p_X11_vector_21, p_X11_vector_23, p_X11_vector_32, p_X11_vector_56]
theorem k_X11_vector_0 : zlk 0 bl_X11_vector = b_X11_vector_0 := rfl
theorem k_X11_vector_21 : zlk 21 bl_X11_vector = b_X11_vector_21 := rfl
theorem k_X11_vector_23 : zlk 23 bl_X11_vector = b_X11_vector_23 := rfl
theorem k_X11_vector_32 : zlk 32 bl_X11_vector = b_X11_vector_32 := rfl
theorem k_X11_vector_56 : zlk 56 bl_X11_vector = b_X11_vector_56 := rfl
set_option maxRecDepth 100000 in
theorem ck_X11_vector : zall q_X11_vector.2.2.2.2.1 q_X11_vector.2.1 11 false q_X11_vector.2.2.1 cal_X11_vector q_X11_vector.2.2.2.1 bl_X11_vector pl_X11_vector = true := by decide +kernel
theorem nm_X11_vector : plainName q_X11_vector.1.cls = true ∧ zRX 11 = q_X11_vector.1.cls ∧ (false = true → q_X11_vector.1.name = "<init>") := ⟨by decide +kernel, rfl, fun h => by first | rfl | cases h⟩
set_option maxRecDepth 100000 in
theorem wd_X11_forget : zwd q_X11_forget := ⟨zw_in (p := (7, 171)) (by decide +kernel), zw_in (p := (1, 11)) (by decide +kernel), fun h => absurd h (by decide), fun _ => zw_in (p := (7, 169)) (by decide +kernel), fun _ => zw_in (p := (7, 170)) (by decide +kernel)⟩
def cal_X11_forget : List zCal := [q_X11_isVector]
def b_X11_forget_10 : List zE := (10, .aload_n 0, []) :: (11, .getfield 76, [11, 24]) :: (14, .iload_n 1, []) :: (15, .iconst 0, [0]) :: (16, .iastore, []) :: (17, .iconst 1, [1]) :: (18, .ireturn, []) :: []
def p_X11_forget_10 : List (List (Nat × Nat)) := [] :: [(6, 15)] :: [] :: [] :: [] :: [] :: [] :: []
def b_X11_forget_0 : List zE := (0, .aload_n 0, []) :: (1, .iload_n 1, []) :: (2, .invokevirtual 336, [0, 1, 11]) :: (5, .ifCond .ne 5, [10, 0]) :: (8, .iconst 0, [0]) :: (9, .ireturn, []) :: []
def p_X11_forget_0 : List (List (Nat × Nat)) := [] :: [] :: [(7, 172)] :: [] :: [] :: [] :: []
def bl_X11_forget : List (Nat × List zE) := [(0, b_X11_forget_0), (10, b_X11_forget_10)]
def pl_X11_forget : List (List (List (Nat × Nat))) := [p_X11_forget_0, p_X11_forget_10]
theorem k_X11_forget_0 : zlk 0 bl_X11_forget = b_X11_forget_0 := rfl
theorem k_X11_forget_10 : zlk 10 bl_X11_forget = b_X11_forget_10 := rfl
set_option maxRecDepth 100000 in
theorem ck_X11_forget : zall q_X11_forget.2.2.2.2.1 q_X11_forget.2.1 11 false q_X11_forget.2.2.1 cal_X11_forget q_X11_forget.2.2.2.1 bl_X11_forget pl_X11_forget = true := by decide +kernel
theorem nm_X11_forget : plainName q_X11_forget.1.cls = true ∧ zRX 11 = q_X11_forget.1.cls ∧ (false = true → q_X11_forget.1.name = "<init>") := ⟨by decide +kernel, rfl, fun h => by first | rfl | cases h⟩
set_option maxRecDepth 100000 in
theorem wd_X11_set : zwd q_X11_set := ⟨zw_in (p := (7, 179)) (by decide +kernel), zw_in (p := (1, 11)) (by decide +kernel), fun h => absurd h (by decide), fun _ => zw_in (p := (7, 177)) (by decide +kernel), fun _ => zw_in (p := (7, 178)) (by decide +kernel)⟩
def cal_X11_set : List zCal := [q_X11_isVector, q_X11_isGood, q_X11_real, q_X11_plain]
def b_X11_set_31 : List zE := (31, .aload_n 0, []) :: (32, .getfield 73, [11, 23]) :: (35, .bipush 8, [8]) :: (37, .iload_n 1, []) :: (38, .imul, []) :: (39, .iload_n 2, []) :: (40, .iadd, []) :: (41, .lload_n 3, []) :: (42, .invokestatic 165, [2, 1]) :: (45, .invokestatic 257, [3, 1]) :: (48, .dastore, []) :: (49, .iconst 1, [1]) :: (50, .ireturn, []) :: []
def p_X11_set_31 : List (List (Nat × Nat)) := [] :: [(6, 14)] :: [] :: [] :: [] :: [] :: [] :: [] :: [(6, 206)] :: [(6, 212)] :: [] :: [] :: [] :: []
def b_X11_set_29 : List zE := (29, .iconst 0, [0]) :: (30, .ireturn, []) :: []
def p_X11_set_29 : List (List (Nat × Nat)) := [] :: [] :: []
def b_X11_set_0 : List zE := (0, .aload_n 0, []) :: (1, .iload_n 1, []) :: (2, .invokevirtual 336, [0, 1, 11]) :: (5, .ifCond .eq 24, [29, 0]) :: (8, .iload_n 2, []) :: (9, .ifCond .lt 20, [29, 0]) :: (12, .iload_n 2, []) :: (13, .aload_n 0, []) :: (14, .getfield 76, [11, 24]) :: (17, .iload_n 1, []) :: (18, .iaload, []) :: (19, .if_icmp .ge 10, [29, 0]) :: (22, .lload_n 3, []) :: (23, .invokestatic 253, [1, 1]) :: (26, .ifCond .ne 5, [31, 0]) :: (29, .nop, [0]) :: []
def p_X11_set_0 : List (List (Nat × Nat)) := [] :: [] :: [(7, 172)] :: [] :: [] :: [] :: [] :: [] :: [(6, 15)] :: [] :: [] :: [] :: [] :: [(6, 201)] :: [] :: [] :: []
def bl_X11_set : List (Nat × List zE) := [(0, b_X11_set_0), (29, b_X11_set_29), (31, b_X11_set_31)]
def pl_X11_set : List (List (List (Nat × Nat))) := [p_X11_set_0, p_X11_set_29, p_X11_set_31]
theorem k_X11_set_0 : zlk 0 bl_X11_set = b_X11_set_0 := rfl
theorem k_X11_set_29 : zlk 29 bl_X11_set = b_X11_set_29 := rfl
theorem k_X11_set_31 : zlk 31 bl_X11_set = b_X11_set_31 := rfl
set_option maxRecDepth 100000 in
theorem ck_X11_set : zall q_X11_set.2.2.2.2.1 q_X11_set.2.1 11 false q_X11_set.2.2.1 cal_X11_set q_X11_set.2.2.2.1 bl_X11_set pl_X11_set = true := by decide +kernel
theorem nm_X11_set : plainName q_X11_set.1.cls = true ∧ zRX 11 = q_X11_set.1.cls ∧ (false = true → q_X11_set.1.name = "<init>") := ⟨by decide +kernel, rfl, fun h => by first | rfl | cases h⟩
set_option maxRecDepth 100000 in
theorem wd_X11_value : zwd q_X11_value := ⟨zw_in (p := (7, 183)) (by decide +kernel), zw_in (p := (1, 11)) (by decide +kernel), fun h => absurd h (by decide), fun _ => zw_in (p := (7, 181)) (by decide +kernel), fun _ => zw_in (p := (7, 182)) (by decide +kernel)⟩
def cal_X11_value : List zCal := [q_X11_isVector, q_X11_bits]
def b_X11_value_42 : List zE := (42, .lreturn, []) :: []
def p_X11_value_42 : List (List (Nat × Nat)) := [] :: []
def b_X11_value_39 : List zE := (39, .ldc2_w 269, [18446744073709551615]) :: (42, .nop, [0]) :: []
def p_X11_value_39 : List (List (Nat × Nat)) := [(7, 0)] :: [] :: []
def b_X11_value_0 : List zE := (0, .aload_n 0, []) :: (1, .iload_n 1, []) :: (2, .invokevirtual 336, [0, 1, 11]) :: (5, .ifCond .eq 34, [39, 0]) :: (8, .iload_n 2, []) :: (9, .ifCond .lt 30, [39, 0]) :: (12, .iload_n 2, []) :: (13, .aload_n 0, []) :: (14, .getfield 76, [11, 24]) :: (17, .iload_n 1, []) :: (18, .iaload, []) :: (19, .if_icmp .ge 20, [39, 0]) :: (22, .aload_n 0, []) :: (23, .getfield 73, [11, 23]) :: (26, .bipush 8, [8]) :: (28, .iload_n 1, []) :: (29, .imul, []) :: (30, .iload_n 2, []) :: (31, .iadd, []) :: (32, .daload, []) :: (33, .invokestatic 158, [1, 1]) :: (36, .goto 6, [42, 0]) :: []
def p_X11_value_0 : List (List (Nat × Nat)) := [] :: [] :: [(7, 172)] :: [] :: [] :: [] :: [] :: [] :: [(6, 15)] :: [] :: [] :: [] :: [] :: [(6, 14)] :: [] :: [] :: [] :: [] :: [] :: [] :: [(6, 227)] :: [] :: []
def bl_X11_value : List (Nat × List zE) := [(0, b_X11_value_0), (39, b_X11_value_39), (42, b_X11_value_42)]
def pl_X11_value : List (List (List (Nat × Nat))) := [p_X11_value_0, p_X11_value_39, p_X11_value_42]
theorem k_X11_value_0 : zlk 0 bl_X11_value = b_X11_value_0 := rfl
theorem k_X11_value_39 : zlk 39 bl_X11_value = b_X11_value_39 := rfl
theorem k_X11_value_42 : zlk 42 bl_X11_value = b_X11_value_42 := rfl
set_option maxRecDepth 100000 in
theorem ck_X11_value : zall q_X11_value.2.2.2.2.1 q_X11_value.2.1 11 false q_X11_value.2.2.1 cal_X11_value q_X11_value.2.2.2.1 bl_X11_value pl_X11_value = true := by decide +kernel
theorem nm_X11_value : plainName q_X11_value.1.cls = true ∧ zRX 11 = q_X11_value.1.cls ∧ (false = true → q_X11_value.1.name = "<init>") := ⟨by decide +kernel, rfl, fun h => by first | rfl | cases h⟩
set_option maxRecDepth 100000 in
theorem wd_X11_size_ : zwd q_X11_size_ := ⟨zw_in (p := (7, 187)) (by decide +kernel), zw_in (p := (1, 11)) (by decide +kernel), fun h => absurd h (by decide), fun _ => zw_in (p := (7, 185)) (by decide +kernel), fun _ => zw_in (p := (7, 186)) (by decide +kernel)⟩
def cal_X11_size_ : List zCal := [q_X11_isVector]
def b_X11_size__18 : List zE := (18, .ireturn, []) :: []
def p_X11_size__18 : List (List (Nat × Nat)) := [] :: []
def b_X11_size__17 : List zE := (17, .iconst (-1), [4294967295]) :: (18, .nop, [0]) :: []
def p_X11_size__17 : List (List (Nat × Nat)) := [] :: [] :: []
def b_X11_size__0 : List zE := (0, .aload_n 0, []) :: (1, .iload_n 1, []) :: (2, .invokevirtual 336, [0, 1, 11]) :: (5, .ifCond .eq 12, [17, 0]) :: (8, .aload_n 0, []) :: (9, .getfield 76, [11, 24]) :: (12, .iload_n 1, []) :: (13, .iaload, []) :: (14, .goto 4, [18, 0]) :: []
def p_X11_size__0 : List (List (Nat × Nat)) := [] :: [] :: [(7, 172)] :: [] :: [] :: [(6, 15)] :: [] :: [] :: [] :: []
def bl_X11_size_ : List (Nat × List zE) := [(0, b_X11_size__0), (17, b_X11_size__17), (18, b_X11_size__18)]
def pl_X11_size_ : List (List (List (Nat × Nat))) := [p_X11_size__0, p_X11_size__17, p_X11_size__18]
theorem k_X11_size__0 : zlk 0 bl_X11_size_ = b_X11_size__0 := rfl
theorem k_X11_size__17 : zlk 17 bl_X11_size_ = b_X11_size__17 := rfl
theorem k_X11_size__18 : zlk 18 bl_X11_size_ = b_X11_size__18 := rfl
set_option maxRecDepth 100000 in
theorem ck_X11_size_ : zall q_X11_size_.2.2.2.2.1 q_X11_size_.2.1 11 false q_X11_size_.2.2.1 cal_X11_size_ q_X11_size_.2.2.2.1 bl_X11_size_ pl_X11_size_ = true := by decide +kernel
theorem nm_X11_size_ : plainName q_X11_size_.1.cls = true ∧ zRX 11 = q_X11_size_.1.cls ∧ (false = true → q_X11_size_.1.name = "<init>") := ⟨by decide +kernel, rfl, fun h => by first | rfl | cases h⟩
set_option maxRecDepth 100000 in
theorem wd_X11_less : zwd q_X11_less := ⟨zw_in (p := (7, 199)) (by decide +kernel), zw_in (p := (1, 11)) (by decide +kernel), fun h => absurd h (by decide), fun _ => zw_in (p := (7, 198)) (by decide +kernel), fun _ => zw_in (p := (0, 79)) (by decide +kernel)⟩
def cal_X11_less : List zCal := [q_X11_fused]
def b_X11_less_29 : List zE := (29, .dreturn, []) :: []
def p_X11_less_29 : List (List (Nat × Nat)) := [] :: []
def b_X11_less_22 : List zE := (22, .dload_n 2, []) :: (23, .dload 4, []) :: (25, .dload 6, []) :: (27, .dmul, []) :: (28, .dsub, []) :: (29, .nop, [0]) :: []
def p_X11_less_22 : List (List (Nat × Nat)) := [] :: [] :: [] :: [] :: [] :: [] :: []
def b_X11_less_0 : List zE := (0, .aload_n 0, []) :: (1, .getfield 55, [11, 15]) :: (4, .iload_n 1, []) :: (5, .baload, []) :: (6, .ifCond .eq 16, [22, 0]) :: (9, .aload_n 0, []) :: (10, .dload 4, []) :: (12, .dneg, []) :: (13, .dload 6, []) :: (15, .dload_n 2, []) :: (16, .invokevirtual 285, [0, 3, 11]) :: (19, .goto 10, [29, 0]) :: []
def p_X11_less_0 : List (List (Nat × Nat)) := [] :: [(6, 6)] :: [] :: [] :: [] :: [] :: [] :: [] :: [] :: [] :: [(7, 43)] :: [] :: []
def bl_X11_less : List (Nat × List zE) := [(0, b_X11_less_0), (22, b_X11_less_22), (29, b_X11_less_29)]
def pl_X11_less : List (List (List (Nat × Nat))) := [p_X11_less_0, p_X11_less_22, p_X11_less_29]
theorem k_X11_less_0 : zlk 0 bl_X11_less = b_X11_less_0 := rfl
theorem k_X11_less_22 : zlk 22 bl_X11_less = b_X11_less_22 := rfl
theorem k_X11_less_29 : zlk 29 bl_X11_less = b_X11_less_29 := rfl
set_option maxRecDepth 100000 in
theorem ck_X11_less : zall q_X11_less.2.2.2.2.1 q_X11_less.2.1 11 false q_X11_less.2.2.1 cal_X11_less q_X11_less.2.2.2.1 bl_X11_less pl_X11_less = true := by decide +kernel
theorem nm_X11_less : plainName q_X11_less.1.cls = true ∧ zRX 11 = q_X11_less.1.cls ∧ (false = true → q_X11_less.1.name = "<init>") := ⟨by decide +kernel, rfl, fun h => by first | rfl | cases h⟩
set_option maxRecDepth 100000 in
theorem wd_X11_solves : zwd q_X11_solves := ⟨zw_in (p := (7, 195)) (by decide +kernel), zw_in (p := (1, 11)) (by decide +kernel), fun h => absurd h (by decide), fun _ => zw_in (p := (7, 194)) (by decide +kernel), fun _ => zw_in (p := (0, 78)) (by decide +kernel)⟩
def cal_X11_solves : List zCal := [q_X11_less, q_X11_isFinite]
def b_X11_solves_330 : List zE := (330, .iconst 1, [1]) :: (331, .ireturn, []) :: []
def p_X11_solves_330 : List (List (Nat × Nat)) := [] :: [] :: []
def b_X11_solves_324 : List zE := (324, .iinc 5 (-1), [4294967295]) :: (327, .goto (-155), [172, 1]) :: []
def p_X11_solves_324 : List (List (Nat × Nat)) := [] :: [] :: []
def b_X11_solves_278 : List zE := (278, .dload 6, []) :: (280, .aload_n 0, []) :: (281, .getfield 46, [11, 12]) :: (284, .iload_n 3, []) :: (285, .bipush 9, [9]) :: (287, .iload 5, []) :: (289, .imul, []) :: (290, .iadd, []) :: (291, .daload, []) :: (292, .ddiv, []) :: (293, .dstore 8, []) :: (295, .aload_n 0, []) :: (296, .getfield 85, [11, 27]) :: (299, .aload_n 0, []) :: (300, .getfield 64, [11, 18]) :: (303, .bipush 8, [8]) :: (305, .iload_n 1, []) :: (306, .imul, []) :: (307, .iload 5, []) :: (309, .iadd, []) :: (310, .iaload, []) :: (311, .dload 8, []) :: (313, .dastore, []) :: (314, .dload 8, []) :: (316, .invokestatic 277, [1, 1]) :: (319, .ifCond .ne 5, [324, 0]) :: (322, .iconst 0, [0]) :: (323, .ireturn, []) :: []
def p_X11_solves_278 : List (List (Nat × Nat)) := [] :: [] :: [(6, 3)] :: [] :: [] :: [] :: [] :: [] :: [] :: [] :: [] :: [] :: [(6, 18)] :: [] :: [(6, 9)] :: [] :: [] :: [] :: [] :: [] :: [] :: [] :: [] :: [] :: [(7, 36)] :: [] :: [] :: [] :: []
def b_X11_solves_272 : List zE := (272, .iinc 8 1, [1]) :: (275, .goto (-83), [192, 1]) :: []
def p_X11_solves_272 : List (List (Nat × Nat)) := [] :: [] :: []
def b_X11_solves_240 : List zE := (240, .aload_n 0, []) :: (241, .getfield 85, [11, 27]) :: (244, .aload_n 0, []) :: (245, .getfield 64, [11, 18]) :: (248, .bipush 8, [8]) :: (250, .iload_n 1, []) :: (251, .imul, []) :: (252, .iload 8, []) :: (254, .iadd, []) :: (255, .iaload, []) :: (256, .daload, []) :: (257, .invokevirtual 339, [0, 4, 11]) :: (260, .dstore 6, []) :: (262, .dload 6, []) :: (264, .invokestatic 277, [1, 1]) :: (267, .ifCond .ne 5, [272, 0]) :: (270, .iconst 0, [0]) :: (271, .ireturn, []) :: []
def p_X11_solves_240 : List (List (Nat × Nat)) := [] :: [(6, 18)] :: [] :: [(6, 9)] :: [] :: [] :: [] :: [] :: [] :: [] :: [] :: [(7, 196)] :: [] :: [] :: [(7, 36)] :: [] :: [] :: [] :: []
def b_X11_solves_225 : List zE := (225, .aload_n 0, []) :: (226, .getfield 46, [11, 12]) :: (229, .iload_n 3, []) :: (230, .bipush 8, [8]) :: (232, .iload 5, []) :: (234, .imul, []) :: (235, .iadd, []) :: (236, .iload 8, []) :: (238, .iadd, []) :: (239, .daload, []) :: (240, .nop, [0]) :: []
def p_X11_solves_225 : List (List (Nat × Nat)) := [] :: [(6, 3)] :: [] :: [] :: [] :: [] :: [] :: [] :: [] :: [] :: [] :: []
def b_X11_solves_192 : List zE := (192, .iload 8, []) :: (194, .iload_n 2, []) :: (195, .if_icmp .ge 83, [278, 0]) :: (198, .aload_n 0, []) :: (199, .iload_n 1, []) :: (200, .dload 6, []) :: (202, .iload 4, []) :: (204, .ifCond .eq 21, [225, 0]) :: (207, .aload_n 0, []) :: (208, .getfield 46, [11, 12]) :: (211, .iload_n 3, []) :: (212, .bipush 8, [8]) :: (214, .iload 8, []) :: (216, .imul, []) :: (217, .iadd, []) :: (218, .iload 5, []) :: (220, .iadd, []) :: (221, .daload, []) :: (222, .goto 18, [240, 0]) :: []
def p_X11_solves_192 : List (List (Nat × Nat)) := [] :: [] :: [] :: [] :: [] :: [] :: [] :: [] :: [] :: [(6, 3)] :: [] :: [] :: [] :: [] :: [] :: [] :: [] :: [] :: [] :: []
def b_X11_solves_172 : List zE := (172, .iload 5, []) :: (174, .ifCond .lt 156, [330, 0]) :: (177, .aload_n 0, []) :: (178, .getfield 82, [11, 26]) :: (181, .iload 5, []) :: (183, .daload, []) :: (184, .dstore 6, []) :: (186, .iload 5, []) :: (188, .iconst 1, [1]) :: (189, .iadd, []) :: (190, .istore 8, []) :: (192, .nop, []) :: []
def p_X11_solves_172 : List (List (Nat × Nat)) := [] :: [] :: [] :: [(6, 17)] :: [] :: [] :: [] :: [] :: [] :: [] :: [] :: [] :: []
def b_X11_solves_167 : List zE := (167, .iload_n 2, []) :: (168, .iconst 1, [1]) :: (169, .isub, []) :: (170, .istore 5, []) :: (172, .nop, []) :: []
def p_X11_solves_167 : List (List (Nat × Nat)) := [] :: [] :: [] :: [] :: [] :: []
def b_X11_solves_161 : List zE := (161, .iinc 5 1, [1]) :: (164, .goto (-132), [32, 1]) :: []
def p_X11_solves_161 : List (List (Nat × Nat)) := [] :: [] :: []
def b_X11_solves_145 : List zE := (145, .dastore, []) :: (146, .aload_n 0, []) :: (147, .getfield 82, [11, 26]) :: (150, .iload 5, []) :: (152, .daload, []) :: (153, .invokestatic 277, [1, 1]) :: (156, .ifCond .ne 5, [161, 0]) :: (159, .iconst 0, [0]) :: (160, .ireturn, []) :: []
def p_X11_solves_145 : List (List (Nat × Nat)) := [] :: [] :: [(6, 17)] :: [] :: [] :: [(7, 36)] :: [] :: [] :: [] :: []
def b_X11_solves_143 : List zE := (143, .dload 6, []) :: (145, .nop, [0]) :: []
def p_X11_solves_143 : List (List (Nat × Nat)) := [] :: [] :: []
def b_X11_solves_114 : List zE := (114, .aload_n 0, []) :: (115, .getfield 82, [11, 26]) :: (118, .iload 5, []) :: (120, .iload 4, []) :: (122, .ifCond .eq 21, [143, 0]) :: (125, .dload 6, []) :: (127, .aload_n 0, []) :: (128, .getfield 46, [11, 12]) :: (131, .iload_n 3, []) :: (132, .bipush 9, [9]) :: (134, .iload 5, []) :: (136, .imul, []) :: (137, .iadd, []) :: (138, .daload, []) :: (139, .ddiv, []) :: (140, .goto 5, [145, 0]) :: []
def p_X11_solves_114 : List (List (Nat × Nat)) := [] :: [(6, 17)] :: [] :: [] :: [] :: [] :: [] :: [(6, 3)] :: [] :: [] :: [] :: [] :: [] :: [] :: [] :: [] :: []
def b_X11_solves_108 : List zE := (108, .iinc 8 1, [1]) :: (111, .goto (-51), [60, 1]) :: []
def p_X11_solves_108 : List (List (Nat × Nat)) := [] :: [] :: []
def b_X11_solves_60 : List zE := (60, .iload 8, []) :: (62, .iload 5, []) :: (64, .if_icmp .ge 50, [114, 0]) :: (67, .aload_n 0, []) :: (68, .iload_n 1, []) :: (69, .dload 6, []) :: (71, .aload_n 0, []) :: (72, .getfield 46, [11, 12]) :: (75, .iload_n 3, []) :: (76, .bipush 8, [8]) :: (78, .iload 5, []) :: (80, .imul, []) :: (81, .iadd, []) :: (82, .iload 8, []) :: (84, .iadd, []) :: (85, .daload, []) :: (86, .aload_n 0, []) :: (87, .getfield 82, [11, 26]) :: (90, .iload 8, []) :: (92, .daload, []) :: (93, .invokevirtual 339, [0, 4, 11]) :: (96, .dstore 6, []) :: (98, .dload 6, []) :: (100, .invokestatic 277, [1, 1]) :: (103, .ifCond .ne 5, [108, 0]) :: (106, .iconst 0, [0]) :: (107, .ireturn, []) :: []
def p_X11_solves_60 : List (List (Nat × Nat)) := [] :: [] :: [] :: [] :: [] :: [] :: [] :: [(6, 3)] :: [] :: [] :: [] :: [] :: [] :: [] :: [] :: [] :: [] :: [(6, 17)] :: [] :: [] :: [(7, 196)] :: [] :: [] :: [(7, 36)] :: [] :: [] :: [] :: []
def b_X11_solves_32 : List zE := (32, .iload 5, []) :: (34, .iload_n 2, []) :: (35, .if_icmp .ge 132, [167, 0]) :: (38, .aload_n 0, []) :: (39, .getfield 79, [11, 25]) :: (42, .aload_n 0, []) :: (43, .getfield 61, [11, 17]) :: (46, .bipush 8, [8]) :: (48, .iload_n 1, []) :: (49, .imul, []) :: (50, .iload 5, []) :: (52, .iadd, []) :: (53, .iaload, []) :: (54, .daload, []) :: (55, .dstore 6, []) :: (57, .iconst 0, [0]) :: (58, .istore 8, []) :: (60, .nop, []) :: []
def p_X11_solves_32 : List (List (Nat × Nat)) := [] :: [] :: [] :: [] :: [(6, 16)] :: [] :: [(6, 8)] :: [] :: [] :: [] :: [] :: [] :: [] :: [] :: [] :: [] :: [] :: [] :: []
def b_X11_solves_27 : List zE := (27, .istore 4, []) :: (29, .iconst 0, [0]) :: (30, .istore 5, []) :: (32, .nop, []) :: []
def p_X11_solves_27 : List (List (Nat × Nat)) := [] :: [] :: [] :: [] :: []
def b_X11_solves_26 : List zE := (26, .iconst 0, [0]) :: (27, .nop, [0]) :: []
def p_X11_solves_26 : List (List (Nat × Nat)) := [] :: [] :: []
def b_X11_solves_0 : List zE := (0, .aload_n 0, []) :: (1, .getfield 58, [11, 16]) :: (4, .iload_n 1, []) :: (5, .iaload, []) :: (6, .istore_n 2, []) :: (7, .bipush 64, [64]) :: (9, .iload_n 1, []) :: (10, .imul, []) :: (11, .istore_n 3, []) :: (12, .aload_n 0, []) :: (13, .getfield 52, [11, 14]) :: (16, .iload_n 1, []) :: (17, .iaload, []) :: (18, .iconst 3, [3]) :: (19, .if_icmp .ne 7, [26, 0]) :: (22, .iconst 1, [1]) :: (23, .goto 4, [27, 0]) :: []
def p_X11_solves_0 : List (List (Nat × Nat)) := [] :: [(6, 7)] :: [] :: [] :: [] :: [] :: [] :: [] :: [] :: [] :: [(6, 5)] :: [] :: [] :: [] :: [] :: [] :: [] :: []
def bl_X11_solves : List (Nat × List zE) := [(0, b_X11_solves_0), (26, b_X11_solves_26), (27, b_X11_solves_27), (32, b_X11_solves_32), (60, b_X11_solves_60), (108, b_X11_solves_108), (114, b_X11_solves_114), (143, b_X11_solves_143), (145, b_X11_solves_145), (161, b_X11_solves_161), (167, b_X11_solves_167), (172, b_X11_solves_172), (192, b_X11_solves_192), (225, b_X11_solves_225), (240, b_X11_solves_240), (272, b_X11_solves_272), (278, b_X11_solves_278), (324, b_X11_solves_324), (330, b_X11_solves_330)]
def pl_X11_solves : List (List (List (Nat × Nat))) := [p_X11_solves_0, p_X11_solves_26, p_X11_solves_27, p_X11_solves_32, p_X11_solves_60, p_X11_solves_108, p_X11_solves_114, p_X11_solves_143, p_X11_solves_145, p_X11_solves_161, p_X11_solves_167, p_X11_solves_172, p_X11_solves_192, p_X11_solves_225, p_X11_solves_240, p_X11_solves_272, p_X11_solves_278, p_X11_solves_324, p_X11_solves_330]
theorem k_X11_solves_0 : zlk 0 bl_X11_solves = b_X11_solves_0 := rfl
theorem k_X11_solves_26 : zlk 26 bl_X11_solves = b_X11_solves_26 := rfl
theorem k_X11_solves_27 : zlk 27 bl_X11_solves = b_X11_solves_27 := rfl
theorem k_X11_solves_32 : zlk 32 bl_X11_solves = b_X11_solves_32 := rfl
theorem k_X11_solves_60 : zlk 60 bl_X11_solves = b_X11_solves_60 := rfl
theorem k_X11_solves_108 : zlk 108 bl_X11_solves = b_X11_solves_108 := rfl
theorem k_X11_solves_114 : zlk 114 bl_X11_solves = b_X11_solves_114 := rfl
theorem k_X11_solves_143 : zlk 143 bl_X11_solves = b_X11_solves_143 := rfl
theorem k_X11_solves_145 : zlk 145 bl_X11_solves = b_X11_solves_145 := rfl
theorem k_X11_solves_161 : zlk 161 bl_X11_solves = b_X11_solves_161 := rfl
theorem k_X11_solves_167 : zlk 167 bl_X11_solves = b_X11_solves_167 := rfl
theorem k_X11_solves_172 : zlk 172 bl_X11_solves = b_X11_solves_172 := rfl
theorem k_X11_solves_192 : zlk 192 bl_X11_solves = b_X11_solves_192 := rfl
theorem k_X11_solves_225 : zlk 225 bl_X11_solves = b_X11_solves_225 := rfl
theorem k_X11_solves_240 : zlk 240 bl_X11_solves = b_X11_solves_240 := rfl
theorem k_X11_solves_272 : zlk 272 bl_X11_solves = b_X11_solves_272 := rfl
theorem k_X11_solves_278 : zlk 278 bl_X11_solves = b_X11_solves_278 := rfl
theorem k_X11_solves_324 : zlk 324 bl_X11_solves = b_X11_solves_324 := rfl
theorem k_X11_solves_330 : zlk 330 bl_X11_solves = b_X11_solves_330 := rfl
set_option maxRecDepth 100000 in
theorem ck_X11_solves : zall q_X11_solves.2.2.2.2.1 q_X11_solves.2.1 11 false q_X11_solves.2.2.1 cal_X11_solves q_X11_solves.2.2.2.1 bl_X11_solves pl_X11_solves = true := by decide +kernel
theorem nm_X11_solves : plainName q_X11_solves.1.cls = true ∧ zRX 11 = q_X11_solves.1.cls ∧ (false = true → q_X11_solves.1.name = "<init>") := ⟨by decide +kernel, rfl, fun h => by first | rfl | cases h⟩
set_option maxRecDepth 100000 in
theorem wd_X11_solve : zwd q_X11_solve := ⟨zw_in (p := (7, 191)) (by decide +kernel), zw_in (p := (1, 11)) (by decide +kernel), fun h => absurd h (by decide), fun _ => zw_in (p := (7, 189)) (by decide +kernel), fun _ => zw_in (p := (7, 190)) (by decide +kernel)⟩
def cal_X11_solve : List zCal := [q_X11_freeVector, q_X11_isFactor, q_X11_isVector, q_X11_solves, q_X11_vector, q_X11_plain]
def b_X11_solve_145 : List zE := (145, .iload_n 3, []) :: (146, .ireturn, []) :: []
def p_X11_solve_145 : List (List (Nat × Nat)) := [] :: [] :: []
def b_X11_solve_106 : List zE := (106, .iload 4, []) :: (108, .aload_n 0, []) :: (109, .getfield 58, [11, 16]) :: (112, .iload_n 1, []) :: (113, .iaload, []) :: (114, .if_icmp .ge 31, [145, 0]) :: (117, .aload_n 0, []) :: (118, .getfield 73, [11, 23]) :: (121, .bipush 8, [8]) :: (123, .iload_n 3, []) :: (124, .imul, []) :: (125, .iload 4, []) :: (127, .iadd, []) :: (128, .aload_n 0, []) :: (129, .getfield 85, [11, 27]) :: (132, .iload 4, []) :: (134, .daload, []) :: (135, .invokestatic 257, [5, 1]) :: (138, .dastore, []) :: (139, .iinc 4 1, [1]) :: (142, .goto (-36), [106, 1]) :: []
def p_X11_solve_106 : List (List (Nat × Nat)) := [] :: [] :: [(6, 7)] :: [] :: [] :: [] :: [] :: [(6, 14)] :: [] :: [] :: [] :: [] :: [] :: [] :: [(6, 18)] :: [] :: [] :: [(6, 212)] :: [] :: [] :: [] :: []
def b_X11_solve_92 : List zE := (92, .aload_n 0, []) :: (93, .aload_n 0, []) :: (94, .getfield 58, [11, 16]) :: (97, .iload_n 1, []) :: (98, .iaload, []) :: (99, .invokevirtual 346, [4, 1, 11]) :: (102, .pop, []) :: (103, .iconst 0, [0]) :: (104, .istore 4, []) :: (106, .nop, []) :: []
def p_X11_solve_92 : List (List (Nat × Nat)) := [] :: [] :: [(6, 7)] :: [] :: [] :: [(7, 200)] :: [] :: [] :: [] :: [] :: []
def b_X11_solve_82 : List zE := (82, .aload_n 0, []) :: (83, .iload_n 1, []) :: (84, .invokevirtual 343, [3, 1, 11]) :: (87, .ifCond .ne 5, [92, 0]) :: (90, .iconst (-1), [4294967295]) :: (91, .ireturn, []) :: []
def p_X11_solve_82 : List (List (Nat × Nat)) := [] :: [] :: [(7, 192)] :: [] :: [] :: [] :: []
def b_X11_solve_46 : List zE := (46, .iload 4, []) :: (48, .aload_n 0, []) :: (49, .getfield 58, [11, 16]) :: (52, .iload_n 1, []) :: (53, .iaload, []) :: (54, .if_icmp .ge 28, [82, 0]) :: (57, .aload_n 0, []) :: (58, .getfield 79, [11, 25]) :: (61, .iload 4, []) :: (63, .aload_n 0, []) :: (64, .getfield 73, [11, 23]) :: (67, .bipush 8, [8]) :: (69, .iload_n 2, []) :: (70, .imul, []) :: (71, .iload 4, []) :: (73, .iadd, []) :: (74, .daload, []) :: (75, .dastore, []) :: (76, .iinc 4 1, [1]) :: (79, .goto (-33), [46, 1]) :: []
def p_X11_solve_46 : List (List (Nat × Nat)) := [] :: [] :: [(6, 7)] :: [] :: [] :: [] :: [] :: [(6, 16)] :: [] :: [] :: [(6, 14)] :: [] :: [] :: [] :: [] :: [] :: [] :: [] :: [] :: [] :: []
def b_X11_solve_43 : List zE := (43, .iconst 0, [0]) :: (44, .istore 4, []) :: (46, .nop, []) :: []
def p_X11_solve_43 : List (List (Nat × Nat)) := [] :: [] :: [] :: []
def b_X11_solve_41 : List zE := (41, .iconst (-1), [4294967295]) :: (42, .ireturn, []) :: []
def p_X11_solve_41 : List (List (Nat × Nat)) := [] :: [] :: []
def b_X11_solve_0 : List zE := (0, .aload_n 0, []) :: (1, .invokevirtual 333, [0, 0, 11]) :: (4, .istore_n 3, []) :: (5, .aload_n 0, []) :: (6, .iload_n 1, []) :: (7, .invokevirtual 309, [1, 1, 11]) :: (10, .ifCond .eq 31, [41, 0]) :: (13, .aload_n 0, []) :: (14, .iload_n 2, []) :: (15, .invokevirtual 336, [2, 1, 11]) :: (18, .ifCond .eq 23, [41, 0]) :: (21, .aload_n 0, []) :: (22, .getfield 76, [11, 24]) :: (25, .iload_n 2, []) :: (26, .iaload, []) :: (27, .aload_n 0, []) :: (28, .getfield 58, [11, 16]) :: (31, .iload_n 1, []) :: (32, .iaload, []) :: (33, .if_icmp .ne 8, [41, 0]) :: (36, .iload_n 3, []) :: (37, .iconst (-1), [4294967295]) :: (38, .if_icmp .ne 5, [43, 0]) :: (41, .nop, [0]) :: []
def p_X11_solve_0 : List (List (Nat × Nat)) := [] :: [(7, 164)] :: [] :: [] :: [] :: [(7, 129)] :: [] :: [] :: [] :: [(7, 172)] :: [] :: [] :: [(6, 15)] :: [] :: [] :: [] :: [(6, 7)] :: [] :: [] :: [] :: [] :: [] :: [] :: [] :: []
def bl_X11_solve : List (Nat × List zE) := [(0, b_X11_solve_0), (41, b_X11_solve_41), (43, b_X11_solve_43), (46, b_X11_solve_46), (82, b_X11_solve_82), (92, b_X11_solve_92), (106, b_X11_solve_106), (145, b_X11_solve_145)]
def pl_X11_solve : List (List (List (Nat × Nat))) := [p_X11_solve_0, p_X11_solve_41, p_X11_solve_43, p_X11_solve_46, p_X11_solve_82, p_X11_solve_92, p_X11_solve_106, p_X11_solve_145]
theorem k_X11_solve_0 : zlk 0 bl_X11_solve = b_X11_solve_0 := rfl
theorem k_X11_solve_41 : zlk 41 bl_X11_solve = b_X11_solve_41 := rfl
theorem k_X11_solve_43 : zlk 43 bl_X11_solve = b_X11_solve_43 := rfl
theorem k_X11_solve_46 : zlk 46 bl_X11_solve = b_X11_solve_46 := rfl
theorem k_X11_solve_82 : zlk 82 bl_X11_solve = b_X11_solve_82 := rfl
theorem k_X11_solve_92 : zlk 92 bl_X11_solve = b_X11_solve_92 := rfl
theorem k_X11_solve_106 : zlk 106 bl_X11_solve = b_X11_solve_106 := rfl
theorem k_X11_solve_145 : zlk 145 bl_X11_solve = b_X11_solve_145 := rfl
set_option maxRecDepth 100000 in
theorem ck_X11_solve : zall q_X11_solve.2.2.2.2.1 q_X11_solve.2.1 11 false q_X11_solve.2.2.1 cal_X11_solve q_X11_solve.2.2.2.1 bl_X11_solve pl_X11_solve = true := by decide +kernel
theorem nm_X11_solve : plainName q_X11_solve.1.cls = true ∧ zRX 11 = q_X11_solve.1.cls ∧ (false = true → q_X11_solve.1.name = "<init>") := ⟨by decide +kernel, rfl, fun h => by first | rfl | cases h⟩
set_option maxRecDepth 100000 in
theorem wd_X11_residualOf : zwd q_X11_residualOf := ⟨zw_in (p := (7, 216)) (by decide +kernel), zw_in (p := (1, 11)) (by decide +kernel), fun h => absurd h (by decide), fun _ => zw_in (p := (7, 215)) (by decide +kernel), fun _ => zw_in (p := (0, 82)) (by decide +kernel)⟩
def cal_X11_residualOf : List zCal := [q_X11_none, q_X11_add, q_X11_at, q_X11_sums]
def b_X11_residualOf_66 : List zE := (66, .aload_n 0, []) :: (67, .invokevirtual 211, [3, 0, 11]) :: (70, .return_, []) :: []
def p_X11_residualOf_66 : List (List (Nat × Nat)) := [] :: [(7, 65)] :: [] :: []
def b_X11_residualOf_24 : List zE := (24, .iload 4, []) :: (26, .aload_n 0, []) :: (27, .getfield 34, [11, 8]) :: (30, .iload_n 1, []) :: (31, .iaload, []) :: (32, .if_icmp .ge 34, [66, 0]) :: (35, .aload_n 0, []) :: (36, .aload_n 0, []) :: (37, .getfield 19, [11, 4]) :: (40, .aload_n 0, []) :: (41, .iload_n 1, []) :: (42, .iload_n 3, []) :: (43, .iload 4, []) :: (45, .invokevirtual 261, [2, 3, 11]) :: (48, .daload, []) :: (49, .aload_n 0, []) :: (50, .getfield 88, [11, 28]) :: (53, .iload 4, []) :: (55, .daload, []) :: (56, .iconst 1, [1]) :: (57, .invokevirtual 223, [1, 3, 11]) :: (60, .iinc 4 1, [1]) :: (63, .goto (-39), [24, 1]) :: []
def p_X11_residualOf_24 : List (List (Nat × Nat)) := [] :: [] :: [(5, 239)] :: [] :: [] :: [] :: [] :: [] :: [(5, 235)] :: [] :: [] :: [] :: [] :: [(6, 215)] :: [] :: [] :: [(6, 19)] :: [] :: [] :: [] :: [(7, 52)] :: [] :: [] :: []
def b_X11_residualOf_0 : List zE := (0, .aload_n 0, []) :: (1, .invokevirtual 220, [0, 0, 11]) :: (4, .aload_n 0, []) :: (5, .aload_n 0, []) :: (6, .getfield 73, [11, 23]) :: (9, .bipush 8, [8]) :: (11, .iload_n 2, []) :: (12, .imul, []) :: (13, .iload_n 3, []) :: (14, .iadd, []) :: (15, .daload, []) :: (16, .dconst 1, [4607182418800017408]) :: (17, .iconst 0, [0]) :: (18, .invokevirtual 223, [1, 3, 11]) :: (21, .iconst 0, [0]) :: (22, .istore 4, []) :: (24, .nop, []) :: []
def p_X11_residualOf_0 : List (List (Nat × Nat)) := [] :: [(7, 48)] :: [] :: [] :: [(6, 14)] :: [] :: [] :: [] :: [] :: [] :: [] :: [] :: [] :: [(7, 52)] :: [] :: [] :: [] :: []
def bl_X11_residualOf : List (Nat × List zE) := [(0, b_X11_residualOf_0), (24, b_X11_residualOf_24), (66, b_X11_residualOf_66)]
def pl_X11_residualOf : List (List (List (Nat × Nat))) := [p_X11_residualOf_0, p_X11_residualOf_24, p_X11_residualOf_66]
theorem k_X11_residualOf_0 : zlk 0 bl_X11_residualOf = b_X11_residualOf_0 := rfl
theorem k_X11_residualOf_24 : zlk 24 bl_X11_residualOf = b_X11_residualOf_24 := rfl
theorem k_X11_residualOf_66 : zlk 66 bl_X11_residualOf = b_X11_residualOf_66 := rfl
set_option maxRecDepth 100000 in
theorem ck_X11_residualOf : zall q_X11_residualOf.2.2.2.2.1 q_X11_residualOf.2.1 11 false q_X11_residualOf.2.2.1 cal_X11_residualOf q_X11_residualOf.2.2.2.1 bl_X11_residualOf pl_X11_residualOf = true := by decide +kernel
theorem nm_X11_residualOf : plainName q_X11_residualOf.1.cls = true ∧ zRX 11 = q_X11_residualOf.1.cls ∧ (false = true → q_X11_residualOf.1.name = "<init>") := ⟨by decide +kernel, rfl, fun h => by first | rfl | cases h⟩
set_option maxRecDepth 100000 in
theorem wd_X11_fits : zwd q_X11_fits := ⟨zw_in (p := (7, 208)) (by decide +kernel), zw_in (p := (1, 11)) (by decide +kernel), fun h => absurd h (by decide), fun _ => zw_in (p := (7, 207)) (by decide +kernel), fun _ => zw_in (p := (0, 80)) (by decide +kernel)⟩
def cal_X11_fits : List zCal := [q_X11_isMatrix, q_X11_isVector]
def b_X11_fits_59 : List zE := (59, .ireturn, []) :: []
def p_X11_fits_59 : List (List (Nat × Nat)) := [] :: []
def b_X11_fits_58 : List zE := (58, .iconst 0, [0]) :: (59, .nop, [0]) :: []
def p_X11_fits_58 : List (List (Nat × Nat)) := [] :: [] :: []
def b_X11_fits_0 : List zE := (0, .aload_n 0, []) :: (1, .iload_n 1, []) :: (2, .invokevirtual 243, [0, 1, 11]) :: (5, .ifCond .eq 53, [58, 0]) :: (8, .aload_n 0, []) :: (9, .iload_n 2, []) :: (10, .invokevirtual 336, [1, 1, 11]) :: (13, .ifCond .eq 45, [58, 0]) :: (16, .aload_n 0, []) :: (17, .iload_n 3, []) :: (18, .invokevirtual 336, [1, 1, 11]) :: (21, .ifCond .eq 37, [58, 0]) :: (24, .aload_n 0, []) :: (25, .getfield 76, [11, 24]) :: (28, .iload_n 2, []) :: (29, .iaload, []) :: (30, .aload_n 0, []) :: (31, .getfield 34, [11, 8]) :: (34, .iload_n 1, []) :: (35, .iaload, []) :: (36, .if_icmp .ne 22, [58, 0]) :: (39, .aload_n 0, []) :: (40, .getfield 76, [11, 24]) :: (43, .iload_n 3, []) :: (44, .iaload, []) :: (45, .aload_n 0, []) :: (46, .getfield 31, [11, 7]) :: (49, .iload_n 1, []) :: (50, .iaload, []) :: (51, .if_icmp .ne 7, [58, 0]) :: (54, .iconst 1, [1]) :: (55, .goto 4, [59, 0]) :: []
def p_X11_fits_0 : List (List (Nat × Nat)) := [] :: [] :: [(6, 186)] :: [] :: [] :: [] :: [(7, 172)] :: [] :: [] :: [] :: [(7, 172)] :: [] :: [] :: [(6, 15)] :: [] :: [] :: [] :: [(5, 239)] :: [] :: [] :: [] :: [] :: [(6, 15)] :: [] :: [] :: [] :: [(5, 238)] :: [] :: [] :: [] :: [] :: [] :: []
def bl_X11_fits : List (Nat × List zE) := [(0, b_X11_fits_0), (58, b_X11_fits_58), (59, b_X11_fits_59)]
def pl_X11_fits : List (List (List (Nat × Nat))) := [p_X11_fits_0, p_X11_fits_58, p_X11_fits_59]
theorem k_X11_fits_0 : zlk 0 bl_X11_fits = b_X11_fits_0 := rfl
theorem k_X11_fits_58 : zlk 58 bl_X11_fits = b_X11_fits_58 := rfl
theorem k_X11_fits_59 : zlk 59 bl_X11_fits = b_X11_fits_59 := rfl
set_option maxRecDepth 100000 in
theorem ck_X11_fits : zall q_X11_fits.2.2.2.2.1 q_X11_fits.2.1 11 false q_X11_fits.2.2.1 cal_X11_fits q_X11_fits.2.2.2.1 bl_X11_fits pl_X11_fits = true := by decide +kernel
theorem nm_X11_fits : plainName q_X11_fits.1.cls = true ∧ zRX 11 = q_X11_fits.1.cls ∧ (false = true → q_X11_fits.1.name = "<init>") := ⟨by decide +kernel, rfl, fun h => by first | rfl | cases h⟩
set_option maxRecDepth 100000 in
theorem wd_X11_tries : zwd q_X11_tries := ⟨zw_in (p := (7, 212)) (by decide +kernel), zw_in (p := (1, 11)) (by decide +kernel), fun h => absurd h (by decide), fun _ => zw_in (p := (7, 211)) (by decide +kernel), fun _ => zw_in (p := (0, 81)) (by decide +kernel)⟩
def cal_X11_tries : List zCal := []
def b_X11_tries_45 : List zE := (45, .return_, []) :: []
def p_X11_tries_45 : List (List (Nat × Nat)) := [] :: []
def b_X11_tries_38 : List zE := (38, .dastore, []) :: (39, .iinc 2 1, [1]) :: (42, .goto (-40), [2, 1]) :: []
def p_X11_tries_38 : List (List (Nat × Nat)) := [] :: [] :: [] :: []
def b_X11_tries_37 : List zE := (37, .dconst 0, [0]) :: (38, .nop, [0]) :: []
def p_X11_tries_37 : List (List (Nat × Nat)) := [] :: [] :: []
def b_X11_tries_2 : List zE := (2, .iload_n 2, []) :: (3, .bipush 8, [8]) :: (5, .if_icmp .ge 40, [45, 0]) :: (8, .aload_n 0, []) :: (9, .getfield 88, [11, 28]) :: (12, .iload_n 2, []) :: (13, .iload_n 2, []) :: (14, .aload_n 0, []) :: (15, .getfield 76, [11, 24]) :: (18, .iload_n 1, []) :: (19, .iaload, []) :: (20, .if_icmp .ge 17, [37, 0]) :: (23, .aload_n 0, []) :: (24, .getfield 73, [11, 23]) :: (27, .bipush 8, [8]) :: (29, .iload_n 1, []) :: (30, .imul, []) :: (31, .iload_n 2, []) :: (32, .iadd, []) :: (33, .daload, []) :: (34, .goto 4, [38, 0]) :: []
def p_X11_tries_2 : List (List (Nat × Nat)) := [] :: [] :: [] :: [] :: [(6, 19)] :: [] :: [] :: [] :: [(6, 15)] :: [] :: [] :: [] :: [] :: [(6, 14)] :: [] :: [] :: [] :: [] :: [] :: [] :: [] :: []
def b_X11_tries_0 : List zE := (0, .iconst 0, [0]) :: (1, .istore_n 2, []) :: (2, .nop, []) :: []
def p_X11_tries_0 : List (List (Nat × Nat)) := [] :: [] :: [] :: []
def bl_X11_tries : List (Nat × List zE) := [(0, b_X11_tries_0), (2, b_X11_tries_2), (37, b_X11_tries_37), (38, b_X11_tries_38), (45, b_X11_tries_45)]
def pl_X11_tries : List (List (List (Nat × Nat))) := [p_X11_tries_0, p_X11_tries_2, p_X11_tries_37, p_X11_tries_38, p_X11_tries_45]
theorem k_X11_tries_0 : zlk 0 bl_X11_tries = b_X11_tries_0 := rfl
theorem k_X11_tries_2 : zlk 2 bl_X11_tries = b_X11_tries_2 := rfl
theorem k_X11_tries_37 : zlk 37 bl_X11_tries = b_X11_tries_37 := rfl
theorem k_X11_tries_38 : zlk 38 bl_X11_tries = b_X11_tries_38 := rfl
theorem k_X11_tries_45 : zlk 45 bl_X11_tries = b_X11_tries_45 := rfl
set_option maxRecDepth 100000 in
theorem ck_X11_tries : zall q_X11_tries.2.2.2.2.1 q_X11_tries.2.1 11 false q_X11_tries.2.2.1 cal_X11_tries q_X11_tries.2.2.2.1 bl_X11_tries pl_X11_tries = true := by decide +kernel
theorem nm_X11_tries : plainName q_X11_tries.1.cls = true ∧ zRX 11 = q_X11_tries.1.cls ∧ (false = true → q_X11_tries.1.name = "<init>") := ⟨by decide +kernel, rfl, fun h => by first | rfl | cases h⟩
set_option maxRecDepth 100000 in
theorem wd_X11_residual : zwd q_X11_residual := ⟨zw_in (p := (7, 204)) (by decide +kernel), zw_in (p := (1, 11)) (by decide +kernel), fun h => absurd h (by decide), fun _ => zw_in (p := (7, 202)) (by decide +kernel), fun _ => zw_in (p := (7, 203)) (by decide +kernel)⟩
def cal_X11_residual : List zCal := [q_X11_fits, q_X11_tries, q_X11_residualOf, q_X11_rounded, q_X11_isFinite, q_X11_plain, q_X11_bits]
def b_X11_residual_88 : List zE := (88, .lreturn, []) :: []
def p_X11_residual_88 : List (List (Nat × Nat)) := [] :: []
def b_X11_residual_85 : List zE := (85, .ldc2_w 269, [18446744073709551615]) :: (88, .nop, [0]) :: []
def p_X11_residual_85 : List (List (Nat × Nat)) := [(7, 0)] :: [] :: []
def b_X11_residual_76 : List zE := (76, .invokestatic 257, [5, 1]) :: (79, .invokestatic 158, [6, 1]) :: (82, .goto 6, [88, 0]) :: []
def p_X11_residual_76 : List (List (Nat × Nat)) := [(6, 212)] :: [(6, 227)] :: [] :: []
def b_X11_residual_74 : List zE := (74, .dload 5, []) :: (76, .nop, [0]) :: []
def p_X11_residual_74 : List (List (Nat × Nat)) := [] :: [] :: []
def b_X11_residual_30 : List zE := (30, .aload_n 0, []) :: (31, .iload_n 2, []) :: (32, .invokevirtual 352, [1, 1, 11]) :: (35, .aload_n 0, []) :: (36, .iload_n 1, []) :: (37, .iload_n 3, []) :: (38, .iload 4, []) :: (40, .invokevirtual 356, [2, 3, 11]) :: (43, .aload_n 0, []) :: (44, .getfield 16, [11, 2]) :: (47, .iconst 0, [0]) :: (48, .invokestatic 214, [3, 2]) :: (51, .dstore 5, []) :: (53, .dload 5, []) :: (55, .invokestatic 277, [4, 1]) :: (58, .ifCond .eq 27, [85, 0]) :: (61, .aload_n 0, []) :: (62, .getfield 203, [11, 3]) :: (65, .ifCond .eq 9, [74, 0]) :: (68, .dload 5, []) :: (70, .dneg, []) :: (71, .goto 5, [76, 0]) :: []
def p_X11_residual_30 : List (List (Nat × Nat)) := [] :: [] :: [(7, 209)] :: [] :: [] :: [] :: [] :: [(7, 213)] :: [] :: [(5, 233)] :: [] :: [(7, 75)] :: [] :: [] :: [(7, 36)] :: [] :: [] :: [(5, 234)] :: [] :: [] :: [] :: [] :: []
def b_X11_residual_26 : List zE := (26, .ldc2_w 269, [18446744073709551615]) :: (29, .lreturn, []) :: []
def p_X11_residual_26 : List (List (Nat × Nat)) := [(7, 0)] :: [] :: []
def b_X11_residual_0 : List zE := (0, .aload_n 0, []) :: (1, .iload_n 1, []) :: (2, .iload_n 2, []) :: (3, .iload_n 3, []) :: (4, .invokevirtual 349, [0, 3, 11]) :: (7, .ifCond .eq 19, [26, 0]) :: (10, .iload 4, []) :: (12, .ifCond .lt 14, [26, 0]) :: (15, .iload 4, []) :: (17, .aload_n 0, []) :: (18, .getfield 31, [11, 7]) :: (21, .iload_n 1, []) :: (22, .iaload, []) :: (23, .if_icmp .lt 7, [30, 0]) :: (26, .nop, [0]) :: []
def p_X11_residual_0 : List (List (Nat × Nat)) := [] :: [] :: [] :: [] :: [(7, 205)] :: [] :: [] :: [] :: [] :: [] :: [(5, 238)] :: [] :: [] :: [] :: [] :: []
def bl_X11_residual : List (Nat × List zE) := [(0, b_X11_residual_0), (26, b_X11_residual_26), (30, b_X11_residual_30), (74, b_X11_residual_74), (76, b_X11_residual_76), (85, b_X11_residual_85), (88, b_X11_residual_88)]
def pl_X11_residual : List (List (List (Nat × Nat))) := [p_X11_residual_0, p_X11_residual_26, p_X11_residual_30, p_X11_residual_74, p_X11_residual_76, p_X11_residual_85, p_X11_residual_88]
theorem k_X11_residual_0 : zlk 0 bl_X11_residual = b_X11_residual_0 := rfl
theorem k_X11_residual_26 : zlk 26 bl_X11_residual = b_X11_residual_26 := rfl
theorem k_X11_residual_30 : zlk 30 bl_X11_residual = b_X11_residual_30 := rfl
theorem k_X11_residual_74 : zlk 74 bl_X11_residual = b_X11_residual_74 := rfl
theorem k_X11_residual_76 : zlk 76 bl_X11_residual = b_X11_residual_76 := rfl
theorem k_X11_residual_85 : zlk 85 bl_X11_residual = b_X11_residual_85 := rfl
theorem k_X11_residual_88 : zlk 88 bl_X11_residual = b_X11_residual_88 := rfl
set_option maxRecDepth 100000 in
theorem ck_X11_residual : zall q_X11_residual.2.2.2.2.1 q_X11_residual.2.1 11 false q_X11_residual.2.2.1 cal_X11_residual q_X11_residual.2.2.2.1 bl_X11_residual pl_X11_residual = true := by decide +kernel
theorem nm_X11_residual : plainName q_X11_residual.1.cls = true ∧ zRX 11 = q_X11_residual.1.cls ∧ (false = true → q_X11_residual.1.name = "<init>") := ⟨by decide +kernel, rfl, fun h => by first | rfl | cases h⟩
set_option maxRecDepth 100000 in
theorem wd_X11_greatestOf : zwd q_X11_greatestOf := ⟨zw_in (p := (7, 224)) (by decide +kernel), zw_in (p := (1, 11)) (by decide +kernel), fun h => absurd h (by decide), fun _ => zw_in (p := (7, 223)) (by decide +kernel), fun _ => zw_in (p := (0, 83)) (by decide +kernel)⟩
def cal_X11_greatestOf : List zCal := [q_X11_residualOf, q_X11_order]
def b_X11_greatestOf_95 : List zE := (95, .return_, []) :: []
def p_X11_greatestOf_95 : List (List (Nat × Nat)) := [] :: []
def b_X11_greatestOf_89 : List zE := (89, .iinc 3 1, [1]) :: (92, .goto (-68), [24, 1]) :: []
def p_X11_greatestOf_89 : List (List (Nat × Nat)) := [] :: [] :: []
def b_X11_greatestOf_61 : List zE := (61, .iload 4, []) :: (63, .sipush 146, [146]) :: (66, .if_icmp .ge 23, [89, 0]) :: (69, .aload_n 0, []) :: (70, .getfield 91, [11, 29]) :: (73, .iload 4, []) :: (75, .aload_n 0, []) :: (76, .getfield 16, [11, 2]) :: (79, .iload 4, []) :: (81, .laload, []) :: (82, .lastore, []) :: (83, .iinc 4 1, [1]) :: (86, .goto (-25), [61, 1]) :: []
def p_X11_greatestOf_61 : List (List (Nat × Nat)) := [] :: [] :: [] :: [] :: [(6, 20)] :: [] :: [] :: [(5, 233)] :: [] :: [] :: [] :: [] :: [] :: []
def b_X11_greatestOf_58 : List zE := (58, .iconst 0, [0]) :: (59, .istore 4, []) :: (61, .nop, []) :: []
def p_X11_greatestOf_58 : List (List (Nat × Nat)) := [] :: [] :: [] :: []
def b_X11_greatestOf_24 : List zE := (24, .iload_n 3, []) :: (25, .aload_n 0, []) :: (26, .getfield 31, [11, 7]) :: (29, .iload_n 1, []) :: (30, .iaload, []) :: (31, .if_icmp .ge 64, [95, 0]) :: (34, .aload_n 0, []) :: (35, .iload_n 1, []) :: (36, .iload_n 2, []) :: (37, .iload_n 3, []) :: (38, .invokevirtual 356, [0, 3, 11]) :: (41, .aload_n 0, []) :: (42, .getfield 16, [11, 2]) :: (45, .aload_n 0, []) :: (46, .getfield 91, [11, 29]) :: (49, .invokestatic 199, [1, 2]) :: (52, .ifCond .gt 6, [58, 0]) :: (55, .goto 34, [89, 0]) :: []
def p_X11_greatestOf_24 : List (List (Nat × Nat)) := [] :: [] :: [(5, 238)] :: [] :: [] :: [] :: [] :: [] :: [] :: [] :: [(7, 213)] :: [] :: [(5, 233)] :: [] :: [(6, 20)] :: [(7, 72)] :: [] :: [] :: []
def b_X11_greatestOf_22 : List zE := (22, .iconst 0, [0]) :: (23, .istore_n 3, []) :: (24, .nop, []) :: []
def p_X11_greatestOf_22 : List (List (Nat × Nat)) := [] :: [] :: [] :: []
def b_X11_greatestOf_2 : List zE := (2, .iload_n 3, []) :: (3, .sipush 146, [146]) :: (6, .if_icmp .ge 16, [22, 0]) :: (9, .aload_n 0, []) :: (10, .getfield 91, [11, 29]) :: (13, .iload_n 3, []) :: (14, .lconst 0, [0]) :: (15, .lastore, []) :: (16, .iinc 3 1, [1]) :: (19, .goto (-17), [2, 1]) :: []
def p_X11_greatestOf_2 : List (List (Nat × Nat)) := [] :: [] :: [] :: [] :: [(6, 20)] :: [] :: [] :: [] :: [] :: [] :: []
def b_X11_greatestOf_0 : List zE := (0, .iconst 0, [0]) :: (1, .istore_n 3, []) :: (2, .nop, []) :: []
def p_X11_greatestOf_0 : List (List (Nat × Nat)) := [] :: [] :: [] :: []
def bl_X11_greatestOf : List (Nat × List zE) := [(0, b_X11_greatestOf_0), (2, b_X11_greatestOf_2), (22, b_X11_greatestOf_22), (24, b_X11_greatestOf_24), (58, b_X11_greatestOf_58), (61, b_X11_greatestOf_61), (89, b_X11_greatestOf_89), (95, b_X11_greatestOf_95)]
def pl_X11_greatestOf : List (List (List (Nat × Nat))) := [p_X11_greatestOf_0, p_X11_greatestOf_2, p_X11_greatestOf_22, p_X11_greatestOf_24, p_X11_greatestOf_58, p_X11_greatestOf_61, p_X11_greatestOf_89, p_X11_greatestOf_95]
theorem k_X11_greatestOf_0 : zlk 0 bl_X11_greatestOf = b_X11_greatestOf_0 := rfl
theorem k_X11_greatestOf_2 : zlk 2 bl_X11_greatestOf = b_X11_greatestOf_2 := rfl
theorem k_X11_greatestOf_22 : zlk 22 bl_X11_greatestOf = b_X11_greatestOf_22 := rfl
theorem k_X11_greatestOf_24 : zlk 24 bl_X11_greatestOf = b_X11_greatestOf_24 := rfl
theorem k_X11_greatestOf_58 : zlk 58 bl_X11_greatestOf = b_X11_greatestOf_58 := rfl
theorem k_X11_greatestOf_61 : zlk 61 bl_X11_greatestOf = b_X11_greatestOf_61 := rfl
theorem k_X11_greatestOf_89 : zlk 89 bl_X11_greatestOf = b_X11_greatestOf_89 := rfl
theorem k_X11_greatestOf_95 : zlk 95 bl_X11_greatestOf = b_X11_greatestOf_95 := rfl
set_option maxRecDepth 100000 in
theorem ck_X11_greatestOf : zall q_X11_greatestOf.2.2.2.2.1 q_X11_greatestOf.2.1 11 false q_X11_greatestOf.2.2.1 cal_X11_greatestOf q_X11_greatestOf.2.2.2.1 bl_X11_greatestOf pl_X11_greatestOf = true := by decide +kernel
theorem nm_X11_greatestOf : plainName q_X11_greatestOf.1.cls = true ∧ zRX 11 = q_X11_greatestOf.1.cls ∧ (false = true → q_X11_greatestOf.1.name = "<init>") := ⟨by decide +kernel, rfl, fun h => by first | rfl | cases h⟩
set_option maxRecDepth 100000 in
theorem wd_X11_greatest : zwd q_X11_greatest := ⟨zw_in (p := (7, 220)) (by decide +kernel), zw_in (p := (1, 11)) (by decide +kernel), fun h => absurd h (by decide), fun _ => zw_in (p := (7, 218)) (by decide +kernel), fun _ => zw_in (p := (7, 219)) (by decide +kernel)⟩
def cal_X11_greatest : List zCal := [q_X11_fits, q_X11_tries, q_X11_greatestOf, q_X11_rounded, q_X11_isFinite, q_X11_bits]
def b_X11_greatest_54 : List zE := (54, .lreturn, []) :: []
def p_X11_greatest_54 : List (List (Nat × Nat)) := [] :: []
def b_X11_greatest_51 : List zE := (51, .ldc2_w 269, [18446744073709551615]) :: (54, .nop, [0]) :: []
def p_X11_greatest_51 : List (List (Nat × Nat)) := [(7, 0)] :: [] :: []
def b_X11_greatest_14 : List zE := (14, .aload_n 0, []) :: (15, .iload_n 2, []) :: (16, .invokevirtual 352, [1, 1, 11]) :: (19, .aload_n 0, []) :: (20, .iload_n 1, []) :: (21, .iload_n 3, []) :: (22, .invokevirtual 359, [2, 2, 11]) :: (25, .aload_n 0, []) :: (26, .getfield 91, [11, 29]) :: (29, .iconst 1, [1]) :: (30, .invokestatic 214, [3, 2]) :: (33, .dstore 4, []) :: (35, .dload 4, []) :: (37, .invokestatic 277, [4, 1]) :: (40, .ifCond .eq 11, [51, 0]) :: (43, .dload 4, []) :: (45, .invokestatic 158, [5, 1]) :: (48, .goto 6, [54, 0]) :: []
def p_X11_greatest_14 : List (List (Nat × Nat)) := [] :: [] :: [(7, 209)] :: [] :: [] :: [] :: [(7, 221)] :: [] :: [(6, 20)] :: [] :: [(7, 75)] :: [] :: [] :: [(7, 36)] :: [] :: [] :: [(6, 227)] :: [] :: []
def b_X11_greatest_0 : List zE := (0, .aload_n 0, []) :: (1, .iload_n 1, []) :: (2, .iload_n 2, []) :: (3, .iload_n 3, []) :: (4, .invokevirtual 349, [0, 3, 11]) :: (7, .ifCond .ne 7, [14, 0]) :: (10, .ldc2_w 269, [18446744073709551615]) :: (13, .lreturn, []) :: []
def p_X11_greatest_0 : List (List (Nat × Nat)) := [] :: [] :: [] :: [] :: [(7, 205)] :: [] :: [(7, 0)] :: [] :: []
def bl_X11_greatest : List (Nat × List zE) := [(0, b_X11_greatest_0), (14, b_X11_greatest_14), (51, b_X11_greatest_51), (54, b_X11_greatest_54)]
def pl_X11_greatest : List (List (List (Nat × Nat))) := [p_X11_greatest_0, p_X11_greatest_14, p_X11_greatest_51, p_X11_greatest_54]
theorem k_X11_greatest_0 : zlk 0 bl_X11_greatest = b_X11_greatest_0 := rfl
theorem k_X11_greatest_14 : zlk 14 bl_X11_greatest = b_X11_greatest_14 := rfl
theorem k_X11_greatest_51 : zlk 51 bl_X11_greatest = b_X11_greatest_51 := rfl
theorem k_X11_greatest_54 : zlk 54 bl_X11_greatest = b_X11_greatest_54 := rfl
set_option maxRecDepth 100000 in
theorem ck_X11_greatest : zall q_X11_greatest.2.2.2.2.1 q_X11_greatest.2.1 11 false q_X11_greatest.2.2.1 cal_X11_greatest q_X11_greatest.2.2.2.1 bl_X11_greatest pl_X11_greatest = true := by decide +kernel
theorem nm_X11_greatest : plainName q_X11_greatest.1.cls = true ∧ zRX 11 = q_X11_greatest.1.cls ∧ (false = true → q_X11_greatest.1.name = "<init>") := ⟨by decide +kernel, rfl, fun h => by first | rfl | cases h⟩
set_option maxRecDepth 100000 in
theorem wd_X11_refine : zwd q_X11_refine := ⟨zw_in (p := (7, 228)) (by decide +kernel), zw_in (p := (1, 11)) (by decide +kernel), fun h => absurd h (by decide), fun _ => zw_in (p := (7, 226)) (by decide +kernel), fun _ => zw_in (p := (7, 227)) (by decide +kernel)⟩
def cal_X11_refine : List zCal := [q_X11_fits, q_X11_isFactor, q_X11_tries, q_X11_greatestOf, q_X11_residualOf, q_X11_rounded, q_X11_plain, q_X11_isFinite, q_X11_solves, q_X11_order]
def b_X11_refine_422 : List zE := (422, .iload 7, []) :: (424, .ireturn, []) :: []
def p_X11_refine_422 : List (List (Nat × Nat)) := [] :: [] :: []
def b_X11_refine_387 : List zE := (387, .iload 9, []) :: (389, .iload 6, []) :: (391, .if_icmp .ge 31, [422, 0]) :: (394, .aload_n 0, []) :: (395, .getfield 73, [11, 23]) :: (398, .bipush 8, [8]) :: (400, .iload_n 3, []) :: (401, .imul, []) :: (402, .iload 9, []) :: (404, .iadd, []) :: (405, .aload_n 0, []) :: (406, .getfield 88, [11, 28]) :: (409, .iload 9, []) :: (411, .daload, []) :: (412, .invokestatic 257, [6, 1]) :: (415, .dastore, []) :: (416, .iinc 9 1, [1]) :: (419, .goto (-32), [387, 1]) :: []
def p_X11_refine_387 : List (List (Nat × Nat)) := [] :: [] :: [] :: [] :: [(6, 14)] :: [] :: [] :: [] :: [] :: [] :: [] :: [(6, 19)] :: [] :: [] :: [(6, 212)] :: [] :: [] :: [] :: []
def b_X11_refine_384 : List zE := (384, .iconst 0, [0]) :: (385, .istore 9, []) :: (387, .nop, []) :: []
def p_X11_refine_384 : List (List (Nat × Nat)) := [] :: [] :: [] :: []
def b_X11_refine_381 : List zE := (381, .goto (-291), [90, 1]) :: []
def p_X11_refine_381 : List (List (Nat × Nat)) := [] :: []
def b_X11_refine_354 : List zE := (354, .iload 9, []) :: (356, .iload 6, []) :: (358, .if_icmp .ge 23, [381, 0]) :: (361, .aload_n 0, []) :: (362, .getfield 88, [11, 28]) :: (365, .iload 9, []) :: (367, .aload_n 0, []) :: (368, .getfield 97, [11, 31]) :: (371, .iload 9, []) :: (373, .daload, []) :: (374, .dastore, []) :: (375, .iinc 9 1, [1]) :: (378, .goto (-24), [354, 1]) :: []
def p_X11_refine_354 : List (List (Nat × Nat)) := [] :: [] :: [] :: [] :: [(6, 19)] :: [] :: [] :: [(6, 22)] :: [] :: [] :: [] :: [] :: [] :: []
def b_X11_refine_351 : List zE := (351, .iconst 0, [0]) :: (352, .istore 9, []) :: (354, .nop, []) :: []
def p_X11_refine_351 : List (List (Nat × Nat)) := [] :: [] :: [] :: []
def b_X11_refine_338 : List zE := (338, .istore 8, []) :: (340, .iload 8, []) :: (342, .ifCond .eq 9, [351, 0]) :: (345, .iinc 7 1, [1]) :: (348, .goto (-258), [90, 1]) :: []
def p_X11_refine_338 : List (List (Nat × Nat)) := [] :: [] :: [] :: [] :: [] :: []
def b_X11_refine_337 : List zE := (337, .iconst 0, [0]) :: (338, .nop, [0]) :: []
def p_X11_refine_337 : List (List (Nat × Nat)) := [] :: [] :: []
def b_X11_refine_314 : List zE := (314, .iload 8, []) :: (316, .ifCond .eq 21, [337, 0]) :: (319, .aload_n 0, []) :: (320, .getfield 91, [11, 29]) :: (323, .aload_n 0, []) :: (324, .getfield 94, [11, 30]) :: (327, .invokestatic 199, [9, 2]) :: (330, .ifCond .ge 7, [337, 0]) :: (333, .iconst 1, [1]) :: (334, .goto 4, [338, 0]) :: []
def p_X11_refine_314 : List (List (Nat × Nat)) := [] :: [] :: [] :: [(6, 20)] :: [] :: [(6, 21)] :: [(7, 72)] :: [] :: [] :: [] :: []
def b_X11_refine_302 : List zE := (302, .iload 8, []) :: (304, .ifCond .eq 10, [314, 0]) :: (307, .aload_n 0, []) :: (308, .iload_n 1, []) :: (309, .iload 4, []) :: (311, .invokevirtual 359, [3, 2, 11]) :: (314, .nop, [0]) :: []
def p_X11_refine_302 : List (List (Nat × Nat)) := [] :: [] :: [] :: [] :: [] :: [(7, 221)] :: [] :: []
def b_X11_refine_250 : List zE := (250, .iload 9, []) :: (252, .iload 6, []) :: (254, .if_icmp .ge 48, [302, 0]) :: (257, .iload 8, []) :: (259, .ifCond .eq 43, [302, 0]) :: (262, .aload_n 0, []) :: (263, .getfield 88, [11, 28]) :: (266, .iload 9, []) :: (268, .aload_n 0, []) :: (269, .getfield 97, [11, 31]) :: (272, .iload 9, []) :: (274, .daload, []) :: (275, .aload_n 0, []) :: (276, .getfield 85, [11, 27]) :: (279, .iload 9, []) :: (281, .daload, []) :: (282, .dadd, []) :: (283, .dastore, []) :: (284, .aload_n 0, []) :: (285, .getfield 88, [11, 28]) :: (288, .iload 9, []) :: (290, .daload, []) :: (291, .invokestatic 277, [7, 1]) :: (294, .istore 8, []) :: (296, .iinc 9 1, [1]) :: (299, .goto (-49), [250, 1]) :: []
def p_X11_refine_250 : List (List (Nat × Nat)) := [] :: [] :: [] :: [] :: [] :: [] :: [(6, 19)] :: [] :: [] :: [(6, 22)] :: [] :: [] :: [] :: [(6, 18)] :: [] :: [] :: [] :: [] :: [] :: [(6, 19)] :: [] :: [] :: [(7, 36)] :: [] :: [] :: [] :: []
def b_X11_refine_245 : List zE := (245, .istore 8, []) :: (247, .iconst 0, [0]) :: (248, .istore 9, []) :: (250, .nop, []) :: []
def p_X11_refine_245 : List (List (Nat × Nat)) := [] :: [] :: [] :: [] :: []
def b_X11_refine_244 : List zE := (244, .iconst 0, [0]) :: (245, .nop, [0]) :: []
def p_X11_refine_244 : List (List (Nat × Nat)) := [] :: [] :: []
def b_X11_refine_227 : List zE := (227, .iload 8, []) :: (229, .ifCond .eq 15, [244, 0]) :: (232, .aload_n 0, []) :: (233, .iload_n 2, []) :: (234, .invokevirtual 343, [8, 1, 11]) :: (237, .ifCond .eq 7, [244, 0]) :: (240, .iconst 1, [1]) :: (241, .goto 4, [245, 0]) :: []
def p_X11_refine_227 : List (List (Nat × Nat)) := [] :: [] :: [] :: [] :: [(7, 192)] :: [] :: [] :: [] :: []
def b_X11_refine_205 : List zE := (205, .istore 8, []) :: (207, .aload_n 0, []) :: (208, .getfield 97, [11, 31]) :: (211, .iload 9, []) :: (213, .aload_n 0, []) :: (214, .getfield 88, [11, 28]) :: (217, .iload 9, []) :: (219, .daload, []) :: (220, .dastore, []) :: (221, .iinc 9 1, [1]) :: (224, .goto (-88), [136, 1]) :: []
def p_X11_refine_205 : List (List (Nat × Nat)) := [] :: [] :: [(6, 22)] :: [] :: [] :: [(6, 19)] :: [] :: [] :: [] :: [] :: [] :: []
def b_X11_refine_204 : List zE := (204, .iconst 0, [0]) :: (205, .nop, [0]) :: []
def p_X11_refine_204 : List (List (Nat × Nat)) := [] :: [] :: []
def b_X11_refine_183 : List zE := (183, .invokestatic 257, [6, 1]) :: (186, .dastore, []) :: (187, .iload 8, []) :: (189, .ifCond .eq 15, [204, 0]) :: (192, .dload 10, []) :: (194, .invokestatic 277, [7, 1]) :: (197, .ifCond .eq 7, [204, 0]) :: (200, .iconst 1, [1]) :: (201, .goto 4, [205, 0]) :: []
def p_X11_refine_183 : List (List (Nat × Nat)) := [(6, 212)] :: [] :: [] :: [] :: [] :: [(7, 36)] :: [] :: [] :: [] :: []
def b_X11_refine_181 : List zE := (181, .dload 10, []) :: (183, .nop, [0]) :: []
def p_X11_refine_181 : List (List (Nat × Nat)) := [] :: [] :: []
def b_X11_refine_136 : List zE := (136, .iload 9, []) :: (138, .iload 6, []) :: (140, .if_icmp .ge 87, [227, 0]) :: (143, .aload_n 0, []) :: (144, .iload_n 1, []) :: (145, .iload 4, []) :: (147, .iload 9, []) :: (149, .invokevirtual 356, [4, 3, 11]) :: (152, .aload_n 0, []) :: (153, .getfield 16, [11, 2]) :: (156, .iconst 0, [0]) :: (157, .invokestatic 214, [5, 2]) :: (160, .dstore 10, []) :: (162, .aload_n 0, []) :: (163, .getfield 79, [11, 25]) :: (166, .iload 9, []) :: (168, .aload_n 0, []) :: (169, .getfield 203, [11, 3]) :: (172, .ifCond .eq 9, [181, 0]) :: (175, .dload 10, []) :: (177, .dneg, []) :: (178, .goto 5, [183, 0]) :: []
def p_X11_refine_136 : List (List (Nat × Nat)) := [] :: [] :: [] :: [] :: [] :: [] :: [] :: [(7, 213)] :: [] :: [(5, 233)] :: [] :: [(7, 75)] :: [] :: [] :: [(6, 16)] :: [] :: [] :: [(5, 234)] :: [] :: [] :: [] :: [] :: []
def b_X11_refine_133 : List zE := (133, .iconst 0, [0]) :: (134, .istore 9, []) :: (136, .nop, []) :: []
def p_X11_refine_133 : List (List (Nat × Nat)) := [] :: [] :: [] :: []
def b_X11_refine_105 : List zE := (105, .iload 9, []) :: (107, .sipush 146, [146]) :: (110, .if_icmp .ge 23, [133, 0]) :: (113, .aload_n 0, []) :: (114, .getfield 94, [11, 30]) :: (117, .iload 9, []) :: (119, .aload_n 0, []) :: (120, .getfield 91, [11, 29]) :: (123, .iload 9, []) :: (125, .laload, []) :: (126, .lastore, []) :: (127, .iinc 9 1, [1]) :: (130, .goto (-25), [105, 1]) :: []
def p_X11_refine_105 : List (List (Nat × Nat)) := [] :: [] :: [] :: [] :: [(6, 21)] :: [] :: [] :: [(6, 20)] :: [] :: [] :: [] :: [] :: [] :: []
def b_X11_refine_90 : List zE := (90, .iload 8, []) :: (92, .ifCond .eq 292, [384, 0]) :: (95, .iload 7, []) :: (97, .iload 5, []) :: (99, .if_icmp .ge 285, [384, 0]) :: (102, .iconst 0, [0]) :: (103, .istore 9, []) :: (105, .nop, []) :: []
def p_X11_refine_90 : List (List (Nat × Nat)) := [] :: [] :: [] :: [] :: [] :: [] :: [] :: [] :: []
def b_X11_refine_64 : List zE := (64, .aload_n 0, []) :: (65, .getfield 58, [11, 16]) :: (68, .iload_n 2, []) :: (69, .iaload, []) :: (70, .istore 6, []) :: (72, .iconst 0, [0]) :: (73, .istore 7, []) :: (75, .aload_n 0, []) :: (76, .iload_n 3, []) :: (77, .invokevirtual 352, [2, 1, 11]) :: (80, .aload_n 0, []) :: (81, .iload_n 1, []) :: (82, .iload 4, []) :: (84, .invokevirtual 359, [3, 2, 11]) :: (87, .iconst 1, [1]) :: (88, .istore 8, []) :: (90, .nop, []) :: []
def p_X11_refine_64 : List (List (Nat × Nat)) := [] :: [(6, 7)] :: [] :: [] :: [] :: [] :: [] :: [] :: [] :: [(7, 209)] :: [] :: [] :: [] :: [(7, 221)] :: [] :: [] :: [] :: []
def b_X11_refine_62 : List zE := (62, .iconst (-1), [4294967295]) :: (63, .ireturn, []) :: []
def p_X11_refine_62 : List (List (Nat × Nat)) := [] :: [] :: []
def b_X11_refine_0 : List zE := (0, .aload_n 0, []) :: (1, .iload_n 1, []) :: (2, .iload_n 3, []) :: (3, .iload 4, []) :: (5, .invokevirtual 349, [0, 3, 11]) :: (8, .ifCond .eq 54, [62, 0]) :: (11, .aload_n 0, []) :: (12, .iload_n 2, []) :: (13, .invokevirtual 309, [1, 1, 11]) :: (16, .ifCond .eq 46, [62, 0]) :: (19, .aload_n 0, []) :: (20, .getfield 31, [11, 7]) :: (23, .iload_n 1, []) :: (24, .iaload, []) :: (25, .aload_n 0, []) :: (26, .getfield 58, [11, 16]) :: (29, .iload_n 2, []) :: (30, .iaload, []) :: (31, .if_icmp .ne 31, [62, 0]) :: (34, .aload_n 0, []) :: (35, .getfield 34, [11, 8]) :: (38, .iload_n 1, []) :: (39, .iaload, []) :: (40, .aload_n 0, []) :: (41, .getfield 58, [11, 16]) :: (44, .iload_n 2, []) :: (45, .iaload, []) :: (46, .if_icmp .ne 16, [62, 0]) :: (49, .iload 5, []) :: (51, .iconst 1, [1]) :: (52, .if_icmp .lt 10, [62, 0]) :: (55, .iload 5, []) :: (57, .bipush 20, [20]) :: (59, .if_icmp .le 5, [64, 0]) :: (62, .nop, [0]) :: []
def p_X11_refine_0 : List (List (Nat × Nat)) := [] :: [] :: [] :: [] :: [(7, 205)] :: [] :: [] :: [] :: [(7, 129)] :: [] :: [] :: [(5, 238)] :: [] :: [] :: [] :: [(6, 7)] :: [] :: [] :: [] :: [] :: [(5, 239)] :: [] :: [] :: [] :: [(6, 7)] :: [] :: [] :: [] :: [] :: [] :: [] :: [] :: [] :: [] :: [] :: []
def bl_X11_refine : List (Nat × List zE) := [(0, b_X11_refine_0), (62, b_X11_refine_62), (64, b_X11_refine_64), (90, b_X11_refine_90), (105, b_X11_refine_105), (133, b_X11_refine_133), (136, b_X11_refine_136), (181, b_X11_refine_181), (183, b_X11_refine_183), (204, b_X11_refine_204), (205, b_X11_refine_205), (227, b_X11_refine_227), (244, b_X11_refine_244), (245, b_X11_refine_245), (250, b_X11_refine_250), (302, b_X11_refine_302), (314, b_X11_refine_314), (337, b_X11_refine_337), (338, b_X11_refine_338), (351, b_X11_refine_351), (354, b_X11_refine_354), (381, b_X11_refine_381), (384, b_X11_refine_384), (387, b_X11_refine_387), (422, b_X11_refine_422)]
def pl_X11_refine : List (List (List (Nat × Nat))) := [p_X11_refine_0, p_X11_refine_62, p_X11_refine_64, p_X11_refine_90, p_X11_refine_105, p_X11_refine_133, p_X11_refine_136, p_X11_refine_181, p_X11_refine_183, p_X11_refine_204, p_X11_refine_205, p_X11_refine_227, p_X11_refine_244, p_X11_refine_245, p_X11_refine_250, p_X11_refine_302, p_X11_refine_314, p_X11_refine_337, p_X11_refine_338, p_X11_refine_351, p_X11_refine_354, p_X11_refine_381, p_X11_refine_384, p_X11_refine_387, p_X11_refine_422]
theorem k_X11_refine_0 : zlk 0 bl_X11_refine = b_X11_refine_0 := rfl
theorem k_X11_refine_62 : zlk 62 bl_X11_refine = b_X11_refine_62 := rfl
theorem k_X11_refine_64 : zlk 64 bl_X11_refine = b_X11_refine_64 := rfl
theorem k_X11_refine_90 : zlk 90 bl_X11_refine = b_X11_refine_90 := rfl
theorem k_X11_refine_105 : zlk 105 bl_X11_refine = b_X11_refine_105 := rfl
theorem k_X11_refine_133 : zlk 133 bl_X11_refine = b_X11_refine_133 := rfl
theorem k_X11_refine_136 : zlk 136 bl_X11_refine = b_X11_refine_136 := rfl
theorem k_X11_refine_181 : zlk 181 bl_X11_refine = b_X11_refine_181 := rfl
theorem k_X11_refine_183 : zlk 183 bl_X11_refine = b_X11_refine_183 := rfl
theorem k_X11_refine_204 : zlk 204 bl_X11_refine = b_X11_refine_204 := rfl
theorem k_X11_refine_205 : zlk 205 bl_X11_refine = b_X11_refine_205 := rfl
theorem k_X11_refine_227 : zlk 227 bl_X11_refine = b_X11_refine_227 := rfl
theorem k_X11_refine_244 : zlk 244 bl_X11_refine = b_X11_refine_244 := rfl
theorem k_X11_refine_245 : zlk 245 bl_X11_refine = b_X11_refine_245 := rfl
theorem k_X11_refine_250 : zlk 250 bl_X11_refine = b_X11_refine_250 := rfl
theorem k_X11_refine_302 : zlk 302 bl_X11_refine = b_X11_refine_302 := rfl
theorem k_X11_refine_314 : zlk 314 bl_X11_refine = b_X11_refine_314 := rfl
theorem k_X11_refine_337 : zlk 337 bl_X11_refine = b_X11_refine_337 := rfl
theorem k_X11_refine_338 : zlk 338 bl_X11_refine = b_X11_refine_338 := rfl
theorem k_X11_refine_351 : zlk 351 bl_X11_refine = b_X11_refine_351 := rfl
theorem k_X11_refine_354 : zlk 354 bl_X11_refine = b_X11_refine_354 := rfl
theorem k_X11_refine_381 : zlk 381 bl_X11_refine = b_X11_refine_381 := rfl
theorem k_X11_refine_384 : zlk 384 bl_X11_refine = b_X11_refine_384 := rfl
theorem k_X11_refine_387 : zlk 387 bl_X11_refine = b_X11_refine_387 := rfl
theorem k_X11_refine_422 : zlk 422 bl_X11_refine = b_X11_refine_422 := rfl
set_option maxRecDepth 100000 in
theorem ck_X11_refine : zall q_X11_refine.2.2.2.2.1 q_X11_refine.2.1 11 false q_X11_refine.2.2.1 cal_X11_refine q_X11_refine.2.2.2.1 bl_X11_refine pl_X11_refine = true := by decide +kernel
theorem nm_X11_refine : plainName q_X11_refine.1.cls = true ∧ zRX 11 = q_X11_refine.1.cls ∧ (false = true → q_X11_refine.1.name = "<init>") := ⟨by decide +kernel, rfl, fun h => by first | rfl | cases h⟩
set_option maxRecDepth 100000 in
theorem wd_X11_inverse : zwd q_X11_inverse := ⟨zw_in (p := (7, 232)) (by decide +kernel), zw_in (p := (1, 11)) (by decide +kernel), fun h => absurd h (by decide), fun _ => zw_in (p := (7, 230)) (by decide +kernel), fun _ => zw_in (p := (7, 231)) (by decide +kernel)⟩
def cal_X11_inverse : List zCal := [q_X11_isFactor, q_X11_solves, q_X11_worked]
def b_X11_inverse_107 : List zE := (107, .aload_n 0, []) :: (108, .iload_n 2, []) :: (109, .iload_n 2, []) :: (110, .invokevirtual 281, [2, 2, 11]) :: (113, .ireturn, []) :: []
def p_X11_inverse_107 : List (List (Nat × Nat)) := [] :: [] :: [] :: [(7, 32)] :: [] :: []
def b_X11_inverse_101 : List zE := (101, .iinc 3 1, [1]) :: (104, .goto (-85), [19, 1]) :: []
def p_X11_inverse_101 : List (List (Nat × Nat)) := [] :: [] :: []
def b_X11_inverse_70 : List zE := (70, .iload 4, []) :: (72, .iload_n 2, []) :: (73, .if_icmp .ge 28, [101, 0]) :: (76, .aload_n 0, []) :: (77, .getfield 43, [11, 11]) :: (80, .bipush 8, [8]) :: (82, .iload 4, []) :: (84, .imul, []) :: (85, .iload_n 3, []) :: (86, .iadd, []) :: (87, .aload_n 0, []) :: (88, .getfield 85, [11, 27]) :: (91, .iload 4, []) :: (93, .daload, []) :: (94, .dastore, []) :: (95, .iinc 4 1, [1]) :: (98, .goto (-28), [70, 1]) :: []
def p_X11_inverse_70 : List (List (Nat × Nat)) := [] :: [] :: [] :: [] :: [(6, 2)] :: [] :: [] :: [] :: [] :: [] :: [] :: [(6, 18)] :: [] :: [] :: [] :: [] :: [] :: []
def b_X11_inverse_67 : List zE := (67, .iconst 0, [0]) :: (68, .istore 4, []) :: (70, .nop, []) :: []
def p_X11_inverse_67 : List (List (Nat × Nat)) := [] :: [] :: [] :: []
def b_X11_inverse_57 : List zE := (57, .aload_n 0, []) :: (58, .iload_n 1, []) :: (59, .invokevirtual 343, [1, 1, 11]) :: (62, .ifCond .ne 5, [67, 0]) :: (65, .iconst (-1), [4294967295]) :: (66, .ireturn, []) :: []
def p_X11_inverse_57 : List (List (Nat × Nat)) := [] :: [] :: [(7, 192)] :: [] :: [] :: [] :: []
def b_X11_inverse_50 : List zE := (50, .dastore, []) :: (51, .iinc 4 1, [1]) :: (54, .goto (-27), [27, 1]) :: []
def p_X11_inverse_50 : List (List (Nat × Nat)) := [] :: [] :: [] :: []
def b_X11_inverse_49 : List zE := (49, .dconst 0, [0]) :: (50, .nop, [0]) :: []
def p_X11_inverse_49 : List (List (Nat × Nat)) := [] :: [] :: []
def b_X11_inverse_27 : List zE := (27, .iload 4, []) :: (29, .iload_n 2, []) :: (30, .if_icmp .ge 27, [57, 0]) :: (33, .aload_n 0, []) :: (34, .getfield 79, [11, 25]) :: (37, .iload 4, []) :: (39, .iload 4, []) :: (41, .iload_n 3, []) :: (42, .if_icmp .ne 7, [49, 0]) :: (45, .dconst 1, [4607182418800017408]) :: (46, .goto 4, [50, 0]) :: []
def p_X11_inverse_27 : List (List (Nat × Nat)) := [] :: [] :: [] :: [] :: [(6, 16)] :: [] :: [] :: [] :: [] :: [] :: [] :: []
def b_X11_inverse_19 : List zE := (19, .iload_n 3, []) :: (20, .iload_n 2, []) :: (21, .if_icmp .ge 86, [107, 0]) :: (24, .iconst 0, [0]) :: (25, .istore 4, []) :: (27, .nop, []) :: []
def p_X11_inverse_19 : List (List (Nat × Nat)) := [] :: [] :: [] :: [] :: [] :: [] :: []
def b_X11_inverse_10 : List zE := (10, .aload_n 0, []) :: (11, .getfield 58, [11, 16]) :: (14, .iload_n 1, []) :: (15, .iaload, []) :: (16, .istore_n 2, []) :: (17, .iconst 0, [0]) :: (18, .istore_n 3, []) :: (19, .nop, []) :: []
def p_X11_inverse_10 : List (List (Nat × Nat)) := [] :: [(6, 7)] :: [] :: [] :: [] :: [] :: [] :: [] :: []
def b_X11_inverse_0 : List zE := (0, .aload_n 0, []) :: (1, .iload_n 1, []) :: (2, .invokevirtual 309, [0, 1, 11]) :: (5, .ifCond .ne 5, [10, 0]) :: (8, .iconst (-1), [4294967295]) :: (9, .ireturn, []) :: []
def p_X11_inverse_0 : List (List (Nat × Nat)) := [] :: [] :: [(7, 129)] :: [] :: [] :: [] :: []
def bl_X11_inverse : List (Nat × List zE) := [(0, b_X11_inverse_0), (10, b_X11_inverse_10), (19, b_X11_inverse_19), (27, b_X11_inverse_27), (49, b_X11_inverse_49), (50, b_X11_inverse_50), (57, b_X11_inverse_57), (67, b_X11_inverse_67), (70, b_X11_inverse_70), (101, b_X11_inverse_101), (107, b_X11_inverse_107)]
def pl_X11_inverse : List (List (List (Nat × Nat))) := [p_X11_inverse_0, p_X11_inverse_10, p_X11_inverse_19, p_X11_inverse_27, p_X11_inverse_49, p_X11_inverse_50, p_X11_inverse_57, p_X11_inverse_67, p_X11_inverse_70, p_X11_inverse_101, p_X11_inverse_107]
theorem k_X11_inverse_0 : zlk 0 bl_X11_inverse = b_X11_inverse_0 := rfl
theorem k_X11_inverse_10 : zlk 10 bl_X11_inverse = b_X11_inverse_10 := rfl
theorem k_X11_inverse_19 : zlk 19 bl_X11_inverse = b_X11_inverse_19 := rfl
theorem k_X11_inverse_27 : zlk 27 bl_X11_inverse = b_X11_inverse_27 := rfl
theorem k_X11_inverse_49 : zlk 49 bl_X11_inverse = b_X11_inverse_49 := rfl
theorem k_X11_inverse_50 : zlk 50 bl_X11_inverse = b_X11_inverse_50 := rfl
theorem k_X11_inverse_57 : zlk 57 bl_X11_inverse = b_X11_inverse_57 := rfl
theorem k_X11_inverse_67 : zlk 67 bl_X11_inverse = b_X11_inverse_67 := rfl
theorem k_X11_inverse_70 : zlk 70 bl_X11_inverse = b_X11_inverse_70 := rfl
theorem k_X11_inverse_101 : zlk 101 bl_X11_inverse = b_X11_inverse_101 := rfl
theorem k_X11_inverse_107 : zlk 107 bl_X11_inverse = b_X11_inverse_107 := rfl
set_option maxRecDepth 100000 in
theorem ck_X11_inverse : zall q_X11_inverse.2.2.2.2.1 q_X11_inverse.2.1 11 false q_X11_inverse.2.2.1 cal_X11_inverse q_X11_inverse.2.2.2.1 bl_X11_inverse pl_X11_inverse = true := by decide +kernel
theorem nm_X11_inverse : plainName q_X11_inverse.1.cls = true ∧ zRX 11 = q_X11_inverse.1.cls ∧ (false = true → q_X11_inverse.1.name = "<init>") := ⟨by decide +kernel, rfl, fun h => by first | rfl | cases h⟩
set_option maxRecDepth 100000 in
theorem wd_X11_isLatticeVector : zwd q_X11_isLatticeVector := ⟨zw_in (p := (8, 0)) (by decide +kernel), zw_in (p := (1, 11)) (by decide +kernel), fun h => absurd h (by decide), fun _ => zw_in (p := (7, 239)) (by decide +kernel), fun _ => zw_in (p := (0, 84)) (by decide +kernel)⟩
def cal_X11_isLatticeVector : List zCal := [q_X11_onLattice]
def b_X11_isLatticeVector_47 : List zE := (47, .iload_n 2, []) :: (48, .ireturn, []) :: []
def p_X11_isLatticeVector_47 : List (List (Nat × Nat)) := [] :: [] :: []
def b_X11_isLatticeVector_40 : List zE := (40, .istore_n 2, []) :: (41, .iinc 3 1, [1]) :: (44, .goto (-40), [4, 1]) :: []
def p_X11_isLatticeVector_40 : List (List (Nat × Nat)) := [] :: [] :: [] :: []
def b_X11_isLatticeVector_39 : List zE := (39, .iconst 0, [0]) :: (40, .nop, [0]) :: []
def p_X11_isLatticeVector_39 : List (List (Nat × Nat)) := [] :: [] :: []
def b_X11_isLatticeVector_4 : List zE := (4, .iload_n 3, []) :: (5, .aload_n 0, []) :: (6, .getfield 76, [11, 24]) :: (9, .iload_n 1, []) :: (10, .iaload, []) :: (11, .if_icmp .ge 36, [47, 0]) :: (14, .iload_n 2, []) :: (15, .ifCond .eq 24, [39, 0]) :: (18, .aload_n 0, []) :: (19, .getfield 73, [11, 23]) :: (22, .bipush 8, [8]) :: (24, .iload_n 1, []) :: (25, .imul, []) :: (26, .iload_n 3, []) :: (27, .iadd, []) :: (28, .daload, []) :: (29, .invokestatic 364, [0, 1]) :: (32, .ifCond .eq 7, [39, 0]) :: (35, .iconst 1, [1]) :: (36, .goto 4, [40, 0]) :: []
def p_X11_isLatticeVector_4 : List (List (Nat × Nat)) := [] :: [] :: [(6, 15)] :: [] :: [] :: [] :: [] :: [] :: [] :: [(6, 14)] :: [] :: [] :: [] :: [] :: [] :: [] :: [(7, 9)] :: [] :: [] :: [] :: []
def b_X11_isLatticeVector_0 : List zE := (0, .iconst 1, [1]) :: (1, .istore_n 2, []) :: (2, .iconst 0, [0]) :: (3, .istore_n 3, []) :: (4, .nop, []) :: []
def p_X11_isLatticeVector_0 : List (List (Nat × Nat)) := [] :: [] :: [] :: [] :: [] :: []
def bl_X11_isLatticeVector : List (Nat × List zE) := [(0, b_X11_isLatticeVector_0), (4, b_X11_isLatticeVector_4), (39, b_X11_isLatticeVector_39), (40, b_X11_isLatticeVector_40), (47, b_X11_isLatticeVector_47)]
def pl_X11_isLatticeVector : List (List (List (Nat × Nat))) := [p_X11_isLatticeVector_0, p_X11_isLatticeVector_4, p_X11_isLatticeVector_39, p_X11_isLatticeVector_40, p_X11_isLatticeVector_47]
theorem k_X11_isLatticeVector_0 : zlk 0 bl_X11_isLatticeVector = b_X11_isLatticeVector_0 := rfl
theorem k_X11_isLatticeVector_4 : zlk 4 bl_X11_isLatticeVector = b_X11_isLatticeVector_4 := rfl
theorem k_X11_isLatticeVector_39 : zlk 39 bl_X11_isLatticeVector = b_X11_isLatticeVector_39 := rfl
theorem k_X11_isLatticeVector_40 : zlk 40 bl_X11_isLatticeVector = b_X11_isLatticeVector_40 := rfl
theorem k_X11_isLatticeVector_47 : zlk 47 bl_X11_isLatticeVector = b_X11_isLatticeVector_47 := rfl
set_option maxRecDepth 100000 in
theorem ck_X11_isLatticeVector : zall q_X11_isLatticeVector.2.2.2.2.1 q_X11_isLatticeVector.2.1 11 false q_X11_isLatticeVector.2.2.1 cal_X11_isLatticeVector q_X11_isLatticeVector.2.2.2.1 bl_X11_isLatticeVector pl_X11_isLatticeVector = true := by decide +kernel
theorem nm_X11_isLatticeVector : plainName q_X11_isLatticeVector.1.cls = true ∧ zRX 11 = q_X11_isLatticeVector.1.cls ∧ (false = true → q_X11_isLatticeVector.1.name = "<init>") := ⟨by decide +kernel, rfl, fun h => by first | rfl | cases h⟩
set_option maxRecDepth 100000 in
theorem wd_X11_cellAt : zwd q_X11_cellAt := ⟨zw_in (p := (8, 8)) (by decide +kernel), zw_in (p := (1, 11)) (by decide +kernel), fun h => absurd h (by decide), fun _ => zw_in (p := (8, 7)) (by decide +kernel), fun _ => zw_in (p := (0, 86)) (by decide +kernel)⟩
def cal_X11_cellAt : List zCal := []
def b_X11_cellAt_0 : List zE := (0, .bipush 17, [17]) :: (2, .iload_n 1, []) :: (3, .imul, []) :: (4, .iload_n 2, []) :: (5, .iadd, []) :: (6, .ireturn, []) :: []
def p_X11_cellAt_0 : List (List (Nat × Nat)) := [] :: [] :: [] :: [] :: [] :: [] :: []
def bl_X11_cellAt : List (Nat × List zE) := [(0, b_X11_cellAt_0)]
def pl_X11_cellAt : List (List (List (Nat × Nat))) := [p_X11_cellAt_0]
theorem k_X11_cellAt_0 : zlk 0 bl_X11_cellAt = b_X11_cellAt_0 := rfl
set_option maxRecDepth 100000 in
theorem ck_X11_cellAt : zall q_X11_cellAt.2.2.2.2.1 q_X11_cellAt.2.1 11 false q_X11_cellAt.2.2.1 cal_X11_cellAt q_X11_cellAt.2.2.2.1 bl_X11_cellAt pl_X11_cellAt = true := by decide +kernel
theorem nm_X11_cellAt : plainName q_X11_cellAt.1.cls = true ∧ zRX 11 = q_X11_cellAt.1.cls ∧ (false = true → q_X11_cellAt.1.name = "<init>") := ⟨by decide +kernel, rfl, fun h => by first | rfl | cases h⟩
set_option maxRecDepth 100000 in
theorem wd_X11_becomes : zwd q_X11_becomes := ⟨zw_in (p := (8, 12)) (by decide +kernel), zw_in (p := (1, 11)) (by decide +kernel), fun h => absurd h (by decide), fun _ => zw_in (p := (8, 11)) (by decide +kernel), fun _ => zw_in (p := (0, 87)) (by decide +kernel)⟩
def cal_X11_becomes : List zCal := [q_X11_whole, q_X11_power]
def b_X11_becomes_238 : List zE := (238, .return_, []) :: []
def p_X11_becomes_238 : List (List (Nat × Nat)) := [] :: []
def b_X11_becomes_188 : List zE := (188, .iload 12, []) :: (190, .iload 7, []) :: (192, .iconst 2, [2]) :: (193, .iadd, []) :: (194, .if_icmp .ge 44, [238, 0]) :: (197, .aload_n 0, []) :: (198, .getfield 100, [11, 32]) :: (201, .iload 12, []) :: (203, .iconst 1, [1]) :: (204, .iadd, []) :: (205, .dup2, []) :: (206, .laload, []) :: (207, .aload_n 0, []) :: (208, .getfield 100, [11, 32]) :: (211, .iload 12, []) :: (213, .laload, []) :: (214, .bipush 32, [32]) :: (216, .lushr, []) :: (217, .ladd, []) :: (218, .lastore, []) :: (219, .aload_n 0, []) :: (220, .getfield 100, [11, 32]) :: (223, .iload 12, []) :: (225, .dup2, []) :: (226, .laload, []) :: (227, .ldc2_w 187, [4294967295]) :: (230, .land, []) :: (231, .lastore, []) :: (232, .iinc 12 1, [1]) :: (235, .goto (-47), [188, 1]) :: []
def p_X11_becomes_188 : List (List (Nat × Nat)) := [] :: [] :: [] :: [] :: [] :: [] :: [(6, 23)] :: [] :: [] :: [] :: [] :: [] :: [] :: [(6, 23)] :: [] :: [] :: [] :: [] :: [] :: [] :: [] :: [(6, 23)] :: [] :: [] :: [] :: [(7, 60)] :: [] :: [] :: [] :: [] :: []
def b_X11_becomes_97 : List zE := (97, .bipush 32, [32]) :: (99, .iload_n 1, []) :: (100, .imul, []) :: (101, .iload 6, []) :: (103, .bipush 32, [32]) :: (105, .idiv, []) :: (106, .iadd, []) :: (107, .istore 7, []) :: (109, .lload 4, []) :: (111, .ldc2_w 187, [4294967295]) :: (114, .land, []) :: (115, .iload 6, []) :: (117, .bipush 32, [32]) :: (119, .irem, []) :: (120, .lshl, []) :: (121, .lstore 8, []) :: (123, .lload 4, []) :: (125, .bipush 32, [32]) :: (127, .lushr, []) :: (128, .iload 6, []) :: (130, .bipush 32, [32]) :: (132, .irem, []) :: (133, .lshl, []) :: (134, .lstore 10, []) :: (136, .aload_n 0, []) :: (137, .getfield 100, [11, 32]) :: (140, .iload 7, []) :: (142, .lload 8, []) :: (144, .ldc2_w 187, [4294967295]) :: (147, .land, []) :: (148, .lastore, []) :: (149, .aload_n 0, []) :: (150, .getfield 100, [11, 32]) :: (153, .iload 7, []) :: (155, .iconst 1, [1]) :: (156, .iadd, []) :: (157, .lload 8, []) :: (159, .bipush 32, [32]) :: (161, .lushr, []) :: (162, .lload 10, []) :: (164, .ldc2_w 187, [4294967295]) :: (167, .land, []) :: (168, .ladd, []) :: (169, .lastore, []) :: (170, .aload_n 0, []) :: (171, .getfield 100, [11, 32]) :: (174, .iload 7, []) :: (176, .iconst 2, [2]) :: (177, .iadd, []) :: (178, .lload 10, []) :: (180, .bipush 32, [32]) :: (182, .lushr, []) :: (183, .lastore, []) :: (184, .iload 7, []) :: (186, .istore 12, []) :: (188, .nop, []) :: []
def p_X11_becomes_97 : List (List (Nat × Nat)) := [] :: [] :: [] :: [] :: [] :: [] :: [] :: [] :: [] :: [(7, 60)] :: [] :: [] :: [] :: [] :: [] :: [] :: [] :: [] :: [] :: [] :: [] :: [] :: [] :: [] :: [] :: [(6, 23)] :: [] :: [] :: [(7, 60)] :: [] :: [] :: [] :: [(6, 23)] :: [] :: [] :: [] :: [] :: [] :: [] :: [] :: [(7, 60)] :: [] :: [] :: [] :: [] :: [(6, 23)] :: [] :: [] :: [] :: [] :: [] :: [] :: [] :: [] :: [] :: [] :: []
def b_X11_becomes_78 : List zE := (78, .iload 6, []) :: (80, .ifCond .ge 17, [97, 0]) :: (83, .lload 4, []) :: (85, .ldc2_w 177, [2]) :: (88, .ldiv, []) :: (89, .lstore 4, []) :: (91, .iinc 6 1, [1]) :: (94, .goto (-16), [78, 1]) :: []
def p_X11_becomes_78 : List (List (Nat × Nat)) := [] :: [] :: [] :: [(7, 23)] :: [] :: [] :: [] :: [] :: []
def b_X11_becomes_63 : List zE := (63, .dload_n 2, []) :: (64, .invokestatic 170, [0, 1]) :: (67, .lstore 4, []) :: (69, .dload_n 2, []) :: (70, .invokestatic 173, [1, 1]) :: (73, .bipush 60, [60]) :: (75, .iadd, []) :: (76, .istore 6, []) :: (78, .nop, []) :: []
def p_X11_becomes_63 : List (List (Nat × Nat)) := [] :: [(7, 16)] :: [] :: [] :: [(7, 20)] :: [] :: [] :: [] :: [] :: []
def b_X11_becomes_55 : List zE := (55, .iastore, []) :: (56, .dload_n 2, []) :: (57, .dconst 0, [0]) :: (58, .dcmp .l, []) :: (59, .ifCond .ne 4, [63, 0]) :: (62, .return_, []) :: []
def p_X11_becomes_55 : List (List (Nat × Nat)) := [] :: [] :: [] :: [] :: [] :: [] :: []
def b_X11_becomes_54 : List zE := (54, .iconst 0, [0]) :: (55, .nop, [0]) :: []
def p_X11_becomes_54 : List (List (Nat × Nat)) := [] :: [] :: []
def b_X11_becomes_44 : List zE := (44, .dload_n 2, []) :: (45, .dconst 0, [0]) :: (46, .dcmp .g, []) :: (47, .ifCond .ge 7, [54, 0]) :: (50, .iconst (-1), [4294967295]) :: (51, .goto 4, [55, 0]) :: []
def p_X11_becomes_44 : List (List (Nat × Nat)) := [] :: [] :: [] :: [] :: [] :: [] :: []
def b_X11_becomes_29 : List zE := (29, .aload_n 0, []) :: (30, .getfield 103, [11, 33]) :: (33, .iload_n 1, []) :: (34, .dload_n 2, []) :: (35, .dconst 0, [0]) :: (36, .dcmp .l, []) :: (37, .ifCond .le 7, [44, 0]) :: (40, .iconst 1, [1]) :: (41, .goto 14, [55, 0]) :: []
def p_X11_becomes_29 : List (List (Nat × Nat)) := [] :: [(6, 24)] :: [] :: [] :: [] :: [] :: [] :: [] :: [] :: []
def b_X11_becomes_3 : List zE := (3, .iload 4, []) :: (5, .bipush 32, [32]) :: (7, .if_icmp .ge 22, [29, 0]) :: (10, .aload_n 0, []) :: (11, .getfield 100, [11, 32]) :: (14, .bipush 32, [32]) :: (16, .iload_n 1, []) :: (17, .imul, []) :: (18, .iload 4, []) :: (20, .iadd, []) :: (21, .lconst 0, [0]) :: (22, .lastore, []) :: (23, .iinc 4 1, [1]) :: (26, .goto (-23), [3, 1]) :: []
def p_X11_becomes_3 : List (List (Nat × Nat)) := [] :: [] :: [] :: [] :: [(6, 23)] :: [] :: [] :: [] :: [] :: [] :: [] :: [] :: [] :: [] :: []
def b_X11_becomes_0 : List zE := (0, .iconst 0, [0]) :: (1, .istore 4, []) :: (3, .nop, []) :: []
def p_X11_becomes_0 : List (List (Nat × Nat)) := [] :: [] :: [] :: []
def bl_X11_becomes : List (Nat × List zE) := [(0, b_X11_becomes_0), (3, b_X11_becomes_3), (29, b_X11_becomes_29), (44, b_X11_becomes_44), (54, b_X11_becomes_54), (55, b_X11_becomes_55), (63, b_X11_becomes_63), (78, b_X11_becomes_78), (97, b_X11_becomes_97), (188, b_X11_becomes_188), (238, b_X11_becomes_238)]
def pl_X11_becomes : List (List (List (Nat × Nat))) := [p_X11_becomes_0, p_X11_becomes_3, p_X11_becomes_29, p_X11_becomes_44, p_X11_becomes_54, p_X11_becomes_55, p_X11_becomes_63, p_X11_becomes_78, p_X11_becomes_97, p_X11_becomes_188, p_X11_becomes_238]
theorem k_X11_becomes_0 : zlk 0 bl_X11_becomes = b_X11_becomes_0 := rfl
theorem k_X11_becomes_3 : zlk 3 bl_X11_becomes = b_X11_becomes_3 := rfl
theorem k_X11_becomes_29 : zlk 29 bl_X11_becomes = b_X11_becomes_29 := rfl
theorem k_X11_becomes_44 : zlk 44 bl_X11_becomes = b_X11_becomes_44 := rfl
theorem k_X11_becomes_54 : zlk 54 bl_X11_becomes = b_X11_becomes_54 := rfl
theorem k_X11_becomes_55 : zlk 55 bl_X11_becomes = b_X11_becomes_55 := rfl
theorem k_X11_becomes_63 : zlk 63 bl_X11_becomes = b_X11_becomes_63 := rfl
theorem k_X11_becomes_78 : zlk 78 bl_X11_becomes = b_X11_becomes_78 := rfl
theorem k_X11_becomes_97 : zlk 97 bl_X11_becomes = b_X11_becomes_97 := rfl
theorem k_X11_becomes_188 : zlk 188 bl_X11_becomes = b_X11_becomes_188 := rfl
theorem k_X11_becomes_238 : zlk 238 bl_X11_becomes = b_X11_becomes_238 := rfl
set_option maxRecDepth 100000 in
theorem ck_X11_becomes : zall q_X11_becomes.2.2.2.2.1 q_X11_becomes.2.1 11 false q_X11_becomes.2.2.1 cal_X11_becomes q_X11_becomes.2.2.2.1 bl_X11_becomes pl_X11_becomes = true := by decide +kernel
theorem nm_X11_becomes : plainName q_X11_becomes.1.cls = true ∧ zRX 11 = q_X11_becomes.1.cls ∧ (false = true → q_X11_becomes.1.name = "<init>") := ⟨by decide +kernel, rfl, fun h => by first | rfl | cases h⟩
set_option maxRecDepth 100000 in
theorem wd_X11_loads : zwd q_X11_loads := ⟨zw_in (p := (8, 4)) (by decide +kernel), zw_in (p := (1, 11)) (by decide +kernel), fun h => absurd h (by decide), fun _ => zw_in (p := (8, 3)) (by decide +kernel), fun _ => zw_in (p := (0, 85)) (by decide +kernel)⟩
def cal_X11_loads : List zCal := [q_X11_cellAt, q_X11_at, q_X11_becomes]
def b_X11_loads_95 : List zE := (95, .return_, []) :: []
def p_X11_loads_95 : List (List (Nat × Nat)) := [] :: []
def b_X11_loads_89 : List zE := (89, .iinc 3 1, [1]) :: (92, .goto (-68), [24, 1]) :: []
def p_X11_loads_89 : List (List (Nat × Nat)) := [] :: [] :: []
def b_X11_loads_80 : List zE := (80, .invokevirtual 377, [2, 2, 11]) :: (83, .iinc 4 1, [1]) :: (86, .goto (-51), [35, 1]) :: []
def p_X11_loads_80 : List (List (Nat × Nat)) := [(8, 9)] :: [] :: [] :: []
def b_X11_loads_79 : List zE := (79, .dconst 0, [0]) :: (80, .nop, [0]) :: []
def p_X11_loads_79 : List (List (Nat × Nat)) := [] :: [] :: []
def b_X11_loads_35 : List zE := (35, .iload 4, []) :: (37, .aload_n 0, []) :: (38, .getfield 371, [11, 39]) :: (41, .if_icmp .ge 48, [89, 0]) :: (44, .aload_n 0, []) :: (45, .aload_n 0, []) :: (46, .iload_n 3, []) :: (47, .iload 4, []) :: (49, .invokevirtual 374, [0, 2, 11]) :: (52, .iload 4, []) :: (54, .aload_n 0, []) :: (55, .getfield 34, [11, 8]) :: (58, .iload_n 1, []) :: (59, .iaload, []) :: (60, .if_icmp .ge 19, [79, 0]) :: (63, .aload_n 0, []) :: (64, .getfield 19, [11, 4]) :: (67, .aload_n 0, []) :: (68, .iload_n 1, []) :: (69, .iload_n 3, []) :: (70, .iload 4, []) :: (72, .invokevirtual 261, [1, 3, 11]) :: (75, .daload, []) :: (76, .goto 4, [80, 0]) :: []
def p_X11_loads_35 : List (List (Nat × Nat)) := [] :: [] :: [(6, 30)] :: [] :: [] :: [] :: [] :: [] :: [(8, 5)] :: [] :: [] :: [(5, 239)] :: [] :: [] :: [] :: [] :: [(5, 235)] :: [] :: [] :: [] :: [] :: [(6, 215)] :: [] :: [] :: []
def b_X11_loads_24 : List zE := (24, .iload_n 3, []) :: (25, .aload_n 0, []) :: (26, .getfield 367, [11, 38]) :: (29, .if_icmp .ge 66, [95, 0]) :: (32, .iconst 0, [0]) :: (33, .istore 4, []) :: (35, .nop, []) :: []
def p_X11_loads_24 : List (List (Nat × Nat)) := [] :: [] :: [(6, 29)] :: [] :: [] :: [] :: [] :: []
def b_X11_loads_0 : List zE := (0, .aload_n 0, []) :: (1, .aload_n 0, []) :: (2, .getfield 31, [11, 7]) :: (5, .iload_n 1, []) :: (6, .iaload, []) :: (7, .putfield 367, [11, 38]) :: (10, .aload_n 0, []) :: (11, .aload_n 0, []) :: (12, .getfield 34, [11, 8]) :: (15, .iload_n 1, []) :: (16, .iaload, []) :: (17, .iload_n 2, []) :: (18, .iadd, []) :: (19, .putfield 371, [11, 39]) :: (22, .iconst 0, [0]) :: (23, .istore_n 3, []) :: (24, .nop, []) :: []
def p_X11_loads_0 : List (List (Nat × Nat)) := [] :: [] :: [(5, 238)] :: [] :: [] :: [(6, 29)] :: [] :: [] :: [(5, 239)] :: [] :: [] :: [] :: [] :: [(6, 30)] :: [] :: [] :: [] :: []
def bl_X11_loads : List (Nat × List zE) := [(0, b_X11_loads_0), (24, b_X11_loads_24), (35, b_X11_loads_35), (79, b_X11_loads_79), (80, b_X11_loads_80), (89, b_X11_loads_89), (95, b_X11_loads_95)]
def pl_X11_loads : List (List (List (Nat × Nat))) := [p_X11_loads_0, p_X11_loads_24, p_X11_loads_35, p_X11_loads_79, p_X11_loads_80, p_X11_loads_89, p_X11_loads_95]
theorem k_X11_loads_0 : zlk 0 bl_X11_loads = b_X11_loads_0 := rfl
theorem k_X11_loads_24 : zlk 24 bl_X11_loads = b_X11_loads_24 := rfl
theorem k_X11_loads_35 : zlk 35 bl_X11_loads = b_X11_loads_35 := rfl
theorem k_X11_loads_79 : zlk 79 bl_X11_loads = b_X11_loads_79 := rfl
theorem k_X11_loads_80 : zlk 80 bl_X11_loads = b_X11_loads_80 := rfl
theorem k_X11_loads_89 : zlk 89 bl_X11_loads = b_X11_loads_89 := rfl
theorem k_X11_loads_95 : zlk 95 bl_X11_loads = b_X11_loads_95 := rfl
set_option maxRecDepth 100000 in
theorem ck_X11_loads : zall q_X11_loads.2.2.2.2.1 q_X11_loads.2.1 11 false q_X11_loads.2.2.1 cal_X11_loads q_X11_loads.2.2.2.1 bl_X11_loads pl_X11_loads = true := by decide +kernel
theorem nm_X11_loads : plainName q_X11_loads.1.cls = true ∧ zRX 11 = q_X11_loads.1.cls ∧ (false = true → q_X11_loads.1.name = "<init>") := ⟨by decide +kernel, rfl, fun h => by first | rfl | cases h⟩
set_option maxRecDepth 100000 in
theorem wd_X11_times : zwd q_X11_times := ⟨zw_in (p := (8, 24)) (by decide +kernel), zw_in (p := (1, 11)) (by decide +kernel), fun h => absurd h (by decide), fun _ => zw_in (p := (8, 23)) (by decide +kernel), fun _ => zw_in (p := (0, 90)) (by decide +kernel)⟩
def cal_X11_times : List zCal := []
def b_X11_times_208 : List zE := (208, .aload_n 0, []) :: (209, .getfield 103, [11, 33]) :: (212, .iload_n 1, []) :: (213, .iaload, []) :: (214, .aload_n 0, []) :: (215, .getfield 103, [11, 33]) :: (218, .iload_n 2, []) :: (219, .iaload, []) :: (220, .imul, []) :: (221, .ireturn, []) :: []
def p_X11_times_208 : List (List (Nat × Nat)) := [] :: [(6, 24)] :: [] :: [] :: [] :: [(6, 24)] :: [] :: [] :: [] :: [] :: []
def b_X11_times_202 : List zE := (202, .iinc 4 1, [1]) :: (205, .goto (-161), [44, 1]) :: []
def p_X11_times_202 : List (List (Nat × Nat)) := [] :: [] :: []
def b_X11_times_190 : List zE := (190, .aload_n 3, []) :: (191, .iload 4, []) :: (193, .bipush 32, [32]) :: (195, .iadd, []) :: (196, .dup2, []) :: (197, .laload, []) :: (198, .lload 7, []) :: (200, .ladd, []) :: (201, .lastore, []) :: (202, .nop, [0]) :: []
def p_X11_times_190 : List (List (Nat × Nat)) := [] :: [] :: [] :: [] :: [] :: [] :: [] :: [] :: [] :: [] :: []
def b_X11_times_81 : List zE := (81, .iload 9, []) :: (83, .bipush 32, [32]) :: (85, .if_icmp .ge 105, [190, 0]) :: (88, .aload_n 0, []) :: (89, .getfield 100, [11, 32]) :: (92, .bipush 32, [32]) :: (94, .iload_n 2, []) :: (95, .imul, []) :: (96, .iload 9, []) :: (98, .iadd, []) :: (99, .laload, []) :: (100, .lstore 10, []) :: (102, .lload 5, []) :: (104, .ldc2_w 381, [65535]) :: (107, .land, []) :: (108, .lload 10, []) :: (110, .lmul, []) :: (111, .lload 7, []) :: (113, .ladd, []) :: (114, .lstore 12, []) :: (116, .lload 5, []) :: (118, .bipush 16, [16]) :: (120, .lushr, []) :: (121, .lload 10, []) :: (123, .lmul, []) :: (124, .lstore 14, []) :: (126, .aload_n 3, []) :: (127, .iload 4, []) :: (129, .iload 9, []) :: (131, .iadd, []) :: (132, .laload, []) :: (133, .lload 12, []) :: (135, .ldc2_w 187, [4294967295]) :: (138, .land, []) :: (139, .ladd, []) :: (140, .lload 14, []) :: (142, .ldc2_w 381, [65535]) :: (145, .land, []) :: (146, .bipush 16, [16]) :: (148, .lshl, []) :: (149, .ladd, []) :: (150, .lstore 16, []) :: (152, .aload_n 3, []) :: (153, .iload 4, []) :: (155, .iload 9, []) :: (157, .iadd, []) :: (158, .lload 16, []) :: (160, .ldc2_w 187, [4294967295]) :: (163, .land, []) :: (164, .lastore, []) :: (165, .lload 16, []) :: (167, .bipush 32, [32]) :: (169, .lushr, []) :: (170, .lload 12, []) :: (172, .bipush 32, [32]) :: (174, .lushr, []) :: (175, .ladd, []) :: (176, .lload 14, []) :: (178, .bipush 16, [16]) :: (180, .lushr, []) :: (181, .ladd, []) :: (182, .lstore 7, []) :: (184, .iinc 9 1, [1]) :: (187, .goto (-106), [81, 1]) :: []
def p_X11_times_81 : List (List (Nat × Nat)) := [] :: [] :: [] :: [] :: [(6, 23)] :: [] :: [] :: [] :: [] :: [] :: [] :: [] :: [] :: [(8, 25)] :: [] :: [] :: [] :: [] :: [] :: [] :: [] :: [] :: [] :: [] :: [] :: [] :: [] :: [] :: [] :: [] :: [] :: [] :: [(7, 60)] :: [] :: [] :: [] :: [(8, 25)] :: [] :: [] :: [] :: [] :: [] :: [] :: [] :: [] :: [] :: [] :: [(7, 60)] :: [] :: [] :: [] :: [] :: [] :: [] :: [] :: [] :: [] :: [] :: [] :: [] :: [] :: [] :: [] :: [] :: []
def b_X11_times_75 : List zE := (75, .lconst 0, [0]) :: (76, .lstore 7, []) :: (78, .iconst 0, [0]) :: (79, .istore 9, []) :: (81, .nop, []) :: []
def p_X11_times_75 : List (List (Nat × Nat)) := [] :: [] :: [] :: [] :: [] :: []
def b_X11_times_44 : List zE := (44, .iload 4, []) :: (46, .bipush 32, [32]) :: (48, .if_icmp .ge 160, [208, 0]) :: (51, .aload_n 0, []) :: (52, .getfield 100, [11, 32]) :: (55, .bipush 32, [32]) :: (57, .iload_n 1, []) :: (58, .imul, []) :: (59, .iload 4, []) :: (61, .iadd, []) :: (62, .laload, []) :: (63, .lstore 5, []) :: (65, .lload 5, []) :: (67, .lconst 0, [0]) :: (68, .lcmp, []) :: (69, .ifCond .ne 6, [75, 0]) :: (72, .goto 130, [202, 0]) :: []
def p_X11_times_44 : List (List (Nat × Nat)) := [] :: [] :: [] :: [] :: [(6, 23)] :: [] :: [] :: [] :: [] :: [] :: [] :: [] :: [] :: [] :: [] :: [] :: [] :: []
def b_X11_times_41 : List zE := (41, .iconst 0, [0]) :: (42, .istore 4, []) :: (44, .nop, []) :: []
def p_X11_times_41 : List (List (Nat × Nat)) := [] :: [] :: [] :: []
def b_X11_times_39 : List zE := (39, .iconst 0, [0]) :: (40, .ireturn, []) :: []
def p_X11_times_39 : List (List (Nat × Nat)) := [] :: [] :: []
def b_X11_times_21 : List zE := (21, .aload_n 0, []) :: (22, .getfield 103, [11, 33]) :: (25, .iload_n 1, []) :: (26, .iaload, []) :: (27, .ifCond .eq 12, [39, 0]) :: (30, .aload_n 0, []) :: (31, .getfield 103, [11, 33]) :: (34, .iload_n 2, []) :: (35, .iaload, []) :: (36, .ifCond .ne 5, [41, 0]) :: (39, .nop, [0]) :: []
def p_X11_times_21 : List (List (Nat × Nat)) := [] :: [(6, 24)] :: [] :: [] :: [] :: [] :: [(6, 24)] :: [] :: [] :: [] :: [] :: []
def b_X11_times_3 : List zE := (3, .iload 4, []) :: (5, .bipush 72, [72]) :: (7, .if_icmp .ge 14, [21, 0]) :: (10, .aload_n 3, []) :: (11, .iload 4, []) :: (13, .lconst 0, [0]) :: (14, .lastore, []) :: (15, .iinc 4 1, [1]) :: (18, .goto (-15), [3, 1]) :: []
def p_X11_times_3 : List (List (Nat × Nat)) := [] :: [] :: [] :: [] :: [] :: [] :: [] :: [] :: [] :: []
def b_X11_times_0 : List zE := (0, .iconst 0, [0]) :: (1, .istore 4, []) :: (3, .nop, []) :: []
def p_X11_times_0 : List (List (Nat × Nat)) := [] :: [] :: [] :: []
def bl_X11_times : List (Nat × List zE) := [(0, b_X11_times_0), (3, b_X11_times_3), (21, b_X11_times_21), (39, b_X11_times_39), (41, b_X11_times_41), (44, b_X11_times_44), (75, b_X11_times_75), (81, b_X11_times_81), (190, b_X11_times_190), (202, b_X11_times_202), (208, b_X11_times_208)]
def pl_X11_times : List (List (List (Nat × Nat))) := [p_X11_times_0, p_X11_times_3, p_X11_times_21, p_X11_times_39, p_X11_times_41, p_X11_times_44, p_X11_times_75, p_X11_times_81, p_X11_times_190, p_X11_times_202, p_X11_times_208]
theorem k_X11_times_0 : zlk 0 bl_X11_times = b_X11_times_0 := rfl
theorem k_X11_times_3 : zlk 3 bl_X11_times = b_X11_times_3 := rfl
theorem k_X11_times_21 : zlk 21 bl_X11_times = b_X11_times_21 := rfl
theorem k_X11_times_39 : zlk 39 bl_X11_times = b_X11_times_39 := rfl
theorem k_X11_times_41 : zlk 41 bl_X11_times = b_X11_times_41 := rfl
theorem k_X11_times_44 : zlk 44 bl_X11_times = b_X11_times_44 := rfl
theorem k_X11_times_75 : zlk 75 bl_X11_times = b_X11_times_75 := rfl
theorem k_X11_times_81 : zlk 81 bl_X11_times = b_X11_times_81 := rfl
theorem k_X11_times_190 : zlk 190 bl_X11_times = b_X11_times_190 := rfl
theorem k_X11_times_202 : zlk 202 bl_X11_times = b_X11_times_202 := rfl
theorem k_X11_times_208 : zlk 208 bl_X11_times = b_X11_times_208 := rfl
set_option maxRecDepth 100000 in
theorem ck_X11_times : zall q_X11_times.2.2.2.2.1 q_X11_times.2.1 11 false q_X11_times.2.2.1 cal_X11_times q_X11_times.2.2.2.1 bl_X11_times pl_X11_times = true := by decide +kernel
theorem nm_X11_times : plainName q_X11_times.1.cls = true ∧ zRX 11 = q_X11_times.1.cls ∧ (false = true → q_X11_times.1.name = "<init>") := ⟨by decide +kernel, rfl, fun h => by first | rfl | cases h⟩
set_option maxRecDepth 100000 in
theorem wd_X11_order72 : zwd q_X11_order72 := ⟨zw_in (p := (8, 32)) (by decide +kernel), zw_in (p := (1, 11)) (by decide +kernel), fun _ => zw_in (p := (8, 31)) (by decide +kernel), fun h => absurd rfl h, fun h => absurd h (by decide)⟩
def cal_X11_order72 : List zCal := []
def b_X11_order72_46 : List zE := (46, .ireturn, []) :: []
def p_X11_order72_46 : List (List (Nat × Nat)) := [] :: []
def b_X11_order72_45 : List zE := (45, .iconst (-1), [4294967295]) :: (46, .nop, [0]) :: []
def p_X11_order72_45 : List (List (Nat × Nat)) := [] :: [] :: []
def b_X11_order72_31 : List zE := (31, .aload_n 0, []) :: (32, .iload_n 2, []) :: (33, .laload, []) :: (34, .aload_n 1, []) :: (35, .iload_n 2, []) :: (36, .laload, []) :: (37, .lcmp, []) :: (38, .ifCond .le 7, [45, 0]) :: (41, .iconst 1, [1]) :: (42, .goto 4, [46, 0]) :: []
def p_X11_order72_31 : List (List (Nat × Nat)) := [] :: [] :: [] :: [] :: [] :: [] :: [] :: [] :: [] :: [] :: []
def b_X11_order72_23 : List zE := (23, .iload_n 2, []) :: (24, .ifCond .ge 7, [31, 0]) :: (27, .iconst 0, [0]) :: (28, .goto 18, [46, 0]) :: []
def p_X11_order72_23 : List (List (Nat × Nat)) := [] :: [] :: [] :: [] :: []
def b_X11_order72_3 : List zE := (3, .iload_n 2, []) :: (4, .ifCond .lt 19, [23, 0]) :: (7, .aload_n 0, []) :: (8, .iload_n 2, []) :: (9, .laload, []) :: (10, .aload_n 1, []) :: (11, .iload_n 2, []) :: (12, .laload, []) :: (13, .lcmp, []) :: (14, .ifCond .ne 9, [23, 0]) :: (17, .iinc 2 (-1), [4294967295]) :: (20, .goto (-17), [3, 1]) :: []
def p_X11_order72_3 : List (List (Nat × Nat)) := [] :: [] :: [] :: [] :: [] :: [] :: [] :: [] :: [] :: [] :: [] :: [] :: []
def b_X11_order72_0 : List zE := (0, .bipush 71, [71]) :: (2, .istore_n 2, []) :: (3, .nop, []) :: []
def p_X11_order72_0 : List (List (Nat × Nat)) := [] :: [] :: [] :: []
def bl_X11_order72 : List (Nat × List zE) := [(0, b_X11_order72_0), (3, b_X11_order72_3), (23, b_X11_order72_23), (31, b_X11_order72_31), (45, b_X11_order72_45), (46, b_X11_order72_46)]
def pl_X11_order72 : List (List (List (Nat × Nat))) := [p_X11_order72_0, p_X11_order72_3, p_X11_order72_23, p_X11_order72_31, p_X11_order72_45, p_X11_order72_46]
theorem k_X11_order72_0 : zlk 0 bl_X11_order72 = b_X11_order72_0 := rfl
theorem k_X11_order72_3 : zlk 3 bl_X11_order72 = b_X11_order72_3 := rfl
theorem k_X11_order72_23 : zlk 23 bl_X11_order72 = b_X11_order72_23 := rfl
theorem k_X11_order72_31 : zlk 31 bl_X11_order72 = b_X11_order72_31 := rfl
theorem k_X11_order72_45 : zlk 45 bl_X11_order72 = b_X11_order72_45 := rfl
theorem k_X11_order72_46 : zlk 46 bl_X11_order72 = b_X11_order72_46 := rfl
set_option maxRecDepth 100000 in
theorem ck_X11_order72 : zall q_X11_order72.2.2.2.2.1 q_X11_order72.2.1 11 false q_X11_order72.2.2.1 cal_X11_order72 q_X11_order72.2.2.2.1 bl_X11_order72 pl_X11_order72 = true := by decide +kernel
theorem nm_X11_order72 : plainName q_X11_order72.1.cls = true ∧ zRX 11 = q_X11_order72.1.cls ∧ (false = true → q_X11_order72.1.name = "<init>") := ⟨by decide +kernel, rfl, fun h => by first | rfl | cases h⟩
set_option maxRecDepth 100000 in
theorem wd_X11_lessOther : zwd q_X11_lessOther := ⟨zw_in (p := (8, 29)) (by decide +kernel), zw_in (p := (1, 11)) (by decide +kernel), fun h => absurd h (by decide), fun _ => zw_in (p := (8, 28)) (by decide +kernel), fun _ => zw_in (p := (0, 91)) (by decide +kernel)⟩
def cal_X11_lessOther : List zCal := [q_X11_order72]
def b_X11_lessOther_219 : List zE := (219, .ireturn, []) :: []
def p_X11_lessOther_219 : List (List (Nat × Nat)) := [] :: []
def b_X11_lessOther_218 : List zE := (218, .iconst 0, [0]) :: (219, .nop, [0]) :: []
def p_X11_lessOther_218 : List (List (Nat × Nat)) := [] :: [] :: []
def b_X11_lessOther_208 : List zE := (208, .iload 5, []) :: (210, .ifCond .ge 8, [218, 0]) :: (213, .iload_n 1, []) :: (214, .ineg, []) :: (215, .goto 4, [219, 0]) :: []
def p_X11_lessOther_208 : List (List (Nat × Nat)) := [] :: [] :: [] :: [] :: [] :: []
def b_X11_lessOther_199 : List zE := (199, .iload 5, []) :: (201, .ifCond .le 7, [208, 0]) :: (204, .iload_n 1, []) :: (205, .goto 14, [219, 0]) :: []
def p_X11_lessOther_199 : List (List (Nat × Nat)) := [] :: [] :: [] :: [] :: []
def b_X11_lessOther_179 : List zE := (179, .lstore_n 3, []) :: (180, .aload_n 0, []) :: (181, .getfield 106, [11, 34]) :: (184, .iload 6, []) :: (186, .lload 7, []) :: (188, .ldc2_w 187, [4294967295]) :: (191, .land, []) :: (192, .lastore, []) :: (193, .iinc 6 1, [1]) :: (196, .goto (-78), [118, 1]) :: []
def p_X11_lessOther_179 : List (List (Nat × Nat)) := [] :: [] :: [(6, 25)] :: [] :: [] :: [(7, 60)] :: [] :: [] :: [] :: [] :: []
def b_X11_lessOther_178 : List zE := (178, .lconst 0, [0]) :: (179, .nop, [0]) :: []
def p_X11_lessOther_178 : List (List (Nat × Nat)) := [] :: [] :: []
def b_X11_lessOther_163 : List zE := (163, .lload_n 3, []) :: (164, .lsub, []) :: (165, .lstore 7, []) :: (167, .lload 7, []) :: (169, .lconst 0, [0]) :: (170, .lcmp, []) :: (171, .ifCond .ge 7, [178, 0]) :: (174, .lconst 1, [1]) :: (175, .goto 4, [179, 0]) :: []
def p_X11_lessOther_163 : List (List (Nat × Nat)) := [] :: [] :: [] :: [] :: [] :: [] :: [] :: [] :: [] :: []
def b_X11_lessOther_148 : List zE := (148, .aload_n 0, []) :: (149, .getfield 109, [11, 35]) :: (152, .iload 6, []) :: (154, .laload, []) :: (155, .aload_n 0, []) :: (156, .getfield 106, [11, 34]) :: (159, .iload 6, []) :: (161, .laload, []) :: (162, .lsub, []) :: (163, .nop, [0]) :: []
def p_X11_lessOther_148 : List (List (Nat × Nat)) := [] :: [(6, 26)] :: [] :: [] :: [] :: [(6, 25)] :: [] :: [] :: [] :: [] :: []
def b_X11_lessOther_118 : List zE := (118, .iload 6, []) :: (120, .bipush 72, [72]) :: (122, .if_icmp .ge 77, [199, 0]) :: (125, .iload 5, []) :: (127, .ifCond .le 21, [148, 0]) :: (130, .aload_n 0, []) :: (131, .getfield 106, [11, 34]) :: (134, .iload 6, []) :: (136, .laload, []) :: (137, .aload_n 0, []) :: (138, .getfield 109, [11, 35]) :: (141, .iload 6, []) :: (143, .laload, []) :: (144, .lsub, []) :: (145, .goto 18, [163, 0]) :: []
def p_X11_lessOther_118 : List (List (Nat × Nat)) := [] :: [] :: [] :: [] :: [] :: [] :: [(6, 25)] :: [] :: [] :: [] :: [(6, 26)] :: [] :: [] :: [] :: [] :: []
def b_X11_lessOther_102 : List zE := (102, .aload_n 0, []) :: (103, .getfield 106, [11, 34]) :: (106, .aload_n 0, []) :: (107, .getfield 109, [11, 35]) :: (110, .invokestatic 383, [0, 2]) :: (113, .istore 5, []) :: (115, .iconst 0, [0]) :: (116, .istore 6, []) :: (118, .nop, []) :: []
def p_X11_lessOther_102 : List (List (Nat × Nat)) := [] :: [(6, 25)] :: [] :: [(6, 26)] :: [(8, 30)] :: [] :: [] :: [] :: [] :: []
def b_X11_lessOther_100 : List zE := (100, .iload_n 1, []) :: (101, .ireturn, []) :: []
def p_X11_lessOther_100 : List (List (Nat × Nat)) := [] :: [] :: []
def b_X11_lessOther_49 : List zE := (49, .iload 5, []) :: (51, .bipush 72, [72]) :: (53, .if_icmp .ge 47, [100, 0]) :: (56, .aload_n 0, []) :: (57, .getfield 106, [11, 34]) :: (60, .iload 5, []) :: (62, .laload, []) :: (63, .aload_n 0, []) :: (64, .getfield 109, [11, 35]) :: (67, .iload 5, []) :: (69, .laload, []) :: (70, .ladd, []) :: (71, .lload_n 3, []) :: (72, .ladd, []) :: (73, .lstore 6, []) :: (75, .aload_n 0, []) :: (76, .getfield 106, [11, 34]) :: (79, .iload 5, []) :: (81, .lload 6, []) :: (83, .ldc2_w 187, [4294967295]) :: (86, .land, []) :: (87, .lastore, []) :: (88, .lload 6, []) :: (90, .bipush 32, [32]) :: (92, .lushr, []) :: (93, .lstore_n 3, []) :: (94, .iinc 5 1, [1]) :: (97, .goto (-48), [49, 1]) :: []
def p_X11_lessOther_49 : List (List (Nat × Nat)) := [] :: [] :: [] :: [] :: [(6, 25)] :: [] :: [] :: [] :: [(6, 26)] :: [] :: [] :: [] :: [] :: [] :: [] :: [] :: [(6, 25)] :: [] :: [] :: [(7, 60)] :: [] :: [] :: [] :: [] :: [] :: [] :: [] :: [] :: []
def b_X11_lessOther_39 : List zE := (39, .lconst 0, [0]) :: (40, .lstore_n 3, []) :: (41, .iload_n 1, []) :: (42, .iload_n 2, []) :: (43, .if_icmp .eq 59, [102, 0]) :: (46, .iconst 0, [0]) :: (47, .istore 5, []) :: (49, .nop, []) :: []
def p_X11_lessOther_39 : List (List (Nat × Nat)) := [] :: [] :: [] :: [] :: [] :: [] :: [] :: [] :: []
def b_X11_lessOther_36 : List zE := (36, .iload_n 2, []) :: (37, .ineg, []) :: (38, .ireturn, []) :: []
def p_X11_lessOther_36 : List (List (Nat × Nat)) := [] :: [] :: [] :: []
def b_X11_lessOther_12 : List zE := (12, .iload_n 3, []) :: (13, .bipush 72, [72]) :: (15, .if_icmp .ge 21, [36, 0]) :: (18, .aload_n 0, []) :: (19, .getfield 106, [11, 34]) :: (22, .iload_n 3, []) :: (23, .aload_n 0, []) :: (24, .getfield 109, [11, 35]) :: (27, .iload_n 3, []) :: (28, .laload, []) :: (29, .lastore, []) :: (30, .iinc 3 1, [1]) :: (33, .goto (-21), [12, 1]) :: []
def p_X11_lessOther_12 : List (List (Nat × Nat)) := [] :: [] :: [] :: [] :: [(6, 25)] :: [] :: [] :: [(6, 26)] :: [] :: [] :: [] :: [] :: [] :: []
def b_X11_lessOther_6 : List zE := (6, .iload_n 1, []) :: (7, .ifCond .ne 32, [39, 0]) :: (10, .iconst 0, [0]) :: (11, .istore_n 3, []) :: (12, .nop, []) :: []
def p_X11_lessOther_6 : List (List (Nat × Nat)) := [] :: [] :: [] :: [] :: [] :: []
def b_X11_lessOther_0 : List zE := (0, .iload_n 2, []) :: (1, .ifCond .ne 5, [6, 0]) :: (4, .iload_n 1, []) :: (5, .ireturn, []) :: []
def p_X11_lessOther_0 : List (List (Nat × Nat)) := [] :: [] :: [] :: [] :: []
def bl_X11_lessOther : List (Nat × List zE) := [(0, b_X11_lessOther_0), (6, b_X11_lessOther_6), (12, b_X11_lessOther_12), (36, b_X11_lessOther_36), (39, b_X11_lessOther_39), (49, b_X11_lessOther_49), (100, b_X11_lessOther_100), (102, b_X11_lessOther_102), (118, b_X11_lessOther_118), (148, b_X11_lessOther_148), (163, b_X11_lessOther_163), (178, b_X11_lessOther_178), (179, b_X11_lessOther_179), (199, b_X11_lessOther_199), (208, b_X11_lessOther_208), (218, b_X11_lessOther_218), (219, b_X11_lessOther_219)]
def pl_X11_lessOther : List (List (List (Nat × Nat))) := [p_X11_lessOther_0, p_X11_lessOther_6, p_X11_lessOther_12, p_X11_lessOther_36, p_X11_lessOther_39, p_X11_lessOther_49, p_X11_lessOther_100, p_X11_lessOther_102, p_X11_lessOther_118, p_X11_lessOther_148, p_X11_lessOther_163, p_X11_lessOther_178, p_X11_lessOther_179, p_X11_lessOther_199, p_X11_lessOther_208, p_X11_lessOther_218, p_X11_lessOther_219]
theorem k_X11_lessOther_0 : zlk 0 bl_X11_lessOther = b_X11_lessOther_0 := rfl
theorem k_X11_lessOther_6 : zlk 6 bl_X11_lessOther = b_X11_lessOther_6 := rfl
theorem k_X11_lessOther_12 : zlk 12 bl_X11_lessOther = b_X11_lessOther_12 := rfl
theorem k_X11_lessOther_36 : zlk 36 bl_X11_lessOther = b_X11_lessOther_36 := rfl
theorem k_X11_lessOther_39 : zlk 39 bl_X11_lessOther = b_X11_lessOther_39 := rfl
theorem k_X11_lessOther_49 : zlk 49 bl_X11_lessOther = b_X11_lessOther_49 := rfl
theorem k_X11_lessOther_100 : zlk 100 bl_X11_lessOther = b_X11_lessOther_100 := rfl
theorem k_X11_lessOther_102 : zlk 102 bl_X11_lessOther = b_X11_lessOther_102 := rfl
theorem k_X11_lessOther_118 : zlk 118 bl_X11_lessOther = b_X11_lessOther_118 := rfl
theorem k_X11_lessOther_148 : zlk 148 bl_X11_lessOther = b_X11_lessOther_148 := rfl
theorem k_X11_lessOther_163 : zlk 163 bl_X11_lessOther = b_X11_lessOther_163 := rfl
theorem k_X11_lessOther_178 : zlk 178 bl_X11_lessOther = b_X11_lessOther_178 := rfl
theorem k_X11_lessOther_179 : zlk 179 bl_X11_lessOther = b_X11_lessOther_179 := rfl
theorem k_X11_lessOther_199 : zlk 199 bl_X11_lessOther = b_X11_lessOther_199 := rfl
theorem k_X11_lessOther_208 : zlk 208 bl_X11_lessOther = b_X11_lessOther_208 := rfl
theorem k_X11_lessOther_218 : zlk 218 bl_X11_lessOther = b_X11_lessOther_218 := rfl
theorem k_X11_lessOther_219 : zlk 219 bl_X11_lessOther = b_X11_lessOther_219 := rfl
set_option maxRecDepth 100000 in
theorem ck_X11_lessOther : zall q_X11_lessOther.2.2.2.2.1 q_X11_lessOther.2.1 11 false q_X11_lessOther.2.2.1 cal_X11_lessOther q_X11_lessOther.2.2.2.1 bl_X11_lessOther pl_X11_lessOther = true := by decide +kernel
theorem nm_X11_lessOther : plainName q_X11_lessOther.1.cls = true ∧ zRX 11 = q_X11_lessOther.1.cls ∧ (false = true → q_X11_lessOther.1.name = "<init>") := ⟨by decide +kernel, rfl, fun h => by first | rfl | cases h⟩
set_option maxRecDepth 100000 in
theorem wd_X11_shifted : zwd q_X11_shifted := ⟨zw_in (p := (8, 39)) (by decide +kernel), zw_in (p := (1, 11)) (by decide +kernel), fun _ => zw_in (p := (8, 38)) (by decide +kernel), fun h => absurd rfl h, fun h => absurd h (by decide)⟩
def cal_X11_shifted : List zCal := []
def b_X11_shifted_96 : List zE := (96, .return_, []) :: []
def p_X11_shifted_96 : List (List (Nat × Nat)) := [] :: []
def b_X11_shifted_79 : List zE := (79, .lstore 7, []) :: (81, .aload_n 0, []) :: (82, .iload 4, []) :: (84, .lload 5, []) :: (86, .lload 7, []) :: (88, .lor, []) :: (89, .lastore, []) :: (90, .iinc 4 1, [1]) :: (93, .goto (-80), [13, 1]) :: []
def p_X11_shifted_79 : List (List (Nat × Nat)) := [] :: [] :: [] :: [] :: [] :: [] :: [] :: [] :: [] :: []
def b_X11_shifted_78 : List zE := (78, .lconst 0, [0]) :: (79, .nop, [0]) :: []
def p_X11_shifted_78 : List (List (Nat × Nat)) := [] :: [] :: []
def b_X11_shifted_41 : List zE := (41, .lstore 5, []) :: (43, .iload_n 3, []) :: (44, .ifCond .le 34, [78, 0]) :: (47, .iload 4, []) :: (49, .iload_n 2, []) :: (50, .iadd, []) :: (51, .iconst 1, [1]) :: (52, .iadd, []) :: (53, .bipush 72, [72]) :: (55, .if_icmp .ge 23, [78, 0]) :: (58, .aload_n 0, []) :: (59, .iload 4, []) :: (61, .iload_n 2, []) :: (62, .iadd, []) :: (63, .iconst 1, [1]) :: (64, .iadd, []) :: (65, .laload, []) :: (66, .bipush 32, [32]) :: (68, .iload_n 3, []) :: (69, .isub, []) :: (70, .lshl, []) :: (71, .ldc2_w 187, [4294967295]) :: (74, .land, []) :: (75, .goto 4, [79, 0]) :: []
def p_X11_shifted_41 : List (List (Nat × Nat)) := [] :: [] :: [] :: [] :: [] :: [] :: [] :: [] :: [] :: [] :: [] :: [] :: [] :: [] :: [] :: [] :: [] :: [] :: [] :: [] :: [] :: [(7, 60)] :: [] :: [] :: []
def b_X11_shifted_40 : List zE := (40, .lconst 0, [0]) :: (41, .nop, [0]) :: []
def p_X11_shifted_40 : List (List (Nat × Nat)) := [] :: [] :: []
def b_X11_shifted_13 : List zE := (13, .iload 4, []) :: (15, .bipush 72, [72]) :: (17, .if_icmp .ge 79, [96, 0]) :: (20, .iload 4, []) :: (22, .iload_n 2, []) :: (23, .iadd, []) :: (24, .bipush 72, [72]) :: (26, .if_icmp .ge 14, [40, 0]) :: (29, .aload_n 0, []) :: (30, .iload 4, []) :: (32, .iload_n 2, []) :: (33, .iadd, []) :: (34, .laload, []) :: (35, .iload_n 3, []) :: (36, .lushr, []) :: (37, .goto 4, [41, 0]) :: []
def p_X11_shifted_13 : List (List (Nat × Nat)) := [] :: [] :: [] :: [] :: [] :: [] :: [] :: [] :: [] :: [] :: [] :: [] :: [] :: [] :: [] :: [] :: []
def b_X11_shifted_0 : List zE := (0, .iload_n 1, []) :: (1, .bipush 32, [32]) :: (3, .idiv, []) :: (4, .istore_n 2, []) :: (5, .iload_n 1, []) :: (6, .bipush 32, [32]) :: (8, .irem, []) :: (9, .istore_n 3, []) :: (10, .iconst 0, [0]) :: (11, .istore 4, []) :: (13, .nop, []) :: []
def p_X11_shifted_0 : List (List (Nat × Nat)) := [] :: [] :: [] :: [] :: [] :: [] :: [] :: [] :: [] :: [] :: [] :: []
def bl_X11_shifted : List (Nat × List zE) := [(0, b_X11_shifted_0), (13, b_X11_shifted_13), (40, b_X11_shifted_40), (41, b_X11_shifted_41), (78, b_X11_shifted_78), (79, b_X11_shifted_79), (96, b_X11_shifted_96)]
def pl_X11_shifted : List (List (List (Nat × Nat))) := [p_X11_shifted_0, p_X11_shifted_13, p_X11_shifted_40, p_X11_shifted_41, p_X11_shifted_78, p_X11_shifted_79, p_X11_shifted_96]
theorem k_X11_shifted_0 : zlk 0 bl_X11_shifted = b_X11_shifted_0 := rfl
theorem k_X11_shifted_13 : zlk 13 bl_X11_shifted = b_X11_shifted_13 := rfl
theorem k_X11_shifted_40 : zlk 40 bl_X11_shifted = b_X11_shifted_40 := rfl
theorem k_X11_shifted_41 : zlk 41 bl_X11_shifted = b_X11_shifted_41 := rfl
theorem k_X11_shifted_78 : zlk 78 bl_X11_shifted = b_X11_shifted_78 := rfl
theorem k_X11_shifted_79 : zlk 79 bl_X11_shifted = b_X11_shifted_79 := rfl
theorem k_X11_shifted_96 : zlk 96 bl_X11_shifted = b_X11_shifted_96 := rfl
set_option maxRecDepth 100000 in
theorem ck_X11_shifted : zall q_X11_shifted.2.2.2.2.1 q_X11_shifted.2.1 11 false q_X11_shifted.2.2.1 cal_X11_shifted q_X11_shifted.2.2.2.1 bl_X11_shifted pl_X11_shifted = true := by decide +kernel
theorem nm_X11_shifted : plainName q_X11_shifted.1.cls = true ∧ zRX 11 = q_X11_shifted.1.cls ∧ (false = true → q_X11_shifted.1.name = "<init>") := ⟨by decide +kernel, rfl, fun h => by first | rfl | cases h⟩
set_option maxRecDepth 100000 in
theorem wd_X11_divided : zwd q_X11_divided := ⟨zw_in (p := (8, 36)) (by decide +kernel), zw_in (p := (1, 11)) (by decide +kernel), fun h => absurd h (by decide), fun _ => zw_in (p := (8, 35)) (by decide +kernel), fun _ => zw_in (p := (0, 92)) (by decide +kernel)⟩
def cal_X11_divided : List zCal := [q_X11_shifted]
def b_X11_divided_366 : List zE := (366, .return_, []) :: []
def p_X11_divided_366 : List (List (Nat × Nat)) := [] :: []
def b_X11_divided_360 : List zE := (360, .iinc 6 1, [1]) :: (363, .goto (-191), [172, 1]) :: []
def p_X11_divided_360 : List (List (Nat × Nat)) := [] :: [] :: []
def b_X11_divided_338 : List zE := (338, .aload_n 0, []) :: (339, .getfield 106, [11, 34]) :: (342, .iload 6, []) :: (344, .iload 11, []) :: (346, .iadd, []) :: (347, .lload 18, []) :: (349, .ldc2_w 187, [4294967295]) :: (352, .land, []) :: (353, .lastore, []) :: (354, .iinc 11 1, [1]) :: (357, .goto (-132), [225, 1]) :: []
def p_X11_divided_338 : List (List (Nat × Nat)) := [] :: [(6, 25)] :: [] :: [] :: [] :: [] :: [(7, 60)] :: [] :: [] :: [] :: [] :: []
def b_X11_divided_225 : List zE := (225, .iload 6, []) :: (227, .iload 11, []) :: (229, .iadd, []) :: (230, .bipush 72, [72]) :: (232, .if_icmp .ge 128, [360, 0]) :: (235, .lload 7, []) :: (237, .ldc2_w 381, [65535]) :: (240, .land, []) :: (241, .aload_n 0, []) :: (242, .getfield 109, [11, 35]) :: (245, .iload 11, []) :: (247, .laload, []) :: (248, .lmul, []) :: (249, .lload 9, []) :: (251, .ladd, []) :: (252, .lstore 12, []) :: (254, .lload 7, []) :: (256, .bipush 16, [16]) :: (258, .lushr, []) :: (259, .aload_n 0, []) :: (260, .getfield 109, [11, 35]) :: (263, .iload 11, []) :: (265, .laload, []) :: (266, .lmul, []) :: (267, .lstore 14, []) :: (269, .lload 12, []) :: (271, .ldc2_w 187, [4294967295]) :: (274, .land, []) :: (275, .lload 14, []) :: (277, .ldc2_w 381, [65535]) :: (280, .land, []) :: (281, .bipush 16, [16]) :: (283, .lshl, []) :: (284, .ladd, []) :: (285, .lstore 16, []) :: (287, .lload 16, []) :: (289, .bipush 32, [32]) :: (291, .lushr, []) :: (292, .lload 12, []) :: (294, .bipush 32, [32]) :: (296, .lushr, []) :: (297, .ladd, []) :: (298, .lload 14, []) :: (300, .bipush 16, [16]) :: (302, .lushr, []) :: (303, .ladd, []) :: (304, .lstore 9, []) :: (306, .aload_n 0, []) :: (307, .getfield 106, [11, 34]) :: (310, .iload 6, []) :: (312, .iload 11, []) :: (314, .iadd, []) :: (315, .laload, []) :: (316, .lload 16, []) :: (318, .ldc2_w 187, [4294967295]) :: (321, .land, []) :: (322, .lsub, []) :: (323, .lstore 18, []) :: (325, .lload 18, []) :: (327, .lconst 0, [0]) :: (328, .lcmp, []) :: (329, .ifCond .ge 9, [338, 0]) :: (332, .lload 9, []) :: (334, .lconst 1, [1]) :: (335, .ladd, []) :: (336, .lstore 9, []) :: (338, .nop, [0]) :: []
def p_X11_divided_225 : List (List (Nat × Nat)) := [] :: [] :: [] :: [] :: [] :: [] :: [(8, 25)] :: [] :: [] :: [(6, 26)] :: [] :: [] :: [] :: [] :: [] :: [] :: [] :: [] :: [] :: [] :: [(6, 26)] :: [] :: [] :: [] :: [] :: [] :: [(7, 60)] :: [] :: [] :: [(8, 25)] :: [] :: [] :: [] :: [] :: [] :: [] :: [] :: [] :: [] :: [] :: [] :: [] :: [] :: [] :: [] :: [] :: [] :: [] :: [(6, 25)] :: [] :: [] :: [] :: [] :: [] :: [(7, 60)] :: [] :: [] :: [] :: [] :: [] :: [] :: [] :: [] :: [] :: [] :: [] :: [] :: []
def b_X11_divided_219 : List zE := (219, .lconst 0, [0]) :: (220, .lstore 9, []) :: (222, .iconst 0, [0]) :: (223, .istore 11, []) :: (225, .nop, []) :: []
def p_X11_divided_219 : List (List (Nat × Nat)) := [] :: [] :: [] :: [] :: [] :: []
def b_X11_divided_172 : List zE := (172, .iload 6, []) :: (174, .bipush 32, [32]) :: (176, .if_icmp .ge 190, [366, 0]) :: (179, .aload_n 0, []) :: (180, .getfield 106, [11, 34]) :: (183, .iload 6, []) :: (185, .laload, []) :: (186, .lload 4, []) :: (188, .lmul, []) :: (189, .ldc2_w 187, [4294967295]) :: (192, .land, []) :: (193, .lstore 7, []) :: (195, .aload_n 0, []) :: (196, .getfield 100, [11, 32]) :: (199, .bipush 32, [32]) :: (201, .iload_n 2, []) :: (202, .imul, []) :: (203, .iload 6, []) :: (205, .iadd, []) :: (206, .lload 7, []) :: (208, .lastore, []) :: (209, .lload 7, []) :: (211, .lconst 0, [0]) :: (212, .lcmp, []) :: (213, .ifCond .ne 6, [219, 0]) :: (216, .goto 144, [360, 0]) :: []
def p_X11_divided_172 : List (List (Nat × Nat)) := [] :: [] :: [] :: [] :: [(6, 25)] :: [] :: [] :: [] :: [] :: [(7, 60)] :: [] :: [] :: [] :: [(6, 23)] :: [] :: [] :: [] :: [] :: [] :: [] :: [] :: [] :: [] :: [] :: [] :: [] :: []
def b_X11_divided_169 : List zE := (169, .iconst 0, [0]) :: (170, .istore 6, []) :: (172, .nop, []) :: []
def p_X11_divided_169 : List (List (Nat × Nat)) := [] :: [] :: [] :: []
def b_X11_divided_135 : List zE := (135, .iload 6, []) :: (137, .iconst 5, [5]) :: (138, .if_icmp .ge 31, [169, 0]) :: (141, .lload 4, []) :: (143, .ldc2_w 177, [2]) :: (146, .aload_n 0, []) :: (147, .getfield 109, [11, 35]) :: (150, .iconst 0, [0]) :: (151, .laload, []) :: (152, .lload 4, []) :: (154, .lmul, []) :: (155, .lsub, []) :: (156, .lmul, []) :: (157, .ldc2_w 187, [4294967295]) :: (160, .land, []) :: (161, .lstore 4, []) :: (163, .iinc 6 1, [1]) :: (166, .goto (-31), [135, 1]) :: []
def p_X11_divided_135 : List (List (Nat × Nat)) := [] :: [] :: [] :: [] :: [(7, 23)] :: [] :: [(6, 26)] :: [] :: [] :: [] :: [] :: [] :: [] :: [(7, 60)] :: [] :: [] :: [] :: [] :: []
def b_X11_divided_113 : List zE := (113, .aload_n 0, []) :: (114, .getfield 106, [11, 34]) :: (117, .iload_n 3, []) :: (118, .invokestatic 389, [0, 2]) :: (121, .aload_n 0, []) :: (122, .getfield 109, [11, 35]) :: (125, .iload_n 3, []) :: (126, .invokestatic 389, [0, 2]) :: (129, .lconst 1, [1]) :: (130, .lstore 4, []) :: (132, .iconst 0, [0]) :: (133, .istore 6, []) :: (135, .nop, []) :: []
def p_X11_divided_113 : List (List (Nat × Nat)) := [] :: [(6, 25)] :: [] :: [(8, 37)] :: [] :: [(6, 26)] :: [] :: [(8, 37)] :: [] :: [] :: [] :: [] :: [] :: []
def b_X11_divided_106 : List zE := (106, .lastore, []) :: (107, .iinc 4 1, [1]) :: (110, .goto (-35), [75, 1]) :: []
def p_X11_divided_106 : List (List (Nat × Nat)) := [] :: [] :: [] :: []
def b_X11_divided_105 : List zE := (105, .lconst 0, [0]) :: (106, .nop, [0]) :: []
def p_X11_divided_105 : List (List (Nat × Nat)) := [] :: [] :: []
def b_X11_divided_75 : List zE := (75, .iload 4, []) :: (77, .bipush 72, [72]) :: (79, .if_icmp .ge 34, [113, 0]) :: (82, .aload_n 0, []) :: (83, .getfield 109, [11, 35]) :: (86, .iload 4, []) :: (88, .iload 4, []) :: (90, .bipush 32, [32]) :: (92, .if_icmp .ge 13, [105, 0]) :: (95, .aload_n 0, []) :: (96, .getfield 112, [11, 36]) :: (99, .iload 4, []) :: (101, .laload, []) :: (102, .goto 4, [106, 0]) :: []
def p_X11_divided_75 : List (List (Nat × Nat)) := [] :: [] :: [] :: [] :: [(6, 26)] :: [] :: [] :: [] :: [] :: [] :: [(6, 27)] :: [] :: [] :: [] :: []
def b_X11_divided_72 : List zE := (72, .iconst 0, [0]) :: (73, .istore 4, []) :: (75, .nop, []) :: []
def p_X11_divided_72 : List (List (Nat × Nat)) := [] :: [] :: [] :: []
def b_X11_divided_45 : List zE := (45, .aload_n 0, []) :: (46, .getfield 112, [11, 36]) :: (49, .iload_n 3, []) :: (50, .bipush 32, [32]) :: (52, .idiv, []) :: (53, .laload, []) :: (54, .iload_n 3, []) :: (55, .bipush 32, [32]) :: (57, .irem, []) :: (58, .lshr, []) :: (59, .lconst 1, [1]) :: (60, .land, []) :: (61, .lconst 0, [0]) :: (62, .lcmp, []) :: (63, .ifCond .ne 9, [72, 0]) :: (66, .iinc 3 1, [1]) :: (69, .goto (-24), [45, 1]) :: []
def p_X11_divided_45 : List (List (Nat × Nat)) := [] :: [(6, 27)] :: [] :: [] :: [] :: [] :: [] :: [] :: [] :: [] :: [] :: [] :: [] :: [] :: [] :: [] :: [] :: []
def b_X11_divided_43 : List zE := (43, .iconst 0, [0]) :: (44, .istore_n 3, []) :: (45, .nop, []) :: []
def p_X11_divided_43 : List (List (Nat × Nat)) := [] :: [] :: [] :: []
def b_X11_divided_26 : List zE := (26, .aload_n 0, []) :: (27, .getfield 103, [11, 33]) :: (30, .iload_n 2, []) :: (31, .iload_n 1, []) :: (32, .aload_n 0, []) :: (33, .getfield 386, [11, 37]) :: (36, .imul, []) :: (37, .iastore, []) :: (38, .iload_n 1, []) :: (39, .ifCond .ne 4, [43, 0]) :: (42, .return_, []) :: []
def p_X11_divided_26 : List (List (Nat × Nat)) := [] :: [(6, 24)] :: [] :: [] :: [] :: [(6, 28)] :: [] :: [] :: [] :: [] :: [] :: []
def b_X11_divided_2 : List zE := (2, .iload_n 3, []) :: (3, .bipush 32, [32]) :: (5, .if_icmp .ge 21, [26, 0]) :: (8, .aload_n 0, []) :: (9, .getfield 100, [11, 32]) :: (12, .bipush 32, [32]) :: (14, .iload_n 2, []) :: (15, .imul, []) :: (16, .iload_n 3, []) :: (17, .iadd, []) :: (18, .lconst 0, [0]) :: (19, .lastore, []) :: (20, .iinc 3 1, [1]) :: (23, .goto (-21), [2, 1]) :: []
def p_X11_divided_2 : List (List (Nat × Nat)) := [] :: [] :: [] :: [] :: [(6, 23)] :: [] :: [] :: [] :: [] :: [] :: [] :: [] :: [] :: [] :: []
def b_X11_divided_0 : List zE := (0, .iconst 0, [0]) :: (1, .istore_n 3, []) :: (2, .nop, []) :: []
def p_X11_divided_0 : List (List (Nat × Nat)) := [] :: [] :: [] :: []
def bl_X11_divided : List (Nat × List zE) := [(0, b_X11_divided_0), (2, b_X11_divided_2), (26, b_X11_divided_26), (43, b_X11_divided_43), (45, b_X11_divided_45), (72, b_X11_divided_72), (75, b_X11_divided_75), (105, b_X11_divided_105), (106, b_X11_divided_106), (113, b_X11_divided_113), (135, b_X11_divided_135), (169, b_X11_divided_169), (172, b_X11_divided_172), (219, b_X11_divided_219), (225, b_X11_divided_225), (338, b_X11_divided_338), (360, b_X11_divided_360), (366, b_X11_divided_366)]
def pl_X11_divided : List (List (List (Nat × Nat))) := [p_X11_divided_0, p_X11_divided_2, p_X11_divided_26, p_X11_divided_43, p_X11_divided_45, p_X11_divided_72, p_X11_divided_75, p_X11_divided_105, p_X11_divided_106, p_X11_divided_113, p_X11_divided_135, p_X11_divided_169, p_X11_divided_172, p_X11_divided_219, p_X11_divided_225, p_X11_divided_338, p_X11_divided_360, p_X11_divided_366]
theorem k_X11_divided_0 : zlk 0 bl_X11_divided = b_X11_divided_0 := rfl
theorem k_X11_divided_2 : zlk 2 bl_X11_divided = b_X11_divided_2 := rfl
theorem k_X11_divided_26 : zlk 26 bl_X11_divided = b_X11_divided_26 := rfl
theorem k_X11_divided_43 : zlk 43 bl_X11_divided = b_X11_divided_43 := rfl
theorem k_X11_divided_45 : zlk 45 bl_X11_divided = b_X11_divided_45 := rfl
theorem k_X11_divided_72 : zlk 72 bl_X11_divided = b_X11_divided_72 := rfl
theorem k_X11_divided_75 : zlk 75 bl_X11_divided = b_X11_divided_75 := rfl
theorem k_X11_divided_105 : zlk 105 bl_X11_divided = b_X11_divided_105 := rfl
theorem k_X11_divided_106 : zlk 106 bl_X11_divided = b_X11_divided_106 := rfl
theorem k_X11_divided_113 : zlk 113 bl_X11_divided = b_X11_divided_113 := rfl
theorem k_X11_divided_135 : zlk 135 bl_X11_divided = b_X11_divided_135 := rfl
theorem k_X11_divided_169 : zlk 169 bl_X11_divided = b_X11_divided_169 := rfl
theorem k_X11_divided_172 : zlk 172 bl_X11_divided = b_X11_divided_172 := rfl
theorem k_X11_divided_219 : zlk 219 bl_X11_divided = b_X11_divided_219 := rfl
theorem k_X11_divided_225 : zlk 225 bl_X11_divided = b_X11_divided_225 := rfl
theorem k_X11_divided_338 : zlk 338 bl_X11_divided = b_X11_divided_338 := rfl
theorem k_X11_divided_360 : zlk 360 bl_X11_divided = b_X11_divided_360 := rfl
theorem k_X11_divided_366 : zlk 366 bl_X11_divided = b_X11_divided_366 := rfl
set_option maxRecDepth 100000 in
theorem ck_X11_divided : zall q_X11_divided.2.2.2.2.1 q_X11_divided.2.1 11 false q_X11_divided.2.2.1 cal_X11_divided q_X11_divided.2.2.2.1 bl_X11_divided pl_X11_divided = true := by decide +kernel
theorem nm_X11_divided : plainName q_X11_divided.1.cls = true ∧ zRX 11 = q_X11_divided.1.cls ∧ (false = true → q_X11_divided.1.name = "<init>") := ⟨by decide +kernel, rfl, fun h => by first | rfl | cases h⟩
set_option maxRecDepth 100000 in
theorem wd_X11_swapBig : zwd q_X11_swapBig := ⟨zw_in (p := (8, 20)) (by decide +kernel), zw_in (p := (1, 11)) (by decide +kernel), fun h => absurd h (by decide), fun _ => zw_in (p := (8, 19)) (by decide +kernel), fun _ => zw_in (p := (0, 89)) (by decide +kernel)⟩
def cal_X11_swapBig : List zCal := [q_X11_cellAt]
def b_X11_swapBig_155 : List zE := (155, .putfield 393, [11, 42]) :: (158, .return_, []) :: []
def p_X11_swapBig_155 : List (List (Nat × Nat)) := [(6, 33)] :: [] :: []
def b_X11_swapBig_154 : List zE := (154, .iconst 0, [0]) :: (155, .nop, [0]) :: []
def p_X11_swapBig_154 : List (List (Nat × Nat)) := [] :: [] :: []
def b_X11_swapBig_142 : List zE := (142, .aload_n 0, []) :: (143, .aload_n 0, []) :: (144, .getfield 393, [11, 42]) :: (147, .ifCond .ne 7, [154, 0]) :: (150, .iconst 1, [1]) :: (151, .goto 4, [155, 0]) :: []
def p_X11_swapBig_142 : List (List (Nat × Nat)) := [] :: [] :: [(6, 33)] :: [] :: [] :: [] :: []
def b_X11_swapBig_104 : List zE := (104, .aload_n 0, []) :: (105, .getfield 103, [11, 33]) :: (108, .iload 4, []) :: (110, .iaload, []) :: (111, .istore 6, []) :: (113, .aload_n 0, []) :: (114, .getfield 103, [11, 33]) :: (117, .iload 4, []) :: (119, .aload_n 0, []) :: (120, .getfield 103, [11, 33]) :: (123, .iload 5, []) :: (125, .iaload, []) :: (126, .iastore, []) :: (127, .aload_n 0, []) :: (128, .getfield 103, [11, 33]) :: (131, .iload 5, []) :: (133, .iload 6, []) :: (135, .iastore, []) :: (136, .iinc 3 1, [1]) :: (139, .goto (-131), [8, 1]) :: []
def p_X11_swapBig_104 : List (List (Nat × Nat)) := [] :: [(6, 24)] :: [] :: [] :: [] :: [] :: [(6, 24)] :: [] :: [] :: [(6, 24)] :: [] :: [] :: [] :: [] :: [(6, 24)] :: [] :: [] :: [] :: [] :: [] :: []
def b_X11_swapBig_35 : List zE := (35, .iload 6, []) :: (37, .bipush 32, [32]) :: (39, .if_icmp .ge 65, [104, 0]) :: (42, .aload_n 0, []) :: (43, .getfield 100, [11, 32]) :: (46, .bipush 32, [32]) :: (48, .iload 4, []) :: (50, .imul, []) :: (51, .iload 6, []) :: (53, .iadd, []) :: (54, .laload, []) :: (55, .lstore 7, []) :: (57, .aload_n 0, []) :: (58, .getfield 100, [11, 32]) :: (61, .bipush 32, [32]) :: (63, .iload 4, []) :: (65, .imul, []) :: (66, .iload 6, []) :: (68, .iadd, []) :: (69, .aload_n 0, []) :: (70, .getfield 100, [11, 32]) :: (73, .bipush 32, [32]) :: (75, .iload 5, []) :: (77, .imul, []) :: (78, .iload 6, []) :: (80, .iadd, []) :: (81, .laload, []) :: (82, .lastore, []) :: (83, .aload_n 0, []) :: (84, .getfield 100, [11, 32]) :: (87, .bipush 32, [32]) :: (89, .iload 5, []) :: (91, .imul, []) :: (92, .iload 6, []) :: (94, .iadd, []) :: (95, .lload 7, []) :: (97, .lastore, []) :: (98, .iinc 6 1, [1]) :: (101, .goto (-66), [35, 1]) :: []
def p_X11_swapBig_35 : List (List (Nat × Nat)) := [] :: [] :: [] :: [] :: [(6, 23)] :: [] :: [] :: [] :: [] :: [] :: [] :: [] :: [] :: [(6, 23)] :: [] :: [] :: [] :: [] :: [] :: [] :: [(6, 23)] :: [] :: [] :: [] :: [] :: [] :: [] :: [] :: [] :: [(6, 23)] :: [] :: [] :: [] :: [] :: [] :: [] :: [] :: [] :: [] :: []
def b_X11_swapBig_8 : List zE := (8, .iload_n 3, []) :: (9, .aload_n 0, []) :: (10, .getfield 371, [11, 39]) :: (13, .if_icmp .ge 129, [142, 0]) :: (16, .aload_n 0, []) :: (17, .iload_n 1, []) :: (18, .iload_n 3, []) :: (19, .invokevirtual 374, [0, 2, 11]) :: (22, .istore 4, []) :: (24, .aload_n 0, []) :: (25, .iload_n 2, []) :: (26, .iload_n 3, []) :: (27, .invokevirtual 374, [0, 2, 11]) :: (30, .istore 5, []) :: (32, .iconst 0, [0]) :: (33, .istore 6, []) :: (35, .nop, []) :: []
def p_X11_swapBig_8 : List (List (Nat × Nat)) := [] :: [] :: [(6, 30)] :: [] :: [] :: [] :: [] :: [(8, 5)] :: [] :: [] :: [] :: [] :: [(8, 5)] :: [] :: [] :: [] :: [] :: []
def b_X11_swapBig_6 : List zE := (6, .iconst 0, [0]) :: (7, .istore_n 3, []) :: (8, .nop, []) :: []
def p_X11_swapBig_6 : List (List (Nat × Nat)) := [] :: [] :: [] :: []
def b_X11_swapBig_0 : List zE := (0, .iload_n 1, []) :: (1, .iload_n 2, []) :: (2, .if_icmp .ne 4, [6, 0]) :: (5, .return_, []) :: []
def p_X11_swapBig_0 : List (List (Nat × Nat)) := [] :: [] :: [] :: [] :: []
def bl_X11_swapBig : List (Nat × List zE) := [(0, b_X11_swapBig_0), (6, b_X11_swapBig_6), (8, b_X11_swapBig_8), (35, b_X11_swapBig_35), (104, b_X11_swapBig_104), (142, b_X11_swapBig_142), (154, b_X11_swapBig_154), (155, b_X11_swapBig_155)]
def pl_X11_swapBig : List (List (List (Nat × Nat))) := [p_X11_swapBig_0, p_X11_swapBig_6, p_X11_swapBig_8, p_X11_swapBig_35, p_X11_swapBig_104, p_X11_swapBig_142, p_X11_swapBig_154, p_X11_swapBig_155]
theorem k_X11_swapBig_0 : zlk 0 bl_X11_swapBig = b_X11_swapBig_0 := rfl
theorem k_X11_swapBig_6 : zlk 6 bl_X11_swapBig = b_X11_swapBig_6 := rfl
theorem k_X11_swapBig_8 : zlk 8 bl_X11_swapBig = b_X11_swapBig_8 := rfl
theorem k_X11_swapBig_35 : zlk 35 bl_X11_swapBig = b_X11_swapBig_35 := rfl
theorem k_X11_swapBig_104 : zlk 104 bl_X11_swapBig = b_X11_swapBig_104 := rfl
theorem k_X11_swapBig_142 : zlk 142 bl_X11_swapBig = b_X11_swapBig_142 := rfl
theorem k_X11_swapBig_154 : zlk 154 bl_X11_swapBig = b_X11_swapBig_154 := rfl
theorem k_X11_swapBig_155 : zlk 155 bl_X11_swapBig = b_X11_swapBig_155 := rfl
set_option maxRecDepth 100000 in
theorem ck_X11_swapBig : zall q_X11_swapBig.2.2.2.2.1 q_X11_swapBig.2.1 11 false q_X11_swapBig.2.2.1 cal_X11_swapBig q_X11_swapBig.2.2.2.1 bl_X11_swapBig pl_X11_swapBig = true := by decide +kernel
theorem nm_X11_swapBig : plainName q_X11_swapBig.1.cls = true ∧ zRX 11 = q_X11_swapBig.1.cls ∧ (false = true → q_X11_swapBig.1.name = "<init>") := ⟨by decide +kernel, rfl, fun h => by first | rfl | cases h⟩
set_option maxRecDepth 100000 in
theorem wd_X11_reduces : zwd q_X11_reduces := ⟨zw_in (p := (8, 16)) (by decide +kernel), zw_in (p := (1, 11)) (by decide +kernel), fun h => absurd h (by decide), fun _ => zw_in (p := (8, 15)) (by decide +kernel), fun _ => zw_in (p := (0, 88)) (by decide +kernel)⟩
def cal_X11_reduces : List zCal := [q_X11_cellAt, q_X11_swapBig, q_X11_times, q_X11_lessOther, q_X11_divided]
def b_X11_reduces_368 : List zE := (368, .return_, []) :: []
def p_X11_reduces_368 : List (List (Nat × Nat)) := [] :: []
def b_X11_reduces_362 : List zE := (362, .iinc 2 1, [1]) :: (365, .goto (-319), [46, 1]) :: []
def p_X11_reduces_362 : List (List (Nat × Nat)) := [] :: [] :: []
def b_X11_reduces_331 : List zE := (331, .aload_n 0, []) :: (332, .aload_n 0, []) :: (333, .getfield 103, [11, 33]) :: (336, .iload 4, []) :: (338, .iaload, []) :: (339, .putfield 386, [11, 37]) :: (342, .aload_n 0, []) :: (343, .getfield 115, [11, 41]) :: (346, .iload_n 2, []) :: (347, .aload_n 0, []) :: (348, .getfield 396, [11, 40]) :: (351, .iastore, []) :: (352, .aload_n 0, []) :: (353, .dup, []) :: (354, .getfield 396, [11, 40]) :: (357, .iconst 1, [1]) :: (358, .iadd, []) :: (359, .putfield 396, [11, 40]) :: (362, .nop, [0]) :: []
def p_X11_reduces_331 : List (List (Nat × Nat)) := [] :: [] :: [(6, 24)] :: [] :: [] :: [(6, 28)] :: [] :: [(6, 32)] :: [] :: [] :: [(6, 31)] :: [] :: [] :: [] :: [(6, 31)] :: [] :: [] :: [(6, 31)] :: [] :: []
def b_X11_reduces_298 : List zE := (298, .iload 5, []) :: (300, .bipush 32, [32]) :: (302, .if_icmp .ge 29, [331, 0]) :: (305, .aload_n 0, []) :: (306, .getfield 112, [11, 36]) :: (309, .iload 5, []) :: (311, .aload_n 0, []) :: (312, .getfield 100, [11, 32]) :: (315, .bipush 32, [32]) :: (317, .iload 4, []) :: (319, .imul, []) :: (320, .iload 5, []) :: (322, .iadd, []) :: (323, .laload, []) :: (324, .lastore, []) :: (325, .iinc 5 1, [1]) :: (328, .goto (-30), [298, 1]) :: []
def p_X11_reduces_298 : List (List (Nat × Nat)) := [] :: [] :: [] :: [] :: [(6, 27)] :: [] :: [] :: [(6, 23)] :: [] :: [] :: [] :: [] :: [] :: [] :: [] :: [] :: [] :: []
def b_X11_reduces_295 : List zE := (295, .iconst 0, [0]) :: (296, .istore 5, []) :: (298, .nop, []) :: []
def p_X11_reduces_295 : List (List (Nat × Nat)) := [] :: [] :: [] :: []
def b_X11_reduces_289 : List zE := (289, .iinc 5 1, [1]) :: (292, .goto (-167), [125, 1]) :: []
def p_X11_reduces_289 : List (List (Nat × Nat)) := [] :: [] :: []
def b_X11_reduces_257 : List zE := (257, .iload 6, []) :: (259, .bipush 32, [32]) :: (261, .if_icmp .ge 28, [289, 0]) :: (264, .aload_n 0, []) :: (265, .getfield 100, [11, 32]) :: (268, .bipush 32, [32]) :: (270, .aload_n 0, []) :: (271, .iload 5, []) :: (273, .iload_n 2, []) :: (274, .invokevirtual 374, [0, 2, 11]) :: (277, .imul, []) :: (278, .iload 6, []) :: (280, .iadd, []) :: (281, .lconst 0, [0]) :: (282, .lastore, []) :: (283, .iinc 6 1, [1]) :: (286, .goto (-29), [257, 1]) :: []
def p_X11_reduces_257 : List (List (Nat × Nat)) := [] :: [] :: [] :: [] :: [(6, 23)] :: [] :: [] :: [] :: [] :: [(8, 5)] :: [] :: [] :: [] :: [] :: [] :: [] :: [] :: []
def b_X11_reduces_241 : List zE := (241, .aload_n 0, []) :: (242, .getfield 103, [11, 33]) :: (245, .aload_n 0, []) :: (246, .iload 5, []) :: (248, .iload_n 2, []) :: (249, .invokevirtual 374, [0, 2, 11]) :: (252, .iconst 0, [0]) :: (253, .iastore, []) :: (254, .iconst 0, [0]) :: (255, .istore 6, []) :: (257, .nop, []) :: []
def p_X11_reduces_241 : List (List (Nat × Nat)) := [] :: [(6, 24)] :: [] :: [] :: [] :: [(8, 5)] :: [] :: [] :: [] :: [] :: [] :: []
def b_X11_reduces_235 : List zE := (235, .iinc 6 (-1), [4294967295]) :: (238, .goto (-84), [154, 1]) :: []
def p_X11_reduces_235 : List (List (Nat × Nat)) := [] :: [] :: []
def b_X11_reduces_168 : List zE := (168, .aload_n 0, []) :: (169, .iload 4, []) :: (171, .aload_n 0, []) :: (172, .iload 5, []) :: (174, .iload 6, []) :: (176, .invokevirtual 374, [0, 2, 11]) :: (179, .aload_n 0, []) :: (180, .getfield 106, [11, 34]) :: (183, .invokevirtual 402, [2, 3, 11]) :: (186, .istore 7, []) :: (188, .aload_n 0, []) :: (189, .aload_n 0, []) :: (190, .iload 5, []) :: (192, .iload_n 2, []) :: (193, .invokevirtual 374, [0, 2, 11]) :: (196, .aload_n 0, []) :: (197, .aload_n 0, []) :: (198, .getfield 396, [11, 40]) :: (201, .iload 6, []) :: (203, .invokevirtual 374, [0, 2, 11]) :: (206, .aload_n 0, []) :: (207, .getfield 109, [11, 35]) :: (210, .invokevirtual 402, [2, 3, 11]) :: (213, .istore 8, []) :: (215, .aload_n 0, []) :: (216, .aload_n 0, []) :: (217, .iload 7, []) :: (219, .iload 8, []) :: (221, .invokevirtual 406, [3, 2, 11]) :: (224, .aload_n 0, []) :: (225, .iload 5, []) :: (227, .iload 6, []) :: (229, .invokevirtual 374, [0, 2, 11]) :: (232, .invokevirtual 409, [4, 2, 11]) :: (235, .nop, [0]) :: []
def p_X11_reduces_168 : List (List (Nat × Nat)) := [] :: [] :: [] :: [] :: [] :: [(8, 5)] :: [] :: [(6, 25)] :: [(8, 21)] :: [] :: [] :: [] :: [] :: [] :: [(8, 5)] :: [] :: [] :: [(6, 31)] :: [] :: [(8, 5)] :: [] :: [(6, 26)] :: [(8, 21)] :: [] :: [] :: [] :: [] :: [] :: [(8, 26)] :: [] :: [] :: [] :: [(8, 5)] :: [(8, 33)] :: [] :: []
def b_X11_reduces_154 : List zE := (154, .iload 6, []) :: (156, .ifCond .lt 85, [241, 0]) :: (159, .iload 6, []) :: (161, .iload_n 2, []) :: (162, .if_icmp .ne 6, [168, 0]) :: (165, .goto 70, [235, 0]) :: []
def p_X11_reduces_154 : List (List (Nat × Nat)) := [] :: [] :: [] :: [] :: [] :: [] :: []
def b_X11_reduces_146 : List zE := (146, .aload_n 0, []) :: (147, .getfield 371, [11, 39]) :: (150, .iconst 1, [1]) :: (151, .isub, []) :: (152, .istore 6, []) :: (154, .nop, []) :: []
def p_X11_reduces_146 : List (List (Nat × Nat)) := [] :: [(6, 30)] :: [] :: [] :: [] :: [] :: []
def b_X11_reduces_125 : List zE := (125, .iload 5, []) :: (127, .aload_n 0, []) :: (128, .getfield 367, [11, 38]) :: (131, .if_icmp .ge 164, [295, 0]) :: (134, .iload 5, []) :: (136, .aload_n 0, []) :: (137, .getfield 396, [11, 40]) :: (140, .if_icmp .ne 6, [146, 0]) :: (143, .goto 146, [289, 0]) :: []
def p_X11_reduces_125 : List (List (Nat × Nat)) := [] :: [] :: [(6, 29)] :: [] :: [] :: [] :: [(6, 31)] :: [] :: [] :: []
def b_X11_reduces_102 : List zE := (102, .aload_n 0, []) :: (103, .aload_n 0, []) :: (104, .getfield 396, [11, 40]) :: (107, .iload_n 3, []) :: (108, .invokevirtual 399, [1, 2, 11]) :: (111, .aload_n 0, []) :: (112, .aload_n 0, []) :: (113, .getfield 396, [11, 40]) :: (116, .iload_n 2, []) :: (117, .invokevirtual 374, [0, 2, 11]) :: (120, .istore 4, []) :: (122, .iconst 0, [0]) :: (123, .istore 5, []) :: (125, .nop, []) :: []
def p_X11_reduces_102 : List (List (Nat × Nat)) := [] :: [] :: [(6, 31)] :: [] :: [(8, 17)] :: [] :: [] :: [(6, 31)] :: [] :: [(8, 5)] :: [] :: [] :: [] :: [] :: []
def b_X11_reduces_91 : List zE := (91, .iload_n 3, []) :: (92, .aload_n 0, []) :: (93, .getfield 367, [11, 38]) :: (96, .if_icmp .ne 6, [102, 0]) :: (99, .goto 263, [362, 0]) :: []
def p_X11_reduces_91 : List (List (Nat × Nat)) := [] :: [] :: [(6, 29)] :: [] :: [] :: []
def b_X11_reduces_63 : List zE := (63, .iload_n 3, []) :: (64, .aload_n 0, []) :: (65, .getfield 367, [11, 38]) :: (68, .if_icmp .ge 23, [91, 0]) :: (71, .aload_n 0, []) :: (72, .getfield 103, [11, 33]) :: (75, .aload_n 0, []) :: (76, .iload_n 3, []) :: (77, .iload_n 2, []) :: (78, .invokevirtual 374, [0, 2, 11]) :: (81, .iaload, []) :: (82, .ifCond .ne 9, [91, 0]) :: (85, .iinc 3 1, [1]) :: (88, .goto (-25), [63, 1]) :: []
def p_X11_reduces_63 : List (List (Nat × Nat)) := [] :: [] :: [(6, 29)] :: [] :: [] :: [(6, 24)] :: [] :: [] :: [] :: [(8, 5)] :: [] :: [] :: [] :: [] :: []
def b_X11_reduces_46 : List zE := (46, .iload_n 2, []) :: (47, .iload_n 1, []) :: (48, .if_icmp .ge 320, [368, 0]) :: (51, .aload_n 0, []) :: (52, .getfield 115, [11, 41]) :: (55, .iload_n 2, []) :: (56, .iconst (-1), [4294967295]) :: (57, .iastore, []) :: (58, .aload_n 0, []) :: (59, .getfield 396, [11, 40]) :: (62, .istore_n 3, []) :: (63, .nop, []) :: []
def p_X11_reduces_46 : List (List (Nat × Nat)) := [] :: [] :: [] :: [] :: [(6, 32)] :: [] :: [] :: [] :: [] :: [(6, 31)] :: [] :: [] :: []
def b_X11_reduces_39 : List zE := (39, .aload_n 0, []) :: (40, .iconst 1, [1]) :: (41, .putfield 386, [11, 37]) :: (44, .iconst 0, [0]) :: (45, .istore_n 2, []) :: (46, .nop, []) :: []
def p_X11_reduces_39 : List (List (Nat × Nat)) := [] :: [] :: [(6, 28)] :: [] :: [] :: [] :: []
def b_X11_reduces_32 : List zE := (32, .lastore, []) :: (33, .iinc 2 1, [1]) :: (36, .goto (-24), [12, 1]) :: []
def p_X11_reduces_32 : List (List (Nat × Nat)) := [] :: [] :: [] :: []
def b_X11_reduces_31 : List zE := (31, .lconst 0, [0]) :: (32, .nop, [0]) :: []
def p_X11_reduces_31 : List (List (Nat × Nat)) := [] :: [] :: []
def b_X11_reduces_12 : List zE := (12, .iload_n 2, []) :: (13, .bipush 32, [32]) :: (15, .if_icmp .ge 24, [39, 0]) :: (18, .aload_n 0, []) :: (19, .getfield 112, [11, 36]) :: (22, .iload_n 2, []) :: (23, .iload_n 2, []) :: (24, .ifCond .ne 7, [31, 0]) :: (27, .lconst 1, [1]) :: (28, .goto 4, [32, 0]) :: []
def p_X11_reduces_12 : List (List (Nat × Nat)) := [] :: [] :: [] :: [] :: [(6, 27)] :: [] :: [] :: [] :: [] :: [] :: []
def b_X11_reduces_0 : List zE := (0, .aload_n 0, []) :: (1, .iconst 0, [0]) :: (2, .putfield 396, [11, 40]) :: (5, .aload_n 0, []) :: (6, .iconst 0, [0]) :: (7, .putfield 393, [11, 42]) :: (10, .iconst 0, [0]) :: (11, .istore_n 2, []) :: (12, .nop, []) :: []
def p_X11_reduces_0 : List (List (Nat × Nat)) := [] :: [] :: [(6, 31)] :: [] :: [] :: [(6, 33)] :: [] :: [] :: [] :: []
def bl_X11_reduces : List (Nat × List zE) := [(0, b_X11_reduces_0), (12, b_X11_reduces_12), (31, b_X11_reduces_31), (32, b_X11_reduces_32), (39, b_X11_reduces_39), (46, b_X11_reduces_46), (63, b_X11_reduces_63), (91, b_X11_reduces_91), (102, b_X11_reduces_102), (125, b_X11_reduces_125), (146, b_X11_reduces_146), (154, b_X11_reduces_154), (168, b_X11_reduces_168), (235, b_X11_reduces_235), (241, b_X11_reduces_241), (257, b_X11_reduces_257), (289, b_X11_reduces_289), (295, b_X11_reduces_295), (298, b_X11_reduces_298), (331, b_X11_reduces_331), (362, b_X11_reduces_362), (368, b_X11_reduces_368)]
def pl_X11_reduces : List (List (List (Nat × Nat))) := [p_X11_reduces_0, p_X11_reduces_12, p_X11_reduces_31, p_X11_reduces_32, p_X11_reduces_39, p_X11_reduces_46, p_X11_reduces_63, p_X11_reduces_91, p_X11_reduces_102, p_X11_reduces_125, p_X11_reduces_146, p_X11_reduces_154, p_X11_reduces_168, p_X11_reduces_235, p_X11_reduces_241, p_X11_reduces_257, p_X11_reduces_289, p_X11_reduces_295, p_X11_reduces_298, p_X11_reduces_331, p_X11_reduces_362, p_X11_reduces_368]
theorem k_X11_reduces_0 : zlk 0 bl_X11_reduces = b_X11_reduces_0 := rfl
theorem k_X11_reduces_12 : zlk 12 bl_X11_reduces = b_X11_reduces_12 := rfl
theorem k_X11_reduces_31 : zlk 31 bl_X11_reduces = b_X11_reduces_31 := rfl
theorem k_X11_reduces_32 : zlk 32 bl_X11_reduces = b_X11_reduces_32 := rfl
theorem k_X11_reduces_39 : zlk 39 bl_X11_reduces = b_X11_reduces_39 := rfl
theorem k_X11_reduces_46 : zlk 46 bl_X11_reduces = b_X11_reduces_46 := rfl
theorem k_X11_reduces_63 : zlk 63 bl_X11_reduces = b_X11_reduces_63 := rfl
theorem k_X11_reduces_91 : zlk 91 bl_X11_reduces = b_X11_reduces_91 := rfl
theorem k_X11_reduces_102 : zlk 102 bl_X11_reduces = b_X11_reduces_102 := rfl
theorem k_X11_reduces_125 : zlk 125 bl_X11_reduces = b_X11_reduces_125 := rfl
theorem k_X11_reduces_146 : zlk 146 bl_X11_reduces = b_X11_reduces_146 := rfl
theorem k_X11_reduces_154 : zlk 154 bl_X11_reduces = b_X11_reduces_154 := rfl
theorem k_X11_reduces_168 : zlk 168 bl_X11_reduces = b_X11_reduces_168 := rfl
theorem k_X11_reduces_235 : zlk 235 bl_X11_reduces = b_X11_reduces_235 := rfl
theorem k_X11_reduces_241 : zlk 241 bl_X11_reduces = b_X11_reduces_241 := rfl
theorem k_X11_reduces_257 : zlk 257 bl_X11_reduces = b_X11_reduces_257 := rfl
theorem k_X11_reduces_289 : zlk 289 bl_X11_reduces = b_X11_reduces_289 := rfl
theorem k_X11_reduces_295 : zlk 295 bl_X11_reduces = b_X11_reduces_295 := rfl
theorem k_X11_reduces_298 : zlk 298 bl_X11_reduces = b_X11_reduces_298 := rfl
theorem k_X11_reduces_331 : zlk 331 bl_X11_reduces = b_X11_reduces_331 := rfl
theorem k_X11_reduces_362 : zlk 362 bl_X11_reduces = b_X11_reduces_362 := rfl
theorem k_X11_reduces_368 : zlk 368 bl_X11_reduces = b_X11_reduces_368 := rfl
set_option maxRecDepth 100000 in
theorem ck_X11_reduces : zall q_X11_reduces.2.2.2.2.1 q_X11_reduces.2.1 11 false q_X11_reduces.2.2.1 cal_X11_reduces q_X11_reduces.2.2.2.1 bl_X11_reduces pl_X11_reduces = true := by decide +kernel
theorem nm_X11_reduces : plainName q_X11_reduces.1.cls = true ∧ zRX 11 = q_X11_reduces.1.cls ∧ (false = true → q_X11_reduces.1.name = "<init>") := ⟨by decide +kernel, rfl, fun h => by first | rfl | cases h⟩
set_option maxRecDepth 100000 in
theorem wd_X11_topOf : zwd q_X11_topOf := ⟨zw_in (p := (8, 54)) (by decide +kernel), zw_in (p := (1, 11)) (by decide +kernel), fun _ => zw_in (p := (8, 53)) (by decide +kernel), fun h => absurd rfl h, fun h => absurd h (by decide)⟩
def cal_X11_topOf : List zCal := []
def b_X11_topOf_35 : List zE := (35, .iload_n 2, []) :: (36, .ireturn, []) :: []
def p_X11_topOf_35 : List (List (Nat × Nat)) := [] :: [] :: []
def b_X11_topOf_7 : List zE := (7, .iload_n 2, []) :: (8, .ifCond .lt 27, [35, 0]) :: (11, .aload_n 0, []) :: (12, .iload_n 2, []) :: (13, .bipush 32, [32]) :: (15, .idiv, []) :: (16, .laload, []) :: (17, .iload_n 2, []) :: (18, .bipush 32, [32]) :: (20, .irem, []) :: (21, .lshr, []) :: (22, .lconst 1, [1]) :: (23, .land, []) :: (24, .lconst 0, [0]) :: (25, .lcmp, []) :: (26, .ifCond .ne 9, [35, 0]) :: (29, .iinc 2 (-1), [4294967295]) :: (32, .goto (-25), [7, 1]) :: []
def p_X11_topOf_7 : List (List (Nat × Nat)) := [] :: [] :: [] :: [] :: [] :: [] :: [] :: [] :: [] :: [] :: [] :: [] :: [] :: [] :: [] :: [] :: [] :: [] :: []
def b_X11_topOf_0 : List zE := (0, .bipush 32, [32]) :: (2, .iload_n 1, []) :: (3, .imul, []) :: (4, .iconst 1, [1]) :: (5, .isub, []) :: (6, .istore_n 2, []) :: (7, .nop, []) :: []
def p_X11_topOf_0 : List (List (Nat × Nat)) := [] :: [] :: [] :: [] :: [] :: [] :: [] :: []
def bl_X11_topOf : List (Nat × List zE) := [(0, b_X11_topOf_0), (7, b_X11_topOf_7), (35, b_X11_topOf_35)]
def pl_X11_topOf : List (List (List (Nat × Nat))) := [p_X11_topOf_0, p_X11_topOf_7, p_X11_topOf_35]
theorem k_X11_topOf_0 : zlk 0 bl_X11_topOf = b_X11_topOf_0 := rfl
theorem k_X11_topOf_7 : zlk 7 bl_X11_topOf = b_X11_topOf_7 := rfl
theorem k_X11_topOf_35 : zlk 35 bl_X11_topOf = b_X11_topOf_35 := rfl
set_option maxRecDepth 100000 in
theorem ck_X11_topOf : zall q_X11_topOf.2.2.2.2.1 q_X11_topOf.2.1 11 false q_X11_topOf.2.2.1 cal_X11_topOf q_X11_topOf.2.2.2.1 bl_X11_topOf pl_X11_topOf = true := by decide +kernel
theorem nm_X11_topOf : plainName q_X11_topOf.1.cls = true ∧ zRX 11 = q_X11_topOf.1.cls ∧ (false = true → q_X11_topOf.1.name = "<init>") := ⟨by decide +kernel, rfl, fun h => by first | rfl | cases h⟩
set_option maxRecDepth 100000 in
theorem wd_X11_isNotBelow : zwd q_X11_isNotBelow := ⟨zw_in (p := (8, 58)) (by decide +kernel), zw_in (p := (1, 11)) (by decide +kernel), fun h => absurd h (by decide), fun _ => zw_in (p := (8, 57)) (by decide +kernel), fun _ => zw_in (p := (0, 96)) (by decide +kernel)⟩
def cal_X11_isNotBelow : List zCal := []
def b_X11_isNotBelow_53 : List zE := (53, .ireturn, []) :: []
def p_X11_isNotBelow_53 : List (List (Nat × Nat)) := [] :: []
def b_X11_isNotBelow_52 : List zE := (52, .iconst 0, [0]) :: (53, .nop, [0]) :: []
def p_X11_isNotBelow_52 : List (List (Nat × Nat)) := [] :: [] :: []
def b_X11_isNotBelow_48 : List zE := (48, .iconst 1, [1]) :: (49, .goto 4, [53, 0]) :: []
def p_X11_isNotBelow_48 : List (List (Nat × Nat)) := [] :: [] :: []
def b_X11_isNotBelow_28 : List zE := (28, .iload_n 2, []) :: (29, .ifCond .lt 19, [48, 0]) :: (32, .aload_n 0, []) :: (33, .getfield 118, [11, 43]) :: (36, .iload_n 2, []) :: (37, .laload, []) :: (38, .aload_n 0, []) :: (39, .getfield 109, [11, 35]) :: (42, .iload_n 2, []) :: (43, .laload, []) :: (44, .lcmp, []) :: (45, .ifCond .le 7, [52, 0]) :: (48, .nop, [0]) :: []
def p_X11_isNotBelow_28 : List (List (Nat × Nat)) := [] :: [] :: [] :: [(6, 34)] :: [] :: [] :: [] :: [(6, 26)] :: [] :: [] :: [] :: [] :: [] :: []
def b_X11_isNotBelow_2 : List zE := (2, .iload_n 2, []) :: (3, .ifCond .lt 25, [28, 0]) :: (6, .aload_n 0, []) :: (7, .getfield 118, [11, 43]) :: (10, .iload_n 2, []) :: (11, .laload, []) :: (12, .aload_n 0, []) :: (13, .getfield 109, [11, 35]) :: (16, .iload_n 2, []) :: (17, .laload, []) :: (18, .lcmp, []) :: (19, .ifCond .ne 9, [28, 0]) :: (22, .iinc 2 (-1), [4294967295]) :: (25, .goto (-23), [2, 1]) :: []
def p_X11_isNotBelow_2 : List (List (Nat × Nat)) := [] :: [] :: [] :: [(6, 34)] :: [] :: [] :: [] :: [(6, 26)] :: [] :: [] :: [] :: [] :: [] :: [] :: []
def b_X11_isNotBelow_0 : List zE := (0, .iload_n 1, []) :: (1, .istore_n 2, []) :: (2, .nop, []) :: []
def p_X11_isNotBelow_0 : List (List (Nat × Nat)) := [] :: [] :: [] :: []
def bl_X11_isNotBelow : List (Nat × List zE) := [(0, b_X11_isNotBelow_0), (2, b_X11_isNotBelow_2), (28, b_X11_isNotBelow_28), (48, b_X11_isNotBelow_48), (52, b_X11_isNotBelow_52), (53, b_X11_isNotBelow_53)]
def pl_X11_isNotBelow : List (List (List (Nat × Nat))) := [p_X11_isNotBelow_0, p_X11_isNotBelow_2, p_X11_isNotBelow_28, p_X11_isNotBelow_48, p_X11_isNotBelow_52, p_X11_isNotBelow_53]
theorem k_X11_isNotBelow_0 : zlk 0 bl_X11_isNotBelow = b_X11_isNotBelow_0 := rfl
theorem k_X11_isNotBelow_2 : zlk 2 bl_X11_isNotBelow = b_X11_isNotBelow_2 := rfl
theorem k_X11_isNotBelow_28 : zlk 28 bl_X11_isNotBelow = b_X11_isNotBelow_28 := rfl
theorem k_X11_isNotBelow_48 : zlk 48 bl_X11_isNotBelow = b_X11_isNotBelow_48 := rfl
theorem k_X11_isNotBelow_52 : zlk 52 bl_X11_isNotBelow = b_X11_isNotBelow_52 := rfl
theorem k_X11_isNotBelow_53 : zlk 53 bl_X11_isNotBelow = b_X11_isNotBelow_53 := rfl
set_option maxRecDepth 100000 in
theorem ck_X11_isNotBelow : zall q_X11_isNotBelow.2.2.2.2.1 q_X11_isNotBelow.2.1 11 false q_X11_isNotBelow.2.2.1 cal_X11_isNotBelow q_X11_isNotBelow.2.2.2.1 bl_X11_isNotBelow pl_X11_isNotBelow = true := by decide +kernel
theorem nm_X11_isNotBelow : plainName q_X11_isNotBelow.1.cls = true ∧ zRX 11 = q_X11_isNotBelow.1.cls ∧ (false = true → q_X11_isNotBelow.1.name = "<init>") := ⟨by decide +kernel, rfl, fun h => by first | rfl | cases h⟩
set_option maxRecDepth 100000 in
theorem wd_X11_takesOther : zwd q_X11_takesOther := ⟨zw_in (p := (8, 62)) (by decide +kernel), zw_in (p := (1, 11)) (by decide +kernel), fun h => absurd h (by decide), fun _ => zw_in (p := (8, 61)) (by decide +kernel), fun _ => zw_in (p := (0, 97)) (by decide +kernel)⟩
def cal_X11_takesOther : List zCal := []
def b_X11_takesOther_62 : List zE := (62, .return_, []) :: []
def p_X11_takesOther_62 : List (List (Nat × Nat)) := [] :: []
def b_X11_takesOther_42 : List zE := (42, .lstore_n 2, []) :: (43, .aload_n 0, []) :: (44, .getfield 118, [11, 43]) :: (47, .iload 4, []) :: (49, .lload 5, []) :: (51, .ldc2_w 187, [4294967295]) :: (54, .land, []) :: (55, .lastore, []) :: (56, .iinc 4 1, [1]) :: (59, .goto (-54), [5, 1]) :: []
def p_X11_takesOther_42 : List (List (Nat × Nat)) := [] :: [] :: [(6, 34)] :: [] :: [] :: [(7, 60)] :: [] :: [] :: [] :: [] :: []
def b_X11_takesOther_41 : List zE := (41, .lconst 0, [0]) :: (42, .nop, [0]) :: []
def p_X11_takesOther_41 : List (List (Nat × Nat)) := [] :: [] :: []
def b_X11_takesOther_5 : List zE := (5, .iload 4, []) :: (7, .iload_n 1, []) :: (8, .if_icmp .gt 54, [62, 0]) :: (11, .aload_n 0, []) :: (12, .getfield 118, [11, 43]) :: (15, .iload 4, []) :: (17, .laload, []) :: (18, .aload_n 0, []) :: (19, .getfield 109, [11, 35]) :: (22, .iload 4, []) :: (24, .laload, []) :: (25, .lsub, []) :: (26, .lload_n 2, []) :: (27, .lsub, []) :: (28, .lstore 5, []) :: (30, .lload 5, []) :: (32, .lconst 0, [0]) :: (33, .lcmp, []) :: (34, .ifCond .ge 7, [41, 0]) :: (37, .lconst 1, [1]) :: (38, .goto 4, [42, 0]) :: []
def p_X11_takesOther_5 : List (List (Nat × Nat)) := [] :: [] :: [] :: [] :: [(6, 34)] :: [] :: [] :: [] :: [(6, 26)] :: [] :: [] :: [] :: [] :: [] :: [] :: [] :: [] :: [] :: [] :: [] :: [] :: []
def b_X11_takesOther_0 : List zE := (0, .lconst 0, [0]) :: (1, .lstore_n 2, []) :: (2, .iconst 0, [0]) :: (3, .istore 4, []) :: (5, .nop, []) :: []
def p_X11_takesOther_0 : List (List (Nat × Nat)) := [] :: [] :: [] :: [] :: [] :: []
def bl_X11_takesOther : List (Nat × List zE) := [(0, b_X11_takesOther_0), (5, b_X11_takesOther_5), (41, b_X11_takesOther_41), (42, b_X11_takesOther_42), (62, b_X11_takesOther_62)]
def pl_X11_takesOther : List (List (List (Nat × Nat))) := [p_X11_takesOther_0, p_X11_takesOther_5, p_X11_takesOther_41, p_X11_takesOther_42, p_X11_takesOther_62]
theorem k_X11_takesOther_0 : zlk 0 bl_X11_takesOther = b_X11_takesOther_0 := rfl
theorem k_X11_takesOther_5 : zlk 5 bl_X11_takesOther = b_X11_takesOther_5 := rfl
theorem k_X11_takesOther_41 : zlk 41 bl_X11_takesOther = b_X11_takesOther_41 := rfl
theorem k_X11_takesOther_42 : zlk 42 bl_X11_takesOther = b_X11_takesOther_42 := rfl
theorem k_X11_takesOther_62 : zlk 62 bl_X11_takesOther = b_X11_takesOther_62 := rfl
set_option maxRecDepth 100000 in
theorem ck_X11_takesOther : zall q_X11_takesOther.2.2.2.2.1 q_X11_takesOther.2.1 11 false q_X11_takesOther.2.2.1 cal_X11_takesOther q_X11_takesOther.2.2.2.1 bl_X11_takesOther pl_X11_takesOther = true := by decide +kernel
theorem nm_X11_takesOther : plainName q_X11_takesOther.1.cls = true ∧ zRX 11 = q_X11_takesOther.1.cls ∧ (false = true → q_X11_takesOther.1.name = "<init>") := ⟨by decide +kernel, rfl, fun h => by first | rfl | cases h⟩
set_option maxRecDepth 100000 in
theorem wd_X11_quotient : zwd q_X11_quotient := ⟨zw_in (p := (8, 51)) (by decide +kernel), zw_in (p := (1, 11)) (by decide +kernel), fun h => absurd h (by decide), fun _ => zw_in (p := (8, 50)) (by decide +kernel), fun _ => zw_in (p := (0, 95)) (by decide +kernel)⟩
def cal_X11_quotient : List zCal := [q_X11_topOf, q_X11_isNotBelow, q_X11_takesOther, q_X11_composed]
def b_X11_quotient_387 : List zE := (387, .lload 10, []) :: (389, .iload 8, []) :: (391, .iconst 1, [1]) :: (392, .iadd, []) :: (393, .iconst 2, [2]) :: (394, .iadd, []) :: (395, .iload_n 1, []) :: (396, .iadd, []) :: (397, .invokestatic 183, [3, 2]) :: (400, .dreturn, []) :: []
def p_X11_quotient_387 : List (List (Nat × Nat)) := [] :: [] :: [] :: [] :: [] :: [] :: [] :: [] :: [(7, 81)] :: [] :: []
def b_X11_quotient_381 : List zE := (381, .lload 10, []) :: (383, .lconst 1, [1]) :: (384, .ladd, []) :: (385, .lstore 10, []) :: (387, .nop, []) :: []
def p_X11_quotient_381 : List (List (Nat × Nat)) := [] :: [] :: [] :: [] :: [] :: []
def b_X11_quotient_360 : List zE := (360, .iload 12, []) :: (362, .ifCond .eq 25, [387, 1]) :: (365, .iload 9, []) :: (367, .ifCond .ne 14, [381, 0]) :: (370, .lload 10, []) :: (372, .ldc2_w 177, [2]) :: (375, .lrem, []) :: (376, .lconst 1, [1]) :: (377, .lcmp, []) :: (378, .ifCond .ne 9, [387, 1]) :: (381, .nop, [0]) :: []
def p_X11_quotient_360 : List (List (Nat × Nat)) := [] :: [] :: [] :: [] :: [] :: [(7, 23)] :: [] :: [] :: [] :: [] :: [] :: []
def b_X11_quotient_341 : List zE := (341, .istore 9, []) :: (343, .iload_n 2, []) :: (344, .ifCond .eq 16, [360, 0]) :: (347, .iload 12, []) :: (349, .ifCond .ne 32, [381, 0]) :: (352, .iload 9, []) :: (354, .ifCond .eq 33, [387, 1]) :: (357, .goto 24, [381, 0]) :: []
def p_X11_quotient_341 : List (List (Nat × Nat)) := [] :: [] :: [] :: [] :: [] :: [] :: [] :: [] :: []
def b_X11_quotient_340 : List zE := (340, .iconst 0, [0]) :: (341, .nop, []) :: []
def p_X11_quotient_340 : List (List (Nat × Nat)) := [] :: [] :: []
def b_X11_quotient_336 : List zE := (336, .iconst 1, [1]) :: (337, .goto 4, [341, 1]) :: []
def p_X11_quotient_336 : List (List (Nat × Nat)) := [] :: [] :: []
def b_X11_quotient_320 : List zE := (320, .istore 12, []) :: (322, .iload 9, []) :: (324, .ifCond .ne 12, [336, 0]) :: (327, .lload 5, []) :: (329, .lconst 1, [1]) :: (330, .land, []) :: (331, .lconst 1, [1]) :: (332, .lcmp, []) :: (333, .ifCond .ne 7, [340, 0]) :: (336, .nop, [0]) :: []
def p_X11_quotient_320 : List (List (Nat × Nat)) := [] :: [] :: [] :: [] :: [] :: [] :: [] :: [] :: [] :: [] :: []
def b_X11_quotient_319 : List zE := (319, .iconst 0, [0]) :: (320, .nop, []) :: []
def p_X11_quotient_319 : List (List (Nat × Nat)) := [] :: [] :: []
def b_X11_quotient_298 : List zE := (298, .lload 5, []) :: (300, .iconst 2, [2]) :: (301, .lshr, []) :: (302, .lstore 10, []) :: (304, .lload 5, []) :: (306, .iconst 1, [1]) :: (307, .lshr, []) :: (308, .lconst 1, [1]) :: (309, .land, []) :: (310, .lconst 1, [1]) :: (311, .lcmp, []) :: (312, .ifCond .ne 7, [319, 0]) :: (315, .iconst 1, [1]) :: (316, .goto 4, [320, 1]) :: []
def p_X11_quotient_298 : List (List (Nat × Nat)) := [] :: [] :: [] :: [] :: [] :: [] :: [] :: [] :: [] :: [] :: [] :: [] :: [] :: [] :: []
def b_X11_quotient_290 : List zE := (290, .istore 9, []) :: (292, .iinc 10 (-1), [4294967295]) :: (295, .goto (-43), [252, 1]) :: []
def p_X11_quotient_290 : List (List (Nat × Nat)) := [] :: [] :: [] :: []
def b_X11_quotient_289 : List zE := (289, .iconst 0, [0]) :: (290, .nop, [0]) :: []
def p_X11_quotient_289 : List (List (Nat × Nat)) := [] :: [] :: []
def b_X11_quotient_252 : List zE := (252, .iload 10, []) :: (254, .ifCond .lt 44, [298, 1]) :: (257, .iload 9, []) :: (259, .ifCond .ne 39, [298, 1]) :: (262, .aload_n 0, []) :: (263, .getfield 106, [11, 34]) :: (266, .iload 10, []) :: (268, .bipush 32, [32]) :: (270, .idiv, []) :: (271, .laload, []) :: (272, .iload 10, []) :: (274, .bipush 32, [32]) :: (276, .irem, []) :: (277, .lshr, []) :: (278, .lconst 1, [1]) :: (279, .land, []) :: (280, .lconst 1, [1]) :: (281, .lcmp, []) :: (282, .ifCond .ne 7, [289, 0]) :: (285, .iconst 1, [1]) :: (286, .goto 4, [290, 0]) :: []
def p_X11_quotient_252 : List (List (Nat × Nat)) := [] :: [] :: [] :: [] :: [] :: [(6, 25)] :: [] :: [] :: [] :: [] :: [] :: [] :: [] :: [] :: [] :: [] :: [] :: [] :: [] :: [] :: [] :: []
def b_X11_quotient_248 : List zE := (248, .iload 8, []) :: (250, .istore 10, []) :: (252, .nop, []) :: []
def p_X11_quotient_248 : List (List (Nat × Nat)) := [] :: [] :: [] :: []
def b_X11_quotient_240 : List zE := (240, .istore 9, []) :: (242, .iinc 10 1, [1]) :: (245, .goto (-33), [212, 1]) :: []
def p_X11_quotient_240 : List (List (Nat × Nat)) := [] :: [] :: [] :: []
def b_X11_quotient_239 : List zE := (239, .iconst 0, [0]) :: (240, .nop, [0]) :: []
def p_X11_quotient_239 : List (List (Nat × Nat)) := [] :: [] :: []
def b_X11_quotient_235 : List zE := (235, .iconst 1, [1]) :: (236, .goto 4, [240, 0]) :: []
def p_X11_quotient_235 : List (List (Nat × Nat)) := [] :: [] :: []
def b_X11_quotient_212 : List zE := (212, .iload 10, []) :: (214, .iload_n 3, []) :: (215, .if_icmp .gt 33, [248, 0]) :: (218, .iload 9, []) :: (220, .ifCond .ne 15, [235, 0]) :: (223, .aload_n 0, []) :: (224, .getfield 118, [11, 43]) :: (227, .iload 10, []) :: (229, .laload, []) :: (230, .lconst 0, [0]) :: (231, .lcmp, []) :: (232, .ifCond .eq 7, [239, 0]) :: (235, .nop, [0]) :: []
def p_X11_quotient_212 : List (List (Nat × Nat)) := [] :: [] :: [] :: [] :: [] :: [] :: [(6, 34)] :: [] :: [] :: [] :: [] :: [] :: [] :: []
def b_X11_quotient_206 : List zE := (206, .iconst 0, [0]) :: (207, .istore 9, []) :: (209, .iconst 0, [0]) :: (210, .istore 10, []) :: (212, .nop, []) :: []
def p_X11_quotient_206 : List (List (Nat × Nat)) := [] :: [] :: [] :: [] :: [] :: []
def b_X11_quotient_200 : List zE := (200, .iinc 8 (-1), [4294967295]) :: (203, .goto (-139), [64, 1]) :: []
def p_X11_quotient_200 : List (List (Nat × Nat)) := [] :: [] :: []
def b_X11_quotient_194 : List zE := (194, .ladd, []) :: (195, .lstore 5, []) :: (197, .iinc 7 1, [1]) :: (200, .nop, [0]) :: []
def p_X11_quotient_194 : List (List (Nat × Nat)) := [] :: [] :: [] :: [] :: []
def b_X11_quotient_193 : List zE := (193, .lconst 0, [0]) :: (194, .nop, [0]) :: []
def p_X11_quotient_193 : List (List (Nat × Nat)) := [] :: [] :: []
def b_X11_quotient_178 : List zE := (178, .ldc2_w 177, [2]) :: (181, .lload 5, []) :: (183, .lmul, []) :: (184, .iload 11, []) :: (186, .ifCond .eq 7, [193, 0]) :: (189, .lconst 1, [1]) :: (190, .goto 4, [194, 0]) :: []
def p_X11_quotient_178 : List (List (Nat × Nat)) := [(7, 23)] :: [] :: [] :: [] :: [] :: [] :: [] :: []
def b_X11_quotient_168 : List zE := (168, .iload 7, []) :: (170, .ifCond .gt 8, [178, 0]) :: (173, .iload 11, []) :: (175, .ifCond .eq 25, [200, 0]) :: (178, .nop, [0]) :: []
def p_X11_quotient_168 : List (List (Nat × Nat)) := [] :: [] :: [] :: [] :: [] :: []
def b_X11_quotient_151 : List zE := (151, .aload_n 0, []) :: (152, .iload_n 3, []) :: (153, .invokevirtual 416, [1, 1, 11]) :: (156, .istore 11, []) :: (158, .iload 11, []) :: (160, .ifCond .eq 8, [168, 0]) :: (163, .aload_n 0, []) :: (164, .iload_n 3, []) :: (165, .invokevirtual 419, [2, 1, 11]) :: (168, .nop, [0]) :: []
def p_X11_quotient_151 : List (List (Nat × Nat)) := [] :: [] :: [(8, 55)] :: [] :: [] :: [] :: [] :: [] :: [(8, 59)] :: [] :: []
def b_X11_quotient_103 : List zE := (103, .iload 11, []) :: (105, .iload_n 3, []) :: (106, .if_icmp .gt 45, [151, 0]) :: (109, .ldc2_w 177, [2]) :: (112, .aload_n 0, []) :: (113, .getfield 118, [11, 43]) :: (116, .iload 11, []) :: (118, .laload, []) :: (119, .lmul, []) :: (120, .lload 9, []) :: (122, .ladd, []) :: (123, .lstore 12, []) :: (125, .aload_n 0, []) :: (126, .getfield 118, [11, 43]) :: (129, .iload 11, []) :: (131, .lload 12, []) :: (133, .ldc2_w 187, [4294967295]) :: (136, .land, []) :: (137, .lastore, []) :: (138, .lload 12, []) :: (140, .bipush 32, [32]) :: (142, .lushr, []) :: (143, .lstore 9, []) :: (145, .iinc 11 1, [1]) :: (148, .goto (-45), [103, 1]) :: []
def p_X11_quotient_103 : List (List (Nat × Nat)) := [] :: [] :: [] :: [(7, 23)] :: [] :: [(6, 34)] :: [] :: [] :: [] :: [] :: [] :: [] :: [] :: [(6, 34)] :: [] :: [] :: [(7, 60)] :: [] :: [] :: [] :: [] :: [] :: [] :: [] :: [] :: []
def b_X11_quotient_98 : List zE := (98, .lstore 9, []) :: (100, .iconst 0, [0]) :: (101, .istore 11, []) :: (103, .nop, []) :: []
def p_X11_quotient_98 : List (List (Nat × Nat)) := [] :: [] :: [] :: [] :: []
def b_X11_quotient_97 : List zE := (97, .lconst 0, [0]) :: (98, .nop, [0]) :: []
def p_X11_quotient_97 : List (List (Nat × Nat)) := [] :: [] :: []
def b_X11_quotient_64 : List zE := (64, .iload 7, []) :: (66, .bipush 55, [55]) :: (68, .if_icmp .ge 138, [206, 0]) :: (71, .iload 8, []) :: (73, .ifCond .lt 24, [97, 0]) :: (76, .aload_n 0, []) :: (77, .getfield 106, [11, 34]) :: (80, .iload 8, []) :: (82, .bipush 32, [32]) :: (84, .idiv, []) :: (85, .laload, []) :: (86, .iload 8, []) :: (88, .bipush 32, [32]) :: (90, .irem, []) :: (91, .lshr, []) :: (92, .lconst 1, [1]) :: (93, .land, []) :: (94, .goto 4, [98, 0]) :: []
def p_X11_quotient_64 : List (List (Nat × Nat)) := [] :: [] :: [] :: [] :: [] :: [] :: [(6, 25)] :: [] :: [] :: [] :: [] :: [] :: [] :: [] :: [] :: [] :: [] :: [] :: []
def b_X11_quotient_43 : List zE := (43, .aload_n 0, []) :: (44, .getfield 106, [11, 34]) :: (47, .bipush 72, [72]) :: (49, .invokestatic 412, [0, 2]) :: (52, .istore 4, []) :: (54, .lconst 0, [0]) :: (55, .lstore 5, []) :: (57, .iconst 0, [0]) :: (58, .istore 7, []) :: (60, .iload 4, []) :: (62, .istore 8, []) :: (64, .nop, []) :: []
def p_X11_quotient_43 : List (List (Nat × Nat)) := [] :: [(6, 25)] :: [] :: [(8, 52)] :: [] :: [] :: [] :: [] :: [] :: [] :: [] :: [] :: []
def b_X11_quotient_37 : List zE := (37, .iinc 4 1, [1]) :: (40, .goto (-35), [5, 1]) :: []
def p_X11_quotient_37 : List (List (Nat × Nat)) := [] :: [] :: []
def b_X11_quotient_5 : List zE := (5, .iload 4, []) :: (7, .bipush 72, [72]) :: (9, .if_icmp .ge 34, [43, 0]) :: (12, .aload_n 0, []) :: (13, .getfield 118, [11, 43]) :: (16, .iload 4, []) :: (18, .lconst 0, [0]) :: (19, .lastore, []) :: (20, .aload_n 0, []) :: (21, .getfield 109, [11, 35]) :: (24, .iload 4, []) :: (26, .laload, []) :: (27, .lconst 0, [0]) :: (28, .lcmp, []) :: (29, .ifCond .eq 8, [37, 0]) :: (32, .iload 4, []) :: (34, .iconst 1, [1]) :: (35, .iadd, []) :: (36, .istore_n 3, []) :: (37, .nop, [0]) :: []
def p_X11_quotient_5 : List (List (Nat × Nat)) := [] :: [] :: [] :: [] :: [(6, 34)] :: [] :: [] :: [] :: [] :: [(6, 26)] :: [] :: [] :: [] :: [] :: [] :: [] :: [] :: [] :: [] :: [] :: []
def b_X11_quotient_0 : List zE := (0, .iconst 0, [0]) :: (1, .istore_n 3, []) :: (2, .iconst 0, [0]) :: (3, .istore 4, []) :: (5, .nop, []) :: []
def p_X11_quotient_0 : List (List (Nat × Nat)) := [] :: [] :: [] :: [] :: [] :: []
def bl_X11_quotient : List (Nat × List zE) := [(0, b_X11_quotient_0), (5, b_X11_quotient_5), (37, b_X11_quotient_37), (43, b_X11_quotient_43), (64, b_X11_quotient_64), (97, b_X11_quotient_97), (98, b_X11_quotient_98), (103, b_X11_quotient_103), (151, b_X11_quotient_151), (168, b_X11_quotient_168), (178, b_X11_quotient_178), (193, b_X11_quotient_193), (194, b_X11_quotient_194), (200, b_X11_quotient_200), (206, b_X11_quotient_206), (212, b_X11_quotient_212), (235, b_X11_quotient_235), (239, b_X11_quotient_239), (240, b_X11_quotient_240), (248, b_X11_quotient_248), (252, b_X11_quotient_252), (289, b_X11_quotient_289), (290, b_X11_quotient_290), (298, b_X11_quotient_298), (319, b_X11_quotient_319), (320, b_X11_quotient_320), (336, b_X11_quotient_336), (340, b_X11_quotient_340), (341, b_X11_quotient_341), (360, b_X11_quotient_360), (381, b_X11_quotient_381), (387, b_X11_quotient_387)]
def pl_X11_quotient : List (List (List (Nat × Nat))) := [p_X11_quotient_0, p_X11_quotient_5, p_X11_quotient_37, p_X11_quotient_43, p_X11_quotient_64, p_X11_quotient_97, p_X11_quotient_98, p_X11_quotient_103, p_X11_quotient_151, p_X11_quotient_168, p_X11_quotient_178, p_X11_quotient_193, p_X11_quotient_194, p_X11_quotient_200, p_X11_quotient_206, p_X11_quotient_212, p_X11_quotient_235, p_X11_quotient_239, p_X11_quotient_240, p_X11_quotient_248, p_X11_quotient_252, p_X11_quotient_289, p_X11_quotient_290, p_X11_quotient_298, p_X11_quotient_319, p_X11_quotient_320, p_X11_quotient_336, p_X11_quotient_340, p_X11_quotient_341, p_X11_quotient_360, p_X11_quotient_381, p_X11_quotient_387]
theorem k_X11_quotient_0 : zlk 0 bl_X11_quotient = b_X11_quotient_0 := rfl
theorem k_X11_quotient_5 : zlk 5 bl_X11_quotient = b_X11_quotient_5 := rfl
theorem k_X11_quotient_37 : zlk 37 bl_X11_quotient = b_X11_quotient_37 := rfl
theorem k_X11_quotient_43 : zlk 43 bl_X11_quotient = b_X11_quotient_43 := rfl
theorem k_X11_quotient_64 : zlk 64 bl_X11_quotient = b_X11_quotient_64 := rfl
theorem k_X11_quotient_97 : zlk 97 bl_X11_quotient = b_X11_quotient_97 := rfl
theorem k_X11_quotient_98 : zlk 98 bl_X11_quotient = b_X11_quotient_98 := rfl
theorem k_X11_quotient_103 : zlk 103 bl_X11_quotient = b_X11_quotient_103 := rfl
theorem k_X11_quotient_151 : zlk 151 bl_X11_quotient = b_X11_quotient_151 := rfl
theorem k_X11_quotient_168 : zlk 168 bl_X11_quotient = b_X11_quotient_168 := rfl
theorem k_X11_quotient_178 : zlk 178 bl_X11_quotient = b_X11_quotient_178 := rfl
theorem k_X11_quotient_193 : zlk 193 bl_X11_quotient = b_X11_quotient_193 := rfl
theorem k_X11_quotient_194 : zlk 194 bl_X11_quotient = b_X11_quotient_194 := rfl
theorem k_X11_quotient_200 : zlk 200 bl_X11_quotient = b_X11_quotient_200 := rfl
theorem k_X11_quotient_206 : zlk 206 bl_X11_quotient = b_X11_quotient_206 := rfl
theorem k_X11_quotient_212 : zlk 212 bl_X11_quotient = b_X11_quotient_212 := rfl
theorem k_X11_quotient_235 : zlk 235 bl_X11_quotient = b_X11_quotient_235 := rfl
theorem k_X11_quotient_239 : zlk 239 bl_X11_quotient = b_X11_quotient_239 := rfl
theorem k_X11_quotient_240 : zlk 240 bl_X11_quotient = b_X11_quotient_240 := rfl
theorem k_X11_quotient_248 : zlk 248 bl_X11_quotient = b_X11_quotient_248 := rfl
theorem k_X11_quotient_252 : zlk 252 bl_X11_quotient = b_X11_quotient_252 := rfl
theorem k_X11_quotient_289 : zlk 289 bl_X11_quotient = b_X11_quotient_289 := rfl
theorem k_X11_quotient_290 : zlk 290 bl_X11_quotient = b_X11_quotient_290 := rfl
theorem k_X11_quotient_298 : zlk 298 bl_X11_quotient = b_X11_quotient_298 := rfl
theorem k_X11_quotient_319 : zlk 319 bl_X11_quotient = b_X11_quotient_319 := rfl
theorem k_X11_quotient_320 : zlk 320 bl_X11_quotient = b_X11_quotient_320 := rfl
theorem k_X11_quotient_336 : zlk 336 bl_X11_quotient = b_X11_quotient_336 := rfl
theorem k_X11_quotient_340 : zlk 340 bl_X11_quotient = b_X11_quotient_340 := rfl
theorem k_X11_quotient_341 : zlk 341 bl_X11_quotient = b_X11_quotient_341 := rfl
theorem k_X11_quotient_360 : zlk 360 bl_X11_quotient = b_X11_quotient_360 := rfl
theorem k_X11_quotient_381 : zlk 381 bl_X11_quotient = b_X11_quotient_381 := rfl
theorem k_X11_quotient_387 : zlk 387 bl_X11_quotient = b_X11_quotient_387 := rfl
set_option maxRecDepth 100000 in
theorem ck_X11_quotient : zall q_X11_quotient.2.2.2.2.1 q_X11_quotient.2.1 11 false q_X11_quotient.2.2.1 cal_X11_quotient q_X11_quotient.2.2.2.1 bl_X11_quotient pl_X11_quotient = true := by decide +kernel
theorem nm_X11_quotient : plainName q_X11_quotient.1.cls = true ∧ zRX 11 = q_X11_quotient.1.cls ∧ (false = true → q_X11_quotient.1.name = "<init>") := ⟨by decide +kernel, rfl, fun h => by first | rfl | cases h⟩
