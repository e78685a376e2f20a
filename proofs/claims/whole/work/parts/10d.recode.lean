/-! methods with cuts of their own: their code as data once more (written by gen/recode.py) -/
def b_X0_roundedc_255 : List zE := (255, .i2l, []) :: (256, .ladd, []) :: (257, .lor, []) :: (258, .lreturn, []) :: []
def p_X0_roundedc_255 : List (List (Nat × Nat)) := [] :: [] :: [] :: [] :: []
def b_X0_roundedc_254 : List zE := (254, .iconst 0, [0]) :: (255, .nop, []) :: []
def p_X0_roundedc_254 : List (List (Nat × Nat)) := [] :: [] :: []
def b_X0_roundedc_230 : List zE := (230, .lload 6, []) :: (232, .iload 9, []) :: (234, .sipush 1074, [1074]) :: (237, .iadd, []) :: (238, .i2l, []) :: (239, .bipush 52, [52]) :: (241, .lshl, []) :: (242, .lload 11, []) :: (244, .ladd, []) :: (245, .iload 13, []) :: (247, .ifCond .eq 7, [254, 0]) :: (250, .iconst 1, [1]) :: (251, .goto 4, [255, 1]) :: []
def p_X0_roundedc_230 : List (List (Nat × Nat)) := [] :: [] :: [] :: [] :: [] :: [] :: [] :: [] :: [] :: [] :: [] :: [] :: [] :: []
def b_X0_roundedc_228 : List zE := (228, .istore 13, []) :: (230, .nop, []) :: []
def p_X0_roundedc_228 : List (List (Nat × Nat)) := [] :: [] :: []
def b_X0_roundedc_227 : List zE := (227, .iconst 0, [0]) :: (228, .nop, []) :: []
def p_X0_roundedc_227 : List (List (Nat × Nat)) := [] :: [] :: []
def b_X0_roundedc_223 : List zE := (223, .iconst 1, [1]) :: (224, .goto 4, [228, 1]) :: []
def p_X0_roundedc_223 : List (List (Nat × Nat)) := [] :: [] :: []
def b_X0_roundedc_210 : List zE := (210, .lload 14, []) :: (212, .lload 16, []) :: (214, .lcmp, []) :: (215, .ifCond .gt 8, [223, 0]) :: (218, .iload 18, []) :: (220, .ifCond .eq 7, [227, 0]) :: (223, .nop, [0]) :: []
def p_X0_roundedc_210 : List (List (Nat × Nat)) := [] :: [] :: [] :: [] :: [] :: [] :: [] :: []
def b_X0_roundedc_206 : List zE := (206, .iconst 0, [0]) :: (207, .goto 21, [228, 1]) :: []
def p_X0_roundedc_206 : List (List (Nat × Nat)) := [] :: [] :: []
def b_X0_roundedc_202 : List zE := (202, .iconst 1, [1]) :: (203, .goto 25, [228, 1]) :: []
def p_X0_roundedc_202 : List (List (Nat × Nat)) := [] :: [] :: []
def b_X0_roundedc_184 : List zE := (184, .istore 18, []) :: (186, .iload 5, []) :: (188, .ifCond .eq 22, [210, 0]) :: (191, .iload_n 3, []) :: (192, .ifCond .ne 10, [202, 0]) :: (195, .lload 14, []) :: (197, .lconst 0, [0]) :: (198, .lcmp, []) :: (199, .ifCond .eq 7, [206, 0]) :: (202, .nop, [0]) :: []
def p_X0_roundedc_184 : List (List (Nat × Nat)) := [] :: [] :: [] :: [] :: [] :: [] :: [] :: [] :: [] :: [] :: []
def b_X0_roundedc_183 : List zE := (183, .iconst 0, [0]) :: (184, .nop, []) :: []
def p_X0_roundedc_183 : List (List (Nat × Nat)) := [] :: [] :: []
def b_X0_roundedc_179 : List zE := (179, .iconst 1, [1]) :: (180, .goto 4, [184, 1]) :: []
def p_X0_roundedc_179 : List (List (Nat × Nat)) := [] :: [] :: []
def b_X0_roundedc_136 : List zE := (136, .iload 10, []) :: (138, .ifCond .le 92, [230, 1]) :: (141, .lload_n 1, []) :: (142, .lload 11, []) :: (144, .iload 10, []) :: (146, .lshl, []) :: (147, .lsub, []) :: (148, .lstore 14, []) :: (150, .lconst 1, [1]) :: (151, .iload 10, []) :: (153, .iconst 1, [1]) :: (154, .isub, []) :: (155, .lshl, []) :: (156, .lstore 16, []) :: (158, .lload 14, []) :: (160, .lload 16, []) :: (162, .lcmp, []) :: (163, .ifCond .ne 20, [183, 0]) :: (166, .iload_n 3, []) :: (167, .ifCond .ne 12, [179, 0]) :: (170, .lload 11, []) :: (172, .lconst 1, [1]) :: (173, .land, []) :: (174, .lconst 0, [0]) :: (175, .lcmp, []) :: (176, .ifCond .eq 7, [183, 0]) :: (179, .nop, [0]) :: []
def p_X0_roundedc_136 : List (List (Nat × Nat)) := [] :: [] :: [] :: [] :: [] :: [] :: [] :: [] :: [] :: [] :: [] :: [] :: [] :: [] :: [] :: [] :: [] :: [] :: [] :: [] :: [] :: [] :: [] :: [] :: [] :: [] :: [] :: []
def b_X0_roundedc_120 : List zE := (120, .istore 13, []) :: (122, .iload 10, []) :: (124, .bipush 63, [63]) :: (126, .if_icmp .le 10, [136, 0]) :: (129, .iload 5, []) :: (131, .istore 13, []) :: (133, .goto 97, [230, 1]) :: []
def p_X0_roundedc_120 : List (List (Nat × Nat)) := [] :: [] :: [] :: [] :: [] :: [] :: [] :: []
def b_X0_roundedc_119 : List zE := (119, .iconst 0, [0]) :: (120, .nop, []) :: []
def p_X0_roundedc_119 : List (List (Nat × Nat)) := [] :: [] :: []
def b_X0_roundedc_104 : List zE := (104, .lstore 11, []) :: (106, .iload 5, []) :: (108, .ifCond .eq 11, [119, 0]) :: (111, .iload_n 3, []) :: (112, .ifCond .eq 7, [119, 0]) :: (115, .iconst 1, [1]) :: (116, .goto 4, [120, 1]) :: []
def p_X0_roundedc_104 : List (List (Nat × Nat)) := [] :: [] :: [] :: [] :: [] :: [] :: [] :: []
def b_X0_roundedc_99 : List zE := (99, .lload_n 1, []) :: (100, .iload 10, []) :: (102, .ineg, []) :: (103, .lshl, []) :: (104, .nop, []) :: []
def p_X0_roundedc_99 : List (List (Nat × Nat)) := [] :: [] :: [] :: [] :: [] :: []
def b_X0_roundedc_87 : List zE := (87, .iload 10, []) :: (89, .ifCond .le 10, [99, 0]) :: (92, .lload_n 1, []) :: (93, .iload 10, []) :: (95, .lushr, []) :: (96, .goto 8, [104, 1]) :: []
def p_X0_roundedc_87 : List (List (Nat × Nat)) := [] :: [] :: [] :: [] :: [] :: [] :: []
def b_X0_roundedc_67 : List zE := (67, .istore 9, []) :: (69, .iload 9, []) :: (71, .iload 4, []) :: (73, .isub, []) :: (74, .istore 10, []) :: (76, .iload 10, []) :: (78, .bipush 63, [63]) :: (80, .if_icmp .le 7, [87, 0]) :: (83, .lconst 0, [0]) :: (84, .goto 20, [104, 1]) :: []
def p_X0_roundedc_67 : List (List (Nat × Nat)) := [] :: [] :: [] :: [] :: [] :: [] :: [] :: [] :: [] :: [] :: []
def b_X0_roundedc_62 : List zE := (62, .iload 8, []) :: (64, .bipush 52, [52]) :: (66, .isub, []) :: (67, .nop, []) :: []
def p_X0_roundedc_62 : List (List (Nat × Nat)) := [] :: [] :: [] :: [] :: []
def b_X0_roundedc_48 : List zE := (48, .iload 8, []) :: (50, .sipush (-1022), [4294966274]) :: (53, .if_icmp .ge 9, [62, 0]) :: (56, .sipush (-1074), [4294966222]) :: (59, .goto 8, [67, 1]) :: []
def p_X0_roundedc_48 : List (List (Nat × Nat)) := [] :: [] :: [] :: [] :: [] :: []
def b_X0_roundedc_22 : List zE := (22, .iload 4, []) :: (24, .lload_n 1, []) :: (25, .invokestatic 17, [0, 1]) :: (28, .iadd, []) :: (29, .iconst 1, [1]) :: (30, .isub, []) :: (31, .istore 8, []) :: (33, .iload 8, []) :: (35, .sipush 1023, [1023]) :: (38, .if_icmp .le 10, [48, 0]) :: (41, .lload 6, []) :: (43, .ldc2_w 11, [9218868437227405312]) :: (46, .lor, []) :: (47, .lreturn, []) :: []
def p_X0_roundedc_22 : List (List (Nat × Nat)) := [] :: [] :: [(2, 186)] :: [] :: [] :: [] :: [] :: [] :: [] :: [] :: [] :: [(2, 134)] :: [] :: [] :: []
def b_X0_roundedc_11 : List zE := (11, .lstore 6, []) :: (13, .lload_n 1, []) :: (14, .lconst 0, [0]) :: (15, .lcmp, []) :: (16, .ifCond .gt 6, [22, 0]) :: (19, .lload 6, []) :: (21, .lreturn, []) :: []
def p_X0_roundedc_11 : List (List (Nat × Nat)) := [] :: [] :: [] :: [] :: [] :: [] :: [] :: []
def b_X0_roundedc_10 : List zE := (10, .lconst 0, [0]) :: (11, .nop, []) :: []
def p_X0_roundedc_10 : List (List (Nat × Nat)) := [] :: [] :: []
def b_X0_roundedc_0 : List zE := (0, .iload_n 0, []) :: (1, .ifCond .eq 9, [10, 0]) :: (4, .ldc2_w 15, [9223372036854775808]) :: (7, .goto 4, [11, 1]) :: []
def p_X0_roundedc_0 : List (List (Nat × Nat)) := [] :: [] :: [(2, 155)] :: [] :: []
def bl_X0_roundedc : List (Nat × List zE) := [(0, b_X0_roundedc_0), (10, b_X0_roundedc_10), (11, b_X0_roundedc_11), (22, b_X0_roundedc_22), (48, b_X0_roundedc_48), (62, b_X0_roundedc_62), (67, b_X0_roundedc_67), (87, b_X0_roundedc_87), (99, b_X0_roundedc_99), (104, b_X0_roundedc_104), (119, b_X0_roundedc_119), (120, b_X0_roundedc_120), (136, b_X0_roundedc_136), (179, b_X0_roundedc_179), (183, b_X0_roundedc_183), (184, b_X0_roundedc_184), (202, b_X0_roundedc_202), (206, b_X0_roundedc_206), (210, b_X0_roundedc_210), (223, b_X0_roundedc_223), (227, b_X0_roundedc_227), (228, b_X0_roundedc_228), (230, b_X0_roundedc_230), (254, b_X0_roundedc_254), (255, b_X0_roundedc_255)]
def pl_X0_roundedc : List (List (List (Nat × Nat))) := [p_X0_roundedc_0, p_X0_roundedc_10, p_X0_roundedc_11, p_X0_roundedc_22, p_X0_roundedc_48, p_X0_roundedc_62, p_X0_roundedc_67, p_X0_roundedc_87, p_X0_roundedc_99, p_X0_roundedc_104, p_X0_roundedc_119, p_X0_roundedc_120, p_X0_roundedc_136, p_X0_roundedc_179, p_X0_roundedc_183, p_X0_roundedc_184, p_X0_roundedc_202, p_X0_roundedc_206, p_X0_roundedc_210, p_X0_roundedc_223, p_X0_roundedc_227, p_X0_roundedc_228, p_X0_roundedc_230, p_X0_roundedc_254, p_X0_roundedc_255]
theorem k_X0_roundedc_0 : zlk 0 bl_X0_roundedc = b_X0_roundedc_0 := rfl
theorem k_X0_roundedc_10 : zlk 10 bl_X0_roundedc = b_X0_roundedc_10 := rfl
theorem k_X0_roundedc_11 : zlk 11 bl_X0_roundedc = b_X0_roundedc_11 := rfl
theorem k_X0_roundedc_22 : zlk 22 bl_X0_roundedc = b_X0_roundedc_22 := rfl
theorem k_X0_roundedc_48 : zlk 48 bl_X0_roundedc = b_X0_roundedc_48 := rfl
theorem k_X0_roundedc_62 : zlk 62 bl_X0_roundedc = b_X0_roundedc_62 := rfl
theorem k_X0_roundedc_67 : zlk 67 bl_X0_roundedc = b_X0_roundedc_67 := rfl
theorem k_X0_roundedc_87 : zlk 87 bl_X0_roundedc = b_X0_roundedc_87 := rfl
theorem k_X0_roundedc_99 : zlk 99 bl_X0_roundedc = b_X0_roundedc_99 := rfl
theorem k_X0_roundedc_104 : zlk 104 bl_X0_roundedc = b_X0_roundedc_104 := rfl
theorem k_X0_roundedc_119 : zlk 119 bl_X0_roundedc = b_X0_roundedc_119 := rfl
theorem k_X0_roundedc_120 : zlk 120 bl_X0_roundedc = b_X0_roundedc_120 := rfl
theorem k_X0_roundedc_136 : zlk 136 bl_X0_roundedc = b_X0_roundedc_136 := rfl
theorem k_X0_roundedc_179 : zlk 179 bl_X0_roundedc = b_X0_roundedc_179 := rfl
theorem k_X0_roundedc_183 : zlk 183 bl_X0_roundedc = b_X0_roundedc_183 := rfl
theorem k_X0_roundedc_184 : zlk 184 bl_X0_roundedc = b_X0_roundedc_184 := rfl
theorem k_X0_roundedc_202 : zlk 202 bl_X0_roundedc = b_X0_roundedc_202 := rfl
theorem k_X0_roundedc_206 : zlk 206 bl_X0_roundedc = b_X0_roundedc_206 := rfl
theorem k_X0_roundedc_210 : zlk 210 bl_X0_roundedc = b_X0_roundedc_210 := rfl
theorem k_X0_roundedc_223 : zlk 223 bl_X0_roundedc = b_X0_roundedc_223 := rfl
theorem k_X0_roundedc_227 : zlk 227 bl_X0_roundedc = b_X0_roundedc_227 := rfl
theorem k_X0_roundedc_228 : zlk 228 bl_X0_roundedc = b_X0_roundedc_228 := rfl
theorem k_X0_roundedc_230 : zlk 230 bl_X0_roundedc = b_X0_roundedc_230 := rfl
theorem k_X0_roundedc_254 : zlk 254 bl_X0_roundedc = b_X0_roundedc_254 := rfl
theorem k_X0_roundedc_255 : zlk 255 bl_X0_roundedc = b_X0_roundedc_255 := rfl
set_option maxRecDepth 100000 in
theorem ck_X0_roundedc : zall q_X0_rounded.2.2.2.2.1 q_X0_rounded.2.1 0 false q_X0_rounded.2.2.1 cal_X0_rounded q_X0_rounded.2.2.2.1 bl_X0_roundedc pl_X0_roundedc = true := by decide +kernel
def b_X0_plusc_225 : List zE := (225, .lreturn, []) :: []
def p_X0_plusc_225 : List (List (Nat × Nat)) := [] :: []
def b_X0_plusc_209 : List zE := (209, .lload 17, []) :: (211, .iload 16, []) :: (213, .lload 5, []) :: (215, .invokestatic 29, [1, 1]) :: (218, .bipush 9, [9]) :: (220, .isub, []) :: (221, .iconst 0, [0]) :: (222, .invokestatic 44, [3, 5]) :: (225, .nop, [0]) :: []
def p_X0_plusc_209 : List (List (Nat × Nat)) := [] :: [] :: [] :: [(2, 180)] :: [] :: [] :: [] :: [(2, 214)] :: [] :: []
def b_X0_plusc_208 : List zE := (208, .iconst 0, [0]) :: (209, .nop, [0]) :: []
def p_X0_plusc_208 : List (List (Nat × Nat)) := [] :: [] :: []
def b_X0_plusc_197 : List zE := (197, .lload 5, []) :: (199, .lconst 0, [0]) :: (200, .lcmp, []) :: (201, .ifCond .ge 7, [208, 0]) :: (204, .iconst 1, [1]) :: (205, .goto 4, [209, 0]) :: []
def p_X0_plusc_197 : List (List (Nat × Nat)) := [] :: [] :: [] :: [] :: [] :: [] :: []
def b_X0_plusc_184 : List zE := (184, .lstore 17, []) :: (186, .lload 17, []) :: (188, .lconst 0, [0]) :: (189, .lcmp, []) :: (190, .ifCond .ne 7, [197, 0]) :: (193, .lconst 0, [0]) :: (194, .goto 31, [225, 0]) :: []
def p_X0_plusc_184 : List (List (Nat × Nat)) := [] :: [] :: [] :: [] :: [] :: [] :: [] :: []
def b_X0_plusc_179 : List zE := (179, .lload 10, []) :: (181, .lload 14, []) :: (183, .lsub, []) :: (184, .nop, []) :: []
def p_X0_plusc_179 : List (List (Nat × Nat)) := [] :: [] :: [] :: [] :: []
def b_X0_plusc_164 : List zE := (164, .iload 16, []) :: (166, .ifCond .eq 13, [179, 0]) :: (169, .lload 10, []) :: (171, .lload 14, []) :: (173, .lsub, []) :: (174, .lconst 1, [1]) :: (175, .lsub, []) :: (176, .goto 8, [184, 1]) :: []
def p_X0_plusc_164 : List (List (Nat × Nat)) := [] :: [] :: [] :: [] :: [] :: [] :: [] :: [] :: []
def b_X0_plusc_146 : List zE := (146, .istore 16, []) :: (148, .lload_n 0, []) :: (149, .lload_n 2, []) :: (150, .lxor, []) :: (151, .lconst 0, [0]) :: (152, .lcmp, []) :: (153, .ifCond .lt 11, [164, 0]) :: (156, .lload 10, []) :: (158, .lload 14, []) :: (160, .ladd, []) :: (161, .goto 23, [184, 1]) :: []
def p_X0_plusc_146 : List (List (Nat × Nat)) := [] :: [] :: [] :: [] :: [] :: [] :: [] :: [] :: [] :: [] :: [] :: []
def b_X0_plusc_145 : List zE := (145, .iconst 0, [0]) :: (146, .nop, []) :: []
def p_X0_plusc_145 : List (List (Nat × Nat)) := [] :: [] :: []
def b_X0_plusc_130 : List zE := (130, .lload 14, []) :: (132, .iload 9, []) :: (134, .lshl, []) :: (135, .lload 12, []) :: (137, .lcmp, []) :: (138, .ifCond .eq 7, [145, 0]) :: (141, .iconst 1, [1]) :: (142, .goto 4, [146, 1]) :: []
def p_X0_plusc_130 : List (List (Nat × Nat)) := [] :: [] :: [] :: [] :: [] :: [] :: [] :: [] :: []
def b_X0_plusc_126 : List zE := (126, .iconst 0, [0]) :: (127, .goto 19, [146, 1]) :: []
def p_X0_plusc_126 : List (List (Nat × Nat)) := [] :: [] :: []
def b_X0_plusc_106 : List zE := (106, .lstore 14, []) :: (108, .iload 9, []) :: (110, .bipush 62, [62]) :: (112, .if_icmp .le 18, [130, 0]) :: (115, .lload 12, []) :: (117, .lconst 0, [0]) :: (118, .lcmp, []) :: (119, .ifCond .eq 7, [126, 0]) :: (122, .iconst 1, [1]) :: (123, .goto 23, [146, 1]) :: []
def p_X0_plusc_106 : List (List (Nat × Nat)) := [] :: [] :: [] :: [] :: [] :: [] :: [] :: [] :: [] :: [] :: []
def b_X0_plusc_101 : List zE := (101, .lload 12, []) :: (103, .iload 9, []) :: (105, .lushr, []) :: (106, .nop, []) :: []
def p_X0_plusc_101 : List (List (Nat × Nat)) := [] :: [] :: [] :: [] :: []
def b_X0_plusc_57 : List zE := (57, .lload 5, []) :: (59, .invokestatic 29, [1, 1]) :: (62, .lload 7, []) :: (64, .invokestatic 29, [1, 1]) :: (67, .isub, []) :: (68, .istore 9, []) :: (70, .lload 5, []) :: (72, .invokestatic 25, [2, 1]) :: (75, .bipush 9, [9]) :: (77, .lshl, []) :: (78, .lstore 10, []) :: (80, .lload 7, []) :: (82, .invokestatic 25, [2, 1]) :: (85, .bipush 9, [9]) :: (87, .lshl, []) :: (88, .lstore 12, []) :: (90, .iload 9, []) :: (92, .bipush 62, [62]) :: (94, .if_icmp .le 7, [101, 0]) :: (97, .lconst 0, [0]) :: (98, .goto 8, [106, 1]) :: []
def p_X0_plusc_57 : List (List (Nat × Nat)) := [] :: [(2, 180)] :: [] :: [(2, 180)] :: [] :: [] :: [] :: [(2, 173)] :: [] :: [] :: [] :: [] :: [(2, 173)] :: [] :: [] :: [] :: [] :: [] :: [] :: [] :: [] :: []
def b_X0_plusc_41 : List zE := (41, .lstore 7, []) :: (43, .lload 5, []) :: (45, .invokestatic 32, [0, 1]) :: (48, .lconst 0, [0]) :: (49, .lcmp, []) :: (50, .ifCond .ne 7, [57, 0]) :: (53, .lload_n 0, []) :: (54, .lload_n 2, []) :: (55, .land, []) :: (56, .lreturn, []) :: []
def p_X0_plusc_41 : List (List (Nat × Nat)) := [] :: [] :: [(2, 178)] :: [] :: [] :: [] :: [] :: [] :: [] :: [] :: []
def b_X0_plusc_40 : List zE := (40, .lload_n 2, []) :: (41, .nop, []) :: []
def p_X0_plusc_40 : List (List (Nat × Nat)) := [] :: [] :: []
def b_X0_plusc_29 : List zE := (29, .lstore 5, []) :: (31, .iload 4, []) :: (33, .ifCond .eq 7, [40, 0]) :: (36, .lload_n 0, []) :: (37, .goto 4, [41, 1]) :: []
def p_X0_plusc_29 : List (List (Nat × Nat)) := [] :: [] :: [] :: [] :: [] :: []
def b_X0_plusc_28 : List zE := (28, .lload_n 0, []) :: (29, .nop, []) :: []
def p_X0_plusc_28 : List (List (Nat × Nat)) := [] :: [] :: []
def b_X0_plusc_17 : List zE := (17, .istore 4, []) :: (19, .iload 4, []) :: (21, .ifCond .eq 7, [28, 0]) :: (24, .lload_n 2, []) :: (25, .goto 4, [29, 1]) :: []
def p_X0_plusc_17 : List (List (Nat × Nat)) := [] :: [] :: [] :: [] :: [] :: []
def b_X0_plusc_16 : List zE := (16, .iconst 0, [0]) :: (17, .nop, []) :: []
def p_X0_plusc_16 : List (List (Nat × Nat)) := [] :: [] :: []
def b_X0_plusc_0 : List zE := (0, .lload_n 0, []) :: (1, .invokestatic 32, [0, 1]) :: (4, .lload_n 2, []) :: (5, .invokestatic 32, [0, 1]) :: (8, .lcmp, []) :: (9, .ifCond .ge 7, [16, 0]) :: (12, .iconst 1, [1]) :: (13, .goto 4, [17, 1]) :: []
def p_X0_plusc_0 : List (List (Nat × Nat)) := [] :: [(2, 178)] :: [] :: [(2, 178)] :: [] :: [] :: [] :: [] :: []
def bl_X0_plusc : List (Nat × List zE) := [(0, b_X0_plusc_0), (16, b_X0_plusc_16), (17, b_X0_plusc_17), (28, b_X0_plusc_28), (29, b_X0_plusc_29), (40, b_X0_plusc_40), (41, b_X0_plusc_41), (57, b_X0_plusc_57), (101, b_X0_plusc_101), (106, b_X0_plusc_106), (126, b_X0_plusc_126), (130, b_X0_plusc_130), (145, b_X0_plusc_145), (146, b_X0_plusc_146), (164, b_X0_plusc_164), (179, b_X0_plusc_179), (184, b_X0_plusc_184), (197, b_X0_plusc_197), (208, b_X0_plusc_208), (209, b_X0_plusc_209), (225, b_X0_plusc_225)]
def pl_X0_plusc : List (List (List (Nat × Nat))) := [p_X0_plusc_0, p_X0_plusc_16, p_X0_plusc_17, p_X0_plusc_28, p_X0_plusc_29, p_X0_plusc_40, p_X0_plusc_41, p_X0_plusc_57, p_X0_plusc_101, p_X0_plusc_106, p_X0_plusc_126, p_X0_plusc_130, p_X0_plusc_145, p_X0_plusc_146, p_X0_plusc_164, p_X0_plusc_179, p_X0_plusc_184, p_X0_plusc_197, p_X0_plusc_208, p_X0_plusc_209, p_X0_plusc_225]
theorem k_X0_plusc_0 : zlk 0 bl_X0_plusc = b_X0_plusc_0 := rfl
theorem k_X0_plusc_16 : zlk 16 bl_X0_plusc = b_X0_plusc_16 := rfl
theorem k_X0_plusc_17 : zlk 17 bl_X0_plusc = b_X0_plusc_17 := rfl
theorem k_X0_plusc_28 : zlk 28 bl_X0_plusc = b_X0_plusc_28 := rfl
theorem k_X0_plusc_29 : zlk 29 bl_X0_plusc = b_X0_plusc_29 := rfl
theorem k_X0_plusc_40 : zlk 40 bl_X0_plusc = b_X0_plusc_40 := rfl
theorem k_X0_plusc_41 : zlk 41 bl_X0_plusc = b_X0_plusc_41 := rfl
theorem k_X0_plusc_57 : zlk 57 bl_X0_plusc = b_X0_plusc_57 := rfl
theorem k_X0_plusc_101 : zlk 101 bl_X0_plusc = b_X0_plusc_101 := rfl
theorem k_X0_plusc_106 : zlk 106 bl_X0_plusc = b_X0_plusc_106 := rfl
theorem k_X0_plusc_126 : zlk 126 bl_X0_plusc = b_X0_plusc_126 := rfl
theorem k_X0_plusc_130 : zlk 130 bl_X0_plusc = b_X0_plusc_130 := rfl
theorem k_X0_plusc_145 : zlk 145 bl_X0_plusc = b_X0_plusc_145 := rfl
theorem k_X0_plusc_146 : zlk 146 bl_X0_plusc = b_X0_plusc_146 := rfl
theorem k_X0_plusc_164 : zlk 164 bl_X0_plusc = b_X0_plusc_164 := rfl
theorem k_X0_plusc_179 : zlk 179 bl_X0_plusc = b_X0_plusc_179 := rfl
theorem k_X0_plusc_184 : zlk 184 bl_X0_plusc = b_X0_plusc_184 := rfl
theorem k_X0_plusc_197 : zlk 197 bl_X0_plusc = b_X0_plusc_197 := rfl
theorem k_X0_plusc_208 : zlk 208 bl_X0_plusc = b_X0_plusc_208 := rfl
theorem k_X0_plusc_209 : zlk 209 bl_X0_plusc = b_X0_plusc_209 := rfl
theorem k_X0_plusc_225 : zlk 225 bl_X0_plusc = b_X0_plusc_225 := rfl
set_option maxRecDepth 100000 in
theorem ck_X0_plusc : zall q_X0_plus.2.2.2.2.1 q_X0_plus.2.1 0 false q_X0_plus.2.2.1 cal_X0_plus q_X0_plus.2.2.2.1 bl_X0_plusc pl_X0_plusc = true := by decide +kernel
def b_X0_fusedc_426 : List zE := (426, .iload 20, []) :: (428, .bipush 64, [64]) :: (430, .iadd, []) :: (431, .iload 22, []) :: (433, .isub, []) :: (434, .iconst 0, [0]) :: (435, .invokestatic 44, [6, 5]) :: (438, .lreturn, []) :: []
def p_X0_fusedc_426 : List (List (Nat × Nat)) := [] :: [] :: [] :: [] :: [] :: [] :: [(2, 214)] :: [] :: []
def b_X0_fusedc_425 : List zE := (425, .iconst 0, [0]) :: (426, .nop, []) :: []
def p_X0_fusedc_425 : List (List (Nat × Nat)) := [] :: [] :: []
def b_X0_fusedc_409 : List zE := (409, .lload 23, []) :: (411, .lload 14, []) :: (413, .iload 22, []) :: (415, .lshl, []) :: (416, .lconst 0, [0]) :: (417, .lcmp, []) :: (418, .ifCond .eq 7, [425, 0]) :: (421, .iconst 1, [1]) :: (422, .goto 4, [426, 1]) :: []
def p_X0_fusedc_409 : List (List (Nat × Nat)) := [] :: [] :: [] :: [] :: [] :: [] :: [] :: [] :: [] :: []
def b_X0_fusedc_408 : List zE := (408, .iconst 0, [0]) :: (409, .nop, []) :: []
def p_X0_fusedc_408 : List (List (Nat × Nat)) := [] :: [] :: []
def b_X0_fusedc_395 : List zE := (395, .lstore 23, []) :: (397, .lload 6, []) :: (399, .lconst 0, [0]) :: (400, .lcmp, []) :: (401, .ifCond .ge 7, [408, 0]) :: (404, .iconst 1, [1]) :: (405, .goto 4, [409, 1]) :: []
def p_X0_fusedc_395 : List (List (Nat × Nat)) := [] :: [] :: [] :: [] :: [] :: [] :: [] :: []
def b_X0_fusedc_381 : List zE := (381, .lload 12, []) :: (383, .iload 22, []) :: (385, .lshl, []) :: (386, .lload 14, []) :: (388, .bipush 64, [64]) :: (390, .iload 22, []) :: (392, .isub, []) :: (393, .lushr, []) :: (394, .lor, []) :: (395, .nop, []) :: []
def p_X0_fusedc_381 : List (List (Nat × Nat)) := [] :: [] :: [] :: [] :: [] :: [] :: [] :: [] :: [] :: [] :: []
def b_X0_fusedc_361 : List zE := (361, .bipush 63, [63]) :: (363, .lload 12, []) :: (365, .invokestatic 17, [7, 1]) :: (368, .isub, []) :: (369, .istore 22, []) :: (371, .iload 22, []) :: (373, .ifCond .ne 8, [381, 0]) :: (376, .lload 12, []) :: (378, .goto 17, [395, 1]) :: []
def p_X0_fusedc_361 : List (List (Nat × Nat)) := [] :: [] :: [(2, 186)] :: [] :: [] :: [] :: [] :: [] :: [] :: []
def b_X0_fusedc_360 : List zE := (360, .lreturn, []) :: []
def p_X0_fusedc_360 : List (List (Nat × Nat)) := [] :: []
def b_X0_fusedc_351 : List zE := (351, .lload 14, []) :: (353, .iconst 0, [0]) :: (354, .iload 20, []) :: (356, .iconst 0, [0]) :: (357, .invokestatic 44, [6, 5]) :: (360, .nop, [0]) :: []
def p_X0_fusedc_351 : List (List (Nat × Nat)) := [] :: [] :: [] :: [] :: [(2, 214)] :: [] :: []
def b_X0_fusedc_350 : List zE := (350, .iconst 0, [0]) :: (351, .nop, []) :: []
def p_X0_fusedc_350 : List (List (Nat × Nat)) := [] :: [] :: []
def b_X0_fusedc_339 : List zE := (339, .lload 6, []) :: (341, .lconst 0, [0]) :: (342, .lcmp, []) :: (343, .ifCond .ge 7, [350, 0]) :: (346, .iconst 1, [1]) :: (347, .goto 4, [351, 1]) :: []
def p_X0_fusedc_339 : List (List (Nat × Nat)) := [] :: [] :: [] :: [] :: [] :: [] :: []
def b_X0_fusedc_314 : List zE := (314, .lload 12, []) :: (316, .lconst 0, [0]) :: (317, .lcmp, []) :: (318, .ifCond .ne 43, [361, 1]) :: (321, .lload 14, []) :: (323, .lconst 0, [0]) :: (324, .lcmp, []) :: (325, .ifCond .lt 36, [361, 1]) :: (328, .lload 14, []) :: (330, .lconst 0, [0]) :: (331, .lcmp, []) :: (332, .ifCond .ne 7, [339, 0]) :: (335, .lconst 0, [0]) :: (336, .goto 24, [360, 0]) :: []
def p_X0_fusedc_314 : List (List (Nat × Nat)) := [] :: [] :: [] :: [] :: [] :: [] :: [] :: [] :: [] :: [] :: [] :: [] :: [] :: [] :: []
def b_X0_fusedc_302 : List zE := (302, .i2l, []) :: (303, .ladd, []) :: (304, .lstore 12, []) :: (306, .lload 6, []) :: (308, .ldc2_w 15, [9223372036854775808]) :: (311, .lxor, []) :: (312, .lstore 6, []) :: (314, .nop, []) :: []
def p_X0_fusedc_302 : List (List (Nat × Nat)) := [] :: [] :: [] :: [] :: [(2, 155)] :: [] :: [] :: [] :: []
def b_X0_fusedc_301 : List zE := (301, .iconst 0, [0]) :: (302, .nop, []) :: []
def p_X0_fusedc_301 : List (List (Nat × Nat)) := [] :: [] :: []
def b_X0_fusedc_272 : List zE := (272, .lload 12, []) :: (274, .lconst 0, [0]) :: (275, .lcmp, []) :: (276, .ifCond .ge 38, [314, 1]) :: (279, .lload 14, []) :: (281, .lneg, []) :: (282, .lstore 14, []) :: (284, .lload 12, []) :: (286, .ldc2_w 72, [18446744073709551615]) :: (289, .lxor, []) :: (290, .lload 14, []) :: (292, .lconst 0, [0]) :: (293, .lcmp, []) :: (294, .ifCond .ne 7, [301, 0]) :: (297, .iconst 1, [1]) :: (298, .goto 4, [302, 1]) :: []
def p_X0_fusedc_272 : List (List (Nat × Nat)) := [] :: [] :: [] :: [] :: [] :: [] :: [] :: [] :: [(3, 10)] :: [] :: [] :: [] :: [] :: [] :: [] :: [] :: []
def b_X0_fusedc_260 : List zE := (260, .i2l, []) :: (261, .ladd, []) :: (262, .lsub, []) :: (263, .lstore 12, []) :: (265, .lload 14, []) :: (267, .lload 18, []) :: (269, .lsub, []) :: (270, .lstore 14, []) :: (272, .nop, []) :: []
def p_X0_fusedc_260 : List (List (Nat × Nat)) := [] :: [] :: [] :: [] :: [] :: [] :: [] :: [] :: [] :: []
def b_X0_fusedc_259 : List zE := (259, .iconst 0, [0]) :: (260, .nop, []) :: []
def p_X0_fusedc_259 : List (List (Nat × Nat)) := [] :: [] :: []
def b_X0_fusedc_241 : List zE := (241, .lload 12, []) :: (243, .lload 16, []) :: (245, .lload 14, []) :: (247, .lload 18, []) :: (249, .invokestatic 68, [5, 2]) :: (252, .ifCond .eq 7, [259, 0]) :: (255, .iconst 1, [1]) :: (256, .goto 4, [260, 1]) :: []
def p_X0_fusedc_241 : List (List (Nat × Nat)) := [] :: [] :: [] :: [] :: [(3, 7)] :: [] :: [] :: [] :: []
def b_X0_fusedc_233 : List zE := (233, .i2l, []) :: (234, .ladd, []) :: (235, .ladd, []) :: (236, .lstore 12, []) :: (238, .goto 34, [272, 1]) :: []
def p_X0_fusedc_233 : List (List (Nat × Nat)) := [] :: [] :: [] :: [] :: [] :: []
def b_X0_fusedc_232 : List zE := (232, .iconst 0, [0]) :: (233, .nop, []) :: []
def p_X0_fusedc_232 : List (List (Nat × Nat)) := [] :: [] :: []
def b_X0_fusedc_197 : List zE := (197, .lload 6, []) :: (199, .lload 4, []) :: (201, .lxor, []) :: (202, .lconst 0, [0]) :: (203, .lcmp, []) :: (204, .ifCond .lt 37, [241, 0]) :: (207, .lload 14, []) :: (209, .lload 18, []) :: (211, .ladd, []) :: (212, .lstore 14, []) :: (214, .lload 12, []) :: (216, .lload 16, []) :: (218, .lload 14, []) :: (220, .lload 18, []) :: (222, .invokestatic 68, [5, 2]) :: (225, .ifCond .eq 7, [232, 0]) :: (228, .iconst 1, [1]) :: (229, .goto 4, [233, 1]) :: []
def p_X0_fusedc_197 : List (List (Nat × Nat)) := [] :: [] :: [] :: [] :: [] :: [] :: [] :: [] :: [] :: [] :: [] :: [] :: [] :: [] :: [(3, 7)] :: [] :: [] :: [] :: []
def b_X0_fusedc_188 : List zE := (188, .lstore 12, []) :: (190, .iload 20, []) :: (192, .iload 21, []) :: (194, .isub, []) :: (195, .istore 20, []) :: (197, .nop, []) :: []
def p_X0_fusedc_188 : List (List (Nat × Nat)) := [] :: [] :: [] :: [] :: [] :: [] :: []
def b_X0_fusedc_182 : List zE := (182, .lload 12, []) :: (184, .iload 21, []) :: (186, .ineg, []) :: (187, .lushr, []) :: (188, .nop, []) :: []
def p_X0_fusedc_182 : List (List (Nat × Nat)) := [] :: [] :: [] :: [] :: [] :: []
def b_X0_fusedc_158 : List zE := (158, .lload 12, []) :: (160, .lload 14, []) :: (162, .iload 21, []) :: (164, .ineg, []) :: (165, .invokestatic 64, [4, 3]) :: (168, .lstore 14, []) :: (170, .iload 21, []) :: (172, .ineg, []) :: (173, .bipush 63, [63]) :: (175, .if_icmp .le 7, [182, 0]) :: (178, .lconst 0, [0]) :: (179, .goto 9, [188, 1]) :: []
def p_X0_fusedc_158 : List (List (Nat × Nat)) := [] :: [] :: [] :: [] :: [(3, 4)] :: [] :: [] :: [] :: [] :: [] :: [] :: [] :: []
def b_X0_fusedc_153 : List zE := (153, .lstore 16, []) :: (155, .goto 42, [197, 1]) :: []
def p_X0_fusedc_153 : List (List (Nat × Nat)) := [] :: [] :: []
def b_X0_fusedc_148 : List zE := (148, .lload 16, []) :: (150, .iload 21, []) :: (152, .lushr, []) :: (153, .nop, []) :: []
def p_X0_fusedc_148 : List (List (Nat × Nat)) := [] :: [] :: [] :: [] :: []
def b_X0_fusedc_48 : List zE := (48, .lload_n 0, []) :: (49, .invokestatic 50, [1, 1]) :: (52, .bipush 10, [10]) :: (54, .lshl, []) :: (55, .lstore 8, []) :: (57, .lload_n 2, []) :: (58, .invokestatic 50, [1, 1]) :: (61, .bipush 10, [10]) :: (63, .lshl, []) :: (64, .lstore 10, []) :: (66, .lload 8, []) :: (68, .lload 10, []) :: (70, .invokestatic 56, [2, 2]) :: (73, .lstore 12, []) :: (75, .lload 8, []) :: (77, .lload 10, []) :: (79, .lmul, []) :: (80, .lstore 14, []) :: (82, .lload 4, []) :: (84, .invokestatic 50, [1, 1]) :: (87, .bipush 9, [9]) :: (89, .lshl, []) :: (90, .lstore 16, []) :: (92, .lconst 0, [0]) :: (93, .lstore 18, []) :: (95, .lload_n 0, []) :: (96, .invokestatic 53, [3, 1]) :: (99, .lload_n 2, []) :: (100, .invokestatic 53, [3, 1]) :: (103, .iadd, []) :: (104, .bipush 20, [20]) :: (106, .isub, []) :: (107, .istore 20, []) :: (109, .iload 20, []) :: (111, .lload 4, []) :: (113, .invokestatic 53, [3, 1]) :: (116, .bipush 73, [73]) :: (118, .isub, []) :: (119, .isub, []) :: (120, .istore 21, []) :: (122, .iload 21, []) :: (124, .ifCond .lt 34, [158, 0]) :: (127, .lload 16, []) :: (129, .lconst 0, [0]) :: (130, .iload 21, []) :: (132, .invokestatic 64, [4, 3]) :: (135, .lstore 18, []) :: (137, .iload 21, []) :: (139, .bipush 63, [63]) :: (141, .if_icmp .le 7, [148, 0]) :: (144, .lconst 0, [0]) :: (145, .goto 8, [153, 1]) :: []
def p_X0_fusedc_48 : List (List (Nat × Nat)) := [] :: [(2, 234)] :: [] :: [] :: [] :: [] :: [(2, 234)] :: [] :: [] :: [] :: [] :: [] :: [(2, 237)] :: [] :: [] :: [] :: [] :: [] :: [] :: [(2, 234)] :: [] :: [] :: [] :: [] :: [] :: [] :: [(3, 1)] :: [] :: [(3, 1)] :: [] :: [] :: [] :: [] :: [] :: [] :: [(3, 1)] :: [] :: [] :: [] :: [] :: [] :: [] :: [] :: [] :: [] :: [(3, 4)] :: [] :: [] :: [] :: [] :: [] :: [] :: []
def b_X0_fusedc_47 : List zE := (47, .lreturn, []) :: []
def p_X0_fusedc_47 : List (List (Nat × Nat)) := [] :: []
def b_X0_fusedc_45 : List zE := (45, .lload 4, []) :: (47, .nop, [0]) :: []
def p_X0_fusedc_45 : List (List (Nat × Nat)) := [] :: [] :: []
def b_X0_fusedc_27 : List zE := (27, .lload 4, []) :: (29, .invokestatic 32, [0, 1]) :: (32, .lconst 0, [0]) :: (33, .lcmp, []) :: (34, .ifCond .ne 11, [45, 0]) :: (37, .lload 6, []) :: (39, .lload 4, []) :: (41, .land, []) :: (42, .goto 5, [47, 0]) :: []
def p_X0_fusedc_27 : List (List (Nat × Nat)) := [] :: [(2, 178)] :: [] :: [] :: [] :: [] :: [] :: [] :: [] :: []
def b_X0_fusedc_0 : List zE := (0, .lload_n 0, []) :: (1, .lload_n 2, []) :: (2, .lxor, []) :: (3, .ldc2_w 15, [9223372036854775808]) :: (6, .land, []) :: (7, .lstore 6, []) :: (9, .lload_n 0, []) :: (10, .invokestatic 32, [0, 1]) :: (13, .lconst 0, [0]) :: (14, .lcmp, []) :: (15, .ifCond .eq 12, [27, 0]) :: (18, .lload_n 2, []) :: (19, .invokestatic 32, [0, 1]) :: (22, .lconst 0, [0]) :: (23, .lcmp, []) :: (24, .ifCond .ne 24, [48, 0]) :: (27, .nop, [0]) :: []
def p_X0_fusedc_0 : List (List (Nat × Nat)) := [] :: [] :: [] :: [(2, 155)] :: [] :: [] :: [] :: [(2, 178)] :: [] :: [] :: [] :: [] :: [(2, 178)] :: [] :: [] :: [] :: [] :: []
def bl_X0_fusedc : List (Nat × List zE) := [(0, b_X0_fusedc_0), (27, b_X0_fusedc_27), (45, b_X0_fusedc_45), (47, b_X0_fusedc_47), (48, b_X0_fusedc_48), (148, b_X0_fusedc_148), (153, b_X0_fusedc_153), (158, b_X0_fusedc_158), (182, b_X0_fusedc_182), (188, b_X0_fusedc_188), (197, b_X0_fusedc_197), (232, b_X0_fusedc_232), (233, b_X0_fusedc_233), (241, b_X0_fusedc_241), (259, b_X0_fusedc_259), (260, b_X0_fusedc_260), (272, b_X0_fusedc_272), (301, b_X0_fusedc_301), (302, b_X0_fusedc_302), (314, b_X0_fusedc_314), (339, b_X0_fusedc_339), (350, b_X0_fusedc_350), (351, b_X0_fusedc_351), (360, b_X0_fusedc_360), (361, b_X0_fusedc_361), (381, b_X0_fusedc_381), (395, b_X0_fusedc_395), (408, b_X0_fusedc_408), (409, b_X0_fusedc_409), (425, b_X0_fusedc_425), (426, b_X0_fusedc_426)]
def pl_X0_fusedc : List (List (List (Nat × Nat))) := [p_X0_fusedc_0, p_X0_fusedc_27, p_X0_fusedc_45, p_X0_fusedc_47, p_X0_fusedc_48, p_X0_fusedc_148, p_X0_fusedc_153, p_X0_fusedc_158, p_X0_fusedc_182, p_X0_fusedc_188, p_X0_fusedc_197, p_X0_fusedc_232, p_X0_fusedc_233, p_X0_fusedc_241, p_X0_fusedc_259, p_X0_fusedc_260, p_X0_fusedc_272, p_X0_fusedc_301, p_X0_fusedc_302, p_X0_fusedc_314, p_X0_fusedc_339, p_X0_fusedc_350, p_X0_fusedc_351, p_X0_fusedc_360, p_X0_fusedc_361, p_X0_fusedc_381, p_X0_fusedc_395, p_X0_fusedc_408, p_X0_fusedc_409, p_X0_fusedc_425, p_X0_fusedc_426]
theorem k_X0_fusedc_0 : zlk 0 bl_X0_fusedc = b_X0_fusedc_0 := rfl
theorem k_X0_fusedc_27 : zlk 27 bl_X0_fusedc = b_X0_fusedc_27 := rfl
theorem k_X0_fusedc_45 : zlk 45 bl_X0_fusedc = b_X0_fusedc_45 := rfl
theorem k_X0_fusedc_47 : zlk 47 bl_X0_fusedc = b_X0_fusedc_47 := rfl
theorem k_X0_fusedc_48 : zlk 48 bl_X0_fusedc = b_X0_fusedc_48 := rfl
theorem k_X0_fusedc_148 : zlk 148 bl_X0_fusedc = b_X0_fusedc_148 := rfl
theorem k_X0_fusedc_153 : zlk 153 bl_X0_fusedc = b_X0_fusedc_153 := rfl
theorem k_X0_fusedc_158 : zlk 158 bl_X0_fusedc = b_X0_fusedc_158 := rfl
theorem k_X0_fusedc_182 : zlk 182 bl_X0_fusedc = b_X0_fusedc_182 := rfl
theorem k_X0_fusedc_188 : zlk 188 bl_X0_fusedc = b_X0_fusedc_188 := rfl
theorem k_X0_fusedc_197 : zlk 197 bl_X0_fusedc = b_X0_fusedc_197 := rfl
theorem k_X0_fusedc_232 : zlk 232 bl_X0_fusedc = b_X0_fusedc_232 := rfl
theorem k_X0_fusedc_233 : zlk 233 bl_X0_fusedc = b_X0_fusedc_233 := rfl
theorem k_X0_fusedc_241 : zlk 241 bl_X0_fusedc = b_X0_fusedc_241 := rfl
theorem k_X0_fusedc_259 : zlk 259 bl_X0_fusedc = b_X0_fusedc_259 := rfl
theorem k_X0_fusedc_260 : zlk 260 bl_X0_fusedc = b_X0_fusedc_260 := rfl
theorem k_X0_fusedc_272 : zlk 272 bl_X0_fusedc = b_X0_fusedc_272 := rfl
theorem k_X0_fusedc_301 : zlk 301 bl_X0_fusedc = b_X0_fusedc_301 := rfl
theorem k_X0_fusedc_302 : zlk 302 bl_X0_fusedc = b_X0_fusedc_302 := rfl
theorem k_X0_fusedc_314 : zlk 314 bl_X0_fusedc = b_X0_fusedc_314 := rfl
theorem k_X0_fusedc_339 : zlk 339 bl_X0_fusedc = b_X0_fusedc_339 := rfl
theorem k_X0_fusedc_350 : zlk 350 bl_X0_fusedc = b_X0_fusedc_350 := rfl
theorem k_X0_fusedc_351 : zlk 351 bl_X0_fusedc = b_X0_fusedc_351 := rfl
theorem k_X0_fusedc_360 : zlk 360 bl_X0_fusedc = b_X0_fusedc_360 := rfl
theorem k_X0_fusedc_361 : zlk 361 bl_X0_fusedc = b_X0_fusedc_361 := rfl
theorem k_X0_fusedc_381 : zlk 381 bl_X0_fusedc = b_X0_fusedc_381 := rfl
theorem k_X0_fusedc_395 : zlk 395 bl_X0_fusedc = b_X0_fusedc_395 := rfl
theorem k_X0_fusedc_408 : zlk 408 bl_X0_fusedc = b_X0_fusedc_408 := rfl
theorem k_X0_fusedc_409 : zlk 409 bl_X0_fusedc = b_X0_fusedc_409 := rfl
theorem k_X0_fusedc_425 : zlk 425 bl_X0_fusedc = b_X0_fusedc_425 := rfl
theorem k_X0_fusedc_426 : zlk 426 bl_X0_fusedc = b_X0_fusedc_426 := rfl
set_option maxRecDepth 100000 in
theorem ck_X0_fusedc : zall q_X0_fused.2.2.2.2.1 q_X0_fused.2.1 0 false q_X0_fused.2.2.1 cal_X0_fused q_X0_fused.2.2.2.1 bl_X0_fusedc pl_X0_fusedc = true := by decide +kernel
def b_X7_toDoublec_236 : List zE := (236, .lload 10, []) :: (238, .iload 12, []) :: (240, .bipush 32, [32]) :: (242, .iload_n 2, []) :: (243, .imul, []) :: (244, .iload_n 3, []) :: (245, .iadd, []) :: (246, .bipush 62, [62]) :: (248, .isub, []) :: (249, .sipush (-2176), [4294965120]) :: (252, .iadd, []) :: (253, .iload_n 1, []) :: (254, .invokestatic 66, [1, 5]) :: (257, .lreturn, []) :: []
def p_X7_toDoublec_236 : List (List (Nat × Nat)) := [] :: [] :: [] :: [] :: [] :: [] :: [] :: [] :: [] :: [] :: [] :: [] :: [(4, 24)] :: [] :: []
def b_X7_toDoublec_235 : List zE := (235, .iconst 0, [0]) :: (236, .nop, []) :: []
def p_X7_toDoublec_235 : List (List (Nat × Nat)) := [] :: [] :: []
def b_X7_toDoublec_220 : List zE := (220, .aload_n 0, []) :: (221, .getfield 20, [7, 3]) :: (224, .ifCond .eq 11, [235, 0]) :: (227, .iload_n 1, []) :: (228, .ifCond .ne 7, [235, 0]) :: (231, .iconst 1, [1]) :: (232, .goto 4, [236, 1]) :: []
def p_X7_toDoublec_220 : List (List (Nat × Nat)) := [] :: [(1, 44)] :: [] :: [] :: [] :: [] :: [] :: []
def b_X7_toDoublec_212 : List zE := (212, .istore 12, []) :: (214, .iinc 13 (-1), [4294967295]) :: (217, .goto (-36), [181, 1]) :: []
def p_X7_toDoublec_212 : List (List (Nat × Nat)) := [] :: [] :: [] :: []
def b_X7_toDoublec_211 : List zE := (211, .iconst 0, [0]) :: (212, .nop, []) :: []
def p_X7_toDoublec_211 : List (List (Nat × Nat)) := [] :: [] :: []
def b_X7_toDoublec_181 : List zE := (181, .iload 13, []) :: (183, .aload_n 0, []) :: (184, .getfield 13, [7, 1]) :: (187, .if_icmp .lt 33, [220, 0]) :: (190, .iload 12, []) :: (192, .ifCond .ne 28, [220, 0]) :: (195, .aload_n 0, []) :: (196, .getfield 9, [7, 0]) :: (199, .iload 13, []) :: (201, .laload, []) :: (202, .lconst 0, [0]) :: (203, .lcmp, []) :: (204, .ifCond .eq 7, [211, 0]) :: (207, .iconst 1, [1]) :: (208, .goto 4, [212, 1]) :: []
def p_X7_toDoublec_181 : List (List (Nat × Nat)) := [] :: [] :: [(1, 42)] :: [] :: [] :: [] :: [] :: [(1, 41)] :: [] :: [] :: [] :: [] :: [] :: [] :: [] :: []
def b_X7_toDoublec_176 : List zE := (176, .iload_n 2, []) :: (177, .iconst 3, [3]) :: (178, .isub, []) :: (179, .istore 13, []) :: (181, .nop, []) :: []
def p_X7_toDoublec_176 : List (List (Nat × Nat)) := [] :: [] :: [] :: [] :: [] :: []
def b_X7_toDoublec_174 : List zE := (174, .istore 12, []) :: (176, .nop, []) :: []
def p_X7_toDoublec_174 : List (List (Nat × Nat)) := [] :: [] :: []
def b_X7_toDoublec_173 : List zE := (173, .iconst 0, [0]) :: (174, .nop, [0]) :: []
def p_X7_toDoublec_173 : List (List (Nat × Nat)) := [] :: [] :: []
def b_X7_toDoublec_138 : List zE := (138, .lload 8, []) :: (140, .bipush 30, [30]) :: (142, .iload_n 3, []) :: (143, .isub, []) :: (144, .lshl, []) :: (145, .lload 6, []) :: (147, .iload_n 3, []) :: (148, .iconst 2, [2]) :: (149, .iadd, []) :: (150, .lushr, []) :: (151, .lor, []) :: (152, .lstore 10, []) :: (154, .lload 6, []) :: (156, .lconst 1, [1]) :: (157, .iload_n 3, []) :: (158, .iconst 2, [2]) :: (159, .iadd, []) :: (160, .lshl, []) :: (161, .lconst 1, [1]) :: (162, .lsub, []) :: (163, .land, []) :: (164, .lconst 0, [0]) :: (165, .lcmp, []) :: (166, .ifCond .eq 7, [173, 0]) :: (169, .iconst 1, [1]) :: (170, .goto 4, [174, 0]) :: []
def p_X7_toDoublec_138 : List (List (Nat × Nat)) := [] :: [] :: [] :: [] :: [] :: [] :: [] :: [] :: [] :: [] :: [] :: [] :: [] :: [] :: [] :: [] :: [] :: [] :: [] :: [] :: [] :: [] :: [] :: [] :: [] :: [] :: []
def b_X7_toDoublec_133 : List zE := (133, .istore 12, []) :: (135, .goto 41, [176, 1]) :: []
def p_X7_toDoublec_133 : List (List (Nat × Nat)) := [] :: [] :: []
def b_X7_toDoublec_132 : List zE := (132, .iconst 0, [0]) :: (133, .nop, []) :: []
def p_X7_toDoublec_132 : List (List (Nat × Nat)) := [] :: [] :: []
def b_X7_toDoublec_128 : List zE := (128, .iconst 1, [1]) :: (129, .goto 4, [133, 1]) :: []
def p_X7_toDoublec_128 : List (List (Nat × Nat)) := [] :: [] :: []
def b_X7_toDoublec_77 : List zE := (77, .lstore 6, []) :: (79, .aload_n 0, []) :: (80, .getfield 9, [7, 0]) :: (83, .iload_n 2, []) :: (84, .laload, []) :: (85, .bipush 32, [32]) :: (87, .lshl, []) :: (88, .lload 4, []) :: (90, .lor, []) :: (91, .lstore 8, []) :: (93, .iload_n 3, []) :: (94, .bipush 30, [30]) :: (96, .if_icmp .le 42, [138, 0]) :: (99, .lload 8, []) :: (101, .iload_n 3, []) :: (102, .bipush 30, [30]) :: (104, .isub, []) :: (105, .lushr, []) :: (106, .lstore 10, []) :: (108, .lload 10, []) :: (110, .iload_n 3, []) :: (111, .bipush 30, [30]) :: (113, .isub, []) :: (114, .lshl, []) :: (115, .lload 8, []) :: (117, .lcmp, []) :: (118, .ifCond .ne 10, [128, 0]) :: (121, .lload 6, []) :: (123, .lconst 0, [0]) :: (124, .lcmp, []) :: (125, .ifCond .eq 7, [132, 0]) :: (128, .nop, [0]) :: []
def p_X7_toDoublec_77 : List (List (Nat × Nat)) := [] :: [] :: [(1, 41)] :: [] :: [] :: [] :: [] :: [] :: [] :: [] :: [] :: [] :: [] :: [] :: [] :: [] :: [] :: [] :: [] :: [] :: [] :: [] :: [] :: [] :: [] :: [] :: [] :: [] :: [] :: [] :: [] :: [] :: []
def b_X7_toDoublec_76 : List zE := (76, .lconst 0, [0]) :: (77, .nop, []) :: []
def p_X7_toDoublec_76 : List (List (Nat × Nat)) := [] :: [] :: []
def b_X7_toDoublec_58 : List zE := (58, .lstore 4, []) :: (60, .iload_n 2, []) :: (61, .iconst 1, [1]) :: (62, .if_icmp .le 14, [76, 0]) :: (65, .aload_n 0, []) :: (66, .getfield 9, [7, 0]) :: (69, .iload_n 2, []) :: (70, .iconst 2, [2]) :: (71, .isub, []) :: (72, .laload, []) :: (73, .goto 4, [77, 1]) :: []
def p_X7_toDoublec_58 : List (List (Nat × Nat)) := [] :: [] :: [] :: [] :: [] :: [(1, 41)] :: [] :: [] :: [] :: [] :: [] :: []
def b_X7_toDoublec_57 : List zE := (57, .lconst 0, [0]) :: (58, .nop, []) :: []
def p_X7_toDoublec_57 : List (List (Nat × Nat)) := [] :: [] :: []
def b_X7_toDoublec_32 : List zE := (32, .aload_n 0, []) :: (33, .getfield 9, [7, 0]) :: (36, .iload_n 2, []) :: (37, .laload, []) :: (38, .invokestatic 63, [0, 1]) :: (41, .istore_n 3, []) :: (42, .iload_n 2, []) :: (43, .ifCond .le 14, [57, 0]) :: (46, .aload_n 0, []) :: (47, .getfield 9, [7, 0]) :: (50, .iload_n 2, []) :: (51, .iconst 1, [1]) :: (52, .isub, []) :: (53, .laload, []) :: (54, .goto 4, [58, 1]) :: []
def p_X7_toDoublec_32 : List (List (Nat × Nat)) := [] :: [(1, 41)] :: [] :: [] :: [(4, 23)] :: [] :: [] :: [] :: [] :: [(1, 41)] :: [] :: [] :: [] :: [] :: [] :: []
def b_X7_toDoublec_26 : List zE := (26, .iload_n 2, []) :: (27, .ifCond .ge 5, [32, 0]) :: (30, .lconst 0, [0]) :: (31, .lreturn, []) :: []
def p_X7_toDoublec_26 : List (List (Nat × Nat)) := [] :: [] :: [] :: [] :: []
def b_X7_toDoublec_5 : List zE := (5, .iload_n 2, []) :: (6, .ifCond .lt 20, [26, 0]) :: (9, .aload_n 0, []) :: (10, .getfield 9, [7, 0]) :: (13, .iload_n 2, []) :: (14, .laload, []) :: (15, .lconst 0, [0]) :: (16, .lcmp, []) :: (17, .ifCond .ne 9, [26, 0]) :: (20, .iinc 2 (-1), [4294967295]) :: (23, .goto (-18), [5, 1]) :: []
def p_X7_toDoublec_5 : List (List (Nat × Nat)) := [] :: [] :: [] :: [(1, 41)] :: [] :: [] :: [] :: [] :: [] :: [] :: [] :: []
def b_X7_toDoublec_0 : List zE := (0, .aload_n 0, []) :: (1, .getfield 17, [7, 2]) :: (4, .istore_n 2, []) :: (5, .nop, []) :: []
def p_X7_toDoublec_0 : List (List (Nat × Nat)) := [] :: [(1, 43)] :: [] :: [] :: []
def bl_X7_toDoublec : List (Nat × List zE) := [(0, b_X7_toDoublec_0), (5, b_X7_toDoublec_5), (26, b_X7_toDoublec_26), (32, b_X7_toDoublec_32), (57, b_X7_toDoublec_57), (58, b_X7_toDoublec_58), (76, b_X7_toDoublec_76), (77, b_X7_toDoublec_77), (128, b_X7_toDoublec_128), (132, b_X7_toDoublec_132), (133, b_X7_toDoublec_133), (138, b_X7_toDoublec_138), (173, b_X7_toDoublec_173), (174, b_X7_toDoublec_174), (176, b_X7_toDoublec_176), (181, b_X7_toDoublec_181), (211, b_X7_toDoublec_211), (212, b_X7_toDoublec_212), (220, b_X7_toDoublec_220), (235, b_X7_toDoublec_235), (236, b_X7_toDoublec_236)]
def pl_X7_toDoublec : List (List (List (Nat × Nat))) := [p_X7_toDoublec_0, p_X7_toDoublec_5, p_X7_toDoublec_26, p_X7_toDoublec_32, p_X7_toDoublec_57, p_X7_toDoublec_58, p_X7_toDoublec_76, p_X7_toDoublec_77, p_X7_toDoublec_128, p_X7_toDoublec_132, p_X7_toDoublec_133, p_X7_toDoublec_138, p_X7_toDoublec_173, p_X7_toDoublec_174, p_X7_toDoublec_176, p_X7_toDoublec_181, p_X7_toDoublec_211, p_X7_toDoublec_212, p_X7_toDoublec_220, p_X7_toDoublec_235, p_X7_toDoublec_236]
theorem k_X7_toDoublec_0 : zlk 0 bl_X7_toDoublec = b_X7_toDoublec_0 := rfl
theorem k_X7_toDoublec_5 : zlk 5 bl_X7_toDoublec = b_X7_toDoublec_5 := rfl
theorem k_X7_toDoublec_26 : zlk 26 bl_X7_toDoublec = b_X7_toDoublec_26 := rfl
theorem k_X7_toDoublec_32 : zlk 32 bl_X7_toDoublec = b_X7_toDoublec_32 := rfl
theorem k_X7_toDoublec_57 : zlk 57 bl_X7_toDoublec = b_X7_toDoublec_57 := rfl
theorem k_X7_toDoublec_58 : zlk 58 bl_X7_toDoublec = b_X7_toDoublec_58 := rfl
theorem k_X7_toDoublec_76 : zlk 76 bl_X7_toDoublec = b_X7_toDoublec_76 := rfl
theorem k_X7_toDoublec_77 : zlk 77 bl_X7_toDoublec = b_X7_toDoublec_77 := rfl
theorem k_X7_toDoublec_128 : zlk 128 bl_X7_toDoublec = b_X7_toDoublec_128 := rfl
theorem k_X7_toDoublec_132 : zlk 132 bl_X7_toDoublec = b_X7_toDoublec_132 := rfl
theorem k_X7_toDoublec_133 : zlk 133 bl_X7_toDoublec = b_X7_toDoublec_133 := rfl
theorem k_X7_toDoublec_138 : zlk 138 bl_X7_toDoublec = b_X7_toDoublec_138 := rfl
theorem k_X7_toDoublec_173 : zlk 173 bl_X7_toDoublec = b_X7_toDoublec_173 := rfl
theorem k_X7_toDoublec_174 : zlk 174 bl_X7_toDoublec = b_X7_toDoublec_174 := rfl
theorem k_X7_toDoublec_176 : zlk 176 bl_X7_toDoublec = b_X7_toDoublec_176 := rfl
theorem k_X7_toDoublec_181 : zlk 181 bl_X7_toDoublec = b_X7_toDoublec_181 := rfl
theorem k_X7_toDoublec_211 : zlk 211 bl_X7_toDoublec = b_X7_toDoublec_211 := rfl
theorem k_X7_toDoublec_212 : zlk 212 bl_X7_toDoublec = b_X7_toDoublec_212 := rfl
theorem k_X7_toDoublec_220 : zlk 220 bl_X7_toDoublec = b_X7_toDoublec_220 := rfl
theorem k_X7_toDoublec_235 : zlk 235 bl_X7_toDoublec = b_X7_toDoublec_235 := rfl
theorem k_X7_toDoublec_236 : zlk 236 bl_X7_toDoublec = b_X7_toDoublec_236 := rfl
set_option maxRecDepth 100000 in
theorem ck_X7_toDoublec : zall q_X7_toDouble.2.2.2.2.1 q_X7_toDouble.2.1 7 false q_X7_toDouble.2.2.1 cal_X7_toDouble q_X7_toDouble.2.2.2.1 bl_X7_toDoublec pl_X7_toDoublec = true := by decide +kernel
def b_X11_addc_136 : List zE := (136, .astore 20, []) :: (138, .aload 20, []) :: (140, .lload 14, []) :: (142, .lload 18, []) :: (144, .lmul, []) :: (145, .iload 10, []) :: (147, .invokestatic 191, [3, 3]) :: (150, .aload 20, []) :: (152, .lload 12, []) :: (154, .lload 18, []) :: (156, .lmul, []) :: (157, .lload 14, []) :: (159, .lload 16, []) :: (161, .lmul, []) :: (162, .ladd, []) :: (163, .iload 10, []) :: (165, .bipush 27, [27]) :: (167, .iadd, []) :: (168, .invokestatic 191, [3, 3]) :: (171, .aload 20, []) :: (173, .lload 12, []) :: (175, .lload 16, []) :: (177, .lmul, []) :: (178, .iload 10, []) :: (180, .bipush 54, [54]) :: (182, .iadd, []) :: (183, .invokestatic 191, [3, 3]) :: (186, .return_, []) :: []
def p_X11_addc_136 : List (List (Nat × Nat)) := [] :: [] :: [] :: [] :: [] :: [] :: [(7, 57)] :: [] :: [] :: [] :: [] :: [] :: [] :: [] :: [] :: [] :: [] :: [] :: [(7, 57)] :: [] :: [] :: [] :: [] :: [] :: [] :: [] :: [(7, 57)] :: [] :: []
def b_X11_addc_132 : List zE := (132, .aload_n 0, []) :: (133, .getfield 7, [11, 0]) :: (136, .nop, []) :: []
def p_X11_addc_132 : List (List (Nat × Nat)) := [] :: [(5, 231)] :: [] :: []
def b_X11_addc_88 : List zE := (88, .istore 11, []) :: (90, .lload 6, []) :: (92, .bipush 27, [27]) :: (94, .lshr, []) :: (95, .lstore 12, []) :: (97, .lload 6, []) :: (99, .ldc2_w 189, [134217727]) :: (102, .land, []) :: (103, .lstore 14, []) :: (105, .lload 8, []) :: (107, .bipush 27, [27]) :: (109, .lshr, []) :: (110, .lstore 16, []) :: (112, .lload 8, []) :: (114, .ldc2_w 189, [134217727]) :: (117, .land, []) :: (118, .lstore 18, []) :: (120, .iload 11, []) :: (122, .ifCond .eq 10, [132, 0]) :: (125, .aload_n 0, []) :: (126, .getfield 13, [11, 1]) :: (129, .goto 7, [136, 1]) :: []
def p_X11_addc_88 : List (List (Nat × Nat)) := [] :: [] :: [] :: [] :: [] :: [] :: [(7, 56)] :: [] :: [] :: [] :: [] :: [] :: [] :: [] :: [(7, 56)] :: [] :: [] :: [] :: [] :: [] :: [(5, 232)] :: [] :: []
def b_X11_addc_87 : List zE := (87, .iconst 0, [0]) :: (88, .nop, []) :: []
def p_X11_addc_87 : List (List (Nat × Nat)) := [] :: [] :: []
def b_X11_addc_80 : List zE := (80, .if_icmp .eq 7, [87, 0]) :: (83, .iconst 1, [1]) :: (84, .goto 4, [88, 1]) :: []
def p_X11_addc_80 : List (List (Nat × Nat)) := [] :: [] :: [] :: []
def b_X11_addc_79 : List zE := (79, .iconst 0, [0]) :: (80, .nop, []) :: []
def p_X11_addc_79 : List (List (Nat × Nat)) := [] :: [] :: []
def b_X11_addc_66 : List zE := (66, .dload_n 3, []) :: (67, .invokestatic 158, [2, 1]) :: (70, .lconst 0, [0]) :: (71, .lcmp, []) :: (72, .ifCond .ge 7, [79, 0]) :: (75, .iconst 1, [1]) :: (76, .goto 4, [80, 1]) :: []
def p_X11_addc_66 : List (List (Nat × Nat)) := [] :: [(6, 227)] :: [] :: [] :: [] :: [] :: [] :: []
def b_X11_addc_65 : List zE := (65, .iconst 0, [0]) :: (66, .nop, []) :: []
def p_X11_addc_65 : List (List (Nat × Nat)) := [] :: [] :: []
def b_X11_addc_58 : List zE := (58, .if_icmp .eq 7, [65, 0]) :: (61, .iconst 1, [1]) :: (62, .goto 4, [66, 1]) :: []
def p_X11_addc_58 : List (List (Nat × Nat)) := [] :: [] :: [] :: []
def b_X11_addc_57 : List zE := (57, .iconst 0, [0]) :: (58, .nop, []) :: []
def p_X11_addc_57 : List (List (Nat × Nat)) := [] :: [] :: []
def b_X11_addc_27 : List zE := (27, .dload_n 1, []) :: (28, .invokestatic 173, [1, 1]) :: (31, .dload_n 3, []) :: (32, .invokestatic 173, [1, 1]) :: (35, .iadd, []) :: (36, .sipush 2176, [2176]) :: (39, .iadd, []) :: (40, .istore 10, []) :: (42, .iload 5, []) :: (44, .dload_n 1, []) :: (45, .invokestatic 158, [2, 1]) :: (48, .lconst 0, [0]) :: (49, .lcmp, []) :: (50, .ifCond .ge 7, [57, 0]) :: (53, .iconst 1, [1]) :: (54, .goto 4, [58, 1]) :: []
def p_X11_addc_27 : List (List (Nat × Nat)) := [] :: [(7, 20)] :: [] :: [(7, 20)] :: [] :: [] :: [] :: [] :: [] :: [] :: [(6, 227)] :: [] :: [] :: [] :: [] :: [] :: []
def b_X11_addc_26 : List zE := (26, .return_, []) :: []
def p_X11_addc_26 : List (List (Nat × Nat)) := [] :: []
def b_X11_addc_0 : List zE := (0, .dload_n 1, []) :: (1, .invokestatic 170, [0, 1]) :: (4, .lstore 6, []) :: (6, .dload_n 3, []) :: (7, .invokestatic 170, [0, 1]) :: (10, .lstore 8, []) :: (12, .lload 6, []) :: (14, .lconst 0, [0]) :: (15, .lcmp, []) :: (16, .ifCond .eq 10, [26, 0]) :: (19, .lload 8, []) :: (21, .lconst 0, [0]) :: (22, .lcmp, []) :: (23, .ifCond .ne 4, [27, 0]) :: (26, .nop, [0]) :: []
def p_X11_addc_0 : List (List (Nat × Nat)) := [] :: [(7, 16)] :: [] :: [] :: [(7, 16)] :: [] :: [] :: [] :: [] :: [] :: [] :: [] :: [] :: [] :: [] :: []
def bl_X11_addc : List (Nat × List zE) := [(0, b_X11_addc_0), (26, b_X11_addc_26), (27, b_X11_addc_27), (57, b_X11_addc_57), (58, b_X11_addc_58), (65, b_X11_addc_65), (66, b_X11_addc_66), (79, b_X11_addc_79), (80, b_X11_addc_80), (87, b_X11_addc_87), (88, b_X11_addc_88), (132, b_X11_addc_132), (136, b_X11_addc_136)]
def pl_X11_addc : List (List (List (Nat × Nat))) := [p_X11_addc_0, p_X11_addc_26, p_X11_addc_27, p_X11_addc_57, p_X11_addc_58, p_X11_addc_65, p_X11_addc_66, p_X11_addc_79, p_X11_addc_80, p_X11_addc_87, p_X11_addc_88, p_X11_addc_132, p_X11_addc_136]
theorem k_X11_addc_0 : zlk 0 bl_X11_addc = b_X11_addc_0 := rfl
theorem k_X11_addc_26 : zlk 26 bl_X11_addc = b_X11_addc_26 := rfl
theorem k_X11_addc_27 : zlk 27 bl_X11_addc = b_X11_addc_27 := rfl
theorem k_X11_addc_57 : zlk 57 bl_X11_addc = b_X11_addc_57 := rfl
theorem k_X11_addc_58 : zlk 58 bl_X11_addc = b_X11_addc_58 := rfl
theorem k_X11_addc_65 : zlk 65 bl_X11_addc = b_X11_addc_65 := rfl
theorem k_X11_addc_66 : zlk 66 bl_X11_addc = b_X11_addc_66 := rfl
theorem k_X11_addc_79 : zlk 79 bl_X11_addc = b_X11_addc_79 := rfl
theorem k_X11_addc_80 : zlk 80 bl_X11_addc = b_X11_addc_80 := rfl
theorem k_X11_addc_87 : zlk 87 bl_X11_addc = b_X11_addc_87 := rfl
theorem k_X11_addc_88 : zlk 88 bl_X11_addc = b_X11_addc_88 := rfl
theorem k_X11_addc_132 : zlk 132 bl_X11_addc = b_X11_addc_132 := rfl
theorem k_X11_addc_136 : zlk 136 bl_X11_addc = b_X11_addc_136 := rfl
set_option maxRecDepth 100000 in
theorem ck_X11_addc : zall q_X11_add.2.2.2.2.1 q_X11_add.2.1 11 false q_X11_add.2.2.1 cal_X11_add q_X11_add.2.2.2.1 bl_X11_addc pl_X11_addc = true := by decide +kernel
def b_X11_quotientc_387 : List zE := (387, .lload 10, []) :: (389, .iload 8, []) :: (391, .iconst 1, [1]) :: (392, .iadd, []) :: (393, .iconst 2, [2]) :: (394, .iadd, []) :: (395, .iload_n 1, []) :: (396, .iadd, []) :: (397, .invokestatic 183, [3, 2]) :: (400, .dreturn, []) :: []
def p_X11_quotientc_387 : List (List (Nat × Nat)) := [] :: [] :: [] :: [] :: [] :: [] :: [] :: [] :: [(7, 81)] :: [] :: []
def b_X11_quotientc_381 : List zE := (381, .lload 10, []) :: (383, .lconst 1, [1]) :: (384, .ladd, []) :: (385, .lstore 10, []) :: (387, .nop, []) :: []
def p_X11_quotientc_381 : List (List (Nat × Nat)) := [] :: [] :: [] :: [] :: [] :: []
def b_X11_quotientc_360 : List zE := (360, .iload 12, []) :: (362, .ifCond .eq 25, [387, 1]) :: (365, .iload 9, []) :: (367, .ifCond .ne 14, [381, 0]) :: (370, .lload 10, []) :: (372, .ldc2_w 177, [2]) :: (375, .lrem, []) :: (376, .lconst 1, [1]) :: (377, .lcmp, []) :: (378, .ifCond .ne 9, [387, 1]) :: (381, .nop, [0]) :: []
def p_X11_quotientc_360 : List (List (Nat × Nat)) := [] :: [] :: [] :: [] :: [] :: [(7, 23)] :: [] :: [] :: [] :: [] :: [] :: []
def b_X11_quotientc_341 : List zE := (341, .istore 9, []) :: (343, .iload_n 2, []) :: (344, .ifCond .eq 16, [360, 0]) :: (347, .iload 12, []) :: (349, .ifCond .ne 32, [381, 0]) :: (352, .iload 9, []) :: (354, .ifCond .eq 33, [387, 1]) :: (357, .goto 24, [381, 0]) :: []
def p_X11_quotientc_341 : List (List (Nat × Nat)) := [] :: [] :: [] :: [] :: [] :: [] :: [] :: [] :: []
def b_X11_quotientc_340 : List zE := (340, .iconst 0, [0]) :: (341, .nop, []) :: []
def p_X11_quotientc_340 : List (List (Nat × Nat)) := [] :: [] :: []
def b_X11_quotientc_336 : List zE := (336, .iconst 1, [1]) :: (337, .goto 4, [341, 1]) :: []
def p_X11_quotientc_336 : List (List (Nat × Nat)) := [] :: [] :: []
def b_X11_quotientc_320 : List zE := (320, .istore 12, []) :: (322, .iload 9, []) :: (324, .ifCond .ne 12, [336, 0]) :: (327, .lload 5, []) :: (329, .lconst 1, [1]) :: (330, .land, []) :: (331, .lconst 1, [1]) :: (332, .lcmp, []) :: (333, .ifCond .ne 7, [340, 0]) :: (336, .nop, [0]) :: []
def p_X11_quotientc_320 : List (List (Nat × Nat)) := [] :: [] :: [] :: [] :: [] :: [] :: [] :: [] :: [] :: [] :: []
def b_X11_quotientc_319 : List zE := (319, .iconst 0, [0]) :: (320, .nop, []) :: []
def p_X11_quotientc_319 : List (List (Nat × Nat)) := [] :: [] :: []
def b_X11_quotientc_298 : List zE := (298, .lload 5, []) :: (300, .iconst 2, [2]) :: (301, .lshr, []) :: (302, .lstore 10, []) :: (304, .lload 5, []) :: (306, .iconst 1, [1]) :: (307, .lshr, []) :: (308, .lconst 1, [1]) :: (309, .land, []) :: (310, .lconst 1, [1]) :: (311, .lcmp, []) :: (312, .ifCond .ne 7, [319, 0]) :: (315, .iconst 1, [1]) :: (316, .goto 4, [320, 1]) :: []
def p_X11_quotientc_298 : List (List (Nat × Nat)) := [] :: [] :: [] :: [] :: [] :: [] :: [] :: [] :: [] :: [] :: [] :: [] :: [] :: [] :: []
def b_X11_quotientc_290 : List zE := (290, .istore 9, []) :: (292, .iinc 10 (-1), [4294967295]) :: (295, .goto (-43), [252, 1]) :: []
def p_X11_quotientc_290 : List (List (Nat × Nat)) := [] :: [] :: [] :: []
def b_X11_quotientc_289 : List zE := (289, .iconst 0, [0]) :: (290, .nop, [0]) :: []
def p_X11_quotientc_289 : List (List (Nat × Nat)) := [] :: [] :: []
def b_X11_quotientc_252 : List zE := (252, .iload 10, []) :: (254, .ifCond .lt 44, [298, 1]) :: (257, .iload 9, []) :: (259, .ifCond .ne 39, [298, 1]) :: (262, .aload_n 0, []) :: (263, .getfield 106, [11, 34]) :: (266, .iload 10, []) :: (268, .bipush 32, [32]) :: (270, .idiv, []) :: (271, .laload, []) :: (272, .iload 10, []) :: (274, .bipush 32, [32]) :: (276, .irem, []) :: (277, .lshr, []) :: (278, .lconst 1, [1]) :: (279, .land, []) :: (280, .lconst 1, [1]) :: (281, .lcmp, []) :: (282, .ifCond .ne 7, [289, 0]) :: (285, .iconst 1, [1]) :: (286, .goto 4, [290, 0]) :: []
def p_X11_quotientc_252 : List (List (Nat × Nat)) := [] :: [] :: [] :: [] :: [] :: [(6, 25)] :: [] :: [] :: [] :: [] :: [] :: [] :: [] :: [] :: [] :: [] :: [] :: [] :: [] :: [] :: [] :: []
def b_X11_quotientc_248 : List zE := (248, .iload 8, []) :: (250, .istore 10, []) :: (252, .nop, []) :: []
def p_X11_quotientc_248 : List (List (Nat × Nat)) := [] :: [] :: [] :: []
def b_X11_quotientc_240 : List zE := (240, .istore 9, []) :: (242, .iinc 10 1, [1]) :: (245, .goto (-33), [212, 1]) :: []
def p_X11_quotientc_240 : List (List (Nat × Nat)) := [] :: [] :: [] :: []
def b_X11_quotientc_239 : List zE := (239, .iconst 0, [0]) :: (240, .nop, [0]) :: []
def p_X11_quotientc_239 : List (List (Nat × Nat)) := [] :: [] :: []
def b_X11_quotientc_235 : List zE := (235, .iconst 1, [1]) :: (236, .goto 4, [240, 0]) :: []
def p_X11_quotientc_235 : List (List (Nat × Nat)) := [] :: [] :: []
def b_X11_quotientc_212 : List zE := (212, .iload 10, []) :: (214, .iload_n 3, []) :: (215, .if_icmp .gt 33, [248, 0]) :: (218, .iload 9, []) :: (220, .ifCond .ne 15, [235, 0]) :: (223, .aload_n 0, []) :: (224, .getfield 118, [11, 43]) :: (227, .iload 10, []) :: (229, .laload, []) :: (230, .lconst 0, [0]) :: (231, .lcmp, []) :: (232, .ifCond .eq 7, [239, 0]) :: (235, .nop, [0]) :: []
def p_X11_quotientc_212 : List (List (Nat × Nat)) := [] :: [] :: [] :: [] :: [] :: [] :: [(6, 34)] :: [] :: [] :: [] :: [] :: [] :: [] :: []
def b_X11_quotientc_206 : List zE := (206, .iconst 0, [0]) :: (207, .istore 9, []) :: (209, .iconst 0, [0]) :: (210, .istore 10, []) :: (212, .nop, []) :: []
def p_X11_quotientc_206 : List (List (Nat × Nat)) := [] :: [] :: [] :: [] :: [] :: []
def b_X11_quotientc_200 : List zE := (200, .iinc 8 (-1), [4294967295]) :: (203, .goto (-139), [64, 1]) :: []
def p_X11_quotientc_200 : List (List (Nat × Nat)) := [] :: [] :: []
def b_X11_quotientc_194 : List zE := (194, .ladd, []) :: (195, .lstore 5, []) :: (197, .iinc 7 1, [1]) :: (200, .nop, [0]) :: []
def p_X11_quotientc_194 : List (List (Nat × Nat)) := [] :: [] :: [] :: [] :: []
def b_X11_quotientc_193 : List zE := (193, .lconst 0, [0]) :: (194, .nop, [0]) :: []
def p_X11_quotientc_193 : List (List (Nat × Nat)) := [] :: [] :: []
def b_X11_quotientc_178 : List zE := (178, .ldc2_w 177, [2]) :: (181, .lload 5, []) :: (183, .lmul, []) :: (184, .iload 11, []) :: (186, .ifCond .eq 7, [193, 0]) :: (189, .lconst 1, [1]) :: (190, .goto 4, [194, 0]) :: []
def p_X11_quotientc_178 : List (List (Nat × Nat)) := [(7, 23)] :: [] :: [] :: [] :: [] :: [] :: [] :: []
def b_X11_quotientc_168 : List zE := (168, .iload 7, []) :: (170, .ifCond .gt 8, [178, 0]) :: (173, .iload 11, []) :: (175, .ifCond .eq 25, [200, 0]) :: (178, .nop, [0]) :: []
def p_X11_quotientc_168 : List (List (Nat × Nat)) := [] :: [] :: [] :: [] :: [] :: []
def b_X11_quotientc_151 : List zE := (151, .aload_n 0, []) :: (152, .iload_n 3, []) :: (153, .invokevirtual 416, [1, 1, 11]) :: (156, .istore 11, []) :: (158, .iload 11, []) :: (160, .ifCond .eq 8, [168, 0]) :: (163, .aload_n 0, []) :: (164, .iload_n 3, []) :: (165, .invokevirtual 419, [2, 1, 11]) :: (168, .nop, [0]) :: []
def p_X11_quotientc_151 : List (List (Nat × Nat)) := [] :: [] :: [(8, 55)] :: [] :: [] :: [] :: [] :: [] :: [(8, 59)] :: [] :: []
def b_X11_quotientc_103 : List zE := (103, .iload 11, []) :: (105, .iload_n 3, []) :: (106, .if_icmp .gt 45, [151, 0]) :: (109, .ldc2_w 177, [2]) :: (112, .aload_n 0, []) :: (113, .getfield 118, [11, 43]) :: (116, .iload 11, []) :: (118, .laload, []) :: (119, .lmul, []) :: (120, .lload 9, []) :: (122, .ladd, []) :: (123, .lstore 12, []) :: (125, .aload_n 0, []) :: (126, .getfield 118, [11, 43]) :: (129, .iload 11, []) :: (131, .lload 12, []) :: (133, .ldc2_w 187, [4294967295]) :: (136, .land, []) :: (137, .lastore, []) :: (138, .lload 12, []) :: (140, .bipush 32, [32]) :: (142, .lushr, []) :: (143, .lstore 9, []) :: (145, .iinc 11 1, [1]) :: (148, .goto (-45), [103, 1]) :: []
def p_X11_quotientc_103 : List (List (Nat × Nat)) := [] :: [] :: [] :: [(7, 23)] :: [] :: [(6, 34)] :: [] :: [] :: [] :: [] :: [] :: [] :: [] :: [(6, 34)] :: [] :: [] :: [(7, 60)] :: [] :: [] :: [] :: [] :: [] :: [] :: [] :: [] :: []
def b_X11_quotientc_98 : List zE := (98, .lstore 9, []) :: (100, .iconst 0, [0]) :: (101, .istore 11, []) :: (103, .nop, []) :: []
def p_X11_quotientc_98 : List (List (Nat × Nat)) := [] :: [] :: [] :: [] :: []
def b_X11_quotientc_97 : List zE := (97, .lconst 0, [0]) :: (98, .nop, [0]) :: []
def p_X11_quotientc_97 : List (List (Nat × Nat)) := [] :: [] :: []
def b_X11_quotientc_64 : List zE := (64, .iload 7, []) :: (66, .bipush 55, [55]) :: (68, .if_icmp .ge 138, [206, 0]) :: (71, .iload 8, []) :: (73, .ifCond .lt 24, [97, 0]) :: (76, .aload_n 0, []) :: (77, .getfield 106, [11, 34]) :: (80, .iload 8, []) :: (82, .bipush 32, [32]) :: (84, .idiv, []) :: (85, .laload, []) :: (86, .iload 8, []) :: (88, .bipush 32, [32]) :: (90, .irem, []) :: (91, .lshr, []) :: (92, .lconst 1, [1]) :: (93, .land, []) :: (94, .goto 4, [98, 0]) :: []
def p_X11_quotientc_64 : List (List (Nat × Nat)) := [] :: [] :: [] :: [] :: [] :: [] :: [(6, 25)] :: [] :: [] :: [] :: [] :: [] :: [] :: [] :: [] :: [] :: [] :: [] :: []
def b_X11_quotientc_43 : List zE := (43, .aload_n 0, []) :: (44, .getfield 106, [11, 34]) :: (47, .bipush 72, [72]) :: (49, .invokestatic 412, [0, 2]) :: (52, .istore 4, []) :: (54, .lconst 0, [0]) :: (55, .lstore 5, []) :: (57, .iconst 0, [0]) :: (58, .istore 7, []) :: (60, .iload 4, []) :: (62, .istore 8, []) :: (64, .nop, []) :: []
def p_X11_quotientc_43 : List (List (Nat × Nat)) := [] :: [(6, 25)] :: [] :: [(8, 52)] :: [] :: [] :: [] :: [] :: [] :: [] :: [] :: [] :: []
def b_X11_quotientc_37 : List zE := (37, .iinc 4 1, [1]) :: (40, .goto (-35), [5, 1]) :: []
def p_X11_quotientc_37 : List (List (Nat × Nat)) := [] :: [] :: []
def b_X11_quotientc_5 : List zE := (5, .iload 4, []) :: (7, .bipush 72, [72]) :: (9, .if_icmp .ge 34, [43, 0]) :: (12, .aload_n 0, []) :: (13, .getfield 118, [11, 43]) :: (16, .iload 4, []) :: (18, .lconst 0, [0]) :: (19, .lastore, []) :: (20, .aload_n 0, []) :: (21, .getfield 109, [11, 35]) :: (24, .iload 4, []) :: (26, .laload, []) :: (27, .lconst 0, [0]) :: (28, .lcmp, []) :: (29, .ifCond .eq 8, [37, 0]) :: (32, .iload 4, []) :: (34, .iconst 1, [1]) :: (35, .iadd, []) :: (36, .istore_n 3, []) :: (37, .nop, [0]) :: []
def p_X11_quotientc_5 : List (List (Nat × Nat)) := [] :: [] :: [] :: [] :: [(6, 34)] :: [] :: [] :: [] :: [] :: [(6, 26)] :: [] :: [] :: [] :: [] :: [] :: [] :: [] :: [] :: [] :: [] :: []
def b_X11_quotientc_0 : List zE := (0, .iconst 0, [0]) :: (1, .istore_n 3, []) :: (2, .iconst 0, [0]) :: (3, .istore 4, []) :: (5, .nop, []) :: []
def p_X11_quotientc_0 : List (List (Nat × Nat)) := [] :: [] :: [] :: [] :: [] :: []
def bl_X11_quotientc : List (Nat × List zE) := [(0, b_X11_quotientc_0), (5, b_X11_quotientc_5), (37, b_X11_quotientc_37), (43, b_X11_quotientc_43), (64, b_X11_quotientc_64), (97, b_X11_quotientc_97), (98, b_X11_quotientc_98), (103, b_X11_quotientc_103), (151, b_X11_quotientc_151), (168, b_X11_quotientc_168), (178, b_X11_quotientc_178), (193, b_X11_quotientc_193), (194, b_X11_quotientc_194), (200, b_X11_quotientc_200), (206, b_X11_quotientc_206), (212, b_X11_quotientc_212), (235, b_X11_quotientc_235), (239, b_X11_quotientc_239), (240, b_X11_quotientc_240), (248, b_X11_quotientc_248), (252, b_X11_quotientc_252), (289, b_X11_quotientc_289), (290, b_X11_quotientc_290), (298, b_X11_quotientc_298), (319, b_X11_quotientc_319), (320, b_X11_quotientc_320), (336, b_X11_quotientc_336), (340, b_X11_quotientc_340), (341, b_X11_quotientc_341), (360, b_X11_quotientc_360), (381, b_X11_quotientc_381), (387, b_X11_quotientc_387)]
def pl_X11_quotientc : List (List (List (Nat × Nat))) := [p_X11_quotientc_0, p_X11_quotientc_5, p_X11_quotientc_37, p_X11_quotientc_43, p_X11_quotientc_64, p_X11_quotientc_97, p_X11_quotientc_98, p_X11_quotientc_103, p_X11_quotientc_151, p_X11_quotientc_168, p_X11_quotientc_178, p_X11_quotientc_193, p_X11_quotientc_194, p_X11_quotientc_200, p_X11_quotientc_206, p_X11_quotientc_212, p_X11_quotientc_235, p_X11_quotientc_239, p_X11_quotientc_240, p_X11_quotientc_248, p_X11_quotientc_252, p_X11_quotientc_289, p_X11_quotientc_290, p_X11_quotientc_298, p_X11_quotientc_319, p_X11_quotientc_320, p_X11_quotientc_336, p_X11_quotientc_340, p_X11_quotientc_341, p_X11_quotientc_360, p_X11_quotientc_381, p_X11_quotientc_387]
theorem k_X11_quotientc_0 : zlk 0 bl_X11_quotientc = b_X11_quotientc_0 := rfl
theorem k_X11_quotientc_5 : zlk 5 bl_X11_quotientc = b_X11_quotientc_5 := rfl
theorem k_X11_quotientc_37 : zlk 37 bl_X11_quotientc = b_X11_quotientc_37 := rfl
theorem k_X11_quotientc_43 : zlk 43 bl_X11_quotientc = b_X11_quotientc_43 := rfl
theorem k_X11_quotientc_64 : zlk 64 bl_X11_quotientc = b_X11_quotientc_64 := rfl
theorem k_X11_quotientc_97 : zlk 97 bl_X11_quotientc = b_X11_quotientc_97 := rfl
theorem k_X11_quotientc_98 : zlk 98 bl_X11_quotientc = b_X11_quotientc_98 := rfl
theorem k_X11_quotientc_103 : zlk 103 bl_X11_quotientc = b_X11_quotientc_103 := rfl
theorem k_X11_quotientc_151 : zlk 151 bl_X11_quotientc = b_X11_quotientc_151 := rfl
theorem k_X11_quotientc_168 : zlk 168 bl_X11_quotientc = b_X11_quotientc_168 := rfl
theorem k_X11_quotientc_178 : zlk 178 bl_X11_quotientc = b_X11_quotientc_178 := rfl
theorem k_X11_quotientc_193 : zlk 193 bl_X11_quotientc = b_X11_quotientc_193 := rfl
theorem k_X11_quotientc_194 : zlk 194 bl_X11_quotientc = b_X11_quotientc_194 := rfl
theorem k_X11_quotientc_200 : zlk 200 bl_X11_quotientc = b_X11_quotientc_200 := rfl
theorem k_X11_quotientc_206 : zlk 206 bl_X11_quotientc = b_X11_quotientc_206 := rfl
theorem k_X11_quotientc_212 : zlk 212 bl_X11_quotientc = b_X11_quotientc_212 := rfl
theorem k_X11_quotientc_235 : zlk 235 bl_X11_quotientc = b_X11_quotientc_235 := rfl
theorem k_X11_quotientc_239 : zlk 239 bl_X11_quotientc = b_X11_quotientc_239 := rfl
theorem k_X11_quotientc_240 : zlk 240 bl_X11_quotientc = b_X11_quotientc_240 := rfl
theorem k_X11_quotientc_248 : zlk 248 bl_X11_quotientc = b_X11_quotientc_248 := rfl
theorem k_X11_quotientc_252 : zlk 252 bl_X11_quotientc = b_X11_quotientc_252 := rfl
theorem k_X11_quotientc_289 : zlk 289 bl_X11_quotientc = b_X11_quotientc_289 := rfl
theorem k_X11_quotientc_290 : zlk 290 bl_X11_quotientc = b_X11_quotientc_290 := rfl
theorem k_X11_quotientc_298 : zlk 298 bl_X11_quotientc = b_X11_quotientc_298 := rfl
theorem k_X11_quotientc_319 : zlk 319 bl_X11_quotientc = b_X11_quotientc_319 := rfl
theorem k_X11_quotientc_320 : zlk 320 bl_X11_quotientc = b_X11_quotientc_320 := rfl
theorem k_X11_quotientc_336 : zlk 336 bl_X11_quotientc = b_X11_quotientc_336 := rfl
theorem k_X11_quotientc_340 : zlk 340 bl_X11_quotientc = b_X11_quotientc_340 := rfl
theorem k_X11_quotientc_341 : zlk 341 bl_X11_quotientc = b_X11_quotientc_341 := rfl
theorem k_X11_quotientc_360 : zlk 360 bl_X11_quotientc = b_X11_quotientc_360 := rfl
theorem k_X11_quotientc_381 : zlk 381 bl_X11_quotientc = b_X11_quotientc_381 := rfl
theorem k_X11_quotientc_387 : zlk 387 bl_X11_quotientc = b_X11_quotientc_387 := rfl
set_option maxRecDepth 100000 in
theorem ck_X11_quotientc : zall q_X11_quotient.2.2.2.2.1 q_X11_quotient.2.1 11 false q_X11_quotient.2.2.1 cal_X11_quotient q_X11_quotient.2.2.2.1 bl_X11_quotientc pl_X11_quotientc = true := by decide +kernel
