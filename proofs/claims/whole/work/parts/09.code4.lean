/-! the methods' code as data (written by wip/whole/gen/code.py) -/
set_option maxRecDepth 100000 in
theorem wd_X10_countVectors : zwd q_X10_countVectors := ⟨zw_in (p := (5, 224)) (by decide +kernel), zw_in (p := (1, 1)) (by decide +kernel), fun h => absurd h (by decide), fun _ => zw_in (p := (5, 223)) (by decide +kernel), fun _ => zw_in (p := (0, 54)) (by decide +kernel)⟩
def cal_X10_countVectors : List zCal := []
def b_X10_countVectors_36 : List zE := (36, .iload_n 1, []) :: (37, .ireturn, []) :: []
def p_X10_countVectors_36 : List (List (Nat × Nat)) := [] :: [] :: []
def b_X10_countVectors_28 : List zE := (28, .iadd, []) :: (29, .istore_n 1, []) :: (30, .iinc 2 1, [1]) :: (33, .goto (-29), [4, 1]) :: []
def p_X10_countVectors_28 : List (List (Nat × Nat)) := [] :: [] :: [] :: [] :: []
def b_X10_countVectors_27 : List zE := (27, .iconst 0, [0]) :: (28, .nop, [0]) :: []
def p_X10_countVectors_27 : List (List (Nat × Nat)) := [] :: [] :: []
def b_X10_countVectors_4 : List zE := (4, .iload_n 2, []) :: (5, .bipush 24, [24]) :: (7, .if_icmp .ge 29, [36, 0]) :: (10, .iload_n 1, []) :: (11, .aload_n 0, []) :: (12, .getfield 23, [10, 2]) :: (15, .iload_n 2, []) :: (16, .aaload, []) :: (17, .getfield 197, [8, 0]) :: (20, .ifCond .eq 7, [27, 0]) :: (23, .iconst 1, [1]) :: (24, .goto 4, [28, 0]) :: []
def p_X10_countVectors_4 : List (List (Nat × Nat)) := [] :: [] :: [] :: [] :: [] :: [(2, 70)] :: [] :: [] :: [(2, 56)] :: [] :: [] :: [] :: []
def b_X10_countVectors_0 : List zE := (0, .iconst 0, [0]) :: (1, .istore_n 1, []) :: (2, .iconst 0, [0]) :: (3, .istore_n 2, []) :: (4, .nop, []) :: []
def p_X10_countVectors_0 : List (List (Nat × Nat)) := [] :: [] :: [] :: [] :: [] :: []
def bl_X10_countVectors : List (Nat × List zE) := [(0, b_X10_countVectors_0), (4, b_X10_countVectors_4), (27, b_X10_countVectors_27), (28, b_X10_countVectors_28), (36, b_X10_countVectors_36)]
def pl_X10_countVectors : List (List (List (Nat × Nat))) := [p_X10_countVectors_0, p_X10_countVectors_4, p_X10_countVectors_27, p_X10_countVectors_28, p_X10_countVectors_36]
theorem k_X10_countVectors_0 : zlk 0 bl_X10_countVectors = b_X10_countVectors_0 := rfl
theorem k_X10_countVectors_4 : zlk 4 bl_X10_countVectors = b_X10_countVectors_4 := rfl
theorem k_X10_countVectors_27 : zlk 27 bl_X10_countVectors = b_X10_countVectors_27 := rfl
theorem k_X10_countVectors_28 : zlk 28 bl_X10_countVectors = b_X10_countVectors_28 := rfl
theorem k_X10_countVectors_36 : zlk 36 bl_X10_countVectors = b_X10_countVectors_36 := rfl
set_option maxRecDepth 100000 in
theorem ck_X10_countVectors : zall q_X10_countVectors.2.2.2.2.1 q_X10_countVectors.2.1 10 false q_X10_countVectors.2.2.1 cal_X10_countVectors q_X10_countVectors.2.2.2.1 bl_X10_countVectors pl_X10_countVectors = true := by decide +kernel
theorem nm_X10_countVectors : plainName q_X10_countVectors.1.cls = true ∧ zRX 10 = q_X10_countVectors.1.cls ∧ (false = true → q_X10_countVectors.1.name = "<init>") := ⟨by decide +kernel, rfl, fun h => by first | rfl | cases h⟩
set_option maxRecDepth 100000 in
theorem wd_X10_count : zwd q_X10_count := ⟨zw_in (p := (5, 212)) (by decide +kernel), zw_in (p := (1, 1)) (by decide +kernel), fun h => absurd h (by decide), fun _ => zw_in (p := (5, 210)) (by decide +kernel), fun _ => zw_in (p := (5, 211)) (by decide +kernel)⟩
def cal_X10_count : List zCal := [q_X10_countMatrices, q_X10_countFactors, q_X10_countVectors]
def b_X10_count_55 : List zE := (55, .iconst (-1), [4294967295]) :: (56, .ireturn, []) :: []
def p_X10_count_55 : List (List (Nat × Nat)) := [] :: [] :: []
def b_X10_count_47 : List zE := (47, .aload_n 0, []) :: (48, .getfield 51, [10, 6]) :: (51, .getfield 298, [6, 0]) :: (54, .ireturn, []) :: []
def p_X10_count_47 : List (List (Nat × Nat)) := [] :: [(2, 74)] :: [(1, 188)] :: [] :: []
def b_X10_count_42 : List zE := (42, .aload_n 0, []) :: (43, .invokevirtual 313, [2, 0, 10]) :: (46, .ireturn, []) :: []
def p_X10_count_42 : List (List (Nat × Nat)) := [] :: [(5, 221)] :: [] :: []
def b_X10_count_37 : List zE := (37, .aload_n 0, []) :: (38, .invokevirtual 310, [1, 0, 10]) :: (41, .ireturn, []) :: []
def p_X10_count_37 : List (List (Nat × Nat)) := [] :: [(5, 217)] :: [] :: []
def b_X10_count_32 : List zE := (32, .aload_n 0, []) :: (33, .invokevirtual 307, [0, 0, 10]) :: (36, .ireturn, []) :: []
def p_X10_count_32 : List (List (Nat × Nat)) := [] :: [(5, 213)] :: [] :: []
def b_X10_count_0 : List zE := (0, .iload_n 1, []) :: (1, .tableswitch 54 0 3 #[31, 36, 41, 46], [55, 32, 37, 42, 47]) :: []
def p_X10_count_0 : List (List (Nat × Nat)) := [] :: [] :: []
def bl_X10_count : List (Nat × List zE) := [(0, b_X10_count_0), (32, b_X10_count_32), (37, b_X10_count_37), (42, b_X10_count_42), (47, b_X10_count_47), (55, b_X10_count_55)]
def pl_X10_count : List (List (List (Nat × Nat))) := [p_X10_count_0, p_X10_count_32, p_X10_count_37, p_X10_count_42, p_X10_count_47, p_X10_count_55]
theorem k_X10_count_0 : zlk 0 bl_X10_count = b_X10_count_0 := rfl
theorem k_X10_count_32 : zlk 32 bl_X10_count = b_X10_count_32 := rfl
theorem k_X10_count_37 : zlk 37 bl_X10_count = b_X10_count_37 := rfl
theorem k_X10_count_42 : zlk 42 bl_X10_count = b_X10_count_42 := rfl
theorem k_X10_count_47 : zlk 47 bl_X10_count = b_X10_count_47 := rfl
theorem k_X10_count_55 : zlk 55 bl_X10_count = b_X10_count_55 := rfl
set_option maxRecDepth 100000 in
theorem ck_X10_count : zall q_X10_count.2.2.2.2.1 q_X10_count.2.1 10 false q_X10_count.2.2.1 cal_X10_count q_X10_count.2.2.2.1 bl_X10_count pl_X10_count = true := by decide +kernel
theorem nm_X10_count : plainName q_X10_count.1.cls = true ∧ zRX 10 = q_X10_count.1.cls ∧ (false = true → q_X10_count.1.name = "<init>") := ⟨by decide +kernel, rfl, fun h => by first | rfl | cases h⟩
set_option maxRecDepth 100000 in
theorem wd_X11_init : zwd q_X11_init := ⟨zw_in (p := (5, 229)) (by decide +kernel), zw_in (p := (1, 11)) (by decide +kernel), fun h => absurd h (by decide), fun _ => zw_in (p := (5, 228)) (by decide +kernel), fun h => absurd h (by decide)⟩
def cal_X11_init : List zCal := []
def b_X11_init_0 : List zE := (0, .aload_n 0, []) :: (1, .invokespecial 1, []) :: (4, .aload_n 0, []) :: (5, .sipush 146, [146]) :: (8, .newarray .long, [22]) :: (10, .putfield 7, [11, 0]) :: (13, .aload_n 0, []) :: (14, .sipush 146, [146]) :: (17, .newarray .long, [22]) :: (19, .putfield 13, [11, 1]) :: (22, .aload_n 0, []) :: (23, .sipush 146, [146]) :: (26, .newarray .long, [22]) :: (28, .putfield 16, [11, 2]) :: (31, .aload_n 0, []) :: (32, .sipush 1536, [1536]) :: (35, .newarray .double, [23]) :: (37, .putfield 19, [11, 4]) :: (40, .aload_n 0, []) :: (41, .bipush 24, [24]) :: (43, .newarray .boolean, [21]) :: (45, .putfield 23, [11, 5]) :: (48, .aload_n 0, []) :: (49, .bipush 24, [24]) :: (51, .newarray .int, [20]) :: (53, .putfield 27, [11, 6]) :: (56, .aload_n 0, []) :: (57, .bipush 24, [24]) :: (59, .newarray .int, [20]) :: (61, .putfield 31, [11, 7]) :: (64, .aload_n 0, []) :: (65, .bipush 24, [24]) :: (67, .newarray .int, [20]) :: (69, .putfield 34, [11, 8]) :: (72, .aload_n 0, []) :: (73, .bipush 24, [24]) :: (75, .newarray .int, [20]) :: (77, .putfield 37, [11, 9]) :: (80, .aload_n 0, []) :: (81, .bipush 24, [24]) :: (83, .newarray .int, [20]) :: (85, .putfield 40, [11, 10]) :: (88, .aload_n 0, []) :: (89, .bipush 64, [64]) :: (91, .newarray .double, [23]) :: (93, .putfield 43, [11, 11]) :: (96, .aload_n 0, []) :: (97, .sipush 768, [768]) :: (100, .newarray .double, [23]) :: (102, .putfield 46, [11, 12]) :: (105, .aload_n 0, []) :: (106, .bipush 12, [12]) :: (108, .newarray .boolean, [21]) :: (110, .putfield 49, [11, 13]) :: (113, .aload_n 0, []) :: (114, .bipush 12, [12]) :: (116, .newarray .int, [20]) :: (118, .putfield 52, [11, 14]) :: (121, .aload_n 0, []) :: (122, .bipush 12, [12]) :: (124, .newarray .boolean, [21]) :: (126, .putfield 55, [11, 15]) :: (129, .aload_n 0, []) :: (130, .bipush 12, [12]) :: (132, .newarray .int, [20]) :: (134, .putfield 58, [11, 16]) :: (137, .aload_n 0, []) :: (138, .bipush 96, [96]) :: (140, .newarray .int, [20]) :: (142, .putfield 61, [11, 17]) :: (145, .aload_n 0, []) :: (146, .bipush 96, [96]) :: (148, .newarray .int, [20]) :: (150, .putfield 64, [11, 18]) :: (153, .aload_n 0, []) :: (154, .bipush 12, [12]) :: (156, .newarray .int, [20]) :: (158, .putfield 67, [11, 19]) :: (161, .aload_n 0, []) :: (162, .bipush 12, [12]) :: (164, .newarray .double, [23]) :: (166, .putfield 70, [11, 20]) :: (169, .aload_n 0, []) :: (170, .sipush 192, [192]) :: (173, .newarray .double, [23]) :: (175, .putfield 73, [11, 23]) :: (178, .aload_n 0, []) :: (179, .bipush 24, [24]) :: (181, .newarray .int, [20]) :: (183, .putfield 76, [11, 24]) :: (186, .aload_n 0, []) :: (187, .bipush 8, [8]) :: (189, .newarray .double, [23]) :: (191, .putfield 79, [11, 25]) :: (194, .aload_n 0, []) :: (195, .bipush 8, [8]) :: (197, .newarray .double, [23]) :: (199, .putfield 82, [11, 26]) :: (202, .aload_n 0, []) :: (203, .bipush 8, [8]) :: (205, .newarray .double, [23]) :: (207, .putfield 85, [11, 27]) :: (210, .aload_n 0, []) :: (211, .bipush 8, [8]) :: (213, .newarray .double, [23]) :: (215, .putfield 88, [11, 28]) :: (218, .aload_n 0, []) :: (219, .sipush 146, [146]) :: (222, .newarray .long, [22]) :: (224, .putfield 91, [11, 29]) :: (227, .aload_n 0, []) :: (228, .sipush 146, [146]) :: (231, .newarray .long, [22]) :: (233, .putfield 94, [11, 30]) :: (236, .aload_n 0, []) :: (237, .bipush 8, [8]) :: (239, .newarray .double, [23]) :: (241, .putfield 97, [11, 31]) :: (244, .aload_n 0, []) :: (245, .sipush 4352, [4352]) :: (248, .newarray .long, [22]) :: (250, .putfield 100, [11, 32]) :: (253, .aload_n 0, []) :: (254, .sipush 136, [136]) :: (257, .newarray .int, [20]) :: (259, .putfield 103, [11, 33]) :: (262, .aload_n 0, []) :: (263, .bipush 72, [72]) :: (265, .newarray .long, [22]) :: (267, .putfield 106, [11, 34]) :: (270, .aload_n 0, []) :: (271, .bipush 72, [72]) :: (273, .newarray .long, [22]) :: (275, .putfield 109, [11, 35]) :: (278, .aload_n 0, []) :: (279, .bipush 32, [32]) :: (281, .newarray .long, [22]) :: (283, .putfield 112, [11, 36]) :: (286, .aload_n 0, []) :: (287, .bipush 17, [17]) :: (289, .newarray .int, [20]) :: (291, .putfield 115, [11, 41]) :: (294, .aload_n 0, []) :: (295, .bipush 72, [72]) :: (297, .newarray .long, [22]) :: (299, .putfield 118, [11, 43]) :: (302, .aload_n 0, []) :: (303, .bipush 72, [72]) :: (305, .newarray .long, [22]) :: (307, .putfield 121, [11, 44]) :: (310, .aload_n 0, []) :: (311, .bipush 72, [72]) :: (313, .newarray .long, [22]) :: (315, .putfield 124, [11, 45]) :: (318, .aload_n 0, []) :: (319, .bipush 72, [72]) :: (321, .newarray .long, [22]) :: (323, .putfield 127, [11, 46]) :: (326, .aload_n 0, []) :: (327, .bipush 8, [8]) :: (329, .newarray .int, [20]) :: (331, .putfield 130, [11, 48]) :: (334, .aload_n 0, []) :: (335, .bipush 8, [8]) :: (337, .newarray .int, [20]) :: (339, .putfield 133, [11, 49]) :: (342, .aload_n 0, []) :: (343, .bipush 8, [8]) :: (345, .newarray .boolean, [21]) :: (347, .putfield 136, [11, 51]) :: (350, .aload_n 0, []) :: (351, .bipush 64, [64]) :: (353, .newarray .boolean, [21]) :: (355, .putfield 139, [11, 52]) :: (358, .aload_n 0, []) :: (359, .sipush 600, [600]) :: (362, .newarray .int, [20]) :: (364, .putfield 142, [11, 53]) :: (367, .aload_n 0, []) :: (368, .sipush 600, [600]) :: (371, .newarray .int, [20]) :: (373, .putfield 145, [11, 55]) :: (376, .return_, []) :: []
def p_X11_init_0 : List (List (Nat × Nat)) := [] :: [(5, 230), (1, 21), (1, 22)] :: [] :: [] :: [(1, 54)] :: [(5, 231)] :: [] :: [] :: [(1, 54)] :: [(5, 232)] :: [] :: [] :: [(1, 54)] :: [(5, 233)] :: [] :: [] :: [(6, 166)] :: [(5, 235)] :: [] :: [] :: [(1, 155)] :: [(5, 236)] :: [] :: [] :: [(1, 108)] :: [(5, 237)] :: [] :: [] :: [(1, 108)] :: [(5, 238)] :: [] :: [] :: [(1, 108)] :: [(5, 239)] :: [] :: [] :: [(1, 108)] :: [(6, 0)] :: [] :: [] :: [(1, 108)] :: [(6, 1)] :: [] :: [] :: [(6, 166)] :: [(6, 2)] :: [] :: [] :: [(6, 166)] :: [(6, 3)] :: [] :: [] :: [(1, 155)] :: [(6, 4)] :: [] :: [] :: [(1, 108)] :: [(6, 5)] :: [] :: [] :: [(1, 155)] :: [(6, 6)] :: [] :: [] :: [(1, 108)] :: [(6, 7)] :: [] :: [] :: [(1, 108)] :: [(6, 8)] :: [] :: [] :: [(1, 108)] :: [(6, 9)] :: [] :: [] :: [(1, 108)] :: [(6, 10)] :: [] :: [] :: [(6, 166)] :: [(6, 11)] :: [] :: [] :: [(6, 166)] :: [(6, 14)] :: [] :: [] :: [(1, 108)] :: [(6, 15)] :: [] :: [] :: [(6, 166)] :: [(6, 16)] :: [] :: [] :: [(6, 166)] :: [(6, 17)] :: [] :: [] :: [(6, 166)] :: [(6, 18)] :: [] :: [] :: [(6, 166)] :: [(6, 19)] :: [] :: [] :: [(1, 54)] :: [(6, 20)] :: [] :: [] :: [(1, 54)] :: [(6, 21)] :: [] :: [] :: [(6, 166)] :: [(6, 22)] :: [] :: [] :: [(1, 54)] :: [(6, 23)] :: [] :: [] :: [(1, 108)] :: [(6, 24)] :: [] :: [] :: [(1, 54)] :: [(6, 25)] :: [] :: [] :: [(1, 54)] :: [(6, 26)] :: [] :: [] :: [(1, 54)] :: [(6, 27)] :: [] :: [] :: [(1, 108)] :: [(6, 32)] :: [] :: [] :: [(1, 54)] :: [(6, 34)] :: [] :: [] :: [(1, 54)] :: [(6, 35)] :: [] :: [] :: [(1, 54)] :: [(6, 36)] :: [] :: [] :: [(1, 54)] :: [(6, 37)] :: [] :: [] :: [(1, 108)] :: [(6, 39)] :: [] :: [] :: [(1, 108)] :: [(6, 40)] :: [] :: [] :: [(1, 155)] :: [(6, 42)] :: [] :: [] :: [(1, 155)] :: [(6, 43)] :: [] :: [] :: [(1, 108)] :: [(6, 44)] :: [] :: [] :: [(1, 108)] :: [(6, 46)] :: [] :: []
def bl_X11_init : List (Nat × List zE) := [(0, b_X11_init_0)]
def pl_X11_init : List (List (List (Nat × Nat))) := [p_X11_init_0]
theorem k_X11_init_0 : zlk 0 bl_X11_init = b_X11_init_0 := rfl
set_option maxRecDepth 100000 in
theorem ck_X11_init : zall q_X11_init.2.2.2.2.1 q_X11_init.2.1 11 true q_X11_init.2.2.1 cal_X11_init q_X11_init.2.2.2.1 bl_X11_init pl_X11_init = true := by decide +kernel
theorem nm_X11_init : plainName q_X11_init.1.cls = true ∧ zRX 11 = q_X11_init.1.cls ∧ (true = true → q_X11_init.1.name = "<init>") := ⟨by decide +kernel, rfl, fun h => by first | rfl | cases h⟩
set_option maxRecDepth 100000 in
theorem wd_Jxe99ae_isNaN_b9ae7 : zwd q_Jxe99ae_isNaN_b9ae7 := ⟨zw_in (p := (6, 235)) (by decide +kernel), zw_in (p := (1, 13)) (by decide +kernel), fun _ => zw_in (p := (6, 234)) (by decide +kernel), fun h => absurd rfl h, fun h => absurd h (by decide)⟩
def cal_Jxe99ae_isNaN_b9ae7 : List zCal := []
def b_Jxe99ae_isNaN_b9ae7_11 : List zE := (11, .ireturn, []) :: []
def p_Jxe99ae_isNaN_b9ae7_11 : List (List (Nat × Nat)) := [] :: []
def b_Jxe99ae_isNaN_b9ae7_10 : List zE := (10, .iconst 0, [0]) :: (11, .nop, [0]) :: []
def p_Jxe99ae_isNaN_b9ae7_10 : List (List (Nat × Nat)) := [] :: [] :: []
def b_Jxe99ae_isNaN_b9ae7_0 : List zE := (0, .dload_n 0, []) :: (1, .dload_n 0, []) :: (2, .dcmp .l, []) :: (3, .ifCond .eq 7, [10, 0]) :: (6, .iconst 1, [1]) :: (7, .goto 4, [11, 0]) :: []
def p_Jxe99ae_isNaN_b9ae7_0 : List (List (Nat × Nat)) := [] :: [] :: [] :: [] :: [] :: [] :: []
def bl_Jxe99ae_isNaN_b9ae7 : List (Nat × List zE) := [(0, b_Jxe99ae_isNaN_b9ae7_0), (10, b_Jxe99ae_isNaN_b9ae7_10), (11, b_Jxe99ae_isNaN_b9ae7_11)]
def pl_Jxe99ae_isNaN_b9ae7 : List (List (List (Nat × Nat))) := [p_Jxe99ae_isNaN_b9ae7_0, p_Jxe99ae_isNaN_b9ae7_10, p_Jxe99ae_isNaN_b9ae7_11]
theorem k_Jxe99ae_isNaN_b9ae7_0 : zlk 0 bl_Jxe99ae_isNaN_b9ae7 = b_Jxe99ae_isNaN_b9ae7_0 := rfl
theorem k_Jxe99ae_isNaN_b9ae7_10 : zlk 10 bl_Jxe99ae_isNaN_b9ae7 = b_Jxe99ae_isNaN_b9ae7_10 := rfl
theorem k_Jxe99ae_isNaN_b9ae7_11 : zlk 11 bl_Jxe99ae_isNaN_b9ae7 = b_Jxe99ae_isNaN_b9ae7_11 := rfl
set_option maxRecDepth 100000 in
theorem ck_Jxe99ae_isNaN_b9ae7 : zall q_Jxe99ae_isNaN_b9ae7.2.2.2.2.1 q_Jxe99ae_isNaN_b9ae7.2.1 13 false q_Jxe99ae_isNaN_b9ae7.2.2.1 cal_Jxe99ae_isNaN_b9ae7 q_Jxe99ae_isNaN_b9ae7.2.2.2.1 bl_Jxe99ae_isNaN_b9ae7 pl_Jxe99ae_isNaN_b9ae7 = true := by decide +kernel
theorem nm_Jxe99ae_isNaN_b9ae7 : plainName q_Jxe99ae_isNaN_b9ae7.1.cls = true ∧ zRX 13 = q_Jxe99ae_isNaN_b9ae7.1.cls ∧ (false = true → q_Jxe99ae_isNaN_b9ae7.1.name = "<init>") := ⟨by decide +kernel, rfl, fun h => by first | rfl | cases h⟩
set_option maxRecDepth 100000 in
theorem wd_Jxe99ae_doubleToLongBits_ccdee : zwd q_Jxe99ae_doubleToLongBits_ccdee := ⟨zw_in (p := (6, 232)) (by decide +kernel), zw_in (p := (1, 13)) (by decide +kernel), fun _ => zw_in (p := (6, 231)) (by decide +kernel), fun h => absurd rfl h, fun h => absurd h (by decide)⟩
def cal_Jxe99ae_doubleToLongBits_ccdee : List zCal := [q_Jxe99ae_isNaN_b9ae7]
def b_Jxe99ae_doubleToLongBits_ccdee_12 : List zE := (12, .ldc2_w 137, [9221120237041090560]) :: (15, .lreturn, []) :: []
def p_Jxe99ae_doubleToLongBits_ccdee_12 : List (List (Nat × Nat)) := [(6, 239)] :: [] :: []
def b_Jxe99ae_doubleToLongBits_ccdee_0 : List zE := (0, .dload_n 0, []) :: (1, .invokestatic 122, [0, 1]) :: (4, .ifCond .ne 8, [12, 0]) :: (7, .dload_n 0, []) :: (8, .invokestatic 134, [100]) :: (11, .lreturn, []) :: []
def p_Jxe99ae_doubleToLongBits_ccdee_0 : List (List (Nat × Nat)) := [] :: [(6, 233)] :: [] :: [] :: [(6, 236), (6, 238), (6, 237), (1, 13)] :: [] :: []
def bl_Jxe99ae_doubleToLongBits_ccdee : List (Nat × List zE) := [(0, b_Jxe99ae_doubleToLongBits_ccdee_0), (12, b_Jxe99ae_doubleToLongBits_ccdee_12)]
def pl_Jxe99ae_doubleToLongBits_ccdee : List (List (List (Nat × Nat))) := [p_Jxe99ae_doubleToLongBits_ccdee_0, p_Jxe99ae_doubleToLongBits_ccdee_12]
theorem k_Jxe99ae_doubleToLongBits_ccdee_0 : zlk 0 bl_Jxe99ae_doubleToLongBits_ccdee = b_Jxe99ae_doubleToLongBits_ccdee_0 := rfl
theorem k_Jxe99ae_doubleToLongBits_ccdee_12 : zlk 12 bl_Jxe99ae_doubleToLongBits_ccdee = b_Jxe99ae_doubleToLongBits_ccdee_12 := rfl
set_option maxRecDepth 100000 in
theorem ck_Jxe99ae_doubleToLongBits_ccdee : zall q_Jxe99ae_doubleToLongBits_ccdee.2.2.2.2.1 q_Jxe99ae_doubleToLongBits_ccdee.2.1 13 false q_Jxe99ae_doubleToLongBits_ccdee.2.2.1 cal_Jxe99ae_doubleToLongBits_ccdee q_Jxe99ae_doubleToLongBits_ccdee.2.2.2.1 bl_Jxe99ae_doubleToLongBits_ccdee pl_Jxe99ae_doubleToLongBits_ccdee = true := by decide +kernel
theorem nm_Jxe99ae_doubleToLongBits_ccdee : plainName q_Jxe99ae_doubleToLongBits_ccdee.1.cls = true ∧ zRX 13 = q_Jxe99ae_doubleToLongBits_ccdee.1.cls ∧ (false = true → q_Jxe99ae_doubleToLongBits_ccdee.1.name = "<init>") := ⟨by decide +kernel, rfl, fun h => by first | rfl | cases h⟩
set_option maxRecDepth 100000 in
theorem wd_X11_bits : zwd q_X11_bits := ⟨zw_in (p := (6, 229)) (by decide +kernel), zw_in (p := (1, 11)) (by decide +kernel), fun _ => zw_in (p := (6, 228)) (by decide +kernel), fun h => absurd rfl h, fun h => absurd h (by decide)⟩
def cal_X11_bits : List zCal := [q_Jxe99ae_doubleToLongBits_ccdee]
def b_X11_bits_0 : List zE := (0, .dload_n 0, []) :: (1, .invokestatic 148, [0, 1]) :: (4, .lreturn, []) :: []
def p_X11_bits_0 : List (List (Nat × Nat)) := [] :: [(6, 230)] :: [] :: []
def bl_X11_bits : List (Nat × List zE) := [(0, b_X11_bits_0)]
def pl_X11_bits : List (List (List (Nat × Nat))) := [p_X11_bits_0]
theorem k_X11_bits_0 : zlk 0 bl_X11_bits = b_X11_bits_0 := rfl
set_option maxRecDepth 100000 in
theorem ck_X11_bits : zall q_X11_bits.2.2.2.2.1 q_X11_bits.2.1 11 false q_X11_bits.2.2.1 cal_X11_bits q_X11_bits.2.2.2.1 bl_X11_bits pl_X11_bits = true := by decide +kernel
theorem nm_X11_bits : plainName q_X11_bits.1.cls = true ∧ zRX 11 = q_X11_bits.1.cls ∧ (false = true → q_X11_bits.1.name = "<init>") := ⟨by decide +kernel, rfl, fun h => by first | rfl | cases h⟩
set_option maxRecDepth 100000 in
theorem wd_X11_real : zwd q_X11_real := ⟨zw_in (p := (6, 208)) (by decide +kernel), zw_in (p := (1, 11)) (by decide +kernel), fun _ => zw_in (p := (6, 207)) (by decide +kernel), fun h => absurd rfl h, fun h => absurd h (by decide)⟩
def cal_X11_real : List zCal := []
def b_X11_real_0 : List zE := (0, .lload_n 0, []) :: (1, .invokestatic 154, [101]) :: (4, .dreturn, []) :: []
def p_X11_real_0 : List (List (Nat × Nat)) := [] :: [(6, 209), (6, 211), (6, 210), (1, 13)] :: [] :: []
def bl_X11_real : List (Nat × List zE) := [(0, b_X11_real_0)]
def pl_X11_real : List (List (List (Nat × Nat))) := [p_X11_real_0]
theorem k_X11_real_0 : zlk 0 bl_X11_real = b_X11_real_0 := rfl
set_option maxRecDepth 100000 in
theorem ck_X11_real : zall q_X11_real.2.2.2.2.1 q_X11_real.2.1 11 false q_X11_real.2.2.1 cal_X11_real q_X11_real.2.2.2.1 bl_X11_real pl_X11_real = true := by decide +kernel
theorem nm_X11_real : plainName q_X11_real.1.cls = true ∧ zRX 11 = q_X11_real.1.cls ∧ (false = true → q_X11_real.1.name = "<init>") := ⟨by decide +kernel, rfl, fun h => by first | rfl | cases h⟩
set_option maxRecDepth 100000 in
theorem wd_X11_isFinite : zwd q_X11_isFinite := ⟨zw_in (p := (7, 38)) (by decide +kernel), zw_in (p := (1, 11)) (by decide +kernel), fun _ => zw_in (p := (7, 37)) (by decide +kernel), fun h => absurd rfl h, fun h => absurd h (by decide)⟩
def cal_X11_isFinite : List zCal := [q_X11_bits]
def b_X11_isFinite_20 : List zE := (20, .ireturn, []) :: []
def p_X11_isFinite_20 : List (List (Nat × Nat)) := [] :: []
def b_X11_isFinite_19 : List zE := (19, .iconst 0, [0]) :: (20, .nop, [0]) :: []
def p_X11_isFinite_19 : List (List (Nat × Nat)) := [] :: [] :: []
def b_X11_isFinite_0 : List zE := (0, .dload_n 0, []) :: (1, .invokestatic 158, [0, 1]) :: (4, .ldc2_w 161, [9223372036854775807]) :: (7, .land, []) :: (8, .ldc2_w 163, [9218868437227405312]) :: (11, .lcmp, []) :: (12, .ifCond .ge 7, [19, 0]) :: (15, .iconst 1, [1]) :: (16, .goto 4, [20, 0]) :: []
def p_X11_isFinite_0 : List (List (Nat × Nat)) := [] :: [(6, 227)] :: [(6, 204)] :: [] :: [(6, 205)] :: [] :: [] :: [] :: [] :: []
def bl_X11_isFinite : List (Nat × List zE) := [(0, b_X11_isFinite_0), (19, b_X11_isFinite_19), (20, b_X11_isFinite_20)]
def pl_X11_isFinite : List (List (List (Nat × Nat))) := [p_X11_isFinite_0, p_X11_isFinite_19, p_X11_isFinite_20]
theorem k_X11_isFinite_0 : zlk 0 bl_X11_isFinite = b_X11_isFinite_0 := rfl
theorem k_X11_isFinite_19 : zlk 19 bl_X11_isFinite = b_X11_isFinite_19 := rfl
theorem k_X11_isFinite_20 : zlk 20 bl_X11_isFinite = b_X11_isFinite_20 := rfl
set_option maxRecDepth 100000 in
theorem ck_X11_isFinite : zall q_X11_isFinite.2.2.2.2.1 q_X11_isFinite.2.1 11 false q_X11_isFinite.2.2.1 cal_X11_isFinite q_X11_isFinite.2.2.2.1 bl_X11_isFinite pl_X11_isFinite = true := by decide +kernel
theorem nm_X11_isFinite : plainName q_X11_isFinite.1.cls = true ∧ zRX 11 = q_X11_isFinite.1.cls ∧ (false = true → q_X11_isFinite.1.name = "<init>") := ⟨by decide +kernel, rfl, fun h => by first | rfl | cases h⟩
set_option maxRecDepth 100000 in
theorem wd_X11_isGood : zwd q_X11_isGood := ⟨zw_in (p := (6, 203)) (by decide +kernel), zw_in (p := (1, 11)) (by decide +kernel), fun _ => zw_in (p := (6, 202)) (by decide +kernel), fun h => absurd rfl h, fun h => absurd h (by decide)⟩
def cal_X11_isGood : List zCal := []
def b_X11_isGood_17 : List zE := (17, .ireturn, []) :: []
def p_X11_isGood_17 : List (List (Nat × Nat)) := [] :: []
def b_X11_isGood_16 : List zE := (16, .iconst 0, [0]) :: (17, .nop, [0]) :: []
def p_X11_isGood_16 : List (List (Nat × Nat)) := [] :: [] :: []
def b_X11_isGood_0 : List zE := (0, .lload_n 0, []) :: (1, .ldc2_w 161, [9223372036854775807]) :: (4, .land, []) :: (5, .ldc2_w 163, [9218868437227405312]) :: (8, .lcmp, []) :: (9, .ifCond .ge 7, [16, 0]) :: (12, .iconst 1, [1]) :: (13, .goto 4, [17, 0]) :: []
def p_X11_isGood_0 : List (List (Nat × Nat)) := [] :: [(6, 204)] :: [] :: [(6, 205)] :: [] :: [] :: [] :: [] :: []
def bl_X11_isGood : List (Nat × List zE) := [(0, b_X11_isGood_0), (16, b_X11_isGood_16), (17, b_X11_isGood_17)]
def pl_X11_isGood : List (List (List (Nat × Nat))) := [p_X11_isGood_0, p_X11_isGood_16, p_X11_isGood_17]
theorem k_X11_isGood_0 : zlk 0 bl_X11_isGood = b_X11_isGood_0 := rfl
theorem k_X11_isGood_16 : zlk 16 bl_X11_isGood = b_X11_isGood_16 := rfl
theorem k_X11_isGood_17 : zlk 17 bl_X11_isGood = b_X11_isGood_17 := rfl
set_option maxRecDepth 100000 in
theorem ck_X11_isGood : zall q_X11_isGood.2.2.2.2.1 q_X11_isGood.2.1 11 false q_X11_isGood.2.2.1 cal_X11_isGood q_X11_isGood.2.2.2.1 bl_X11_isGood pl_X11_isGood = true := by decide +kernel
theorem nm_X11_isGood : plainName q_X11_isGood.1.cls = true ∧ zRX 11 = q_X11_isGood.1.cls ∧ (false = true → q_X11_isGood.1.name = "<init>") := ⟨by decide +kernel, rfl, fun h => by first | rfl | cases h⟩
set_option maxRecDepth 100000 in
theorem wd_X11_size : zwd q_X11_size := ⟨zw_in (p := (7, 14)) (by decide +kernel), zw_in (p := (1, 11)) (by decide +kernel), fun _ => zw_in (p := (7, 13)) (by decide +kernel), fun h => absurd rfl h, fun h => absurd h (by decide)⟩
def cal_X11_size : List zCal := [q_X11_bits, q_X11_real]
def b_X11_size_0 : List zE := (0, .dload_n 0, []) :: (1, .invokestatic 158, [0, 1]) :: (4, .ldc2_w 161, [9223372036854775807]) :: (7, .land, []) :: (8, .invokestatic 165, [1, 1]) :: (11, .dreturn, []) :: []
def p_X11_size_0 : List (List (Nat × Nat)) := [] :: [(6, 227)] :: [(6, 204)] :: [] :: [(6, 206)] :: [] :: []
def bl_X11_size : List (Nat × List zE) := [(0, b_X11_size_0)]
def pl_X11_size : List (List (List (Nat × Nat))) := [p_X11_size_0]
theorem k_X11_size_0 : zlk 0 bl_X11_size = b_X11_size_0 := rfl
set_option maxRecDepth 100000 in
theorem ck_X11_size : zall q_X11_size.2.2.2.2.1 q_X11_size.2.1 11 false q_X11_size.2.2.1 cal_X11_size q_X11_size.2.2.2.1 bl_X11_size pl_X11_size = true := by decide +kernel
theorem nm_X11_size : plainName q_X11_size.1.cls = true ∧ zRX 11 = q_X11_size.1.cls ∧ (false = true → q_X11_size.1.name = "<init>") := ⟨by decide +kernel, rfl, fun h => by first | rfl | cases h⟩
set_option maxRecDepth 100000 in
theorem wd_X11_plain : zwd q_X11_plain := ⟨zw_in (p := (6, 214)) (by decide +kernel), zw_in (p := (1, 11)) (by decide +kernel), fun _ => zw_in (p := (6, 213)) (by decide +kernel), fun h => absurd rfl h, fun h => absurd h (by decide)⟩
def cal_X11_plain : List zCal := []
def b_X11_plain_11 : List zE := (11, .dreturn, []) :: []
def p_X11_plain_11 : List (List (Nat × Nat)) := [] :: []
def b_X11_plain_10 : List zE := (10, .dload_n 0, []) :: (11, .nop, [0]) :: []
def p_X11_plain_10 : List (List (Nat × Nat)) := [] :: [] :: []
def b_X11_plain_0 : List zE := (0, .dload_n 0, []) :: (1, .dconst 0, [0]) :: (2, .dcmp .l, []) :: (3, .ifCond .ne 7, [10, 0]) :: (6, .dconst 0, [0]) :: (7, .goto 4, [11, 0]) :: []
def p_X11_plain_0 : List (List (Nat × Nat)) := [] :: [] :: [] :: [] :: [] :: [] :: []
def bl_X11_plain : List (Nat × List zE) := [(0, b_X11_plain_0), (10, b_X11_plain_10), (11, b_X11_plain_11)]
def pl_X11_plain : List (List (List (Nat × Nat))) := [p_X11_plain_0, p_X11_plain_10, p_X11_plain_11]
theorem k_X11_plain_0 : zlk 0 bl_X11_plain = b_X11_plain_0 := rfl
theorem k_X11_plain_10 : zlk 10 bl_X11_plain = b_X11_plain_10 := rfl
theorem k_X11_plain_11 : zlk 11 bl_X11_plain = b_X11_plain_11 := rfl
set_option maxRecDepth 100000 in
theorem ck_X11_plain : zall q_X11_plain.2.2.2.2.1 q_X11_plain.2.1 11 false q_X11_plain.2.2.1 cal_X11_plain q_X11_plain.2.2.2.1 bl_X11_plain pl_X11_plain = true := by decide +kernel
theorem nm_X11_plain : plainName q_X11_plain.1.cls = true ∧ zRX 11 = q_X11_plain.1.cls ∧ (false = true → q_X11_plain.1.name = "<init>") := ⟨by decide +kernel, rfl, fun h => by first | rfl | cases h⟩
set_option maxRecDepth 100000 in
theorem wd_X11_whole : zwd q_X11_whole := ⟨zw_in (p := (7, 18)) (by decide +kernel), zw_in (p := (1, 11)) (by decide +kernel), fun _ => zw_in (p := (7, 17)) (by decide +kernel), fun h => absurd rfl h, fun h => absurd h (by decide)⟩
def cal_X11_whole : List zCal := [q_X11_bits]
def b_X11_whole_30 : List zE := (30, .lreturn, []) :: []
def p_X11_whole_30 : List (List (Nat × Nat)) := [] :: []
def b_X11_whole_21 : List zE := (21, .lload_n 2, []) :: (22, .ldc2_w 168, [4503599627370496]) :: (25, .lrem, []) :: (26, .ldc2_w 168, [4503599627370496]) :: (29, .ladd, []) :: (30, .nop, [0]) :: []
def p_X11_whole_21 : List (List (Nat × Nat)) := [] :: [(7, 19)] :: [] :: [(7, 19)] :: [] :: [] :: []
def b_X11_whole_0 : List zE := (0, .dload_n 0, []) :: (1, .invokestatic 158, [0, 1]) :: (4, .ldc2_w 161, [9223372036854775807]) :: (7, .land, []) :: (8, .lstore_n 2, []) :: (9, .lload_n 2, []) :: (10, .ldc2_w 168, [4503599627370496]) :: (13, .lcmp, []) :: (14, .ifCond .ge 7, [21, 0]) :: (17, .lload_n 2, []) :: (18, .goto 12, [30, 0]) :: []
def p_X11_whole_0 : List (List (Nat × Nat)) := [] :: [(6, 227)] :: [(6, 204)] :: [] :: [] :: [] :: [(7, 19)] :: [] :: [] :: [] :: [] :: []
def bl_X11_whole : List (Nat × List zE) := [(0, b_X11_whole_0), (21, b_X11_whole_21), (30, b_X11_whole_30)]
def pl_X11_whole : List (List (List (Nat × Nat))) := [p_X11_whole_0, p_X11_whole_21, p_X11_whole_30]
theorem k_X11_whole_0 : zlk 0 bl_X11_whole = b_X11_whole_0 := rfl
theorem k_X11_whole_21 : zlk 21 bl_X11_whole = b_X11_whole_21 := rfl
theorem k_X11_whole_30 : zlk 30 bl_X11_whole = b_X11_whole_30 := rfl
set_option maxRecDepth 100000 in
theorem ck_X11_whole : zall q_X11_whole.2.2.2.2.1 q_X11_whole.2.1 11 false q_X11_whole.2.2.1 cal_X11_whole q_X11_whole.2.2.2.1 bl_X11_whole pl_X11_whole = true := by decide +kernel
theorem nm_X11_whole : plainName q_X11_whole.1.cls = true ∧ zRX 11 = q_X11_whole.1.cls ∧ (false = true → q_X11_whole.1.name = "<init>") := ⟨by decide +kernel, rfl, fun h => by first | rfl | cases h⟩
set_option maxRecDepth 100000 in
theorem wd_X11_power : zwd q_X11_power := ⟨zw_in (p := (7, 22)) (by decide +kernel), zw_in (p := (1, 11)) (by decide +kernel), fun _ => zw_in (p := (7, 21)) (by decide +kernel), fun h => absurd rfl h, fun h => absurd h (by decide)⟩
def cal_X11_power : List zCal := [q_X11_bits]
def b_X11_power_33 : List zE := (33, .ireturn, []) :: []
def p_X11_power_33 : List (List (Nat × Nat)) := [] :: []
def b_X11_power_23 : List zE := (23, .lload_n 2, []) :: (24, .ldc2_w 168, [4503599627370496]) :: (27, .ldiv, []) :: (28, .l2i, []) :: (29, .sipush 1075, [1075]) :: (32, .isub, []) :: (33, .nop, [0]) :: []
def p_X11_power_23 : List (List (Nat × Nat)) := [] :: [(7, 19)] :: [] :: [] :: [] :: [] :: [] :: []
def b_X11_power_0 : List zE := (0, .dload_n 0, []) :: (1, .invokestatic 158, [0, 1]) :: (4, .ldc2_w 161, [9223372036854775807]) :: (7, .land, []) :: (8, .lstore_n 2, []) :: (9, .lload_n 2, []) :: (10, .ldc2_w 168, [4503599627370496]) :: (13, .lcmp, []) :: (14, .ifCond .ge 9, [23, 0]) :: (17, .sipush (-1074), [4294966222]) :: (20, .goto 13, [33, 0]) :: []
def p_X11_power_0 : List (List (Nat × Nat)) := [] :: [(6, 227)] :: [(6, 204)] :: [] :: [] :: [] :: [(7, 19)] :: [] :: [] :: [] :: [] :: []
def bl_X11_power : List (Nat × List zE) := [(0, b_X11_power_0), (23, b_X11_power_23), (33, b_X11_power_33)]
def pl_X11_power : List (List (List (Nat × Nat))) := [p_X11_power_0, p_X11_power_23, p_X11_power_33]
theorem k_X11_power_0 : zlk 0 bl_X11_power = b_X11_power_0 := rfl
theorem k_X11_power_23 : zlk 23 bl_X11_power = b_X11_power_23 := rfl
theorem k_X11_power_33 : zlk 33 bl_X11_power = b_X11_power_33 := rfl
set_option maxRecDepth 100000 in
theorem ck_X11_power : zall q_X11_power.2.2.2.2.1 q_X11_power.2.1 11 false q_X11_power.2.2.1 cal_X11_power q_X11_power.2.2.2.1 bl_X11_power pl_X11_power = true := by decide +kernel
theorem nm_X11_power : plainName q_X11_power.1.cls = true ∧ zRX 11 = q_X11_power.1.cls ∧ (false = true → q_X11_power.1.name = "<init>") := ⟨by decide +kernel, rfl, fun h => by first | rfl | cases h⟩
set_option maxRecDepth 100000 in
theorem wd_X11_composed : zwd q_X11_composed := ⟨zw_in (p := (7, 83)) (by decide +kernel), zw_in (p := (1, 11)) (by decide +kernel), fun _ => zw_in (p := (7, 82)) (by decide +kernel), fun h => absurd rfl h, fun h => absurd h (by decide)⟩
def cal_X11_composed : List zCal := [q_X11_real]
def b_X11_composed_48 : List zE := (48, .dreturn, []) :: []
def p_X11_composed_48 : List (List (Nat × Nat)) := [] :: []
def b_X11_composed_44 : List zE := (44, .lload_n 3, []) :: (45, .invokestatic 165, [0, 1]) :: (48, .nop, [0]) :: []
def p_X11_composed_44 : List (List (Nat × Nat)) := [] :: [(6, 206)] :: [] :: []
def b_X11_composed_35 : List zE := (35, .ldc2_w 163, [9218868437227405312]) :: (38, .invokestatic 165, [0, 1]) :: (41, .goto 7, [48, 0]) :: []
def p_X11_composed_35 : List (List (Nat × Nat)) := [(6, 205)] :: [(6, 206)] :: [] :: []
def b_X11_composed_20 : List zE := (20, .iload_n 2, []) :: (21, .sipush 971, [971]) :: (24, .if_icmp .gt 11, [35, 0]) :: (27, .lload_n 3, []) :: (28, .ldc2_w 163, [9218868437227405312]) :: (31, .lcmp, []) :: (32, .ifCond .lt 12, [44, 0]) :: (35, .nop, [0]) :: []
def p_X11_composed_20 : List (List (Nat × Nat)) := [] :: [] :: [] :: [] :: [(6, 205)] :: [] :: [] :: [] :: []
def b_X11_composed_0 : List zE := (0, .lload_n 0, []) :: (1, .iload_n 2, []) :: (2, .sipush 1074, [1074]) :: (5, .iadd, []) :: (6, .i2l, []) :: (7, .bipush 52, [52]) :: (9, .lshl, []) :: (10, .ladd, []) :: (11, .lstore_n 3, []) :: (12, .lload_n 0, []) :: (13, .lconst 0, [0]) :: (14, .lcmp, []) :: (15, .ifCond .ne 5, [20, 0]) :: (18, .dconst 0, [0]) :: (19, .dreturn, []) :: []
def p_X11_composed_0 : List (List (Nat × Nat)) := [] :: [] :: [] :: [] :: [] :: [] :: [] :: [] :: [] :: [] :: [] :: [] :: [] :: [] :: [] :: []
def bl_X11_composed : List (Nat × List zE) := [(0, b_X11_composed_0), (20, b_X11_composed_20), (35, b_X11_composed_35), (44, b_X11_composed_44), (48, b_X11_composed_48)]
def pl_X11_composed : List (List (List (Nat × Nat))) := [p_X11_composed_0, p_X11_composed_20, p_X11_composed_35, p_X11_composed_44, p_X11_composed_48]
theorem k_X11_composed_0 : zlk 0 bl_X11_composed = b_X11_composed_0 := rfl
theorem k_X11_composed_20 : zlk 20 bl_X11_composed = b_X11_composed_20 := rfl
theorem k_X11_composed_35 : zlk 35 bl_X11_composed = b_X11_composed_35 := rfl
theorem k_X11_composed_44 : zlk 44 bl_X11_composed = b_X11_composed_44 := rfl
theorem k_X11_composed_48 : zlk 48 bl_X11_composed = b_X11_composed_48 := rfl
set_option maxRecDepth 100000 in
theorem ck_X11_composed : zall q_X11_composed.2.2.2.2.1 q_X11_composed.2.1 11 false q_X11_composed.2.2.1 cal_X11_composed q_X11_composed.2.2.2.1 bl_X11_composed pl_X11_composed = true := by decide +kernel
theorem nm_X11_composed : plainName q_X11_composed.1.cls = true ∧ zRX 11 = q_X11_composed.1.cls ∧ (false = true → q_X11_composed.1.name = "<init>") := ⟨by decide +kernel, rfl, fun h => by first | rfl | cases h⟩
set_option maxRecDepth 100000 in
theorem wd_X11_above : zwd q_X11_above := ⟨zw_in (p := (8, 113)) (by decide +kernel), zw_in (p := (1, 11)) (by decide +kernel), fun _ => zw_in (p := (8, 112)) (by decide +kernel), fun h => absurd rfl h, fun h => absurd h (by decide)⟩
def cal_X11_above : List zCal := [q_X11_bits, q_X11_real]
def b_X11_above_0 : List zE := (0, .dload_n 0, []) :: (1, .invokestatic 158, [0, 1]) :: (4, .lconst 1, [1]) :: (5, .ladd, []) :: (6, .invokestatic 165, [1, 1]) :: (9, .dreturn, []) :: []
def p_X11_above_0 : List (List (Nat × Nat)) := [] :: [(6, 227)] :: [] :: [] :: [(6, 206)] :: [] :: []
def bl_X11_above : List (Nat × List zE) := [(0, b_X11_above_0)]
def pl_X11_above : List (List (List (Nat × Nat))) := [p_X11_above_0]
theorem k_X11_above_0 : zlk 0 bl_X11_above = b_X11_above_0 := rfl
set_option maxRecDepth 100000 in
theorem ck_X11_above : zall q_X11_above.2.2.2.2.1 q_X11_above.2.1 11 false q_X11_above.2.2.1 cal_X11_above q_X11_above.2.2.2.1 bl_X11_above pl_X11_above = true := by decide +kernel
theorem nm_X11_above : plainName q_X11_above.1.cls = true ∧ zRX 11 = q_X11_above.1.cls ∧ (false = true → q_X11_above.1.name = "<init>") := ⟨by decide +kernel, rfl, fun h => by first | rfl | cases h⟩
set_option maxRecDepth 100000 in
theorem wd_X11_below : zwd q_X11_below := ⟨zw_in (p := (8, 116)) (by decide +kernel), zw_in (p := (1, 11)) (by decide +kernel), fun _ => zw_in (p := (8, 115)) (by decide +kernel), fun h => absurd rfl h, fun h => absurd h (by decide)⟩
def cal_X11_below : List zCal := [q_X11_bits, q_X11_real]
def b_X11_below_0 : List zE := (0, .dload_n 0, []) :: (1, .invokestatic 158, [0, 1]) :: (4, .lconst 1, [1]) :: (5, .lsub, []) :: (6, .invokestatic 165, [1, 1]) :: (9, .dreturn, []) :: []
def p_X11_below_0 : List (List (Nat × Nat)) := [] :: [(6, 227)] :: [] :: [] :: [(6, 206)] :: [] :: []
def bl_X11_below : List (Nat × List zE) := [(0, b_X11_below_0)]
def pl_X11_below : List (List (List (Nat × Nat))) := [p_X11_below_0]
theorem k_X11_below_0 : zlk 0 bl_X11_below = b_X11_below_0 := rfl
set_option maxRecDepth 100000 in
theorem ck_X11_below : zall q_X11_below.2.2.2.2.1 q_X11_below.2.1 11 false q_X11_below.2.2.1 cal_X11_below q_X11_below.2.2.2.1 bl_X11_below pl_X11_below = true := by decide +kernel
theorem nm_X11_below : plainName q_X11_below.1.cls = true ∧ zRX 11 = q_X11_below.1.cls ∧ (false = true → q_X11_below.1.name = "<init>") := ⟨by decide +kernel, rfl, fun h => by first | rfl | cases h⟩
set_option maxRecDepth 100000 in
theorem wd_X11_root : zwd q_X11_root := ⟨zw_in (p := (7, 110)) (by decide +kernel), zw_in (p := (1, 11)) (by decide +kernel), fun _ => zw_in (p := (7, 109)) (by decide +kernel), fun h => absurd rfl h, fun h => absurd h (by decide)⟩
def cal_X11_root : List zCal := [q_X11_whole, q_X11_power, q_X11_composed]
def b_X11_root_177 : List zE := (177, .lload 11, []) :: (179, .iload 4, []) :: (181, .bipush 54, [54]) :: (183, .isub, []) :: (184, .iconst 2, [2]) :: (185, .idiv, []) :: (186, .iconst 1, [1]) :: (187, .iadd, []) :: (188, .invokestatic 183, [2, 2]) :: (191, .dreturn, []) :: []
def p_X11_root_177 : List (List (Nat × Nat)) := [] :: [] :: [] :: [] :: [] :: [] :: [] :: [] :: [(7, 81)] :: [] :: []
def b_X11_root_145 : List zE := (145, .lload 7, []) :: (147, .lconst 1, [1]) :: (148, .land, []) :: (149, .lstore 9, []) :: (151, .lload 7, []) :: (153, .iconst 1, [1]) :: (154, .lshr, []) :: (155, .lstore 11, []) :: (157, .lload 9, []) :: (159, .lconst 1, [1]) :: (160, .lcmp, []) :: (161, .ifCond .ne 16, [177, 0]) :: (164, .lload 5, []) :: (166, .lconst 0, [0]) :: (167, .lcmp, []) :: (168, .ifCond .le 9, [177, 0]) :: (171, .lload 11, []) :: (173, .lconst 1, [1]) :: (174, .ladd, []) :: (175, .lstore 11, []) :: (177, .nop, [0]) :: []
def p_X11_root_145 : List (List (Nat × Nat)) := [] :: [] :: [] :: [] :: [] :: [] :: [] :: [] :: [] :: [] :: [] :: [] :: [] :: [] :: [] :: [] :: [] :: [] :: [] :: [] :: [] :: []
def b_X11_root_139 : List zE := (139, .iinc 9 1, [1]) :: (142, .goto (-86), [56, 1]) :: []
def p_X11_root_139 : List (List (Nat × Nat)) := [] :: [] :: []
def b_X11_root_87 : List zE := (87, .lstore 10, []) :: (89, .ldc2_w 181, [4]) :: (92, .lload 5, []) :: (94, .lmul, []) :: (95, .lload 10, []) :: (97, .ladd, []) :: (98, .lstore 5, []) :: (100, .ldc2_w 181, [4]) :: (103, .lload 7, []) :: (105, .lmul, []) :: (106, .lconst 1, [1]) :: (107, .ladd, []) :: (108, .lstore 12, []) :: (110, .lload 7, []) :: (112, .ldc2_w 177, [2]) :: (115, .lmul, []) :: (116, .lstore 7, []) :: (118, .lload 5, []) :: (120, .lload 12, []) :: (122, .lcmp, []) :: (123, .ifCond .lt 16, [139, 0]) :: (126, .lload 5, []) :: (128, .lload 12, []) :: (130, .lsub, []) :: (131, .lstore 5, []) :: (133, .lload 7, []) :: (135, .lconst 1, [1]) :: (136, .ladd, []) :: (137, .lstore 7, []) :: (139, .nop, [0]) :: []
def p_X11_root_87 : List (List (Nat × Nat)) := [] :: [(7, 112)] :: [] :: [] :: [] :: [] :: [] :: [(7, 112)] :: [] :: [] :: [] :: [] :: [] :: [] :: [(7, 23)] :: [] :: [] :: [] :: [] :: [] :: [] :: [] :: [] :: [] :: [] :: [] :: [] :: [] :: [] :: [] :: []
def b_X11_root_86 : List zE := (86, .lconst 0, [0]) :: (87, .nop, [0]) :: []
def p_X11_root_86 : List (List (Nat × Nat)) := [] :: [] :: []
def b_X11_root_56 : List zE := (56, .iload 9, []) :: (58, .bipush 54, [54]) :: (60, .if_icmp .ge 85, [145, 0]) :: (63, .iload 9, []) :: (65, .bipush 27, [27]) :: (67, .if_icmp .ge 19, [86, 0]) :: (70, .lload_n 2, []) :: (71, .bipush 52, [52]) :: (73, .iconst 2, [2]) :: (74, .iload 9, []) :: (76, .imul, []) :: (77, .isub, []) :: (78, .lshr, []) :: (79, .ldc2_w 179, [3]) :: (82, .land, []) :: (83, .goto 4, [87, 0]) :: []
def p_X11_root_56 : List (List (Nat × Nat)) := [] :: [] :: [] :: [] :: [] :: [] :: [] :: [] :: [] :: [] :: [] :: [] :: [] :: [(7, 111)] :: [] :: [] :: []
def b_X11_root_47 : List zE := (47, .lconst 0, [0]) :: (48, .lstore 5, []) :: (50, .lconst 0, [0]) :: (51, .lstore 7, []) :: (53, .iconst 0, [0]) :: (54, .istore 9, []) :: (56, .nop, []) :: []
def p_X11_root_47 : List (List (Nat × Nat)) := [] :: [] :: [] :: [] :: [] :: [] :: [] :: []
def b_X11_root_31 : List zE := (31, .iload 4, []) :: (33, .iconst 2, [2]) :: (34, .irem, []) :: (35, .ifCond .eq 12, [47, 0]) :: (38, .lload_n 2, []) :: (39, .ldc2_w 177, [2]) :: (42, .lmul, []) :: (43, .lstore_n 2, []) :: (44, .iinc 4 (-1), [4294967295]) :: (47, .nop, [0]) :: []
def p_X11_root_31 : List (List (Nat × Nat)) := [] :: [] :: [] :: [] :: [] :: [(7, 23)] :: [] :: [] :: [] :: [] :: []
def b_X11_root_11 : List zE := (11, .lload_n 2, []) :: (12, .ldc2_w 168, [4503599627370496]) :: (15, .lcmp, []) :: (16, .ifCond .ge 15, [31, 0]) :: (19, .lload_n 2, []) :: (20, .ldc2_w 177, [2]) :: (23, .lmul, []) :: (24, .lstore_n 2, []) :: (25, .iinc 4 (-1), [4294967295]) :: (28, .goto (-17), [11, 1]) :: []
def p_X11_root_11 : List (List (Nat × Nat)) := [] :: [(7, 19)] :: [] :: [] :: [] :: [(7, 23)] :: [] :: [] :: [] :: [] :: []
def b_X11_root_0 : List zE := (0, .dload_n 0, []) :: (1, .invokestatic 170, [0, 1]) :: (4, .lstore_n 2, []) :: (5, .dload_n 0, []) :: (6, .invokestatic 173, [1, 1]) :: (9, .istore 4, []) :: (11, .nop, []) :: []
def p_X11_root_0 : List (List (Nat × Nat)) := [] :: [(7, 16)] :: [] :: [] :: [(7, 20)] :: [] :: [] :: []
def bl_X11_root : List (Nat × List zE) := [(0, b_X11_root_0), (11, b_X11_root_11), (31, b_X11_root_31), (47, b_X11_root_47), (56, b_X11_root_56), (86, b_X11_root_86), (87, b_X11_root_87), (139, b_X11_root_139), (145, b_X11_root_145), (177, b_X11_root_177)]
def pl_X11_root : List (List (List (Nat × Nat))) := [p_X11_root_0, p_X11_root_11, p_X11_root_31, p_X11_root_47, p_X11_root_56, p_X11_root_86, p_X11_root_87, p_X11_root_139, p_X11_root_145, p_X11_root_177]
theorem k_X11_root_0 : zlk 0 bl_X11_root = b_X11_root_0 := rfl
theorem k_X11_root_11 : zlk 11 bl_X11_root = b_X11_root_11 := rfl
theorem k_X11_root_31 : zlk 31 bl_X11_root = b_X11_root_31 := rfl
theorem k_X11_root_47 : zlk 47 bl_X11_root = b_X11_root_47 := rfl
theorem k_X11_root_56 : zlk 56 bl_X11_root = b_X11_root_56 := rfl
theorem k_X11_root_86 : zlk 86 bl_X11_root = b_X11_root_86 := rfl
theorem k_X11_root_87 : zlk 87 bl_X11_root = b_X11_root_87 := rfl
theorem k_X11_root_139 : zlk 139 bl_X11_root = b_X11_root_139 := rfl
theorem k_X11_root_145 : zlk 145 bl_X11_root = b_X11_root_145 := rfl
theorem k_X11_root_177 : zlk 177 bl_X11_root = b_X11_root_177 := rfl
set_option maxRecDepth 100000 in
theorem ck_X11_root : zall q_X11_root.2.2.2.2.1 q_X11_root.2.1 11 false q_X11_root.2.2.1 cal_X11_root q_X11_root.2.2.2.1 bl_X11_root pl_X11_root = true := by decide +kernel
theorem nm_X11_root : plainName q_X11_root.1.cls = true ∧ zRX 11 = q_X11_root.1.cls ∧ (false = true → q_X11_root.1.name = "<init>") := ⟨by decide +kernel, rfl, fun h => by first | rfl | cases h⟩
set_option maxRecDepth 100000 in
theorem wd_X11_none : zwd q_X11_none := ⟨zw_in (p := (7, 51)) (by decide +kernel), zw_in (p := (1, 11)) (by decide +kernel), fun h => absurd h (by decide), fun _ => zw_in (p := (7, 50)) (by decide +kernel), fun _ => zw_in (p := (0, 65)) (by decide +kernel)⟩
def cal_X11_none : List zCal := []
def b_X11_none_29 : List zE := (29, .return_, []) :: []
def p_X11_none_29 : List (List (Nat × Nat)) := [] :: []
def b_X11_none_2 : List zE := (2, .iload_n 1, []) :: (3, .sipush 146, [146]) :: (6, .if_icmp .ge 23, [29, 0]) :: (9, .aload_n 0, []) :: (10, .getfield 7, [11, 0]) :: (13, .iload_n 1, []) :: (14, .lconst 0, [0]) :: (15, .lastore, []) :: (16, .aload_n 0, []) :: (17, .getfield 13, [11, 1]) :: (20, .iload_n 1, []) :: (21, .lconst 0, [0]) :: (22, .lastore, []) :: (23, .iinc 1 1, [1]) :: (26, .goto (-24), [2, 1]) :: []
def p_X11_none_2 : List (List (Nat × Nat)) := [] :: [] :: [] :: [] :: [(5, 231)] :: [] :: [] :: [] :: [] :: [(5, 232)] :: [] :: [] :: [] :: [] :: [] :: []
def b_X11_none_0 : List zE := (0, .iconst 0, [0]) :: (1, .istore_n 1, []) :: (2, .nop, []) :: []
def p_X11_none_0 : List (List (Nat × Nat)) := [] :: [] :: [] :: []
def bl_X11_none : List (Nat × List zE) := [(0, b_X11_none_0), (2, b_X11_none_2), (29, b_X11_none_29)]
def pl_X11_none : List (List (List (Nat × Nat))) := [p_X11_none_0, p_X11_none_2, p_X11_none_29]
theorem k_X11_none_0 : zlk 0 bl_X11_none = b_X11_none_0 := rfl
theorem k_X11_none_2 : zlk 2 bl_X11_none = b_X11_none_2 := rfl
theorem k_X11_none_29 : zlk 29 bl_X11_none = b_X11_none_29 := rfl
set_option maxRecDepth 100000 in
theorem ck_X11_none : zall q_X11_none.2.2.2.2.1 q_X11_none.2.1 11 false q_X11_none.2.2.1 cal_X11_none q_X11_none.2.2.2.1 bl_X11_none pl_X11_none = true := by decide +kernel
theorem nm_X11_none : plainName q_X11_none.1.cls = true ∧ zRX 11 = q_X11_none.1.cls ∧ (false = true → q_X11_none.1.name = "<init>") := ⟨by decide +kernel, rfl, fun h => by first | rfl | cases h⟩
set_option maxRecDepth 100000 in
theorem wd_X11_lay : zwd q_X11_lay := ⟨zw_in (p := (7, 59)) (by decide +kernel), zw_in (p := (1, 11)) (by decide +kernel), fun _ => zw_in (p := (7, 58)) (by decide +kernel), fun h => absurd rfl h, fun h => absurd h (by decide)⟩
def cal_X11_lay : List zCal := []
def b_X11_lay_0 : List zE := (0, .iload_n 3, []) :: (1, .bipush 32, [32]) :: (3, .idiv, []) :: (4, .istore 4, []) :: (6, .iload_n 3, []) :: (7, .bipush 32, [32]) :: (9, .irem, []) :: (10, .istore 5, []) :: (12, .lload_n 1, []) :: (13, .ldc2_w 187, [4294967295]) :: (16, .land, []) :: (17, .iload 5, []) :: (19, .lshl, []) :: (20, .lstore 6, []) :: (22, .lload_n 1, []) :: (23, .bipush 32, [32]) :: (25, .lushr, []) :: (26, .iload 5, []) :: (28, .lshl, []) :: (29, .lstore 8, []) :: (31, .aload_n 0, []) :: (32, .iload 4, []) :: (34, .dup2, []) :: (35, .laload, []) :: (36, .lload 6, []) :: (38, .ldc2_w 187, [4294967295]) :: (41, .land, []) :: (42, .ladd, []) :: (43, .lastore, []) :: (44, .aload_n 0, []) :: (45, .iload 4, []) :: (47, .iconst 1, [1]) :: (48, .iadd, []) :: (49, .dup2, []) :: (50, .laload, []) :: (51, .lload 6, []) :: (53, .bipush 32, [32]) :: (55, .lushr, []) :: (56, .lload 8, []) :: (58, .ldc2_w 187, [4294967295]) :: (61, .land, []) :: (62, .ladd, []) :: (63, .ladd, []) :: (64, .lastore, []) :: (65, .aload_n 0, []) :: (66, .iload 4, []) :: (68, .iconst 2, [2]) :: (69, .iadd, []) :: (70, .dup2, []) :: (71, .laload, []) :: (72, .lload 8, []) :: (74, .bipush 32, [32]) :: (76, .lushr, []) :: (77, .ladd, []) :: (78, .lastore, []) :: (79, .return_, []) :: []
def p_X11_lay_0 : List (List (Nat × Nat)) := [] :: [] :: [] :: [] :: [] :: [] :: [] :: [] :: [] :: [(7, 60)] :: [] :: [] :: [] :: [] :: [] :: [] :: [] :: [] :: [] :: [] :: [] :: [] :: [] :: [] :: [] :: [(7, 60)] :: [] :: [] :: [] :: [] :: [] :: [] :: [] :: [] :: [] :: [] :: [] :: [] :: [] :: [(7, 60)] :: [] :: [] :: [] :: [] :: [] :: [] :: [] :: [] :: [] :: [] :: [] :: [] :: [] :: [] :: [] :: [] :: []
def bl_X11_lay : List (Nat × List zE) := [(0, b_X11_lay_0)]
def pl_X11_lay : List (List (List (Nat × Nat))) := [p_X11_lay_0]
theorem k_X11_lay_0 : zlk 0 bl_X11_lay = b_X11_lay_0 := rfl
set_option maxRecDepth 100000 in
theorem ck_X11_lay : zall q_X11_lay.2.2.2.2.1 q_X11_lay.2.1 11 false q_X11_lay.2.2.1 cal_X11_lay q_X11_lay.2.2.2.1 bl_X11_lay pl_X11_lay = true := by decide +kernel
theorem nm_X11_lay : plainName q_X11_lay.1.cls = true ∧ zRX 11 = q_X11_lay.1.cls ∧ (false = true → q_X11_lay.1.name = "<init>") := ⟨by decide +kernel, rfl, fun h => by first | rfl | cases h⟩
set_option maxRecDepth 100000 in
theorem wd_X11_add : zwd q_X11_add := ⟨zw_in (p := (7, 55)) (by decide +kernel), zw_in (p := (1, 11)) (by decide +kernel), fun h => absurd h (by decide), fun _ => zw_in (p := (7, 54)) (by decide +kernel), fun _ => zw_in (p := (0, 66)) (by decide +kernel)⟩
def cal_X11_add : List zCal := [q_X11_whole, q_X11_power, q_X11_bits, q_X11_lay]
def b_X11_add_136 : List zE := (136, .astore 20, []) :: (138, .aload 20, []) :: (140, .lload 14, []) :: (142, .lload 18, []) :: (144, .lmul, []) :: (145, .iload 10, []) :: (147, .invokestatic 191, [3, 3]) :: (150, .aload 20, []) :: (152, .lload 12, []) :: (154, .lload 18, []) :: (156, .lmul, []) :: (157, .lload 14, []) :: (159, .lload 16, []) :: (161, .lmul, []) :: (162, .ladd, []) :: (163, .iload 10, []) :: (165, .bipush 27, [27]) :: (167, .iadd, []) :: (168, .invokestatic 191, [3, 3]) :: (171, .aload 20, []) :: (173, .lload 12, []) :: (175, .lload 16, []) :: (177, .lmul, []) :: (178, .iload 10, []) :: (180, .bipush 54, [54]) :: (182, .iadd, []) :: (183, .invokestatic 191, [3, 3]) :: (186, .return_, []) :: []
def p_X11_add_136 : List (List (Nat × Nat)) := [] :: [] :: [] :: [] :: [] :: [] :: [(7, 57)] :: [] :: [] :: [] :: [] :: [] :: [] :: [] :: [] :: [] :: [] :: [] :: [(7, 57)] :: [] :: [] :: [] :: [] :: [] :: [] :: [] :: [(7, 57)] :: [] :: []
def b_X11_add_132 : List zE := (132, .aload_n 0, []) :: (133, .getfield 7, [11, 0]) :: (136, .nop, []) :: []
def p_X11_add_132 : List (List (Nat × Nat)) := [] :: [(5, 231)] :: [] :: []
def b_X11_add_88 : List zE := (88, .istore 11, []) :: (90, .lload 6, []) :: (92, .bipush 27, [27]) :: (94, .lshr, []) :: (95, .lstore 12, []) :: (97, .lload 6, []) :: (99, .ldc2_w 189, [134217727]) :: (102, .land, []) :: (103, .lstore 14, []) :: (105, .lload 8, []) :: (107, .bipush 27, [27]) :: (109, .lshr, []) :: (110, .lstore 16, []) :: (112, .lload 8, []) :: (114, .ldc2_w 189, [134217727]) :: (117, .land, []) :: (118, .lstore 18, []) :: (120, .iload 11, []) :: (122, .ifCond .eq 10, [132, 0]) :: (125, .aload_n 0, []) :: (126, .getfield 13, [11, 1]) :: (129, .goto 7, [136, 1]) :: []
def p_X11_add_88 : List (List (Nat × Nat)) := [] :: [] :: [] :: [] :: [] :: [] :: [(7, 56)] :: [] :: [] :: [] :: [] :: [] :: [] :: [] :: [(7, 56)] :: [] :: [] :: [] :: [] :: [] :: [(5, 232)] :: [] :: []
def b_X11_add_87 : List zE := (87, .iconst 0, [0]) :: (88, .nop, []) :: []
def p_X11_add_87 : List (List (Nat × Nat)) := [] :: [] :: []
def b_X11_add_80 : List zE := (80, .if_icmp .eq 7, [87, 0]) :: (83, .iconst 1, [1]) :: (84, .goto 4, [88, 1]) :: []
def p_X11_add_80 : List (List (Nat × Nat)) := [] :: [] :: [] :: []
def b_X11_add_79 : List zE := (79, .iconst 0, [0]) :: (80, .nop, []) :: []
def p_X11_add_79 : List (List (Nat × Nat)) := [] :: [] :: []
def b_X11_add_66 : List zE := (66, .dload_n 3, []) :: (67, .invokestatic 158, [2, 1]) :: (70, .lconst 0, [0]) :: (71, .lcmp, []) :: (72, .ifCond .ge 7, [79, 0]) :: (75, .iconst 1, [1]) :: (76, .goto 4, [80, 1]) :: []
def p_X11_add_66 : List (List (Nat × Nat)) := [] :: [(6, 227)] :: [] :: [] :: [] :: [] :: [] :: []
def b_X11_add_65 : List zE := (65, .iconst 0, [0]) :: (66, .nop, []) :: []
def p_X11_add_65 : List (List (Nat × Nat)) := [] :: [] :: []
def b_X11_add_58 : List zE := (58, .if_icmp .eq 7, [65, 0]) :: (61, .iconst 1, [1]) :: (62, .goto 4, [66, 1]) :: []
def p_X11_add_58 : List (List (Nat × Nat)) := [] :: [] :: [] :: []
def b_X11_add_57 : List zE := (57, .iconst 0, [0]) :: (58, .nop, []) :: []
def p_X11_add_57 : List (List (Nat × Nat)) := [] :: [] :: []
def b_X11_add_27 : List zE := (27, .dload_n 1, []) :: (28, .invokestatic 173, [1, 1]) :: (31, .dload_n 3, []) :: (32, .invokestatic 173, [1, 1]) :: (35, .iadd, []) :: (36, .sipush 2176, [2176]) :: (39, .iadd, []) :: (40, .istore 10, []) :: (42, .iload 5, []) :: (44, .dload_n 1, []) :: (45, .invokestatic 158, [2, 1]) :: (48, .lconst 0, [0]) :: (49, .lcmp, []) :: (50, .ifCond .ge 7, [57, 0]) :: (53, .iconst 1, [1]) :: (54, .goto 4, [58, 1]) :: []
def p_X11_add_27 : List (List (Nat × Nat)) := [] :: [(7, 20)] :: [] :: [(7, 20)] :: [] :: [] :: [] :: [] :: [] :: [] :: [(6, 227)] :: [] :: [] :: [] :: [] :: [] :: []
def b_X11_add_26 : List zE := (26, .return_, []) :: []
def p_X11_add_26 : List (List (Nat × Nat)) := [] :: []
def b_X11_add_0 : List zE := (0, .dload_n 1, []) :: (1, .invokestatic 170, [0, 1]) :: (4, .lstore 6, []) :: (6, .dload_n 3, []) :: (7, .invokestatic 170, [0, 1]) :: (10, .lstore 8, []) :: (12, .lload 6, []) :: (14, .lconst 0, [0]) :: (15, .lcmp, []) :: (16, .ifCond .eq 10, [26, 0]) :: (19, .lload 8, []) :: (21, .lconst 0, [0]) :: (22, .lcmp, []) :: (23, .ifCond .ne 4, [27, 0]) :: (26, .nop, [0]) :: []
def p_X11_add_0 : List (List (Nat × Nat)) := [] :: [(7, 16)] :: [] :: [] :: [(7, 16)] :: [] :: [] :: [] :: [] :: [] :: [] :: [] :: [] :: [] :: [] :: []
def bl_X11_add : List (Nat × List zE) := [(0, b_X11_add_0), (26, b_X11_add_26), (27, b_X11_add_27), (57, b_X11_add_57), (58, b_X11_add_58), (65, b_X11_add_65), (66, b_X11_add_66), (79, b_X11_add_79), (80, b_X11_add_80), (87, b_X11_add_87), (88, b_X11_add_88), (132, b_X11_add_132), (136, b_X11_add_136)]
def pl_X11_add : List (List (List (Nat × Nat))) := [p_X11_add_0, p_X11_add_26, p_X11_add_27, p_X11_add_57, p_X11_add_58, p_X11_add_65, p_X11_add_66, p_X11_add_79, p_X11_add_80, p_X11_add_87, p_X11_add_88, p_X11_add_132, p_X11_add_136]
theorem k_X11_add_0 : zlk 0 bl_X11_add = b_X11_add_0 := rfl
theorem k_X11_add_26 : zlk 26 bl_X11_add = b_X11_add_26 := rfl
theorem k_X11_add_27 : zlk 27 bl_X11_add = b_X11_add_27 := rfl
theorem k_X11_add_57 : zlk 57 bl_X11_add = b_X11_add_57 := rfl
theorem k_X11_add_58 : zlk 58 bl_X11_add = b_X11_add_58 := rfl
theorem k_X11_add_65 : zlk 65 bl_X11_add = b_X11_add_65 := rfl
theorem k_X11_add_66 : zlk 66 bl_X11_add = b_X11_add_66 := rfl
theorem k_X11_add_79 : zlk 79 bl_X11_add = b_X11_add_79 := rfl
theorem k_X11_add_80 : zlk 80 bl_X11_add = b_X11_add_80 := rfl
theorem k_X11_add_87 : zlk 87 bl_X11_add = b_X11_add_87 := rfl
theorem k_X11_add_88 : zlk 88 bl_X11_add = b_X11_add_88 := rfl
theorem k_X11_add_132 : zlk 132 bl_X11_add = b_X11_add_132 := rfl
theorem k_X11_add_136 : zlk 136 bl_X11_add = b_X11_add_136 := rfl
set_option maxRecDepth 100000 in
theorem ck_X11_add : zall q_X11_add.2.2.2.2.1 q_X11_add.2.1 11 false q_X11_add.2.2.1 cal_X11_add q_X11_add.2.2.2.1 bl_X11_add pl_X11_add = true := by decide +kernel
theorem nm_X11_add : plainName q_X11_add.1.cls = true ∧ zRX 11 = q_X11_add.1.cls ∧ (false = true → q_X11_add.1.name = "<init>") := ⟨by decide +kernel, rfl, fun h => by first | rfl | cases h⟩
set_option maxRecDepth 100000 in
theorem wd_X11_carry : zwd q_X11_carry := ⟨zw_in (p := (7, 71)) (by decide +kernel), zw_in (p := (1, 11)) (by decide +kernel), fun _ => zw_in (p := (7, 70)) (by decide +kernel), fun h => absurd rfl h, fun h => absurd h (by decide)⟩
def cal_X11_carry : List zCal := []
def b_X11_carry_39 : List zE := (39, .return_, []) :: []
def p_X11_carry_39 : List (List (Nat × Nat)) := [] :: []
def b_X11_carry_4 : List zE := (4, .iload_n 3, []) :: (5, .sipush 146, [146]) :: (8, .if_icmp .ge 31, [39, 0]) :: (11, .aload_n 0, []) :: (12, .iload_n 3, []) :: (13, .laload, []) :: (14, .lload_n 1, []) :: (15, .ladd, []) :: (16, .lstore 4, []) :: (18, .aload_n 0, []) :: (19, .iload_n 3, []) :: (20, .lload 4, []) :: (22, .ldc2_w 187, [4294967295]) :: (25, .land, []) :: (26, .lastore, []) :: (27, .lload 4, []) :: (29, .bipush 32, [32]) :: (31, .lushr, []) :: (32, .lstore_n 1, []) :: (33, .iinc 3 1, [1]) :: (36, .goto (-32), [4, 1]) :: []
def p_X11_carry_4 : List (List (Nat × Nat)) := [] :: [] :: [] :: [] :: [] :: [] :: [] :: [] :: [] :: [] :: [] :: [] :: [(7, 60)] :: [] :: [] :: [] :: [] :: [] :: [] :: [] :: [] :: []
def b_X11_carry_0 : List zE := (0, .lconst 0, [0]) :: (1, .lstore_n 1, []) :: (2, .iconst 0, [0]) :: (3, .istore_n 3, []) :: (4, .nop, []) :: []
def p_X11_carry_0 : List (List (Nat × Nat)) := [] :: [] :: [] :: [] :: [] :: []
def bl_X11_carry : List (Nat × List zE) := [(0, b_X11_carry_0), (4, b_X11_carry_4), (39, b_X11_carry_39)]
def pl_X11_carry : List (List (List (Nat × Nat))) := [p_X11_carry_0, p_X11_carry_4, p_X11_carry_39]
theorem k_X11_carry_0 : zlk 0 bl_X11_carry = b_X11_carry_0 := rfl
theorem k_X11_carry_4 : zlk 4 bl_X11_carry = b_X11_carry_4 := rfl
theorem k_X11_carry_39 : zlk 39 bl_X11_carry = b_X11_carry_39 := rfl
set_option maxRecDepth 100000 in
theorem ck_X11_carry : zall q_X11_carry.2.2.2.2.1 q_X11_carry.2.1 11 false q_X11_carry.2.2.1 cal_X11_carry q_X11_carry.2.2.2.1 bl_X11_carry pl_X11_carry = true := by decide +kernel
theorem nm_X11_carry : plainName q_X11_carry.1.cls = true ∧ zRX 11 = q_X11_carry.1.cls ∧ (false = true → q_X11_carry.1.name = "<init>") := ⟨by decide +kernel, rfl, fun h => by first | rfl | cases h⟩
set_option maxRecDepth 100000 in
theorem wd_X11_order : zwd q_X11_order := ⟨zw_in (p := (7, 74)) (by decide +kernel), zw_in (p := (1, 11)) (by decide +kernel), fun _ => zw_in (p := (7, 73)) (by decide +kernel), fun h => absurd rfl h, fun h => absurd h (by decide)⟩
def cal_X11_order : List zCal := []
def b_X11_order_47 : List zE := (47, .ireturn, []) :: []
def p_X11_order_47 : List (List (Nat × Nat)) := [] :: []
def b_X11_order_46 : List zE := (46, .iconst (-1), [4294967295]) :: (47, .nop, [0]) :: []
def p_X11_order_46 : List (List (Nat × Nat)) := [] :: [] :: []
def b_X11_order_32 : List zE := (32, .aload_n 0, []) :: (33, .iload_n 2, []) :: (34, .laload, []) :: (35, .aload_n 1, []) :: (36, .iload_n 2, []) :: (37, .laload, []) :: (38, .lcmp, []) :: (39, .ifCond .le 7, [46, 0]) :: (42, .iconst 1, [1]) :: (43, .goto 4, [47, 0]) :: []
def p_X11_order_32 : List (List (Nat × Nat)) := [] :: [] :: [] :: [] :: [] :: [] :: [] :: [] :: [] :: [] :: []
def b_X11_order_24 : List zE := (24, .iload_n 2, []) :: (25, .ifCond .ge 7, [32, 0]) :: (28, .iconst 0, [0]) :: (29, .goto 18, [47, 0]) :: []
def p_X11_order_24 : List (List (Nat × Nat)) := [] :: [] :: [] :: [] :: []
def b_X11_order_4 : List zE := (4, .iload_n 2, []) :: (5, .ifCond .lt 19, [24, 0]) :: (8, .aload_n 0, []) :: (9, .iload_n 2, []) :: (10, .laload, []) :: (11, .aload_n 1, []) :: (12, .iload_n 2, []) :: (13, .laload, []) :: (14, .lcmp, []) :: (15, .ifCond .ne 9, [24, 0]) :: (18, .iinc 2 (-1), [4294967295]) :: (21, .goto (-17), [4, 1]) :: []
def p_X11_order_4 : List (List (Nat × Nat)) := [] :: [] :: [] :: [] :: [] :: [] :: [] :: [] :: [] :: [] :: [] :: [] :: []
def b_X11_order_0 : List zE := (0, .sipush 145, [145]) :: (3, .istore_n 2, []) :: (4, .nop, []) :: []
def p_X11_order_0 : List (List (Nat × Nat)) := [] :: [] :: [] :: []
def bl_X11_order : List (Nat × List zE) := [(0, b_X11_order_0), (4, b_X11_order_4), (24, b_X11_order_24), (32, b_X11_order_32), (46, b_X11_order_46), (47, b_X11_order_47)]
def pl_X11_order : List (List (List (Nat × Nat))) := [p_X11_order_0, p_X11_order_4, p_X11_order_24, p_X11_order_32, p_X11_order_46, p_X11_order_47]
theorem k_X11_order_0 : zlk 0 bl_X11_order = b_X11_order_0 := rfl
theorem k_X11_order_4 : zlk 4 bl_X11_order = b_X11_order_4 := rfl
theorem k_X11_order_24 : zlk 24 bl_X11_order = b_X11_order_24 := rfl
theorem k_X11_order_32 : zlk 32 bl_X11_order = b_X11_order_32 := rfl
theorem k_X11_order_46 : zlk 46 bl_X11_order = b_X11_order_46 := rfl
theorem k_X11_order_47 : zlk 47 bl_X11_order = b_X11_order_47 := rfl
set_option maxRecDepth 100000 in
theorem ck_X11_order : zall q_X11_order.2.2.2.2.1 q_X11_order.2.1 11 false q_X11_order.2.2.1 cal_X11_order q_X11_order.2.2.2.1 bl_X11_order pl_X11_order = true := by decide +kernel
theorem nm_X11_order : plainName q_X11_order.1.cls = true ∧ zRX 11 = q_X11_order.1.cls ∧ (false = true → q_X11_order.1.name = "<init>") := ⟨by decide +kernel, rfl, fun h => by first | rfl | cases h⟩
set_option maxRecDepth 100000 in
theorem wd_X11_sums : zwd q_X11_sums := ⟨zw_in (p := (7, 68)) (by decide +kernel), zw_in (p := (1, 11)) (by decide +kernel), fun h => absurd h (by decide), fun _ => zw_in (p := (7, 67)) (by decide +kernel), fun _ => zw_in (p := (0, 68)) (by decide +kernel)⟩
def cal_X11_sums : List zCal := [q_X11_carry, q_X11_order]
def b_X11_sums_119 : List zE := (119, .return_, []) :: []
def p_X11_sums_119 : List (List (Nat × Nat)) := [] :: []
def b_X11_sums_100 : List zE := (100, .lstore_n 1, []) :: (101, .aload_n 0, []) :: (102, .getfield 16, [11, 2]) :: (105, .iload_n 3, []) :: (106, .lload 4, []) :: (108, .ldc2_w 187, [4294967295]) :: (111, .land, []) :: (112, .lastore, []) :: (113, .iinc 3 1, [1]) :: (116, .goto (-75), [41, 1]) :: []
def p_X11_sums_100 : List (List (Nat × Nat)) := [] :: [] :: [(5, 233)] :: [] :: [] :: [(7, 60)] :: [] :: [] :: [] :: [] :: []
def b_X11_sums_99 : List zE := (99, .lconst 0, [0]) :: (100, .nop, [0]) :: []
def p_X11_sums_99 : List (List (Nat × Nat)) := [] :: [] :: []
def b_X11_sums_84 : List zE := (84, .lload_n 1, []) :: (85, .lsub, []) :: (86, .lstore 4, []) :: (88, .lload 4, []) :: (90, .lconst 0, [0]) :: (91, .lcmp, []) :: (92, .ifCond .ge 7, [99, 0]) :: (95, .lconst 1, [1]) :: (96, .goto 4, [100, 0]) :: []
def p_X11_sums_84 : List (List (Nat × Nat)) := [] :: [] :: [] :: [] :: [] :: [] :: [] :: [] :: [] :: []
def b_X11_sums_71 : List zE := (71, .aload_n 0, []) :: (72, .getfield 7, [11, 0]) :: (75, .iload_n 3, []) :: (76, .laload, []) :: (77, .aload_n 0, []) :: (78, .getfield 13, [11, 1]) :: (81, .iload_n 3, []) :: (82, .laload, []) :: (83, .lsub, []) :: (84, .nop, [0]) :: []
def p_X11_sums_71 : List (List (Nat × Nat)) := [] :: [(5, 231)] :: [] :: [] :: [] :: [(5, 232)] :: [] :: [] :: [] :: [] :: []
def b_X11_sums_41 : List zE := (41, .iload_n 3, []) :: (42, .sipush 146, [146]) :: (45, .if_icmp .ge 74, [119, 0]) :: (48, .aload_n 0, []) :: (49, .getfield 203, [11, 3]) :: (52, .ifCond .eq 19, [71, 0]) :: (55, .aload_n 0, []) :: (56, .getfield 13, [11, 1]) :: (59, .iload_n 3, []) :: (60, .laload, []) :: (61, .aload_n 0, []) :: (62, .getfield 7, [11, 0]) :: (65, .iload_n 3, []) :: (66, .laload, []) :: (67, .lsub, []) :: (68, .goto 16, [84, 0]) :: []
def p_X11_sums_41 : List (List (Nat × Nat)) := [] :: [] :: [] :: [] :: [(5, 234)] :: [] :: [] :: [(5, 232)] :: [] :: [] :: [] :: [(5, 231)] :: [] :: [] :: [] :: [] :: []
def b_X11_sums_34 : List zE := (34, .putfield 203, [11, 3]) :: (37, .lconst 0, [0]) :: (38, .lstore_n 1, []) :: (39, .iconst 0, [0]) :: (40, .istore_n 3, []) :: (41, .nop, []) :: []
def p_X11_sums_34 : List (List (Nat × Nat)) := [(5, 234)] :: [] :: [] :: [] :: [] :: [] :: []
def b_X11_sums_33 : List zE := (33, .iconst 0, [0]) :: (34, .nop, [0]) :: []
def p_X11_sums_33 : List (List (Nat × Nat)) := [] :: [] :: []
def b_X11_sums_0 : List zE := (0, .aload_n 0, []) :: (1, .getfield 7, [11, 0]) :: (4, .invokestatic 195, [0, 1]) :: (7, .aload_n 0, []) :: (8, .getfield 13, [11, 1]) :: (11, .invokestatic 195, [0, 1]) :: (14, .aload_n 0, []) :: (15, .aload_n 0, []) :: (16, .getfield 7, [11, 0]) :: (19, .aload_n 0, []) :: (20, .getfield 13, [11, 1]) :: (23, .invokestatic 199, [1, 2]) :: (26, .ifCond .ge 7, [33, 0]) :: (29, .iconst 1, [1]) :: (30, .goto 4, [34, 0]) :: []
def p_X11_sums_0 : List (List (Nat × Nat)) := [] :: [(5, 231)] :: [(7, 69)] :: [] :: [(5, 232)] :: [(7, 69)] :: [] :: [] :: [(5, 231)] :: [] :: [(5, 232)] :: [(7, 72)] :: [] :: [] :: [] :: []
def bl_X11_sums : List (Nat × List zE) := [(0, b_X11_sums_0), (33, b_X11_sums_33), (34, b_X11_sums_34), (41, b_X11_sums_41), (71, b_X11_sums_71), (84, b_X11_sums_84), (99, b_X11_sums_99), (100, b_X11_sums_100), (119, b_X11_sums_119)]
def pl_X11_sums : List (List (List (Nat × Nat))) := [p_X11_sums_0, p_X11_sums_33, p_X11_sums_34, p_X11_sums_41, p_X11_sums_71, p_X11_sums_84, p_X11_sums_99, p_X11_sums_100, p_X11_sums_119]
theorem k_X11_sums_0 : zlk 0 bl_X11_sums = b_X11_sums_0 := rfl
theorem k_X11_sums_33 : zlk 33 bl_X11_sums = b_X11_sums_33 := rfl
theorem k_X11_sums_34 : zlk 34 bl_X11_sums = b_X11_sums_34 := rfl
theorem k_X11_sums_41 : zlk 41 bl_X11_sums = b_X11_sums_41 := rfl
theorem k_X11_sums_71 : zlk 71 bl_X11_sums = b_X11_sums_71 := rfl
theorem k_X11_sums_84 : zlk 84 bl_X11_sums = b_X11_sums_84 := rfl
theorem k_X11_sums_99 : zlk 99 bl_X11_sums = b_X11_sums_99 := rfl
theorem k_X11_sums_100 : zlk 100 bl_X11_sums = b_X11_sums_100 := rfl
theorem k_X11_sums_119 : zlk 119 bl_X11_sums = b_X11_sums_119 := rfl
set_option maxRecDepth 100000 in
theorem ck_X11_sums : zall q_X11_sums.2.2.2.2.1 q_X11_sums.2.1 11 false q_X11_sums.2.2.1 cal_X11_sums q_X11_sums.2.2.2.1 bl_X11_sums pl_X11_sums = true := by decide +kernel
theorem nm_X11_sums : plainName q_X11_sums.1.cls = true ∧ zRX 11 = q_X11_sums.1.cls ∧ (false = true → q_X11_sums.1.name = "<init>") := ⟨by decide +kernel, rfl, fun h => by first | rfl | cases h⟩
set_option maxRecDepth 100000 in
theorem wd_X11_bitAt : zwd q_X11_bitAt := ⟨zw_in (p := (7, 80)) (by decide +kernel), zw_in (p := (1, 11)) (by decide +kernel), fun _ => zw_in (p := (7, 79)) (by decide +kernel), fun h => absurd rfl h, fun h => absurd h (by decide)⟩
def cal_X11_bitAt : List zCal := []
def b_X11_bitAt_27 : List zE := (27, .ireturn, []) :: []
def p_X11_bitAt_27 : List (List (Nat × Nat)) := [] :: []
def b_X11_bitAt_26 : List zE := (26, .iconst 0, [0]) :: (27, .nop, [0]) :: []
def p_X11_bitAt_26 : List (List (Nat × Nat)) := [] :: [] :: []
def b_X11_bitAt_0 : List zE := (0, .iload_n 1, []) :: (1, .ifCond .lt 25, [26, 0]) :: (4, .aload_n 0, []) :: (5, .iload_n 1, []) :: (6, .bipush 32, [32]) :: (8, .idiv, []) :: (9, .laload, []) :: (10, .iload_n 1, []) :: (11, .bipush 32, [32]) :: (13, .irem, []) :: (14, .lshr, []) :: (15, .lconst 1, [1]) :: (16, .land, []) :: (17, .lconst 1, [1]) :: (18, .lcmp, []) :: (19, .ifCond .ne 7, [26, 0]) :: (22, .iconst 1, [1]) :: (23, .goto 4, [27, 0]) :: []
def p_X11_bitAt_0 : List (List (Nat × Nat)) := [] :: [] :: [] :: [] :: [] :: [] :: [] :: [] :: [] :: [] :: [] :: [] :: [] :: [] :: [] :: [] :: [] :: [] :: []
def bl_X11_bitAt : List (Nat × List zE) := [(0, b_X11_bitAt_0), (26, b_X11_bitAt_26), (27, b_X11_bitAt_27)]
def pl_X11_bitAt : List (List (List (Nat × Nat))) := [p_X11_bitAt_0, p_X11_bitAt_26, p_X11_bitAt_27]
theorem k_X11_bitAt_0 : zlk 0 bl_X11_bitAt = b_X11_bitAt_0 := rfl
theorem k_X11_bitAt_26 : zlk 26 bl_X11_bitAt = b_X11_bitAt_26 := rfl
theorem k_X11_bitAt_27 : zlk 27 bl_X11_bitAt = b_X11_bitAt_27 := rfl
set_option maxRecDepth 100000 in
theorem ck_X11_bitAt : zall q_X11_bitAt.2.2.2.2.1 q_X11_bitAt.2.1 11 false q_X11_bitAt.2.2.1 cal_X11_bitAt q_X11_bitAt.2.2.2.1 bl_X11_bitAt pl_X11_bitAt = true := by decide +kernel
theorem nm_X11_bitAt : plainName q_X11_bitAt.1.cls = true ∧ zRX 11 = q_X11_bitAt.1.cls ∧ (false = true → q_X11_bitAt.1.name = "<init>") := ⟨by decide +kernel, rfl, fun h => by first | rfl | cases h⟩
set_option maxRecDepth 100000 in
theorem wd_X11_rounded : zwd q_X11_rounded := ⟨zw_in (p := (7, 77)) (by decide +kernel), zw_in (p := (1, 11)) (by decide +kernel), fun _ => zw_in (p := (7, 76)) (by decide +kernel), fun h => absurd rfl h, fun h => absurd h (by decide)⟩
def cal_X11_rounded : List zCal := [q_X11_bitAt, q_X11_composed]
def b_X11_rounded_175 : List zE := (175, .lload 4, []) :: (177, .iload_n 3, []) :: (178, .sipush 2176, [2176]) :: (181, .isub, []) :: (182, .invokestatic 183, [1, 2]) :: (185, .dreturn, []) :: []
def p_X11_rounded_175 : List (List (Nat × Nat)) := [] :: [] :: [] :: [] :: [(7, 81)] :: [] :: []
def b_X11_rounded_169 : List zE := (169, .lload 4, []) :: (171, .lconst 1, [1]) :: (172, .ladd, []) :: (173, .lstore 4, []) :: (175, .nop, [0]) :: []
def p_X11_rounded_169 : List (List (Nat × Nat)) := [] :: [] :: [] :: [] :: [] :: []
def b_X11_rounded_148 : List zE := (148, .iload 6, []) :: (150, .ifCond .eq 25, [175, 0]) :: (153, .iload 7, []) :: (155, .ifCond .ne 14, [169, 0]) :: (158, .lload 4, []) :: (160, .ldc2_w 177, [2]) :: (163, .lrem, []) :: (164, .lconst 1, [1]) :: (165, .lcmp, []) :: (166, .ifCond .ne 9, [175, 0]) :: (169, .nop, [0]) :: []
def p_X11_rounded_148 : List (List (Nat × Nat)) := [] :: [] :: [] :: [] :: [] :: [(7, 23)] :: [] :: [] :: [] :: [] :: [] :: []
def b_X11_rounded_131 : List zE := (131, .iload_n 1, []) :: (132, .ifCond .eq 16, [148, 0]) :: (135, .iload 6, []) :: (137, .ifCond .ne 32, [169, 0]) :: (140, .iload 7, []) :: (142, .ifCond .eq 33, [175, 0]) :: (145, .goto 24, [169, 0]) :: []
def p_X11_rounded_131 : List (List (Nat × Nat)) := [] :: [] :: [] :: [] :: [] :: [] :: [] :: []
def b_X11_rounded_107 : List zE := (107, .iload 8, []) :: (109, .ifCond .lt 22, [131, 0]) :: (112, .iload 7, []) :: (114, .ifCond .ne 17, [131, 0]) :: (117, .aload_n 0, []) :: (118, .iload 8, []) :: (120, .invokestatic 207, [0, 2]) :: (123, .istore 7, []) :: (125, .iinc 8 (-1), [4294967295]) :: (128, .goto (-21), [107, 1]) :: []
def p_X11_rounded_107 : List (List (Nat × Nat)) := [] :: [] :: [] :: [] :: [] :: [] :: [(7, 78)] :: [] :: [] :: [] :: []
def b_X11_rounded_90 : List zE := (90, .aload_n 0, []) :: (91, .iload_n 3, []) :: (92, .iconst 1, [1]) :: (93, .isub, []) :: (94, .invokestatic 207, [0, 2]) :: (97, .istore 6, []) :: (99, .iconst 0, [0]) :: (100, .istore 7, []) :: (102, .iload_n 3, []) :: (103, .iconst 2, [2]) :: (104, .isub, []) :: (105, .istore 8, []) :: (107, .nop, []) :: []
def p_X11_rounded_90 : List (List (Nat × Nat)) := [] :: [] :: [] :: [] :: [(7, 78)] :: [] :: [] :: [] :: [] :: [] :: [] :: [] :: [] :: []
def b_X11_rounded_81 : List zE := (81, .ladd, []) :: (82, .lstore 4, []) :: (84, .iinc 6 (-1), [4294967295]) :: (87, .goto (-32), [55, 1]) :: []
def p_X11_rounded_81 : List (List (Nat × Nat)) := [] :: [] :: [] :: [] :: []
def b_X11_rounded_80 : List zE := (80, .lconst 0, [0]) :: (81, .nop, [0]) :: []
def p_X11_rounded_80 : List (List (Nat × Nat)) := [] :: [] :: []
def b_X11_rounded_55 : List zE := (55, .iload 6, []) :: (57, .iload_n 3, []) :: (58, .if_icmp .lt 32, [90, 0]) :: (61, .ldc2_w 177, [2]) :: (64, .lload 4, []) :: (66, .lmul, []) :: (67, .aload_n 0, []) :: (68, .iload 6, []) :: (70, .invokestatic 207, [0, 2]) :: (73, .ifCond .eq 7, [80, 0]) :: (76, .lconst 1, [1]) :: (77, .goto 4, [81, 0]) :: []
def p_X11_rounded_55 : List (List (Nat × Nat)) := [] :: [] :: [] :: [(7, 23)] :: [] :: [] :: [] :: [] :: [(7, 78)] :: [] :: [] :: [] :: []
def b_X11_rounded_48 : List zE := (48, .istore_n 3, []) :: (49, .lconst 0, [0]) :: (50, .lstore 4, []) :: (52, .iload_n 2, []) :: (53, .istore 6, []) :: (55, .nop, []) :: []
def p_X11_rounded_48 : List (List (Nat × Nat)) := [] :: [] :: [] :: [] :: [] :: [] :: []
def b_X11_rounded_44 : List zE := (44, .iload_n 2, []) :: (45, .bipush 52, [52]) :: (47, .isub, []) :: (48, .nop, [0]) :: []
def p_X11_rounded_44 : List (List (Nat × Nat)) := [] :: [] :: [] :: [] :: []
def b_X11_rounded_28 : List zE := (28, .iload_n 2, []) :: (29, .bipush 52, [52]) :: (31, .isub, []) :: (32, .sipush 1102, [1102]) :: (35, .if_icmp .ge 9, [44, 0]) :: (38, .sipush 1102, [1102]) :: (41, .goto 7, [48, 0]) :: []
def p_X11_rounded_28 : List (List (Nat × Nat)) := [] :: [] :: [] :: [] :: [] :: [] :: [] :: []
def b_X11_rounded_22 : List zE := (22, .iload_n 2, []) :: (23, .ifCond .ge 5, [28, 0]) :: (26, .dconst 0, [0]) :: (27, .dreturn, []) :: []
def p_X11_rounded_22 : List (List (Nat × Nat)) := [] :: [] :: [] :: [] :: []
def b_X11_rounded_4 : List zE := (4, .iload_n 2, []) :: (5, .ifCond .lt 17, [22, 0]) :: (8, .aload_n 0, []) :: (9, .iload_n 2, []) :: (10, .invokestatic 207, [0, 2]) :: (13, .ifCond .ne 9, [22, 0]) :: (16, .iinc 2 (-1), [4294967295]) :: (19, .goto (-15), [4, 1]) :: []
def p_X11_rounded_4 : List (List (Nat × Nat)) := [] :: [] :: [] :: [] :: [(7, 78)] :: [] :: [] :: [] :: []
def b_X11_rounded_0 : List zE := (0, .sipush 4671, [4671]) :: (3, .istore_n 2, []) :: (4, .nop, []) :: []
def p_X11_rounded_0 : List (List (Nat × Nat)) := [] :: [] :: [] :: []
def bl_X11_rounded : List (Nat × List zE) := [(0, b_X11_rounded_0), (4, b_X11_rounded_4), (22, b_X11_rounded_22), (28, b_X11_rounded_28), (44, b_X11_rounded_44), (48, b_X11_rounded_48), (55, b_X11_rounded_55), (80, b_X11_rounded_80), (81, b_X11_rounded_81), (90, b_X11_rounded_90), (107, b_X11_rounded_107), (131, b_X11_rounded_131), (148, b_X11_rounded_148), (169, b_X11_rounded_169), (175, b_X11_rounded_175)]
def pl_X11_rounded : List (List (List (Nat × Nat))) := [p_X11_rounded_0, p_X11_rounded_4, p_X11_rounded_22, p_X11_rounded_28, p_X11_rounded_44, p_X11_rounded_48, p_X11_rounded_55, p_X11_rounded_80, p_X11_rounded_81, p_X11_rounded_90, p_X11_rounded_107, p_X11_rounded_131, p_X11_rounded_148, p_X11_rounded_169, p_X11_rounded_175]
theorem k_X11_rounded_0 : zlk 0 bl_X11_rounded = b_X11_rounded_0 := rfl
theorem k_X11_rounded_4 : zlk 4 bl_X11_rounded = b_X11_rounded_4 := rfl
theorem k_X11_rounded_22 : zlk 22 bl_X11_rounded = b_X11_rounded_22 := rfl
theorem k_X11_rounded_28 : zlk 28 bl_X11_rounded = b_X11_rounded_28 := rfl
theorem k_X11_rounded_44 : zlk 44 bl_X11_rounded = b_X11_rounded_44 := rfl
theorem k_X11_rounded_48 : zlk 48 bl_X11_rounded = b_X11_rounded_48 := rfl
theorem k_X11_rounded_55 : zlk 55 bl_X11_rounded = b_X11_rounded_55 := rfl
theorem k_X11_rounded_80 : zlk 80 bl_X11_rounded = b_X11_rounded_80 := rfl
theorem k_X11_rounded_81 : zlk 81 bl_X11_rounded = b_X11_rounded_81 := rfl
theorem k_X11_rounded_90 : zlk 90 bl_X11_rounded = b_X11_rounded_90 := rfl
theorem k_X11_rounded_107 : zlk 107 bl_X11_rounded = b_X11_rounded_107 := rfl
theorem k_X11_rounded_131 : zlk 131 bl_X11_rounded = b_X11_rounded_131 := rfl
theorem k_X11_rounded_148 : zlk 148 bl_X11_rounded = b_X11_rounded_148 := rfl
theorem k_X11_rounded_169 : zlk 169 bl_X11_rounded = b_X11_rounded_169 := rfl
theorem k_X11_rounded_175 : zlk 175 bl_X11_rounded = b_X11_rounded_175 := rfl
set_option maxRecDepth 100000 in
theorem ck_X11_rounded : zall q_X11_rounded.2.2.2.2.1 q_X11_rounded.2.1 11 false q_X11_rounded.2.2.1 cal_X11_rounded q_X11_rounded.2.2.2.1 bl_X11_rounded pl_X11_rounded = true := by decide +kernel
theorem nm_X11_rounded : plainName q_X11_rounded.1.cls = true ∧ zRX 11 = q_X11_rounded.1.cls ∧ (false = true → q_X11_rounded.1.name = "<init>") := ⟨by decide +kernel, rfl, fun h => by first | rfl | cases h⟩
set_option maxRecDepth 100000 in
theorem wd_X11_roundedSum : zwd q_X11_roundedSum := ⟨zw_in (p := (7, 64)) (by decide +kernel), zw_in (p := (1, 11)) (by decide +kernel), fun h => absurd h (by decide), fun _ => zw_in (p := (7, 63)) (by decide +kernel), fun _ => zw_in (p := (0, 67)) (by decide +kernel)⟩
def cal_X11_roundedSum : List zCal := [q_X11_sums, q_X11_rounded]
def b_X11_roundedSum_26 : List zE := (26, .dreturn, []) :: []
def p_X11_roundedSum_26 : List (List (Nat × Nat)) := [] :: []
def b_X11_roundedSum_25 : List zE := (25, .dload_n 1, []) :: (26, .nop, [0]) :: []
def p_X11_roundedSum_25 : List (List (Nat × Nat)) := [] :: [] :: []
def b_X11_roundedSum_0 : List zE := (0, .aload_n 0, []) :: (1, .invokevirtual 211, [0, 0, 11]) :: (4, .aload_n 0, []) :: (5, .getfield 16, [11, 2]) :: (8, .iconst 0, [0]) :: (9, .invokestatic 214, [1, 2]) :: (12, .dstore_n 1, []) :: (13, .aload_n 0, []) :: (14, .getfield 203, [11, 3]) :: (17, .ifCond .eq 8, [25, 0]) :: (20, .dload_n 1, []) :: (21, .dneg, []) :: (22, .goto 4, [26, 0]) :: []
def p_X11_roundedSum_0 : List (List (Nat × Nat)) := [] :: [(7, 65)] :: [] :: [(5, 233)] :: [] :: [(7, 75)] :: [] :: [] :: [(5, 234)] :: [] :: [] :: [] :: [] :: []
def bl_X11_roundedSum : List (Nat × List zE) := [(0, b_X11_roundedSum_0), (25, b_X11_roundedSum_25), (26, b_X11_roundedSum_26)]
def pl_X11_roundedSum : List (List (List (Nat × Nat))) := [p_X11_roundedSum_0, p_X11_roundedSum_25, p_X11_roundedSum_26]
theorem k_X11_roundedSum_0 : zlk 0 bl_X11_roundedSum = b_X11_roundedSum_0 := rfl
theorem k_X11_roundedSum_25 : zlk 25 bl_X11_roundedSum = b_X11_roundedSum_25 := rfl
theorem k_X11_roundedSum_26 : zlk 26 bl_X11_roundedSum = b_X11_roundedSum_26 := rfl
set_option maxRecDepth 100000 in
theorem ck_X11_roundedSum : zall q_X11_roundedSum.2.2.2.2.1 q_X11_roundedSum.2.1 11 false q_X11_roundedSum.2.2.1 cal_X11_roundedSum q_X11_roundedSum.2.2.2.1 bl_X11_roundedSum pl_X11_roundedSum = true := by decide +kernel
theorem nm_X11_roundedSum : plainName q_X11_roundedSum.1.cls = true ∧ zRX 11 = q_X11_roundedSum.1.cls ∧ (false = true → q_X11_roundedSum.1.name = "<init>") := ⟨by decide +kernel, rfl, fun h => by first | rfl | cases h⟩
set_option maxRecDepth 100000 in
theorem wd_X11_fused : zwd q_X11_fused := ⟨zw_in (p := (7, 46)) (by decide +kernel), zw_in (p := (1, 11)) (by decide +kernel), fun h => absurd h (by decide), fun _ => zw_in (p := (7, 45)) (by decide +kernel), fun _ => zw_in (p := (0, 64)) (by decide +kernel)⟩
def cal_X11_fused : List zCal := [q_X11_none, q_X11_add, q_X11_roundedSum]
def b_X11_fused_51 : List zE := (51, .aload_n 0, []) :: (52, .invokevirtual 220, [0, 0, 11]) :: (55, .aload_n 0, []) :: (56, .dload_n 1, []) :: (57, .dload_n 3, []) :: (58, .iconst 0, [0]) :: (59, .invokevirtual 223, [1, 3, 11]) :: (62, .aload_n 0, []) :: (63, .dload 5, []) :: (65, .dconst 1, [4607182418800017408]) :: (66, .iconst 0, [0]) :: (67, .invokevirtual 223, [1, 3, 11]) :: (70, .aload_n 0, []) :: (71, .invokevirtual 227, [2, 0, 11]) :: (74, .dreturn, []) :: []
def p_X11_fused_51 : List (List (Nat × Nat)) := [] :: [(7, 48)] :: [] :: [] :: [] :: [] :: [(7, 52)] :: [] :: [] :: [] :: [] :: [(7, 52)] :: [] :: [(7, 61)] :: [] :: []
def b_X11_fused_49 : List zE := (49, .dadd, []) :: (50, .dreturn, []) :: []
def p_X11_fused_49 : List (List (Nat × Nat)) := [] :: [] :: []
def b_X11_fused_47 : List zE := (47, .dload 5, []) :: (49, .nop, [0]) :: []
def p_X11_fused_47 : List (List (Nat × Nat)) := [] :: [] :: []
def b_X11_fused_19 : List zE := (19, .dload_n 1, []) :: (20, .dload_n 3, []) :: (21, .dmul, []) :: (22, .dload 5, []) :: (24, .dconst 0, [0]) :: (25, .dcmp .l, []) :: (26, .ifCond .ne 21, [47, 0]) :: (29, .dload_n 1, []) :: (30, .dconst 0, [0]) :: (31, .dcmp .l, []) :: (32, .ifCond .eq 15, [47, 0]) :: (35, .dload_n 3, []) :: (36, .dconst 0, [0]) :: (37, .dcmp .l, []) :: (38, .ifCond .eq 9, [47, 0]) :: (41, .ldc2_w 218, [9223372036854775808, 0]) :: (44, .goto 5, [49, 0]) :: []
def p_X11_fused_19 : List (List (Nat × Nat)) := [] :: [] :: [] :: [] :: [] :: [] :: [] :: [] :: [] :: [] :: [] :: [] :: [] :: [] :: [] :: [(7, 47)] :: [] :: []
def b_X11_fused_0 : List zE := (0, .dload_n 1, []) :: (1, .dconst 0, [0]) :: (2, .dcmp .l, []) :: (3, .ifCond .eq 16, [19, 0]) :: (6, .dload_n 3, []) :: (7, .dconst 0, [0]) :: (8, .dcmp .l, []) :: (9, .ifCond .eq 10, [19, 0]) :: (12, .dload 5, []) :: (14, .dconst 0, [0]) :: (15, .dcmp .l, []) :: (16, .ifCond .ne 35, [51, 0]) :: (19, .nop, [0]) :: []
def p_X11_fused_0 : List (List (Nat × Nat)) := [] :: [] :: [] :: [] :: [] :: [] :: [] :: [] :: [] :: [] :: [] :: [] :: [] :: []
def bl_X11_fused : List (Nat × List zE) := [(0, b_X11_fused_0), (19, b_X11_fused_19), (47, b_X11_fused_47), (49, b_X11_fused_49), (51, b_X11_fused_51)]
def pl_X11_fused : List (List (List (Nat × Nat))) := [p_X11_fused_0, p_X11_fused_19, p_X11_fused_47, p_X11_fused_49, p_X11_fused_51]
theorem k_X11_fused_0 : zlk 0 bl_X11_fused = b_X11_fused_0 := rfl
theorem k_X11_fused_19 : zlk 19 bl_X11_fused = b_X11_fused_19 := rfl
theorem k_X11_fused_47 : zlk 47 bl_X11_fused = b_X11_fused_47 := rfl
theorem k_X11_fused_49 : zlk 49 bl_X11_fused = b_X11_fused_49 := rfl
theorem k_X11_fused_51 : zlk 51 bl_X11_fused = b_X11_fused_51 := rfl
set_option maxRecDepth 100000 in
theorem ck_X11_fused : zall q_X11_fused.2.2.2.2.1 q_X11_fused.2.1 11 false q_X11_fused.2.2.1 cal_X11_fused q_X11_fused.2.2.2.1 bl_X11_fused pl_X11_fused = true := by decide +kernel
theorem nm_X11_fused : plainName q_X11_fused.1.cls = true ∧ zRX 11 = q_X11_fused.1.cls ∧ (false = true → q_X11_fused.1.name = "<init>") := ⟨by decide +kernel, rfl, fun h => by first | rfl | cases h⟩
set_option maxRecDepth 100000 in
theorem wd_X11_isMatrix : zwd q_X11_isMatrix := ⟨zw_in (p := (6, 189)) (by decide +kernel), zw_in (p := (1, 11)) (by decide +kernel), fun h => absurd h (by decide), fun _ => zw_in (p := (6, 188)) (by decide +kernel), fun _ => zw_in (p := (0, 57)) (by decide +kernel)⟩
def cal_X11_isMatrix : List zCal := []
def b_X11_isMatrix_24 : List zE := (24, .ireturn, []) :: []
def p_X11_isMatrix_24 : List (List (Nat × Nat)) := [] :: []
def b_X11_isMatrix_23 : List zE := (23, .iconst 0, [0]) :: (24, .nop, [0]) :: []
def p_X11_isMatrix_23 : List (List (Nat × Nat)) := [] :: [] :: []
def b_X11_isMatrix_0 : List zE := (0, .iload_n 1, []) :: (1, .ifCond .lt 22, [23, 0]) :: (4, .iload_n 1, []) :: (5, .bipush 24, [24]) :: (7, .if_icmp .ge 16, [23, 0]) :: (10, .aload_n 0, []) :: (11, .getfield 23, [11, 5]) :: (14, .iload_n 1, []) :: (15, .baload, []) :: (16, .ifCond .eq 7, [23, 0]) :: (19, .iconst 1, [1]) :: (20, .goto 4, [24, 0]) :: []
def p_X11_isMatrix_0 : List (List (Nat × Nat)) := [] :: [] :: [] :: [] :: [] :: [] :: [(5, 236)] :: [] :: [] :: [] :: [] :: [] :: []
def bl_X11_isMatrix : List (Nat × List zE) := [(0, b_X11_isMatrix_0), (23, b_X11_isMatrix_23), (24, b_X11_isMatrix_24)]
def pl_X11_isMatrix : List (List (List (Nat × Nat))) := [p_X11_isMatrix_0, p_X11_isMatrix_23, p_X11_isMatrix_24]
theorem k_X11_isMatrix_0 : zlk 0 bl_X11_isMatrix = b_X11_isMatrix_0 := rfl
theorem k_X11_isMatrix_23 : zlk 23 bl_X11_isMatrix = b_X11_isMatrix_23 := rfl
theorem k_X11_isMatrix_24 : zlk 24 bl_X11_isMatrix = b_X11_isMatrix_24 := rfl
set_option maxRecDepth 100000 in
theorem ck_X11_isMatrix : zall q_X11_isMatrix.2.2.2.2.1 q_X11_isMatrix.2.1 11 false q_X11_isMatrix.2.2.1 cal_X11_isMatrix q_X11_isMatrix.2.2.2.1 bl_X11_isMatrix pl_X11_isMatrix = true := by decide +kernel
theorem nm_X11_isMatrix : plainName q_X11_isMatrix.1.cls = true ∧ zRX 11 = q_X11_isMatrix.1.cls ∧ (false = true → q_X11_isMatrix.1.name = "<init>") := ⟨by decide +kernel, rfl, fun h => by first | rfl | cases h⟩
set_option maxRecDepth 100000 in
theorem wd_X11_at : zwd q_X11_at := ⟨zw_in (p := (6, 218)) (by decide +kernel), zw_in (p := (1, 11)) (by decide +kernel), fun h => absurd h (by decide), fun _ => zw_in (p := (6, 217)) (by decide +kernel), fun _ => zw_in (p := (0, 59)) (by decide +kernel)⟩
def cal_X11_at : List zCal := []
def b_X11_at_0 : List zE := (0, .bipush 64, [64]) :: (2, .iload_n 1, []) :: (3, .imul, []) :: (4, .bipush 8, [8]) :: (6, .iload_n 2, []) :: (7, .imul, []) :: (8, .iadd, []) :: (9, .iload_n 3, []) :: (10, .iadd, []) :: (11, .ireturn, []) :: []
def p_X11_at_0 : List (List (Nat × Nat)) := [] :: [] :: [] :: [] :: [] :: [] :: [] :: [] :: [] :: [] :: []
def bl_X11_at : List (Nat × List zE) := [(0, b_X11_at_0)]
def pl_X11_at : List (List (List (Nat × Nat))) := [p_X11_at_0]
theorem k_X11_at_0 : zlk 0 bl_X11_at = b_X11_at_0 := rfl
set_option maxRecDepth 100000 in
theorem ck_X11_at : zall q_X11_at.2.2.2.2.1 q_X11_at.2.1 11 false q_X11_at.2.2.1 cal_X11_at q_X11_at.2.2.2.1 bl_X11_at pl_X11_at = true := by decide +kernel
theorem nm_X11_at : plainName q_X11_at.1.cls = true ∧ zRX 11 = q_X11_at.1.cls ∧ (false = true → q_X11_at.1.name = "<init>") := ⟨by decide +kernel, rfl, fun h => by first | rfl | cases h⟩
set_option maxRecDepth 100000 in
theorem wd_X11_isForm : zwd q_X11_isForm := ⟨zw_in (p := (6, 177)) (by decide +kernel), zw_in (p := (1, 11)) (by decide +kernel), fun _ => zw_in (p := (6, 176)) (by decide +kernel), fun h => absurd rfl h, fun h => absurd h (by decide)⟩
def cal_X11_isForm : List zCal := []
def b_X11_isForm_156 : List zE := (156, .iconst 0, [0]) :: (157, .ireturn, []) :: []
def p_X11_isForm_156 : List (List (Nat × Nat)) := [] :: [] :: []
def b_X11_isForm_155 : List zE := (155, .ireturn, []) :: []
def p_X11_isForm_155 : List (List (Nat × Nat)) := [] :: []
def b_X11_isForm_154 : List zE := (154, .iconst 0, [0]) :: (155, .nop, [0]) :: []
def p_X11_isForm_154 : List (List (Nat × Nat)) := [] :: [] :: []
def b_X11_isForm_128 : List zE := (128, .iload_n 3, []) :: (129, .ifCond .le 25, [154, 0]) :: (132, .iload 4, []) :: (134, .ifCond .le 20, [154, 0]) :: (137, .iload_n 1, []) :: (138, .iload_n 3, []) :: (139, .irem, []) :: (140, .ifCond .ne 14, [154, 0]) :: (143, .iload_n 2, []) :: (144, .iload 4, []) :: (146, .irem, []) :: (147, .ifCond .ne 7, [154, 0]) :: (150, .iconst 1, [1]) :: (151, .goto 4, [155, 0]) :: []
def p_X11_isForm_128 : List (List (Nat × Nat)) := [] :: [] :: [] :: [] :: [] :: [] :: [] :: [] :: [] :: [] :: [] :: [] :: [] :: [] :: []
def b_X11_isForm_127 : List zE := (127, .ireturn, []) :: []
def p_X11_isForm_127 : List (List (Nat × Nat)) := [] :: []
def b_X11_isForm_126 : List zE := (126, .iconst 0, [0]) :: (127, .nop, [0]) :: []
def p_X11_isForm_126 : List (List (Nat × Nat)) := [] :: [] :: []
def b_X11_isForm_95 : List zE := (95, .iload_n 1, []) :: (96, .iload_n 2, []) :: (97, .if_icmp .ne 29, [126, 0]) :: (100, .iload_n 3, []) :: (101, .ifCond .lt 25, [126, 0]) :: (104, .iload_n 3, []) :: (105, .bipush 8, [8]) :: (107, .if_icmp .ge 19, [126, 0]) :: (110, .iload 4, []) :: (112, .ifCond .lt 14, [126, 0]) :: (115, .iload 4, []) :: (117, .bipush 8, [8]) :: (119, .if_icmp .ge 7, [126, 0]) :: (122, .iconst 1, [1]) :: (123, .goto 4, [127, 0]) :: []
def p_X11_isForm_95 : List (List (Nat × Nat)) := [] :: [] :: [] :: [] :: [] :: [] :: [] :: [] :: [] :: [] :: [] :: [] :: [] :: [] :: [] :: []
def b_X11_isForm_94 : List zE := (94, .ireturn, []) :: []
def p_X11_isForm_94 : List (List (Nat × Nat)) := [] :: []
def b_X11_isForm_93 : List zE := (93, .iconst 0, [0]) :: (94, .nop, [0]) :: []
def p_X11_isForm_93 : List (List (Nat × Nat)) := [] :: [] :: []
def b_X11_isForm_75 : List zE := (75, .iload_n 1, []) :: (76, .iload_n 2, []) :: (77, .if_icmp .ne 16, [93, 0]) :: (80, .iload_n 3, []) :: (81, .ifCond .ne 12, [93, 0]) :: (84, .iload 4, []) :: (86, .ifCond .ne 7, [93, 0]) :: (89, .iconst 1, [1]) :: (90, .goto 4, [94, 0]) :: []
def p_X11_isForm_75 : List (List (Nat × Nat)) := [] :: [] :: [] :: [] :: [] :: [] :: [] :: [] :: [] :: []
def b_X11_isForm_74 : List zE := (74, .ireturn, []) :: []
def p_X11_isForm_74 : List (List (Nat × Nat)) := [] :: []
def b_X11_isForm_73 : List zE := (73, .iconst 0, [0]) :: (74, .nop, [0]) :: []
def p_X11_isForm_73 : List (List (Nat × Nat)) := [] :: [] :: []
def b_X11_isForm_60 : List zE := (60, .iload_n 3, []) :: (61, .ifCond .ne 12, [73, 0]) :: (64, .iload 4, []) :: (66, .ifCond .ne 7, [73, 0]) :: (69, .iconst 1, [1]) :: (70, .goto 4, [74, 0]) :: []
def p_X11_isForm_60 : List (List (Nat × Nat)) := [] :: [] :: [] :: [] :: [] :: [] :: []
def b_X11_isForm_24 : List zE := (24, .iload_n 0, []) :: (25, .tableswitch 131 0 4 #[35, 50, 70, 35, 103], [156, 60, 75, 95, 60, 128]) :: []
def p_X11_isForm_24 : List (List (Nat × Nat)) := [] :: [] :: []
def b_X11_isForm_22 : List zE := (22, .iconst 0, [0]) :: (23, .ireturn, []) :: []
def p_X11_isForm_22 : List (List (Nat × Nat)) := [] :: [] :: []
def b_X11_isForm_0 : List zE := (0, .iload_n 1, []) :: (1, .iconst 1, [1]) :: (2, .if_icmp .lt 20, [22, 0]) :: (5, .iload_n 1, []) :: (6, .bipush 8, [8]) :: (8, .if_icmp .gt 14, [22, 0]) :: (11, .iload_n 2, []) :: (12, .iconst 1, [1]) :: (13, .if_icmp .lt 9, [22, 0]) :: (16, .iload_n 2, []) :: (17, .bipush 8, [8]) :: (19, .if_icmp .le 5, [24, 0]) :: (22, .nop, [0]) :: []
def p_X11_isForm_0 : List (List (Nat × Nat)) := [] :: [] :: [] :: [] :: [] :: [] :: [] :: [] :: [] :: [] :: [] :: [] :: [] :: []
def bl_X11_isForm : List (Nat × List zE) := [(0, b_X11_isForm_0), (22, b_X11_isForm_22), (24, b_X11_isForm_24), (60, b_X11_isForm_60), (73, b_X11_isForm_73), (74, b_X11_isForm_74), (75, b_X11_isForm_75), (93, b_X11_isForm_93), (94, b_X11_isForm_94), (95, b_X11_isForm_95), (126, b_X11_isForm_126), (127, b_X11_isForm_127), (128, b_X11_isForm_128), (154, b_X11_isForm_154), (155, b_X11_isForm_155), (156, b_X11_isForm_156)]
def pl_X11_isForm : List (List (List (Nat × Nat))) := [p_X11_isForm_0, p_X11_isForm_22, p_X11_isForm_24, p_X11_isForm_60, p_X11_isForm_73, p_X11_isForm_74, p_X11_isForm_75, p_X11_isForm_93, p_X11_isForm_94, p_X11_isForm_95, p_X11_isForm_126, p_X11_isForm_127, p_X11_isForm_128, p_X11_isForm_154, p_X11_isForm_155, p_X11_isForm_156]
theorem k_X11_isForm_0 : zlk 0 bl_X11_isForm = b_X11_isForm_0 := rfl
theorem k_X11_isForm_22 : zlk 22 bl_X11_isForm = b_X11_isForm_22 := rfl
theorem k_X11_isForm_24 : zlk 24 bl_X11_isForm = b_X11_isForm_24 := rfl
theorem k_X11_isForm_60 : zlk 60 bl_X11_isForm = b_X11_isForm_60 := rfl
theorem k_X11_isForm_73 : zlk 73 bl_X11_isForm = b_X11_isForm_73 := rfl
theorem k_X11_isForm_74 : zlk 74 bl_X11_isForm = b_X11_isForm_74 := rfl
theorem k_X11_isForm_75 : zlk 75 bl_X11_isForm = b_X11_isForm_75 := rfl
theorem k_X11_isForm_93 : zlk 93 bl_X11_isForm = b_X11_isForm_93 := rfl
theorem k_X11_isForm_94 : zlk 94 bl_X11_isForm = b_X11_isForm_94 := rfl
theorem k_X11_isForm_95 : zlk 95 bl_X11_isForm = b_X11_isForm_95 := rfl
theorem k_X11_isForm_126 : zlk 126 bl_X11_isForm = b_X11_isForm_126 := rfl
theorem k_X11_isForm_127 : zlk 127 bl_X11_isForm = b_X11_isForm_127 := rfl
theorem k_X11_isForm_128 : zlk 128 bl_X11_isForm = b_X11_isForm_128 := rfl
theorem k_X11_isForm_154 : zlk 154 bl_X11_isForm = b_X11_isForm_154 := rfl
theorem k_X11_isForm_155 : zlk 155 bl_X11_isForm = b_X11_isForm_155 := rfl
theorem k_X11_isForm_156 : zlk 156 bl_X11_isForm = b_X11_isForm_156 := rfl
set_option maxRecDepth 100000 in
theorem ck_X11_isForm : zall q_X11_isForm.2.2.2.2.1 q_X11_isForm.2.1 11 false q_X11_isForm.2.2.1 cal_X11_isForm q_X11_isForm.2.2.2.1 bl_X11_isForm pl_X11_isForm = true := by decide +kernel
theorem nm_X11_isForm : plainName q_X11_isForm.1.cls = true ∧ zRX 11 = q_X11_isForm.1.cls ∧ (false = true → q_X11_isForm.1.name = "<init>") := ⟨by decide +kernel, rfl, fun h => by first | rfl | cases h⟩
set_option maxRecDepth 100000 in
theorem wd_X11_isPlace : zwd q_X11_isPlace := ⟨zw_in (p := (6, 200)) (by decide +kernel), zw_in (p := (1, 11)) (by decide +kernel), fun _ => zw_in (p := (6, 199)) (by decide +kernel), fun h => absurd rfl h, fun h => absurd h (by decide)⟩
def cal_X11_isPlace : List zCal := []
def b_X11_isPlace_45 : List zE := (45, .ireturn, []) :: []
def p_X11_isPlace_45 : List (List (Nat × Nat)) := [] :: []
def b_X11_isPlace_44 : List zE := (44, .iconst 0, [0]) :: (45, .nop, [0]) :: []
def p_X11_isPlace_44 : List (List (Nat × Nat)) := [] :: [] :: []
def b_X11_isPlace_40 : List zE := (40, .iconst 1, [1]) :: (41, .goto 4, [45, 0]) :: []
def p_X11_isPlace_40 : List (List (Nat × Nat)) := [] :: [] :: []
def b_X11_isPlace_19 : List zE := (19, .iload_n 0, []) :: (20, .iconst 2, [2]) :: (21, .if_icmp .ne 19, [40, 0]) :: (24, .iload_n 3, []) :: (25, .iload 4, []) :: (27, .isub, []) :: (28, .iload_n 1, []) :: (29, .if_icmp .gt 15, [44, 0]) :: (32, .iload 4, []) :: (34, .iload_n 3, []) :: (35, .isub, []) :: (36, .iload_n 2, []) :: (37, .if_icmp .gt 7, [44, 0]) :: (40, .nop, [0]) :: []
def p_X11_isPlace_19 : List (List (Nat × Nat)) := [] :: [] :: [] :: [] :: [] :: [] :: [] :: [] :: [] :: [] :: [] :: [] :: [] :: [] :: []
def b_X11_isPlace_15 : List zE := (15, .iconst 0, [0]) :: (16, .goto 29, [45, 0]) :: []
def p_X11_isPlace_15 : List (List (Nat × Nat)) := [] :: [] :: []
def b_X11_isPlace_0 : List zE := (0, .iload_n 0, []) :: (1, .iconst 1, [1]) :: (2, .if_icmp .ne 17, [19, 0]) :: (5, .iload 4, []) :: (7, .iload_n 3, []) :: (8, .if_icmp .gt 7, [15, 0]) :: (11, .iconst 1, [1]) :: (12, .goto 33, [45, 0]) :: []
def p_X11_isPlace_0 : List (List (Nat × Nat)) := [] :: [] :: [] :: [] :: [] :: [] :: [] :: [] :: []
def bl_X11_isPlace : List (Nat × List zE) := [(0, b_X11_isPlace_0), (15, b_X11_isPlace_15), (19, b_X11_isPlace_19), (40, b_X11_isPlace_40), (44, b_X11_isPlace_44), (45, b_X11_isPlace_45)]
def pl_X11_isPlace : List (List (List (Nat × Nat))) := [p_X11_isPlace_0, p_X11_isPlace_15, p_X11_isPlace_19, p_X11_isPlace_40, p_X11_isPlace_44, p_X11_isPlace_45]
theorem k_X11_isPlace_0 : zlk 0 bl_X11_isPlace = b_X11_isPlace_0 := rfl
theorem k_X11_isPlace_15 : zlk 15 bl_X11_isPlace = b_X11_isPlace_15 := rfl
theorem k_X11_isPlace_19 : zlk 19 bl_X11_isPlace = b_X11_isPlace_19 := rfl
theorem k_X11_isPlace_40 : zlk 40 bl_X11_isPlace = b_X11_isPlace_40 := rfl
theorem k_X11_isPlace_44 : zlk 44 bl_X11_isPlace = b_X11_isPlace_44 := rfl
theorem k_X11_isPlace_45 : zlk 45 bl_X11_isPlace = b_X11_isPlace_45 := rfl
set_option maxRecDepth 100000 in
theorem ck_X11_isPlace : zall q_X11_isPlace.2.2.2.2.1 q_X11_isPlace.2.1 11 false q_X11_isPlace.2.2.1 cal_X11_isPlace q_X11_isPlace.2.2.2.1 bl_X11_isPlace pl_X11_isPlace = true := by decide +kernel
theorem nm_X11_isPlace : plainName q_X11_isPlace.1.cls = true ∧ zRX 11 = q_X11_isPlace.1.cls ∧ (false = true → q_X11_isPlace.1.name = "<init>") := ⟨by decide +kernel, rfl, fun h => by first | rfl | cases h⟩
set_option maxRecDepth 100000 in
theorem wd_X11_free : zwd q_X11_free := ⟨zw_in (p := (6, 174)) (by decide +kernel), zw_in (p := (1, 11)) (by decide +kernel), fun h => absurd h (by decide), fun _ => zw_in (p := (6, 173)) (by decide +kernel), fun _ => zw_in (p := (0, 55)) (by decide +kernel)⟩
def cal_X11_free : List zCal := []
def b_X11_free_34 : List zE := (34, .ireturn, []) :: []
def p_X11_free_34 : List (List (Nat × Nat)) := [] :: []
def b_X11_free_33 : List zE := (33, .iconst (-1), [4294967295]) :: (34, .nop, [0]) :: []
def p_X11_free_33 : List (List (Nat × Nat)) := [] :: [] :: []
def b_X11_free_23 : List zE := (23, .iload_n 1, []) :: (24, .bipush 24, [24]) :: (26, .if_icmp .ge 7, [33, 0]) :: (29, .iload_n 1, []) :: (30, .goto 4, [34, 0]) :: []
def p_X11_free_23 : List (List (Nat × Nat)) := [] :: [] :: [] :: [] :: [] :: []
def b_X11_free_2 : List zE := (2, .iload_n 1, []) :: (3, .bipush 24, [24]) :: (5, .if_icmp .ge 18, [23, 0]) :: (8, .aload_n 0, []) :: (9, .getfield 23, [11, 5]) :: (12, .iload_n 1, []) :: (13, .baload, []) :: (14, .ifCond .eq 9, [23, 0]) :: (17, .iinc 1 1, [1]) :: (20, .goto (-18), [2, 1]) :: []
def p_X11_free_2 : List (List (Nat × Nat)) := [] :: [] :: [] :: [] :: [(5, 236)] :: [] :: [] :: [] :: [] :: [] :: []
def b_X11_free_0 : List zE := (0, .iconst 0, [0]) :: (1, .istore_n 1, []) :: (2, .nop, []) :: []
def p_X11_free_0 : List (List (Nat × Nat)) := [] :: [] :: [] :: []
def bl_X11_free : List (Nat × List zE) := [(0, b_X11_free_0), (2, b_X11_free_2), (23, b_X11_free_23), (33, b_X11_free_33), (34, b_X11_free_34)]
def pl_X11_free : List (List (List (Nat × Nat))) := [p_X11_free_0, p_X11_free_2, p_X11_free_23, p_X11_free_33, p_X11_free_34]
theorem k_X11_free_0 : zlk 0 bl_X11_free = b_X11_free_0 := rfl
theorem k_X11_free_2 : zlk 2 bl_X11_free = b_X11_free_2 := rfl
theorem k_X11_free_23 : zlk 23 bl_X11_free = b_X11_free_23 := rfl
theorem k_X11_free_33 : zlk 33 bl_X11_free = b_X11_free_33 := rfl
theorem k_X11_free_34 : zlk 34 bl_X11_free = b_X11_free_34 := rfl
set_option maxRecDepth 100000 in
theorem ck_X11_free : zall q_X11_free.2.2.2.2.1 q_X11_free.2.1 11 false q_X11_free.2.2.1 cal_X11_free q_X11_free.2.2.2.1 bl_X11_free pl_X11_free = true := by decide +kernel
theorem nm_X11_free : plainName q_X11_free.1.cls = true ∧ zRX 11 = q_X11_free.1.cls ∧ (false = true → q_X11_free.1.name = "<init>") := ⟨by decide +kernel, rfl, fun h => by first | rfl | cases h⟩
set_option maxRecDepth 100000 in
theorem wd_X11_made : zwd q_X11_made := ⟨zw_in (p := (6, 181)) (by decide +kernel), zw_in (p := (1, 11)) (by decide +kernel), fun h => absurd h (by decide), fun _ => zw_in (p := (6, 180)) (by decide +kernel), fun _ => zw_in (p := (0, 56)) (by decide +kernel)⟩
def cal_X11_made : List zCal := []
def b_X11_made_74 : List zE := (74, .iload_n 1, []) :: (75, .ireturn, []) :: []
def p_X11_made_74 : List (List (Nat × Nat)) := [] :: [] :: []
def b_X11_made_48 : List zE := (48, .iload 7, []) :: (50, .bipush 64, [64]) :: (52, .if_icmp .ge 22, [74, 0]) :: (55, .aload_n 0, []) :: (56, .getfield 19, [11, 4]) :: (59, .bipush 64, [64]) :: (61, .iload_n 1, []) :: (62, .imul, []) :: (63, .iload 7, []) :: (65, .iadd, []) :: (66, .dconst 0, [0]) :: (67, .dastore, []) :: (68, .iinc 7 1, [1]) :: (71, .goto (-23), [48, 1]) :: []
def p_X11_made_48 : List (List (Nat × Nat)) := [] :: [] :: [] :: [] :: [(5, 235)] :: [] :: [] :: [] :: [] :: [] :: [] :: [] :: [] :: [] :: []
def b_X11_made_0 : List zE := (0, .aload_n 0, []) :: (1, .getfield 23, [11, 5]) :: (4, .iload_n 1, []) :: (5, .iconst 1, [1]) :: (6, .bastore, []) :: (7, .aload_n 0, []) :: (8, .getfield 27, [11, 6]) :: (11, .iload_n 1, []) :: (12, .iload_n 2, []) :: (13, .iastore, []) :: (14, .aload_n 0, []) :: (15, .getfield 31, [11, 7]) :: (18, .iload_n 1, []) :: (19, .iload_n 3, []) :: (20, .iastore, []) :: (21, .aload_n 0, []) :: (22, .getfield 34, [11, 8]) :: (25, .iload_n 1, []) :: (26, .iload 4, []) :: (28, .iastore, []) :: (29, .aload_n 0, []) :: (30, .getfield 37, [11, 9]) :: (33, .iload_n 1, []) :: (34, .iload 5, []) :: (36, .iastore, []) :: (37, .aload_n 0, []) :: (38, .getfield 40, [11, 10]) :: (41, .iload_n 1, []) :: (42, .iload 6, []) :: (44, .iastore, []) :: (45, .iconst 0, [0]) :: (46, .istore 7, []) :: (48, .nop, []) :: []
def p_X11_made_0 : List (List (Nat × Nat)) := [] :: [(5, 236)] :: [] :: [] :: [] :: [] :: [(5, 237)] :: [] :: [] :: [] :: [] :: [(5, 238)] :: [] :: [] :: [] :: [] :: [(5, 239)] :: [] :: [] :: [] :: [] :: [(6, 0)] :: [] :: [] :: [] :: [] :: [(6, 1)] :: [] :: [] :: [] :: [] :: [] :: [] :: []
def bl_X11_made : List (Nat × List zE) := [(0, b_X11_made_0), (48, b_X11_made_48), (74, b_X11_made_74)]
def pl_X11_made : List (List (List (Nat × Nat))) := [p_X11_made_0, p_X11_made_48, p_X11_made_74]
theorem k_X11_made_0 : zlk 0 bl_X11_made = b_X11_made_0 := rfl
theorem k_X11_made_48 : zlk 48 bl_X11_made = b_X11_made_48 := rfl
theorem k_X11_made_74 : zlk 74 bl_X11_made = b_X11_made_74 := rfl
set_option maxRecDepth 100000 in
theorem ck_X11_made : zall q_X11_made.2.2.2.2.1 q_X11_made.2.1 11 false q_X11_made.2.2.1 cal_X11_made q_X11_made.2.2.2.1 bl_X11_made pl_X11_made = true := by decide +kernel
theorem nm_X11_made : plainName q_X11_made.1.cls = true ∧ zRX 11 = q_X11_made.1.cls ∧ (false = true → q_X11_made.1.name = "<init>") := ⟨by decide +kernel, rfl, fun h => by first | rfl | cases h⟩
set_option maxRecDepth 100000 in
theorem wd_X11_matrix : zwd q_X11_matrix := ⟨zw_in (p := (6, 170)) (by decide +kernel), zw_in (p := (1, 11)) (by decide +kernel), fun h => absurd h (by decide), fun _ => zw_in (p := (6, 168)) (by decide +kernel), fun _ => zw_in (p := (6, 169)) (by decide +kernel)⟩
def cal_X11_matrix : List zCal := [q_X11_free, q_X11_isForm, q_X11_made]
def b_X11_matrix_42 : List zE := (42, .ireturn, []) :: []
def p_X11_matrix_42 : List (List (Nat × Nat)) := [] :: []
def b_X11_matrix_29 : List zE := (29, .aload_n 0, []) :: (30, .iload 6, []) :: (32, .iload_n 1, []) :: (33, .iload_n 2, []) :: (34, .iload_n 3, []) :: (35, .iload 4, []) :: (37, .iload 5, []) :: (39, .invokevirtual 239, [2, 6, 11]) :: (42, .nop, [0]) :: []
def p_X11_matrix_29 : List (List (Nat × Nat)) := [] :: [] :: [] :: [] :: [] :: [] :: [] :: [(6, 178)] :: [] :: []
def b_X11_matrix_25 : List zE := (25, .iconst (-1), [4294967295]) :: (26, .goto 16, [42, 0]) :: []
def p_X11_matrix_25 : List (List (Nat × Nat)) := [] :: [] :: []
def b_X11_matrix_0 : List zE := (0, .aload_n 0, []) :: (1, .invokevirtual 231, [0, 0, 11]) :: (4, .istore 6, []) :: (6, .iload 6, []) :: (8, .iconst (-1), [4294967295]) :: (9, .if_icmp .eq 16, [25, 0]) :: (12, .iload_n 1, []) :: (13, .iload_n 2, []) :: (14, .iload_n 3, []) :: (15, .iload 4, []) :: (17, .iload 5, []) :: (19, .invokestatic 235, [1, 5]) :: (22, .ifCond .ne 7, [29, 0]) :: (25, .nop, [0]) :: []
def p_X11_matrix_0 : List (List (Nat × Nat)) := [] :: [(6, 171)] :: [] :: [] :: [] :: [] :: [] :: [] :: [] :: [] :: [] :: [(6, 175)] :: [] :: [] :: []
def bl_X11_matrix : List (Nat × List zE) := [(0, b_X11_matrix_0), (25, b_X11_matrix_25), (29, b_X11_matrix_29), (42, b_X11_matrix_42)]
def pl_X11_matrix : List (List (List (Nat × Nat))) := [p_X11_matrix_0, p_X11_matrix_25, p_X11_matrix_29, p_X11_matrix_42]
theorem k_X11_matrix_0 : zlk 0 bl_X11_matrix = b_X11_matrix_0 := rfl
theorem k_X11_matrix_25 : zlk 25 bl_X11_matrix = b_X11_matrix_25 := rfl
theorem k_X11_matrix_29 : zlk 29 bl_X11_matrix = b_X11_matrix_29 := rfl
theorem k_X11_matrix_42 : zlk 42 bl_X11_matrix = b_X11_matrix_42 := rfl
set_option maxRecDepth 100000 in
theorem ck_X11_matrix : zall q_X11_matrix.2.2.2.2.1 q_X11_matrix.2.1 11 false q_X11_matrix.2.2.1 cal_X11_matrix q_X11_matrix.2.2.2.1 bl_X11_matrix pl_X11_matrix = true := by decide +kernel
theorem nm_X11_matrix : plainName q_X11_matrix.1.cls = true ∧ zRX 11 = q_X11_matrix.1.cls ∧ (false = true → q_X11_matrix.1.name = "<init>") := ⟨by decide +kernel, rfl, fun h => by first | rfl | cases h⟩
set_option maxRecDepth 100000 in
theorem wd_X11_drop : zwd q_X11_drop := ⟨zw_in (p := (6, 185)) (by decide +kernel), zw_in (p := (1, 11)) (by decide +kernel), fun h => absurd h (by decide), fun _ => zw_in (p := (6, 183)) (by decide +kernel), fun _ => zw_in (p := (6, 184)) (by decide +kernel)⟩
def cal_X11_drop : List zCal := [q_X11_isMatrix]
def b_X11_drop_10 : List zE := (10, .aload_n 0, []) :: (11, .getfield 23, [11, 5]) :: (14, .iload_n 1, []) :: (15, .iconst 0, [0]) :: (16, .bastore, []) :: (17, .iconst 1, [1]) :: (18, .ireturn, []) :: []
def p_X11_drop_10 : List (List (Nat × Nat)) := [] :: [(5, 236)] :: [] :: [] :: [] :: [] :: [] :: []
def b_X11_drop_0 : List zE := (0, .aload_n 0, []) :: (1, .iload_n 1, []) :: (2, .invokevirtual 243, [0, 1, 11]) :: (5, .ifCond .ne 5, [10, 0]) :: (8, .iconst 0, [0]) :: (9, .ireturn, []) :: []
def p_X11_drop_0 : List (List (Nat × Nat)) := [] :: [] :: [(6, 186)] :: [] :: [] :: [] :: []
def bl_X11_drop : List (Nat × List zE) := [(0, b_X11_drop_0), (10, b_X11_drop_10)]
def pl_X11_drop : List (List (List (Nat × Nat))) := [p_X11_drop_0, p_X11_drop_10]
theorem k_X11_drop_0 : zlk 0 bl_X11_drop = b_X11_drop_0 := rfl
theorem k_X11_drop_10 : zlk 10 bl_X11_drop = b_X11_drop_10 := rfl
set_option maxRecDepth 100000 in
theorem ck_X11_drop : zall q_X11_drop.2.2.2.2.1 q_X11_drop.2.1 11 false q_X11_drop.2.2.1 cal_X11_drop q_X11_drop.2.2.2.1 bl_X11_drop pl_X11_drop = true := by decide +kernel
theorem nm_X11_drop : plainName q_X11_drop.1.cls = true ∧ zRX 11 = q_X11_drop.1.cls ∧ (false = true → q_X11_drop.1.name = "<init>") := ⟨by decide +kernel, rfl, fun h => by first | rfl | cases h⟩
set_option maxRecDepth 100000 in
theorem wd_X11_filled : zwd q_X11_filled := ⟨zw_in (p := (6, 222)) (by decide +kernel), zw_in (p := (1, 11)) (by decide +kernel), fun h => absurd h (by decide), fun _ => zw_in (p := (6, 221)) (by decide +kernel), fun _ => zw_in (p := (0, 60)) (by decide +kernel)⟩
def cal_X11_filled : List zCal := []
def b_X11_filled_35 : List zE := (35, .iload_n 2, []) :: (36, .ireturn, []) :: []
def p_X11_filled_35 : List (List (Nat × Nat)) := [] :: [] :: []
def b_X11_filled_29 : List zE := (29, .iinc 3 1, [1]) :: (32, .goto (-28), [4, 1]) :: []
def p_X11_filled_29 : List (List (Nat × Nat)) := [] :: [] :: []
def b_X11_filled_4 : List zE := (4, .iload_n 3, []) :: (5, .bipush 64, [64]) :: (7, .if_icmp .ge 28, [35, 0]) :: (10, .aload_n 0, []) :: (11, .getfield 19, [11, 4]) :: (14, .bipush 64, [64]) :: (16, .iload_n 1, []) :: (17, .imul, []) :: (18, .iload_n 3, []) :: (19, .iadd, []) :: (20, .daload, []) :: (21, .dconst 0, [0]) :: (22, .dcmp .l, []) :: (23, .ifCond .eq 6, [29, 0]) :: (26, .iinc 2 1, [1]) :: (29, .nop, [0]) :: []
def p_X11_filled_4 : List (List (Nat × Nat)) := [] :: [] :: [] :: [] :: [(5, 235)] :: [] :: [] :: [] :: [] :: [] :: [] :: [] :: [] :: [] :: [] :: [] :: []
def b_X11_filled_0 : List zE := (0, .iconst 0, [0]) :: (1, .istore_n 2, []) :: (2, .iconst 0, [0]) :: (3, .istore_n 3, []) :: (4, .nop, []) :: []
def p_X11_filled_0 : List (List (Nat × Nat)) := [] :: [] :: [] :: [] :: [] :: []
def bl_X11_filled : List (Nat × List zE) := [(0, b_X11_filled_0), (4, b_X11_filled_4), (29, b_X11_filled_29), (35, b_X11_filled_35)]
def pl_X11_filled : List (List (List (Nat × Nat))) := [p_X11_filled_0, p_X11_filled_4, p_X11_filled_29, p_X11_filled_35]
theorem k_X11_filled_0 : zlk 0 bl_X11_filled = b_X11_filled_0 := rfl
theorem k_X11_filled_4 : zlk 4 bl_X11_filled = b_X11_filled_4 := rfl
theorem k_X11_filled_29 : zlk 29 bl_X11_filled = b_X11_filled_29 := rfl
theorem k_X11_filled_35 : zlk 35 bl_X11_filled = b_X11_filled_35 := rfl
set_option maxRecDepth 100000 in
theorem ck_X11_filled : zall q_X11_filled.2.2.2.2.1 q_X11_filled.2.1 11 false q_X11_filled.2.2.1 cal_X11_filled q_X11_filled.2.2.2.1 bl_X11_filled pl_X11_filled = true := by decide +kernel
theorem nm_X11_filled : plainName q_X11_filled.1.cls = true ∧ zRX 11 = q_X11_filled.1.cls ∧ (false = true → q_X11_filled.1.name = "<init>") := ⟨by decide +kernel, rfl, fun h => by first | rfl | cases h⟩
set_option maxRecDepth 100000 in
theorem wd_X11_isIn : zwd q_X11_isIn := ⟨zw_in (p := (6, 197)) (by decide +kernel), zw_in (p := (1, 11)) (by decide +kernel), fun h => absurd h (by decide), fun _ => zw_in (p := (6, 196)) (by decide +kernel), fun _ => zw_in (p := (0, 58)) (by decide +kernel)⟩
def cal_X11_isIn : List zCal := [q_X11_isMatrix]
def b_X11_isIn_41 : List zE := (41, .ireturn, []) :: []
def p_X11_isIn_41 : List (List (Nat × Nat)) := [] :: []
def b_X11_isIn_40 : List zE := (40, .iconst 0, [0]) :: (41, .nop, [0]) :: []
def p_X11_isIn_40 : List (List (Nat × Nat)) := [] :: [] :: []
def b_X11_isIn_0 : List zE := (0, .aload_n 0, []) :: (1, .iload_n 1, []) :: (2, .invokevirtual 243, [0, 1, 11]) :: (5, .ifCond .eq 35, [40, 0]) :: (8, .iload_n 2, []) :: (9, .ifCond .lt 31, [40, 0]) :: (12, .iload_n 2, []) :: (13, .aload_n 0, []) :: (14, .getfield 31, [11, 7]) :: (17, .iload_n 1, []) :: (18, .iaload, []) :: (19, .if_icmp .ge 21, [40, 0]) :: (22, .iload_n 3, []) :: (23, .ifCond .lt 17, [40, 0]) :: (26, .iload_n 3, []) :: (27, .aload_n 0, []) :: (28, .getfield 34, [11, 8]) :: (31, .iload_n 1, []) :: (32, .iaload, []) :: (33, .if_icmp .ge 7, [40, 0]) :: (36, .iconst 1, [1]) :: (37, .goto 4, [41, 0]) :: []
def p_X11_isIn_0 : List (List (Nat × Nat)) := [] :: [] :: [(6, 186)] :: [] :: [] :: [] :: [] :: [] :: [(5, 238)] :: [] :: [] :: [] :: [] :: [] :: [] :: [] :: [(5, 239)] :: [] :: [] :: [] :: [] :: [] :: []
def bl_X11_isIn : List (Nat × List zE) := [(0, b_X11_isIn_0), (40, b_X11_isIn_40), (41, b_X11_isIn_41)]
def pl_X11_isIn : List (List (List (Nat × Nat))) := [p_X11_isIn_0, p_X11_isIn_40, p_X11_isIn_41]
theorem k_X11_isIn_0 : zlk 0 bl_X11_isIn = b_X11_isIn_0 := rfl
theorem k_X11_isIn_40 : zlk 40 bl_X11_isIn = b_X11_isIn_40 := rfl
theorem k_X11_isIn_41 : zlk 41 bl_X11_isIn = b_X11_isIn_41 := rfl
set_option maxRecDepth 100000 in
theorem ck_X11_isIn : zall q_X11_isIn.2.2.2.2.1 q_X11_isIn.2.1 11 false q_X11_isIn.2.2.1 cal_X11_isIn q_X11_isIn.2.2.2.1 bl_X11_isIn pl_X11_isIn = true := by decide +kernel
theorem nm_X11_isIn : plainName q_X11_isIn.1.cls = true ∧ zRX 11 = q_X11_isIn.1.cls ∧ (false = true → q_X11_isIn.1.name = "<init>") := ⟨by decide +kernel, rfl, fun h => by first | rfl | cases h⟩
set_option maxRecDepth 100000 in
theorem wd_X11_put : zwd q_X11_put := ⟨zw_in (p := (6, 193)) (by decide +kernel), zw_in (p := (1, 11)) (by decide +kernel), fun h => absurd h (by decide), fun _ => zw_in (p := (6, 191)) (by decide +kernel), fun _ => zw_in (p := (6, 192)) (by decide +kernel)⟩
def cal_X11_put : List zCal := [q_X11_isIn, q_X11_isPlace, q_X11_isGood, q_X11_real, q_X11_plain, q_X11_at, q_X11_filled]
def b_X11_put_102 : List zE := (102, .aload_n 0, []) :: (103, .getfield 19, [11, 4]) :: (106, .aload_n 0, []) :: (107, .iload_n 1, []) :: (108, .iload_n 2, []) :: (109, .iload_n 3, []) :: (110, .invokevirtual 261, [5, 3, 11]) :: (113, .dload 6, []) :: (115, .dastore, []) :: (116, .iconst 1, [1]) :: (117, .ireturn, []) :: []
def p_X11_put_102 : List (List (Nat × Nat)) := [] :: [(5, 235)] :: [] :: [] :: [] :: [] :: [(6, 215)] :: [] :: [] :: [] :: [] :: []
def b_X11_put_46 : List zE := (46, .lload 4, []) :: (48, .invokestatic 165, [3, 1]) :: (51, .invokestatic 257, [4, 1]) :: (54, .dstore 6, []) :: (56, .aload_n 0, []) :: (57, .getfield 27, [11, 6]) :: (60, .iload_n 1, []) :: (61, .iaload, []) :: (62, .iconst 3, [3]) :: (63, .if_icmp .ne 39, [102, 0]) :: (66, .dload 6, []) :: (68, .dconst 0, [0]) :: (69, .dcmp .l, []) :: (70, .ifCond .eq 32, [102, 0]) :: (73, .aload_n 0, []) :: (74, .getfield 19, [11, 4]) :: (77, .aload_n 0, []) :: (78, .iload_n 1, []) :: (79, .iload_n 2, []) :: (80, .iload_n 3, []) :: (81, .invokevirtual 261, [5, 3, 11]) :: (84, .daload, []) :: (85, .dconst 0, [0]) :: (86, .dcmp .l, []) :: (87, .ifCond .ne 15, [102, 0]) :: (90, .aload_n 0, []) :: (91, .iload_n 1, []) :: (92, .invokevirtual 265, [6, 1, 11]) :: (95, .bipush 20, [20]) :: (97, .if_icmp .ne 5, [102, 0]) :: (100, .iconst 0, [0]) :: (101, .ireturn, []) :: []
def p_X11_put_46 : List (List (Nat × Nat)) := [] :: [(6, 206)] :: [(6, 212)] :: [] :: [] :: [(5, 237)] :: [] :: [] :: [] :: [] :: [] :: [] :: [] :: [] :: [] :: [(5, 235)] :: [] :: [] :: [] :: [] :: [(6, 215)] :: [] :: [] :: [] :: [] :: [] :: [] :: [(6, 219)] :: [] :: [] :: [] :: [] :: []
def b_X11_put_44 : List zE := (44, .iconst 0, [0]) :: (45, .ireturn, []) :: []
def p_X11_put_44 : List (List (Nat × Nat)) := [] :: [] :: []
def b_X11_put_0 : List zE := (0, .aload_n 0, []) :: (1, .iload_n 1, []) :: (2, .iload_n 2, []) :: (3, .iload_n 3, []) :: (4, .invokevirtual 247, [0, 3, 11]) :: (7, .ifCond .eq 37, [44, 0]) :: (10, .aload_n 0, []) :: (11, .getfield 27, [11, 6]) :: (14, .iload_n 1, []) :: (15, .iaload, []) :: (16, .aload_n 0, []) :: (17, .getfield 37, [11, 9]) :: (20, .iload_n 1, []) :: (21, .iaload, []) :: (22, .aload_n 0, []) :: (23, .getfield 40, [11, 10]) :: (26, .iload_n 1, []) :: (27, .iaload, []) :: (28, .iload_n 2, []) :: (29, .iload_n 3, []) :: (30, .invokestatic 250, [1, 5]) :: (33, .ifCond .eq 11, [44, 0]) :: (36, .lload 4, []) :: (38, .invokestatic 253, [2, 1]) :: (41, .ifCond .ne 5, [46, 0]) :: (44, .nop, [0]) :: []
def p_X11_put_0 : List (List (Nat × Nat)) := [] :: [] :: [] :: [] :: [(6, 194)] :: [] :: [] :: [(5, 237)] :: [] :: [] :: [] :: [(6, 0)] :: [] :: [] :: [] :: [(6, 1)] :: [] :: [] :: [] :: [] :: [(6, 198)] :: [] :: [] :: [(6, 201)] :: [] :: [] :: []
def bl_X11_put : List (Nat × List zE) := [(0, b_X11_put_0), (44, b_X11_put_44), (46, b_X11_put_46), (102, b_X11_put_102)]
def pl_X11_put : List (List (List (Nat × Nat))) := [p_X11_put_0, p_X11_put_44, p_X11_put_46, p_X11_put_102]
theorem k_X11_put_0 : zlk 0 bl_X11_put = b_X11_put_0 := rfl
theorem k_X11_put_44 : zlk 44 bl_X11_put = b_X11_put_44 := rfl
theorem k_X11_put_46 : zlk 46 bl_X11_put = b_X11_put_46 := rfl
theorem k_X11_put_102 : zlk 102 bl_X11_put = b_X11_put_102 := rfl
set_option maxRecDepth 100000 in
theorem ck_X11_put : zall q_X11_put.2.2.2.2.1 q_X11_put.2.1 11 false q_X11_put.2.2.1 cal_X11_put q_X11_put.2.2.2.1 bl_X11_put pl_X11_put = true := by decide +kernel
theorem nm_X11_put : plainName q_X11_put.1.cls = true ∧ zRX 11 = q_X11_put.1.cls ∧ (false = true → q_X11_put.1.name = "<init>") := ⟨by decide +kernel, rfl, fun h => by first | rfl | cases h⟩
set_option maxRecDepth 100000 in
theorem wd_X11_get : zwd q_X11_get := ⟨zw_in (p := (6, 226)) (by decide +kernel), zw_in (p := (1, 11)) (by decide +kernel), fun h => absurd h (by decide), fun _ => zw_in (p := (6, 224)) (by decide +kernel), fun _ => zw_in (p := (6, 225)) (by decide +kernel)⟩
def cal_X11_get : List zCal := [q_X11_isIn, q_X11_at, q_X11_bits]
def b_X11_get_31 : List zE := (31, .lreturn, []) :: []
def p_X11_get_31 : List (List (Nat × Nat)) := [] :: []
def b_X11_get_28 : List zE := (28, .ldc2_w 269, [18446744073709551615]) :: (31, .nop, [0]) :: []
def p_X11_get_28 : List (List (Nat × Nat)) := [(7, 0)] :: [] :: []
def b_X11_get_0 : List zE := (0, .aload_n 0, []) :: (1, .iload_n 1, []) :: (2, .iload_n 2, []) :: (3, .iload_n 3, []) :: (4, .invokevirtual 247, [0, 3, 11]) :: (7, .ifCond .eq 21, [28, 0]) :: (10, .aload_n 0, []) :: (11, .getfield 19, [11, 4]) :: (14, .aload_n 0, []) :: (15, .iload_n 1, []) :: (16, .iload_n 2, []) :: (17, .iload_n 3, []) :: (18, .invokevirtual 261, [1, 3, 11]) :: (21, .daload, []) :: (22, .invokestatic 158, [2, 1]) :: (25, .goto 6, [31, 0]) :: []
def p_X11_get_0 : List (List (Nat × Nat)) := [] :: [] :: [] :: [] :: [(6, 194)] :: [] :: [] :: [(5, 235)] :: [] :: [] :: [] :: [] :: [(6, 215)] :: [] :: [(6, 227)] :: [] :: []
def bl_X11_get : List (Nat × List zE) := [(0, b_X11_get_0), (28, b_X11_get_28), (31, b_X11_get_31)]
def pl_X11_get : List (List (List (Nat × Nat))) := [p_X11_get_0, p_X11_get_28, p_X11_get_31]
theorem k_X11_get_0 : zlk 0 bl_X11_get = b_X11_get_0 := rfl
theorem k_X11_get_28 : zlk 28 bl_X11_get = b_X11_get_28 := rfl
theorem k_X11_get_31 : zlk 31 bl_X11_get = b_X11_get_31 := rfl
set_option maxRecDepth 100000 in
theorem ck_X11_get : zall q_X11_get.2.2.2.2.1 q_X11_get.2.1 11 false q_X11_get.2.2.1 cal_X11_get q_X11_get.2.2.2.1 bl_X11_get pl_X11_get = true := by decide +kernel
theorem nm_X11_get : plainName q_X11_get.1.cls = true ∧ zRX 11 = q_X11_get.1.cls ∧ (false = true → q_X11_get.1.name = "<init>") := ⟨by decide +kernel, rfl, fun h => by first | rfl | cases h⟩
set_option maxRecDepth 100000 in
theorem wd_X11_widthOf : zwd q_X11_widthOf := ⟨zw_in (p := (7, 27)) (by decide +kernel), zw_in (p := (1, 11)) (by decide +kernel), fun h => absurd h (by decide), fun _ => zw_in (p := (7, 26)) (by decide +kernel), fun _ => zw_in (p := (0, 62)) (by decide +kernel)⟩
def cal_X11_widthOf : List zCal := [q_X11_at]
def b_X11_widthOf_86 : List zE := (86, .iload_n 2, []) :: (87, .ireturn, []) :: []
def p_X11_widthOf_86 : List (List (Nat × Nat)) := [] :: [] :: []
def b_X11_widthOf_80 : List zE := (80, .iinc 3 1, [1]) :: (83, .goto (-79), [4, 1]) :: []
def p_X11_widthOf_80 : List (List (Nat × Nat)) := [] :: [] :: []
def b_X11_widthOf_74 : List zE := (74, .iinc 4 1, [1]) :: (77, .goto (-60), [17, 1]) :: []
def p_X11_widthOf_74 : List (List (Nat × Nat)) := [] :: [] :: []
def b_X11_widthOf_45 : List zE := (45, .istore 5, []) :: (47, .aload_n 0, []) :: (48, .getfield 19, [11, 4]) :: (51, .aload_n 0, []) :: (52, .iload_n 1, []) :: (53, .iload_n 3, []) :: (54, .iload 4, []) :: (56, .invokevirtual 261, [0, 3, 11]) :: (59, .daload, []) :: (60, .dconst 0, [0]) :: (61, .dcmp .l, []) :: (62, .ifCond .eq 12, [74, 0]) :: (65, .iload 5, []) :: (67, .iload_n 2, []) :: (68, .if_icmp .le 6, [74, 0]) :: (71, .iload 5, []) :: (73, .istore_n 2, []) :: (74, .nop, [0]) :: []
def p_X11_widthOf_45 : List (List (Nat × Nat)) := [] :: [] :: [(5, 235)] :: [] :: [] :: [] :: [] :: [(6, 215)] :: [] :: [] :: [] :: [] :: [] :: [] :: [] :: [] :: [] :: [] :: []
def b_X11_widthOf_41 : List zE := (41, .iload 4, []) :: (43, .iload_n 3, []) :: (44, .isub, []) :: (45, .nop, [0]) :: []
def p_X11_widthOf_41 : List (List (Nat × Nat)) := [] :: [] :: [] :: [] :: []
def b_X11_widthOf_17 : List zE := (17, .iload 4, []) :: (19, .aload_n 0, []) :: (20, .getfield 34, [11, 8]) :: (23, .iload_n 1, []) :: (24, .iaload, []) :: (25, .if_icmp .ge 55, [80, 0]) :: (28, .iload_n 3, []) :: (29, .iload 4, []) :: (31, .if_icmp .le 10, [41, 0]) :: (34, .iload_n 3, []) :: (35, .iload 4, []) :: (37, .isub, []) :: (38, .goto 7, [45, 0]) :: []
def p_X11_widthOf_17 : List (List (Nat × Nat)) := [] :: [] :: [(5, 239)] :: [] :: [] :: [] :: [] :: [] :: [] :: [] :: [] :: [] :: [] :: []
def b_X11_widthOf_4 : List zE := (4, .iload_n 3, []) :: (5, .aload_n 0, []) :: (6, .getfield 31, [11, 7]) :: (9, .iload_n 1, []) :: (10, .iaload, []) :: (11, .if_icmp .ge 75, [86, 0]) :: (14, .iconst 0, [0]) :: (15, .istore 4, []) :: (17, .nop, []) :: []
def p_X11_widthOf_4 : List (List (Nat × Nat)) := [] :: [] :: [(5, 238)] :: [] :: [] :: [] :: [] :: [] :: [] :: []
def b_X11_widthOf_0 : List zE := (0, .iconst 0, [0]) :: (1, .istore_n 2, []) :: (2, .iconst 0, [0]) :: (3, .istore_n 3, []) :: (4, .nop, []) :: []
def p_X11_widthOf_0 : List (List (Nat × Nat)) := [] :: [] :: [] :: [] :: [] :: []
def bl_X11_widthOf : List (Nat × List zE) := [(0, b_X11_widthOf_0), (4, b_X11_widthOf_4), (17, b_X11_widthOf_17), (41, b_X11_widthOf_41), (45, b_X11_widthOf_45), (74, b_X11_widthOf_74), (80, b_X11_widthOf_80), (86, b_X11_widthOf_86)]
def pl_X11_widthOf : List (List (List (Nat × Nat))) := [p_X11_widthOf_0, p_X11_widthOf_4, p_X11_widthOf_17, p_X11_widthOf_41, p_X11_widthOf_45, p_X11_widthOf_74, p_X11_widthOf_80, p_X11_widthOf_86]
theorem k_X11_widthOf_0 : zlk 0 bl_X11_widthOf = b_X11_widthOf_0 := rfl
theorem k_X11_widthOf_4 : zlk 4 bl_X11_widthOf = b_X11_widthOf_4 := rfl
theorem k_X11_widthOf_17 : zlk 17 bl_X11_widthOf = b_X11_widthOf_17 := rfl
theorem k_X11_widthOf_41 : zlk 41 bl_X11_widthOf = b_X11_widthOf_41 := rfl
theorem k_X11_widthOf_45 : zlk 45 bl_X11_widthOf = b_X11_widthOf_45 := rfl
theorem k_X11_widthOf_74 : zlk 74 bl_X11_widthOf = b_X11_widthOf_74 := rfl
theorem k_X11_widthOf_80 : zlk 80 bl_X11_widthOf = b_X11_widthOf_80 := rfl
theorem k_X11_widthOf_86 : zlk 86 bl_X11_widthOf = b_X11_widthOf_86 := rfl
set_option maxRecDepth 100000 in
theorem ck_X11_widthOf : zall q_X11_widthOf.2.2.2.2.1 q_X11_widthOf.2.1 11 false q_X11_widthOf.2.2.1 cal_X11_widthOf q_X11_widthOf.2.2.2.1 bl_X11_widthOf pl_X11_widthOf = true := by decide +kernel
theorem nm_X11_widthOf : plainName q_X11_widthOf.1.cls = true ∧ zRX 11 = q_X11_widthOf.1.cls ∧ (false = true → q_X11_widthOf.1.name = "<init>") := ⟨by decide +kernel, rfl, fun h => by first | rfl | cases h⟩
set_option maxRecDepth 100000 in
theorem wd_X11_onLattice : zwd q_X11_onLattice := ⟨zw_in (p := (7, 11)) (by decide +kernel), zw_in (p := (1, 11)) (by decide +kernel), fun _ => zw_in (p := (7, 10)) (by decide +kernel), fun h => absurd rfl h, fun h => absurd h (by decide)⟩
def cal_X11_onLattice : List zCal := [q_X11_size, q_X11_whole, q_X11_power]
def b_X11_onLattice_66 : List zE := (66, .ireturn, []) :: []
def p_X11_onLattice_66 : List (List (Nat × Nat)) := [] :: []
def b_X11_onLattice_65 : List zE := (65, .iconst 0, [0]) :: (66, .nop, [0]) :: []
def p_X11_onLattice_65 : List (List (Nat × Nat)) := [] :: [] :: []
def b_X11_onLattice_54 : List zE := (54, .iload 4, []) :: (56, .bipush (-60), [4294967236]) :: (58, .if_icmp .lt 7, [65, 0]) :: (61, .iconst 1, [1]) :: (62, .goto 4, [66, 0]) :: []
def p_X11_onLattice_54 : List (List (Nat × Nat)) := [] :: [] :: [] :: [] :: [] :: []
def b_X11_onLattice_32 : List zE := (32, .lload_n 2, []) :: (33, .ldc2_w 177, [2]) :: (36, .lrem, []) :: (37, .lconst 0, [0]) :: (38, .lcmp, []) :: (39, .ifCond .ne 15, [54, 0]) :: (42, .lload_n 2, []) :: (43, .ldc2_w 177, [2]) :: (46, .ldiv, []) :: (47, .lstore_n 2, []) :: (48, .iinc 4 1, [1]) :: (51, .goto (-19), [32, 1]) :: []
def p_X11_onLattice_32 : List (List (Nat × Nat)) := [] :: [(7, 23)] :: [] :: [] :: [] :: [] :: [] :: [(7, 23)] :: [] :: [] :: [] :: [] :: []
def b_X11_onLattice_21 : List zE := (21, .dload_n 0, []) :: (22, .invokestatic 170, [1, 1]) :: (25, .lstore_n 2, []) :: (26, .dload_n 0, []) :: (27, .invokestatic 173, [2, 1]) :: (30, .istore 4, []) :: (32, .nop, []) :: []
def p_X11_onLattice_21 : List (List (Nat × Nat)) := [] :: [(7, 16)] :: [] :: [] :: [(7, 20)] :: [] :: [] :: []
def b_X11_onLattice_8 : List zE := (8, .dload_n 0, []) :: (9, .invokestatic 289, [0, 1]) :: (12, .ldc2_w 362, [4787326403894837248, 0]) :: (15, .dcmp .l, []) :: (16, .ifCond .le 5, [21, 0]) :: (19, .iconst 0, [0]) :: (20, .ireturn, []) :: []
def p_X11_onLattice_8 : List (List (Nat × Nat)) := [] :: [(7, 12)] :: [(7, 15)] :: [] :: [] :: [] :: [] :: []
def b_X11_onLattice_0 : List zE := (0, .dload_n 0, []) :: (1, .dconst 0, [0]) :: (2, .dcmp .l, []) :: (3, .ifCond .ne 5, [8, 0]) :: (6, .iconst 1, [1]) :: (7, .ireturn, []) :: []
def p_X11_onLattice_0 : List (List (Nat × Nat)) := [] :: [] :: [] :: [] :: [] :: [] :: []
def bl_X11_onLattice : List (Nat × List zE) := [(0, b_X11_onLattice_0), (8, b_X11_onLattice_8), (21, b_X11_onLattice_21), (32, b_X11_onLattice_32), (54, b_X11_onLattice_54), (65, b_X11_onLattice_65), (66, b_X11_onLattice_66)]
def pl_X11_onLattice : List (List (List (Nat × Nat))) := [p_X11_onLattice_0, p_X11_onLattice_8, p_X11_onLattice_21, p_X11_onLattice_32, p_X11_onLattice_54, p_X11_onLattice_65, p_X11_onLattice_66]
theorem k_X11_onLattice_0 : zlk 0 bl_X11_onLattice = b_X11_onLattice_0 := rfl
theorem k_X11_onLattice_8 : zlk 8 bl_X11_onLattice = b_X11_onLattice_8 := rfl
theorem k_X11_onLattice_21 : zlk 21 bl_X11_onLattice = b_X11_onLattice_21 := rfl
theorem k_X11_onLattice_32 : zlk 32 bl_X11_onLattice = b_X11_onLattice_32 := rfl
theorem k_X11_onLattice_54 : zlk 54 bl_X11_onLattice = b_X11_onLattice_54 := rfl
theorem k_X11_onLattice_65 : zlk 65 bl_X11_onLattice = b_X11_onLattice_65 := rfl
theorem k_X11_onLattice_66 : zlk 66 bl_X11_onLattice = b_X11_onLattice_66 := rfl
set_option maxRecDepth 100000 in
theorem ck_X11_onLattice : zall q_X11_onLattice.2.2.2.2.1 q_X11_onLattice.2.1 11 false q_X11_onLattice.2.2.1 cal_X11_onLattice q_X11_onLattice.2.2.2.1 bl_X11_onLattice pl_X11_onLattice = true := by decide +kernel
theorem nm_X11_onLattice : plainName q_X11_onLattice.1.cls = true ∧ zRX 11 = q_X11_onLattice.1.cls ∧ (false = true → q_X11_onLattice.1.name = "<init>") := ⟨by decide +kernel, rfl, fun h => by first | rfl | cases h⟩
set_option maxRecDepth 100000 in
theorem wd_X11_isLattice : zwd q_X11_isLattice := ⟨zw_in (p := (7, 8)) (by decide +kernel), zw_in (p := (1, 11)) (by decide +kernel), fun h => absurd h (by decide), fun _ => zw_in (p := (7, 7)) (by decide +kernel), fun _ => zw_in (p := (0, 61)) (by decide +kernel)⟩
def cal_X11_isLattice : List zCal := [q_X11_onLattice]
def b_X11_isLattice_43 : List zE := (43, .iload_n 2, []) :: (44, .ireturn, []) :: []
def p_X11_isLattice_43 : List (List (Nat × Nat)) := [] :: [] :: []
def b_X11_isLattice_36 : List zE := (36, .istore_n 2, []) :: (37, .iinc 3 1, [1]) :: (40, .goto (-36), [4, 1]) :: []
def p_X11_isLattice_36 : List (List (Nat × Nat)) := [] :: [] :: [] :: []
def b_X11_isLattice_35 : List zE := (35, .iconst 0, [0]) :: (36, .nop, [0]) :: []
def p_X11_isLattice_35 : List (List (Nat × Nat)) := [] :: [] :: []
def b_X11_isLattice_4 : List zE := (4, .iload_n 3, []) :: (5, .bipush 64, [64]) :: (7, .if_icmp .ge 36, [43, 0]) :: (10, .iload_n 2, []) :: (11, .ifCond .eq 24, [35, 0]) :: (14, .aload_n 0, []) :: (15, .getfield 19, [11, 4]) :: (18, .bipush 64, [64]) :: (20, .iload_n 1, []) :: (21, .imul, []) :: (22, .iload_n 3, []) :: (23, .iadd, []) :: (24, .daload, []) :: (25, .invokestatic 364, [0, 1]) :: (28, .ifCond .eq 7, [35, 0]) :: (31, .iconst 1, [1]) :: (32, .goto 4, [36, 0]) :: []
def p_X11_isLattice_4 : List (List (Nat × Nat)) := [] :: [] :: [] :: [] :: [] :: [] :: [(5, 235)] :: [] :: [] :: [] :: [] :: [] :: [] :: [(7, 9)] :: [] :: [] :: [] :: []
def b_X11_isLattice_0 : List zE := (0, .iconst 1, [1]) :: (1, .istore_n 2, []) :: (2, .iconst 0, [0]) :: (3, .istore_n 3, []) :: (4, .nop, []) :: []
def p_X11_isLattice_0 : List (List (Nat × Nat)) := [] :: [] :: [] :: [] :: [] :: []
def bl_X11_isLattice : List (Nat × List zE) := [(0, b_X11_isLattice_0), (4, b_X11_isLattice_4), (35, b_X11_isLattice_35), (36, b_X11_isLattice_36), (43, b_X11_isLattice_43)]
def pl_X11_isLattice : List (List (List (Nat × Nat))) := [p_X11_isLattice_0, p_X11_isLattice_4, p_X11_isLattice_35, p_X11_isLattice_36, p_X11_isLattice_43]
theorem k_X11_isLattice_0 : zlk 0 bl_X11_isLattice = b_X11_isLattice_0 := rfl
theorem k_X11_isLattice_4 : zlk 4 bl_X11_isLattice = b_X11_isLattice_4 := rfl
theorem k_X11_isLattice_35 : zlk 35 bl_X11_isLattice = b_X11_isLattice_35 := rfl
theorem k_X11_isLattice_36 : zlk 36 bl_X11_isLattice = b_X11_isLattice_36 := rfl
theorem k_X11_isLattice_43 : zlk 43 bl_X11_isLattice = b_X11_isLattice_43 := rfl
set_option maxRecDepth 100000 in
theorem ck_X11_isLattice : zall q_X11_isLattice.2.2.2.2.1 q_X11_isLattice.2.1 11 false q_X11_isLattice.2.2.1 cal_X11_isLattice q_X11_isLattice.2.2.2.1 bl_X11_isLattice pl_X11_isLattice = true := by decide +kernel
theorem nm_X11_isLattice : plainName q_X11_isLattice.1.cls = true ∧ zRX 11 = q_X11_isLattice.1.cls ∧ (false = true → q_X11_isLattice.1.name = "<init>") := ⟨by decide +kernel, rfl, fun h => by first | rfl | cases h⟩
set_option maxRecDepth 100000 in
theorem wd_X11_shape : zwd q_X11_shape := ⟨zw_in (p := (7, 4)) (by decide +kernel), zw_in (p := (1, 11)) (by decide +kernel), fun h => absurd h (by decide), fun _ => zw_in (p := (7, 2)) (by decide +kernel), fun _ => zw_in (p := (7, 3)) (by decide +kernel)⟩
def cal_X11_shape : List zCal := [q_X11_isMatrix, q_X11_filled, q_X11_isLattice, q_X11_widthOf]
def b_X11_shape_136 : List zE := (136, .iconst (-1), [4294967295]) :: (137, .ireturn, []) :: []
def p_X11_shape_136 : List (List (Nat × Nat)) := [] :: [] :: []
def b_X11_shape_135 : List zE := (135, .ireturn, []) :: []
def p_X11_shape_135 : List (List (Nat × Nat)) := [] :: []
def b_X11_shape_134 : List zE := (134, .iconst (-1), [4294967295]) :: (135, .nop, [0]) :: []
def p_X11_shape_134 : List (List (Nat × Nat)) := [] :: [] :: []
def b_X11_shape_111 : List zE := (111, .aload_n 0, []) :: (112, .getfield 31, [11, 7]) :: (115, .iload_n 1, []) :: (116, .iaload, []) :: (117, .aload_n 0, []) :: (118, .getfield 34, [11, 8]) :: (121, .iload_n 1, []) :: (122, .iaload, []) :: (123, .if_icmp .ne 11, [134, 0]) :: (126, .aload_n 0, []) :: (127, .iload_n 1, []) :: (128, .invokevirtual 274, [3, 1, 11]) :: (131, .goto 4, [135, 0]) :: []
def p_X11_shape_111 : List (List (Nat × Nat)) := [] :: [(5, 238)] :: [] :: [] :: [] :: [(5, 239)] :: [] :: [] :: [] :: [] :: [] :: [(7, 24)] :: [] :: []
def b_X11_shape_110 : List zE := (110, .ireturn, []) :: []
def p_X11_shape_110 : List (List (Nat × Nat)) := [] :: []
def b_X11_shape_109 : List zE := (109, .iconst 0, [0]) :: (110, .nop, [0]) :: []
def p_X11_shape_109 : List (List (Nat × Nat)) := [] :: [] :: []
def b_X11_shape_97 : List zE := (97, .aload_n 0, []) :: (98, .iload_n 1, []) :: (99, .invokevirtual 271, [2, 1, 11]) :: (102, .ifCond .eq 7, [109, 0]) :: (105, .iconst 1, [1]) :: (106, .goto 4, [110, 0]) :: []
def p_X11_shape_97 : List (List (Nat × Nat)) := [] :: [] :: [(7, 5)] :: [] :: [] :: [] :: []
def b_X11_shape_91 : List zE := (91, .aload_n 0, []) :: (92, .iload_n 1, []) :: (93, .invokevirtual 265, [1, 1, 11]) :: (96, .ireturn, []) :: []
def p_X11_shape_91 : List (List (Nat × Nat)) := [] :: [] :: [(6, 219)] :: [] :: []
def b_X11_shape_84 : List zE := (84, .aload_n 0, []) :: (85, .getfield 40, [11, 10]) :: (88, .iload_n 1, []) :: (89, .iaload, []) :: (90, .ireturn, []) :: []
def p_X11_shape_84 : List (List (Nat × Nat)) := [] :: [(6, 1)] :: [] :: [] :: [] :: []
def b_X11_shape_77 : List zE := (77, .aload_n 0, []) :: (78, .getfield 37, [11, 9]) :: (81, .iload_n 1, []) :: (82, .iaload, []) :: (83, .ireturn, []) :: []
def p_X11_shape_77 : List (List (Nat × Nat)) := [] :: [(6, 0)] :: [] :: [] :: [] :: []
def b_X11_shape_70 : List zE := (70, .aload_n 0, []) :: (71, .getfield 34, [11, 8]) :: (74, .iload_n 1, []) :: (75, .iaload, []) :: (76, .ireturn, []) :: []
def p_X11_shape_70 : List (List (Nat × Nat)) := [] :: [(5, 239)] :: [] :: [] :: [] :: []
def b_X11_shape_63 : List zE := (63, .aload_n 0, []) :: (64, .getfield 31, [11, 7]) :: (67, .iload_n 1, []) :: (68, .iaload, []) :: (69, .ireturn, []) :: []
def p_X11_shape_63 : List (List (Nat × Nat)) := [] :: [(5, 238)] :: [] :: [] :: [] :: []
def b_X11_shape_56 : List zE := (56, .aload_n 0, []) :: (57, .getfield 27, [11, 6]) :: (60, .iload_n 1, []) :: (61, .iaload, []) :: (62, .ireturn, []) :: []
def p_X11_shape_56 : List (List (Nat × Nat)) := [] :: [(5, 237)] :: [] :: [] :: [] :: []
def b_X11_shape_10 : List zE := (10, .iload_n 2, []) :: (11, .tableswitch 125 0 7 #[45, 52, 59, 66, 73, 80, 86, 100], [136, 56, 63, 70, 77, 84, 91, 97, 111]) :: []
def p_X11_shape_10 : List (List (Nat × Nat)) := [] :: [] :: []
def b_X11_shape_0 : List zE := (0, .aload_n 0, []) :: (1, .iload_n 1, []) :: (2, .invokevirtual 243, [0, 1, 11]) :: (5, .ifCond .ne 5, [10, 0]) :: (8, .iconst (-1), [4294967295]) :: (9, .ireturn, []) :: []
def p_X11_shape_0 : List (List (Nat × Nat)) := [] :: [] :: [(6, 186)] :: [] :: [] :: [] :: []
def bl_X11_shape : List (Nat × List zE) := [(0, b_X11_shape_0), (10, b_X11_shape_10), (56, b_X11_shape_56), (63, b_X11_shape_63), (70, b_X11_shape_70), (77, b_X11_shape_77), (84, b_X11_shape_84), (91, b_X11_shape_91), (97, b_X11_shape_97), (109, b_X11_shape_109), (110, b_X11_shape_110), (111, b_X11_shape_111), (134, b_X11_shape_134), (135, b_X11_shape_135), (136, b_X11_shape_136)]
def pl_X11_shape : List (List (List (Nat × Nat))) := [p_X11_shape_0, p_X11_shape_10, p_X11_shape_56, p_X11_shape_63, p_X11_shape_70, p_X11_shape_77, p_X11_shape_84, p_X11_shape_91, p_X11_shape_97, p_X11_shape_109, p_X11_shape_110, p_X11_shape_111, p_X11_shape_134, p_X11_shape_135, p_X11_shape_136]
theorem k_X11_shape_0 : zlk 0 bl_X11_shape = b_X11_shape_0 := rfl
theorem k_X11_shape_10 : zlk 10 bl_X11_shape = b_X11_shape_10 := rfl
theorem k_X11_shape_56 : zlk 56 bl_X11_shape = b_X11_shape_56 := rfl
theorem k_X11_shape_63 : zlk 63 bl_X11_shape = b_X11_shape_63 := rfl
theorem k_X11_shape_70 : zlk 70 bl_X11_shape = b_X11_shape_70 := rfl
theorem k_X11_shape_77 : zlk 77 bl_X11_shape = b_X11_shape_77 := rfl
theorem k_X11_shape_84 : zlk 84 bl_X11_shape = b_X11_shape_84 := rfl
theorem k_X11_shape_91 : zlk 91 bl_X11_shape = b_X11_shape_91 := rfl
theorem k_X11_shape_97 : zlk 97 bl_X11_shape = b_X11_shape_97 := rfl
theorem k_X11_shape_109 : zlk 109 bl_X11_shape = b_X11_shape_109 := rfl
theorem k_X11_shape_110 : zlk 110 bl_X11_shape = b_X11_shape_110 := rfl
theorem k_X11_shape_111 : zlk 111 bl_X11_shape = b_X11_shape_111 := rfl
theorem k_X11_shape_134 : zlk 134 bl_X11_shape = b_X11_shape_134 := rfl
theorem k_X11_shape_135 : zlk 135 bl_X11_shape = b_X11_shape_135 := rfl
theorem k_X11_shape_136 : zlk 136 bl_X11_shape = b_X11_shape_136 := rfl
set_option maxRecDepth 100000 in
theorem ck_X11_shape : zall q_X11_shape.2.2.2.2.1 q_X11_shape.2.1 11 false q_X11_shape.2.2.1 cal_X11_shape q_X11_shape.2.2.2.1 bl_X11_shape pl_X11_shape = true := by decide +kernel
theorem nm_X11_shape : plainName q_X11_shape.1.cls = true ∧ zRX 11 = q_X11_shape.1.cls ∧ (false = true → q_X11_shape.1.name = "<init>") := ⟨by decide +kernel, rfl, fun h => by first | rfl | cases h⟩
set_option maxRecDepth 100000 in
theorem wd_X11_worked : zwd q_X11_worked := ⟨zw_in (p := (7, 35)) (by decide +kernel), zw_in (p := (1, 11)) (by decide +kernel), fun h => absurd h (by decide), fun _ => zw_in (p := (7, 34)) (by decide +kernel), fun _ => zw_in (p := (0, 63)) (by decide +kernel)⟩
def cal_X11_worked : List zCal := [q_X11_isFinite, q_X11_free, q_X11_made, q_X11_at, q_X11_plain]
def b_X11_worked_152 : List zE := (152, .iload 4, []) :: (154, .ireturn, []) :: []
def p_X11_worked_152 : List (List (Nat × Nat)) := [] :: [] :: []
def b_X11_worked_146 : List zE := (146, .iinc 5 1, [1]) :: (149, .goto (-55), [94, 1]) :: []
def p_X11_worked_146 : List (List (Nat × Nat)) := [] :: [] :: []
def b_X11_worked_103 : List zE := (103, .iload 6, []) :: (105, .iload_n 2, []) :: (106, .if_icmp .ge 40, [146, 0]) :: (109, .aload_n 0, []) :: (110, .getfield 19, [11, 4]) :: (113, .aload_n 0, []) :: (114, .iload 4, []) :: (116, .iload 5, []) :: (118, .iload 6, []) :: (120, .invokevirtual 261, [3, 3, 11]) :: (123, .aload_n 0, []) :: (124, .getfield 43, [11, 11]) :: (127, .bipush 8, [8]) :: (129, .iload 5, []) :: (131, .imul, []) :: (132, .iload 6, []) :: (134, .iadd, []) :: (135, .daload, []) :: (136, .invokestatic 257, [4, 1]) :: (139, .dastore, []) :: (140, .iinc 6 1, [1]) :: (143, .goto (-40), [103, 1]) :: []
def p_X11_worked_103 : List (List (Nat × Nat)) := [] :: [] :: [] :: [] :: [(5, 235)] :: [] :: [] :: [] :: [] :: [(6, 215)] :: [] :: [(6, 2)] :: [] :: [] :: [] :: [] :: [] :: [] :: [(6, 212)] :: [] :: [] :: [] :: []
def b_X11_worked_94 : List zE := (94, .iload 5, []) :: (96, .iload_n 1, []) :: (97, .if_icmp .ge 55, [152, 0]) :: (100, .iconst 0, [0]) :: (101, .istore 6, []) :: (103, .nop, []) :: []
def p_X11_worked_94 : List (List (Nat × Nat)) := [] :: [] :: [] :: [] :: [] :: [] :: []
def b_X11_worked_79 : List zE := (79, .aload_n 0, []) :: (80, .iload 4, []) :: (82, .iconst 0, [0]) :: (83, .iload_n 1, []) :: (84, .iload_n 2, []) :: (85, .iconst 0, [0]) :: (86, .iconst 0, [0]) :: (87, .invokevirtual 239, [2, 6, 11]) :: (90, .pop, []) :: (91, .iconst 0, [0]) :: (92, .istore 5, []) :: (94, .nop, []) :: []
def p_X11_worked_79 : List (List (Nat × Nat)) := [] :: [] :: [] :: [] :: [] :: [] :: [] :: [(6, 178)] :: [] :: [] :: [] :: [] :: []
def b_X11_worked_77 : List zE := (77, .iconst (-1), [4294967295]) :: (78, .ireturn, []) :: []
def p_X11_worked_77 : List (List (Nat × Nat)) := [] :: [] :: []
def b_X11_worked_61 : List zE := (61, .aload_n 0, []) :: (62, .invokevirtual 231, [1, 0, 11]) :: (65, .istore 4, []) :: (67, .iload_n 3, []) :: (68, .ifCond .eq 9, [77, 0]) :: (71, .iload 4, []) :: (73, .iconst (-1), [4294967295]) :: (74, .if_icmp .ne 5, [79, 0]) :: (77, .nop, [0]) :: []
def p_X11_worked_61 : List (List (Nat × Nat)) := [] :: [(6, 171)] :: [] :: [] :: [] :: [] :: [] :: [] :: [] :: []
def b_X11_worked_55 : List zE := (55, .iinc 4 1, [1]) :: (58, .goto (-53), [5, 1]) :: []
def p_X11_worked_55 : List (List (Nat × Nat)) := [] :: [] :: []
def b_X11_worked_48 : List zE := (48, .istore_n 3, []) :: (49, .iinc 5 1, [1]) :: (52, .goto (-38), [14, 1]) :: []
def p_X11_worked_48 : List (List (Nat × Nat)) := [] :: [] :: [] :: []
def b_X11_worked_47 : List zE := (47, .iconst 0, [0]) :: (48, .nop, [0]) :: []
def p_X11_worked_47 : List (List (Nat × Nat)) := [] :: [] :: []
def b_X11_worked_14 : List zE := (14, .iload 5, []) :: (16, .iload_n 2, []) :: (17, .if_icmp .ge 38, [55, 0]) :: (20, .iload_n 3, []) :: (21, .ifCond .eq 26, [47, 0]) :: (24, .aload_n 0, []) :: (25, .getfield 43, [11, 11]) :: (28, .bipush 8, [8]) :: (30, .iload 4, []) :: (32, .imul, []) :: (33, .iload 5, []) :: (35, .iadd, []) :: (36, .daload, []) :: (37, .invokestatic 277, [0, 1]) :: (40, .ifCond .eq 7, [47, 0]) :: (43, .iconst 1, [1]) :: (44, .goto 4, [48, 0]) :: []
def p_X11_worked_14 : List (List (Nat × Nat)) := [] :: [] :: [] :: [] :: [] :: [] :: [(6, 2)] :: [] :: [] :: [] :: [] :: [] :: [] :: [(7, 36)] :: [] :: [] :: [] :: []
def b_X11_worked_5 : List zE := (5, .iload 4, []) :: (7, .iload_n 1, []) :: (8, .if_icmp .ge 53, [61, 0]) :: (11, .iconst 0, [0]) :: (12, .istore 5, []) :: (14, .nop, []) :: []
def p_X11_worked_5 : List (List (Nat × Nat)) := [] :: [] :: [] :: [] :: [] :: [] :: []
def b_X11_worked_0 : List zE := (0, .iconst 1, [1]) :: (1, .istore_n 3, []) :: (2, .iconst 0, [0]) :: (3, .istore 4, []) :: (5, .nop, []) :: []
def p_X11_worked_0 : List (List (Nat × Nat)) := [] :: [] :: [] :: [] :: [] :: []
def bl_X11_worked : List (Nat × List zE) := [(0, b_X11_worked_0), (5, b_X11_worked_5), (14, b_X11_worked_14), (47, b_X11_worked_47), (48, b_X11_worked_48), (55, b_X11_worked_55), (61, b_X11_worked_61), (77, b_X11_worked_77), (79, b_X11_worked_79), (94, b_X11_worked_94), (103, b_X11_worked_103), (146, b_X11_worked_146), (152, b_X11_worked_152)]
def pl_X11_worked : List (List (List (Nat × Nat))) := [p_X11_worked_0, p_X11_worked_5, p_X11_worked_14, p_X11_worked_47, p_X11_worked_48, p_X11_worked_55, p_X11_worked_61, p_X11_worked_77, p_X11_worked_79, p_X11_worked_94, p_X11_worked_103, p_X11_worked_146, p_X11_worked_152]
theorem k_X11_worked_0 : zlk 0 bl_X11_worked = b_X11_worked_0 := rfl
theorem k_X11_worked_5 : zlk 5 bl_X11_worked = b_X11_worked_5 := rfl
theorem k_X11_worked_14 : zlk 14 bl_X11_worked = b_X11_worked_14 := rfl
theorem k_X11_worked_47 : zlk 47 bl_X11_worked = b_X11_worked_47 := rfl
theorem k_X11_worked_48 : zlk 48 bl_X11_worked = b_X11_worked_48 := rfl
theorem k_X11_worked_55 : zlk 55 bl_X11_worked = b_X11_worked_55 := rfl
theorem k_X11_worked_61 : zlk 61 bl_X11_worked = b_X11_worked_61 := rfl
theorem k_X11_worked_77 : zlk 77 bl_X11_worked = b_X11_worked_77 := rfl
theorem k_X11_worked_79 : zlk 79 bl_X11_worked = b_X11_worked_79 := rfl
theorem k_X11_worked_94 : zlk 94 bl_X11_worked = b_X11_worked_94 := rfl
theorem k_X11_worked_103 : zlk 103 bl_X11_worked = b_X11_worked_103 := rfl
theorem k_X11_worked_146 : zlk 146 bl_X11_worked = b_X11_worked_146 := rfl
theorem k_X11_worked_152 : zlk 152 bl_X11_worked = b_X11_worked_152 := rfl
set_option maxRecDepth 100000 in
theorem ck_X11_worked : zall q_X11_worked.2.2.2.2.1 q_X11_worked.2.1 11 false q_X11_worked.2.2.1 cal_X11_worked q_X11_worked.2.2.2.1 bl_X11_worked pl_X11_worked = true := by decide +kernel
theorem nm_X11_worked : plainName q_X11_worked.1.cls = true ∧ zRX 11 = q_X11_worked.1.cls ∧ (false = true → q_X11_worked.1.name = "<init>") := ⟨by decide +kernel, rfl, fun h => by first | rfl | cases h⟩
set_option maxRecDepth 100000 in
theorem wd_X11_sum : zwd q_X11_sum := ⟨zw_in (p := (7, 31)) (by decide +kernel), zw_in (p := (1, 11)) (by decide +kernel), fun h => absurd h (by decide), fun _ => zw_in (p := (7, 29)) (by decide +kernel), fun _ => zw_in (p := (7, 30)) (by decide +kernel)⟩
def cal_X11_sum : List zCal := [q_X11_isMatrix, q_X11_at, q_X11_worked]
def b_X11_sum_125 : List zE := (125, .aload_n 0, []) :: (126, .aload_n 0, []) :: (127, .getfield 31, [11, 7]) :: (130, .iload_n 1, []) :: (131, .iaload, []) :: (132, .aload_n 0, []) :: (133, .getfield 34, [11, 8]) :: (136, .iload_n 1, []) :: (137, .iaload, []) :: (138, .invokevirtual 281, [2, 2, 11]) :: (141, .ireturn, []) :: []
def p_X11_sum_125 : List (List (Nat × Nat)) := [] :: [] :: [(5, 238)] :: [] :: [] :: [] :: [(5, 239)] :: [] :: [] :: [(7, 32)] :: [] :: []
def b_X11_sum_119 : List zE := (119, .iinc 3 1, [1]) :: (122, .goto (-72), [50, 1]) :: []
def p_X11_sum_119 : List (List (Nat × Nat)) := [] :: [] :: []
def b_X11_sum_63 : List zE := (63, .iload 4, []) :: (65, .aload_n 0, []) :: (66, .getfield 34, [11, 8]) :: (69, .iload_n 1, []) :: (70, .iaload, []) :: (71, .if_icmp .ge 48, [119, 0]) :: (74, .aload_n 0, []) :: (75, .getfield 43, [11, 11]) :: (78, .bipush 8, [8]) :: (80, .iload_n 3, []) :: (81, .imul, []) :: (82, .iload 4, []) :: (84, .iadd, []) :: (85, .aload_n 0, []) :: (86, .getfield 19, [11, 4]) :: (89, .aload_n 0, []) :: (90, .iload_n 1, []) :: (91, .iload_n 3, []) :: (92, .iload 4, []) :: (94, .invokevirtual 261, [1, 3, 11]) :: (97, .daload, []) :: (98, .aload_n 0, []) :: (99, .getfield 19, [11, 4]) :: (102, .aload_n 0, []) :: (103, .iload_n 2, []) :: (104, .iload_n 3, []) :: (105, .iload 4, []) :: (107, .invokevirtual 261, [1, 3, 11]) :: (110, .daload, []) :: (111, .dadd, []) :: (112, .dastore, []) :: (113, .iinc 4 1, [1]) :: (116, .goto (-53), [63, 1]) :: []
def p_X11_sum_63 : List (List (Nat × Nat)) := [] :: [] :: [(5, 239)] :: [] :: [] :: [] :: [] :: [(6, 2)] :: [] :: [] :: [] :: [] :: [] :: [] :: [(5, 235)] :: [] :: [] :: [] :: [] :: [(6, 215)] :: [] :: [] :: [(5, 235)] :: [] :: [] :: [] :: [] :: [(6, 215)] :: [] :: [] :: [] :: [] :: [] :: []
def b_X11_sum_50 : List zE := (50, .iload_n 3, []) :: (51, .aload_n 0, []) :: (52, .getfield 31, [11, 7]) :: (55, .iload_n 1, []) :: (56, .iaload, []) :: (57, .if_icmp .ge 68, [125, 0]) :: (60, .iconst 0, [0]) :: (61, .istore 4, []) :: (63, .nop, []) :: []
def p_X11_sum_50 : List (List (Nat × Nat)) := [] :: [] :: [(5, 238)] :: [] :: [] :: [] :: [] :: [] :: [] :: []
def b_X11_sum_48 : List zE := (48, .iconst 0, [0]) :: (49, .istore_n 3, []) :: (50, .nop, []) :: []
def p_X11_sum_48 : List (List (Nat × Nat)) := [] :: [] :: [] :: []
def b_X11_sum_46 : List zE := (46, .iconst (-1), [4294967295]) :: (47, .ireturn, []) :: []
def p_X11_sum_46 : List (List (Nat × Nat)) := [] :: [] :: []
def b_X11_sum_0 : List zE := (0, .aload_n 0, []) :: (1, .iload_n 1, []) :: (2, .invokevirtual 243, [0, 1, 11]) :: (5, .ifCond .eq 41, [46, 0]) :: (8, .aload_n 0, []) :: (9, .iload_n 2, []) :: (10, .invokevirtual 243, [0, 1, 11]) :: (13, .ifCond .eq 33, [46, 0]) :: (16, .aload_n 0, []) :: (17, .getfield 31, [11, 7]) :: (20, .iload_n 1, []) :: (21, .iaload, []) :: (22, .aload_n 0, []) :: (23, .getfield 31, [11, 7]) :: (26, .iload_n 2, []) :: (27, .iaload, []) :: (28, .if_icmp .ne 18, [46, 0]) :: (31, .aload_n 0, []) :: (32, .getfield 34, [11, 8]) :: (35, .iload_n 1, []) :: (36, .iaload, []) :: (37, .aload_n 0, []) :: (38, .getfield 34, [11, 8]) :: (41, .iload_n 2, []) :: (42, .iaload, []) :: (43, .if_icmp .eq 5, [48, 0]) :: (46, .nop, [0]) :: []
def p_X11_sum_0 : List (List (Nat × Nat)) := [] :: [] :: [(6, 186)] :: [] :: [] :: [] :: [(6, 186)] :: [] :: [] :: [(5, 238)] :: [] :: [] :: [] :: [(5, 238)] :: [] :: [] :: [] :: [] :: [(5, 239)] :: [] :: [] :: [] :: [(5, 239)] :: [] :: [] :: [] :: [] :: []
def bl_X11_sum : List (Nat × List zE) := [(0, b_X11_sum_0), (46, b_X11_sum_46), (48, b_X11_sum_48), (50, b_X11_sum_50), (63, b_X11_sum_63), (119, b_X11_sum_119), (125, b_X11_sum_125)]
def pl_X11_sum : List (List (List (Nat × Nat))) := [p_X11_sum_0, p_X11_sum_46, p_X11_sum_48, p_X11_sum_50, p_X11_sum_63, p_X11_sum_119, p_X11_sum_125]
theorem k_X11_sum_0 : zlk 0 bl_X11_sum = b_X11_sum_0 := rfl
theorem k_X11_sum_46 : zlk 46 bl_X11_sum = b_X11_sum_46 := rfl
theorem k_X11_sum_48 : zlk 48 bl_X11_sum = b_X11_sum_48 := rfl
theorem k_X11_sum_50 : zlk 50 bl_X11_sum = b_X11_sum_50 := rfl
theorem k_X11_sum_63 : zlk 63 bl_X11_sum = b_X11_sum_63 := rfl
theorem k_X11_sum_119 : zlk 119 bl_X11_sum = b_X11_sum_119 := rfl
theorem k_X11_sum_125 : zlk 125 bl_X11_sum = b_X11_sum_125 := rfl
set_option maxRecDepth 100000 in
theorem ck_X11_sum : zall q_X11_sum.2.2.2.2.1 q_X11_sum.2.1 11 false q_X11_sum.2.2.1 cal_X11_sum q_X11_sum.2.2.2.1 bl_X11_sum pl_X11_sum = true := by decide +kernel
theorem nm_X11_sum : plainName q_X11_sum.1.cls = true ∧ zRX 11 = q_X11_sum.1.cls ∧ (false = true → q_X11_sum.1.name = "<init>") := ⟨by decide +kernel, rfl, fun h => by first | rfl | cases h⟩
set_option maxRecDepth 100000 in
theorem wd_X11_product : zwd q_X11_product := ⟨zw_in (p := (7, 42)) (by decide +kernel), zw_in (p := (1, 11)) (by decide +kernel), fun h => absurd h (by decide), fun _ => zw_in (p := (7, 40)) (by decide +kernel), fun _ => zw_in (p := (7, 41)) (by decide +kernel)⟩
def cal_X11_product : List zCal := [q_X11_isMatrix, q_X11_isFinite, q_X11_at, q_X11_fused, q_X11_worked]
def b_X11_product_178 : List zE := (178, .aload_n 0, []) :: (179, .aload_n 0, []) :: (180, .getfield 31, [11, 7]) :: (183, .iload_n 1, []) :: (184, .iaload, []) :: (185, .aload_n 0, []) :: (186, .getfield 34, [11, 8]) :: (189, .iload_n 2, []) :: (190, .iaload, []) :: (191, .invokevirtual 281, [4, 2, 11]) :: (194, .ireturn, []) :: []
def p_X11_product_178 : List (List (Nat × Nat)) := [] :: [] :: [(5, 238)] :: [] :: [] :: [] :: [(5, 239)] :: [] :: [] :: [(7, 32)] :: [] :: []
def b_X11_product_172 : List zE := (172, .iinc 4 1, [1]) :: (175, .goto (-139), [36, 1]) :: []
def p_X11_product_172 : List (List (Nat × Nat)) := [] :: [] :: []
def b_X11_product_151 : List zE := (151, .aload_n 0, []) :: (152, .getfield 43, [11, 11]) :: (155, .bipush 8, [8]) :: (157, .iload 4, []) :: (159, .imul, []) :: (160, .iload 5, []) :: (162, .iadd, []) :: (163, .dload 6, []) :: (165, .dastore, []) :: (166, .iinc 5 1, [1]) :: (169, .goto (-119), [50, 1]) :: []
def p_X11_product_151 : List (List (Nat × Nat)) := [] :: [(6, 2)] :: [] :: [] :: [] :: [] :: [] :: [] :: [] :: [] :: [] :: []
def b_X11_product_143 : List zE := (143, .dstore 6, []) :: (145, .iinc 8 1, [1]) :: (148, .goto (-81), [67, 1]) :: []
def p_X11_product_143 : List (List (Nat × Nat)) := [] :: [] :: [] :: []
def b_X11_product_135 : List zE := (135, .dload 6, []) :: (137, .dload 9, []) :: (139, .dload 11, []) :: (141, .dmul, []) :: (142, .dadd, []) :: (143, .nop, [0]) :: []
def p_X11_product_135 : List (List (Nat × Nat)) := [] :: [] :: [] :: [] :: [] :: [] :: []
def b_X11_product_67 : List zE := (67, .iload 8, []) :: (69, .aload_n 0, []) :: (70, .getfield 34, [11, 8]) :: (73, .iload_n 1, []) :: (74, .iaload, []) :: (75, .if_icmp .ge 76, [151, 0]) :: (78, .dload 6, []) :: (80, .invokestatic 277, [1, 1]) :: (83, .ifCond .eq 68, [151, 0]) :: (86, .aload_n 0, []) :: (87, .getfield 19, [11, 4]) :: (90, .aload_n 0, []) :: (91, .iload_n 1, []) :: (92, .iload 4, []) :: (94, .iload 8, []) :: (96, .invokevirtual 261, [2, 3, 11]) :: (99, .daload, []) :: (100, .dstore 9, []) :: (102, .aload_n 0, []) :: (103, .getfield 19, [11, 4]) :: (106, .aload_n 0, []) :: (107, .iload_n 2, []) :: (108, .iload 8, []) :: (110, .iload 5, []) :: (112, .invokevirtual 261, [2, 3, 11]) :: (115, .daload, []) :: (116, .dstore 11, []) :: (118, .iload_n 3, []) :: (119, .ifCond .eq 16, [135, 0]) :: (122, .aload_n 0, []) :: (123, .dload 9, []) :: (125, .dload 11, []) :: (127, .dload 6, []) :: (129, .invokevirtual 285, [3, 3, 11]) :: (132, .goto 11, [143, 0]) :: []
def p_X11_product_67 : List (List (Nat × Nat)) := [] :: [] :: [(5, 239)] :: [] :: [] :: [] :: [] :: [(7, 36)] :: [] :: [] :: [(5, 235)] :: [] :: [] :: [] :: [] :: [(6, 215)] :: [] :: [] :: [] :: [(5, 235)] :: [] :: [] :: [] :: [] :: [(6, 215)] :: [] :: [] :: [] :: [] :: [] :: [] :: [] :: [] :: [(7, 43)] :: [] :: []
def b_X11_product_50 : List zE := (50, .iload 5, []) :: (52, .aload_n 0, []) :: (53, .getfield 34, [11, 8]) :: (56, .iload_n 2, []) :: (57, .iaload, []) :: (58, .if_icmp .ge 114, [172, 0]) :: (61, .dconst 0, [0]) :: (62, .dstore 6, []) :: (64, .iconst 0, [0]) :: (65, .istore 8, []) :: (67, .nop, []) :: []
def p_X11_product_50 : List (List (Nat × Nat)) := [] :: [] :: [(5, 239)] :: [] :: [] :: [] :: [] :: [] :: [] :: [] :: [] :: []
def b_X11_product_36 : List zE := (36, .iload 4, []) :: (38, .aload_n 0, []) :: (39, .getfield 31, [11, 7]) :: (42, .iload_n 1, []) :: (43, .iaload, []) :: (44, .if_icmp .ge 134, [178, 0]) :: (47, .iconst 0, [0]) :: (48, .istore 5, []) :: (50, .nop, []) :: []
def p_X11_product_36 : List (List (Nat × Nat)) := [] :: [] :: [(5, 238)] :: [] :: [] :: [] :: [] :: [] :: [] :: []
def b_X11_product_33 : List zE := (33, .iconst 0, [0]) :: (34, .istore 4, []) :: (36, .nop, []) :: []
def p_X11_product_33 : List (List (Nat × Nat)) := [] :: [] :: [] :: []
def b_X11_product_31 : List zE := (31, .iconst (-1), [4294967295]) :: (32, .ireturn, []) :: []
def p_X11_product_31 : List (List (Nat × Nat)) := [] :: [] :: []
def b_X11_product_0 : List zE := (0, .aload_n 0, []) :: (1, .iload_n 1, []) :: (2, .invokevirtual 243, [0, 1, 11]) :: (5, .ifCond .eq 26, [31, 0]) :: (8, .aload_n 0, []) :: (9, .iload_n 2, []) :: (10, .invokevirtual 243, [0, 1, 11]) :: (13, .ifCond .eq 18, [31, 0]) :: (16, .aload_n 0, []) :: (17, .getfield 34, [11, 8]) :: (20, .iload_n 1, []) :: (21, .iaload, []) :: (22, .aload_n 0, []) :: (23, .getfield 31, [11, 7]) :: (26, .iload_n 2, []) :: (27, .iaload, []) :: (28, .if_icmp .eq 5, [33, 0]) :: (31, .nop, [0]) :: []
def p_X11_product_0 : List (List (Nat × Nat)) := [] :: [] :: [(6, 186)] :: [] :: [] :: [] :: [(6, 186)] :: [] :: [] :: [(5, 239)] :: [] :: [] :: [] :: [(5, 238)] :: [] :: [] :: [] :: [] :: []
def bl_X11_product : List (Nat × List zE) := [(0, b_X11_product_0), (31, b_X11_product_31), (33, b_X11_product_33), (36, b_X11_product_36), (50, b_X11_product_50), (67, b_X11_product_67), (135, b_X11_product_135), (143, b_X11_product_143), (151, b_X11_product_151), (172, b_X11_product_172), (178, b_X11_product_178)]
def pl_X11_product : List (List (List (Nat × Nat))) := [p_X11_product_0, p_X11_product_31, p_X11_product_33, p_X11_product_36, p_X11_product_50, p_X11_product_67, p_X11_product_135, p_X11_product_143, p_X11_product_151, p_X11_product_172, p_X11_product_178]
theorem k_X11_product_0 : zlk 0 bl_X11_product = b_X11_product_0 := rfl
theorem k_X11_product_31 : zlk 31 bl_X11_product = b_X11_product_31 := rfl
theorem k_X11_product_33 : zlk 33 bl_X11_product = b_X11_product_33 := rfl
theorem k_X11_product_36 : zlk 36 bl_X11_product = b_X11_product_36 := rfl
theorem k_X11_product_50 : zlk 50 bl_X11_product = b_X11_product_50 := rfl
theorem k_X11_product_67 : zlk 67 bl_X11_product = b_X11_product_67 := rfl
theorem k_X11_product_135 : zlk 135 bl_X11_product = b_X11_product_135 := rfl
theorem k_X11_product_143 : zlk 143 bl_X11_product = b_X11_product_143 := rfl
theorem k_X11_product_151 : zlk 151 bl_X11_product = b_X11_product_151 := rfl
theorem k_X11_product_172 : zlk 172 bl_X11_product = b_X11_product_172 := rfl
theorem k_X11_product_178 : zlk 178 bl_X11_product = b_X11_product_178 := rfl
set_option maxRecDepth 100000 in
theorem ck_X11_product : zall q_X11_product.2.2.2.2.1 q_X11_product.2.1 11 false q_X11_product.2.2.1 cal_X11_product q_X11_product.2.2.2.1 bl_X11_product pl_X11_product = true := by decide +kernel
theorem nm_X11_product : plainName q_X11_product.1.cls = true ∧ zRX 11 = q_X11_product.1.cls ∧ (false = true → q_X11_product.1.name = "<init>") := ⟨by decide +kernel, rfl, fun h => by first | rfl | cases h⟩
set_option maxRecDepth 100000 in
theorem wd_X11_transpose : zwd q_X11_transpose := ⟨zw_in (p := (7, 87)) (by decide +kernel), zw_in (p := (1, 11)) (by decide +kernel), fun h => absurd h (by decide), fun _ => zw_in (p := (7, 85)) (by decide +kernel), fun _ => zw_in (p := (7, 86)) (by decide +kernel)⟩
def cal_X11_transpose : List zCal := [q_X11_isMatrix, q_X11_at, q_X11_worked]
def b_X11_transpose_69 : List zE := (69, .aload_n 0, []) :: (70, .aload_n 0, []) :: (71, .getfield 34, [11, 8]) :: (74, .iload_n 1, []) :: (75, .iaload, []) :: (76, .aload_n 0, []) :: (77, .getfield 31, [11, 7]) :: (80, .iload_n 1, []) :: (81, .iaload, []) :: (82, .invokevirtual 281, [2, 2, 11]) :: (85, .ireturn, []) :: []
def p_X11_transpose_69 : List (List (Nat × Nat)) := [] :: [] :: [(5, 239)] :: [] :: [] :: [] :: [(5, 238)] :: [] :: [] :: [(7, 32)] :: [] :: []
def b_X11_transpose_63 : List zE := (63, .iinc 2 1, [1]) :: (66, .goto (-54), [12, 1]) :: []
def p_X11_transpose_63 : List (List (Nat × Nat)) := [] :: [] :: []
def b_X11_transpose_24 : List zE := (24, .iload_n 3, []) :: (25, .aload_n 0, []) :: (26, .getfield 31, [11, 7]) :: (29, .iload_n 1, []) :: (30, .iaload, []) :: (31, .if_icmp .ge 32, [63, 0]) :: (34, .aload_n 0, []) :: (35, .getfield 43, [11, 11]) :: (38, .bipush 8, [8]) :: (40, .iload_n 2, []) :: (41, .imul, []) :: (42, .iload_n 3, []) :: (43, .iadd, []) :: (44, .aload_n 0, []) :: (45, .getfield 19, [11, 4]) :: (48, .aload_n 0, []) :: (49, .iload_n 1, []) :: (50, .iload_n 3, []) :: (51, .iload_n 2, []) :: (52, .invokevirtual 261, [1, 3, 11]) :: (55, .daload, []) :: (56, .dastore, []) :: (57, .iinc 3 1, [1]) :: (60, .goto (-36), [24, 1]) :: []
def p_X11_transpose_24 : List (List (Nat × Nat)) := [] :: [] :: [(5, 238)] :: [] :: [] :: [] :: [] :: [(6, 2)] :: [] :: [] :: [] :: [] :: [] :: [] :: [(5, 235)] :: [] :: [] :: [] :: [] :: [(6, 215)] :: [] :: [] :: [] :: [] :: []
def b_X11_transpose_12 : List zE := (12, .iload_n 2, []) :: (13, .aload_n 0, []) :: (14, .getfield 34, [11, 8]) :: (17, .iload_n 1, []) :: (18, .iaload, []) :: (19, .if_icmp .ge 50, [69, 0]) :: (22, .iconst 0, [0]) :: (23, .istore_n 3, []) :: (24, .nop, []) :: []
def p_X11_transpose_12 : List (List (Nat × Nat)) := [] :: [] :: [(5, 239)] :: [] :: [] :: [] :: [] :: [] :: [] :: []
def b_X11_transpose_10 : List zE := (10, .iconst 0, [0]) :: (11, .istore_n 2, []) :: (12, .nop, []) :: []
def p_X11_transpose_10 : List (List (Nat × Nat)) := [] :: [] :: [] :: []
def b_X11_transpose_0 : List zE := (0, .aload_n 0, []) :: (1, .iload_n 1, []) :: (2, .invokevirtual 243, [0, 1, 11]) :: (5, .ifCond .ne 5, [10, 0]) :: (8, .iconst (-1), [4294967295]) :: (9, .ireturn, []) :: []
def p_X11_transpose_0 : List (List (Nat × Nat)) := [] :: [] :: [(6, 186)] :: [] :: [] :: [] :: []
def bl_X11_transpose : List (Nat × List zE) := [(0, b_X11_transpose_0), (10, b_X11_transpose_10), (12, b_X11_transpose_12), (24, b_X11_transpose_24), (63, b_X11_transpose_63), (69, b_X11_transpose_69)]
def pl_X11_transpose : List (List (List (Nat × Nat))) := [p_X11_transpose_0, p_X11_transpose_10, p_X11_transpose_12, p_X11_transpose_24, p_X11_transpose_63, p_X11_transpose_69]
theorem k_X11_transpose_0 : zlk 0 bl_X11_transpose = b_X11_transpose_0 := rfl
theorem k_X11_transpose_10 : zlk 10 bl_X11_transpose = b_X11_transpose_10 := rfl
theorem k_X11_transpose_12 : zlk 12 bl_X11_transpose = b_X11_transpose_12 := rfl
theorem k_X11_transpose_24 : zlk 24 bl_X11_transpose = b_X11_transpose_24 := rfl
theorem k_X11_transpose_63 : zlk 63 bl_X11_transpose = b_X11_transpose_63 := rfl
theorem k_X11_transpose_69 : zlk 69 bl_X11_transpose = b_X11_transpose_69 := rfl
set_option maxRecDepth 100000 in
theorem ck_X11_transpose : zall q_X11_transpose.2.2.2.2.1 q_X11_transpose.2.1 11 false q_X11_transpose.2.2.1 cal_X11_transpose q_X11_transpose.2.2.2.1 bl_X11_transpose pl_X11_transpose = true := by decide +kernel
theorem nm_X11_transpose : plainName q_X11_transpose.1.cls = true ∧ zRX 11 = q_X11_transpose.1.cls ∧ (false = true → q_X11_transpose.1.name = "<init>") := ⟨by decide +kernel, rfl, fun h => by first | rfl | cases h⟩
set_option maxRecDepth 100000 in
theorem wd_X11_formed : zwd q_X11_formed := ⟨zw_in (p := (7, 91)) (by decide +kernel), zw_in (p := (1, 11)) (by decide +kernel), fun h => absurd h (by decide), fun _ => zw_in (p := (7, 89)) (by decide +kernel), fun _ => zw_in (p := (7, 90)) (by decide +kernel)⟩
def cal_X11_formed : List zCal := [q_X11_isMatrix, q_X11_isForm, q_X11_filled, q_X11_isPlace, q_X11_at, q_X11_free, q_X11_made]
def b_X11_formed_218 : List zE := (218, .iload 6, []) :: (220, .ireturn, []) :: []
def p_X11_formed_218 : List (List (Nat × Nat)) := [] :: [] :: []
def b_X11_formed_180 : List zE := (180, .iload 7, []) :: (182, .bipush 64, [64]) :: (184, .if_icmp .ge 34, [218, 0]) :: (187, .aload_n 0, []) :: (188, .getfield 19, [11, 4]) :: (191, .bipush 64, [64]) :: (193, .iload 6, []) :: (195, .imul, []) :: (196, .iload 7, []) :: (198, .iadd, []) :: (199, .aload_n 0, []) :: (200, .getfield 19, [11, 4]) :: (203, .bipush 64, [64]) :: (205, .iload_n 1, []) :: (206, .imul, []) :: (207, .iload 7, []) :: (209, .iadd, []) :: (210, .daload, []) :: (211, .dastore, []) :: (212, .iinc 7 1, [1]) :: (215, .goto (-35), [180, 1]) :: []
def p_X11_formed_180 : List (List (Nat × Nat)) := [] :: [] :: [] :: [] :: [(5, 235)] :: [] :: [] :: [] :: [] :: [] :: [] :: [(5, 235)] :: [] :: [] :: [] :: [] :: [] :: [] :: [] :: [] :: [] :: []
def b_X11_formed_154 : List zE := (154, .aload_n 0, []) :: (155, .iload 6, []) :: (157, .iload_n 2, []) :: (158, .aload_n 0, []) :: (159, .getfield 31, [11, 7]) :: (162, .iload_n 1, []) :: (163, .iaload, []) :: (164, .aload_n 0, []) :: (165, .getfield 34, [11, 8]) :: (168, .iload_n 1, []) :: (169, .iaload, []) :: (170, .iload_n 3, []) :: (171, .iload 4, []) :: (173, .invokevirtual 239, [6, 6, 11]) :: (176, .pop, []) :: (177, .iconst 0, [0]) :: (178, .istore 7, []) :: (180, .nop, []) :: []
def p_X11_formed_154 : List (List (Nat × Nat)) := [] :: [] :: [] :: [] :: [(5, 238)] :: [] :: [] :: [] :: [(5, 239)] :: [] :: [] :: [] :: [] :: [(6, 178)] :: [] :: [] :: [] :: [] :: []
def b_X11_formed_152 : List zE := (152, .iconst (-1), [4294967295]) :: (153, .ireturn, []) :: []
def p_X11_formed_152 : List (List (Nat × Nat)) := [] :: [] :: []
def b_X11_formed_135 : List zE := (135, .aload_n 0, []) :: (136, .invokevirtual 231, [5, 0, 11]) :: (139, .istore 6, []) :: (141, .iload 5, []) :: (143, .ifCond .eq 9, [152, 0]) :: (146, .iload 6, []) :: (148, .iconst (-1), [4294967295]) :: (149, .if_icmp .ne 5, [154, 0]) :: (152, .nop, [0]) :: []
def p_X11_formed_135 : List (List (Nat × Nat)) := [] :: [(6, 171)] :: [] :: [] :: [] :: [] :: [] :: [] :: [] :: []
def b_X11_formed_129 : List zE := (129, .iinc 6 1, [1]) :: (132, .goto (-79), [53, 1]) :: []
def p_X11_formed_129 : List (List (Nat × Nat)) := [] :: [] :: []
def b_X11_formed_121 : List zE := (121, .istore 5, []) :: (123, .iinc 7 1, [1]) :: (126, .goto (-59), [67, 1]) :: []
def p_X11_formed_121 : List (List (Nat × Nat)) := [] :: [] :: [] :: []
def b_X11_formed_120 : List zE := (120, .iconst 0, [0]) :: (121, .nop, [0]) :: []
def p_X11_formed_120 : List (List (Nat × Nat)) := [] :: [] :: []
def b_X11_formed_116 : List zE := (116, .iconst 1, [1]) :: (117, .goto 4, [121, 0]) :: []
def p_X11_formed_116 : List (List (Nat × Nat)) := [] :: [] :: []
def b_X11_formed_67 : List zE := (67, .iload 7, []) :: (69, .aload_n 0, []) :: (70, .getfield 34, [11, 8]) :: (73, .iload_n 1, []) :: (74, .iaload, []) :: (75, .if_icmp .ge 54, [129, 0]) :: (78, .iload 5, []) :: (80, .ifCond .eq 40, [120, 0]) :: (83, .iload_n 2, []) :: (84, .iload_n 3, []) :: (85, .iload 4, []) :: (87, .iload 6, []) :: (89, .iload 7, []) :: (91, .invokestatic 250, [3, 5]) :: (94, .ifCond .ne 22, [116, 0]) :: (97, .aload_n 0, []) :: (98, .getfield 19, [11, 4]) :: (101, .aload_n 0, []) :: (102, .iload_n 1, []) :: (103, .iload 6, []) :: (105, .iload 7, []) :: (107, .invokevirtual 261, [4, 3, 11]) :: (110, .daload, []) :: (111, .dconst 0, [0]) :: (112, .dcmp .l, []) :: (113, .ifCond .ne 7, [120, 0]) :: (116, .nop, [0]) :: []
def p_X11_formed_67 : List (List (Nat × Nat)) := [] :: [] :: [(5, 239)] :: [] :: [] :: [] :: [] :: [] :: [] :: [] :: [] :: [] :: [] :: [(6, 198)] :: [] :: [] :: [(5, 235)] :: [] :: [] :: [] :: [] :: [(6, 215)] :: [] :: [] :: [] :: [] :: [] :: []
def b_X11_formed_53 : List zE := (53, .iload 6, []) :: (55, .aload_n 0, []) :: (56, .getfield 31, [11, 7]) :: (59, .iload_n 1, []) :: (60, .iaload, []) :: (61, .if_icmp .ge 74, [135, 0]) :: (64, .iconst 0, [0]) :: (65, .istore 7, []) :: (67, .nop, []) :: []
def p_X11_formed_53 : List (List (Nat × Nat)) := [] :: [] :: [(5, 238)] :: [] :: [] :: [] :: [] :: [] :: [] :: []
def b_X11_formed_47 : List zE := (47, .iconst 1, [1]) :: (48, .istore 5, []) :: (50, .iconst 0, [0]) :: (51, .istore 6, []) :: (53, .nop, []) :: []
def p_X11_formed_47 : List (List (Nat × Nat)) := [] :: [] :: [] :: [] :: [] :: []
def b_X11_formed_45 : List zE := (45, .iconst (-1), [4294967295]) :: (46, .ireturn, []) :: []
def p_X11_formed_45 : List (List (Nat × Nat)) := [] :: [] :: []
def b_X11_formed_0 : List zE := (0, .aload_n 0, []) :: (1, .iload_n 1, []) :: (2, .invokevirtual 243, [0, 1, 11]) :: (5, .ifCond .eq 40, [45, 0]) :: (8, .iload_n 2, []) :: (9, .aload_n 0, []) :: (10, .getfield 31, [11, 7]) :: (13, .iload_n 1, []) :: (14, .iaload, []) :: (15, .aload_n 0, []) :: (16, .getfield 34, [11, 8]) :: (19, .iload_n 1, []) :: (20, .iaload, []) :: (21, .iload_n 3, []) :: (22, .iload 4, []) :: (24, .invokestatic 235, [1, 5]) :: (27, .ifCond .eq 18, [45, 0]) :: (30, .iload_n 2, []) :: (31, .iconst 3, [3]) :: (32, .if_icmp .ne 15, [47, 0]) :: (35, .aload_n 0, []) :: (36, .iload_n 1, []) :: (37, .invokevirtual 265, [2, 1, 11]) :: (40, .bipush 20, [20]) :: (42, .if_icmp .le 5, [47, 0]) :: (45, .nop, [0]) :: []
def p_X11_formed_0 : List (List (Nat × Nat)) := [] :: [] :: [(6, 186)] :: [] :: [] :: [] :: [(5, 238)] :: [] :: [] :: [] :: [(5, 239)] :: [] :: [] :: [] :: [] :: [(6, 175)] :: [] :: [] :: [] :: [] :: [] :: [] :: [(6, 219)] :: [] :: [] :: [] :: []
def bl_X11_formed : List (Nat × List zE) := [(0, b_X11_formed_0), (45, b_X11_formed_45), (47, b_X11_formed_47), (53, b_X11_formed_53), (67, b_X11_formed_67), (116, b_X11_formed_116), (120, b_X11_formed_120), (121, b_X11_formed_121), (129, b_X11_formed_129), (135, b_X11_formed_135), (152, b_X11_formed_152), (154, b_X11_formed_154), (180, b_X11_formed_180), (218, b_X11_formed_218)]
def pl_X11_formed : List (List (List (Nat × Nat))) := [p_X11_formed_0, p_X11_formed_45, p_X11_formed_47, p_X11_formed_53, p_X11_formed_67, p_X11_formed_116, p_X11_formed_120, p_X11_formed_121, p_X11_formed_129, p_X11_formed_135, p_X11_formed_152, p_X11_formed_154, p_X11_formed_180, p_X11_formed_218]
theorem k_X11_formed_0 : zlk 0 bl_X11_formed = b_X11_formed_0 := rfl
theorem k_X11_formed_45 : zlk 45 bl_X11_formed = b_X11_formed_45 := rfl
theorem k_X11_formed_47 : zlk 47 bl_X11_formed = b_X11_formed_47 := rfl
theorem k_X11_formed_53 : zlk 53 bl_X11_formed = b_X11_formed_53 := rfl
theorem k_X11_formed_67 : zlk 67 bl_X11_formed = b_X11_formed_67 := rfl
theorem k_X11_formed_116 : zlk 116 bl_X11_formed = b_X11_formed_116 := rfl
theorem k_X11_formed_120 : zlk 120 bl_X11_formed = b_X11_formed_120 := rfl
theorem k_X11_formed_121 : zlk 121 bl_X11_formed = b_X11_formed_121 := rfl
theorem k_X11_formed_129 : zlk 129 bl_X11_formed = b_X11_formed_129 := rfl
theorem k_X11_formed_135 : zlk 135 bl_X11_formed = b_X11_formed_135 := rfl
theorem k_X11_formed_152 : zlk 152 bl_X11_formed = b_X11_formed_152 := rfl
theorem k_X11_formed_154 : zlk 154 bl_X11_formed = b_X11_formed_154 := rfl
theorem k_X11_formed_180 : zlk 180 bl_X11_formed = b_X11_formed_180 := rfl
theorem k_X11_formed_218 : zlk 218 bl_X11_formed = b_X11_formed_218 := rfl
set_option maxRecDepth 100000 in
theorem ck_X11_formed : zall q_X11_formed.2.2.2.2.1 q_X11_formed.2.1 11 false q_X11_formed.2.2.1 cal_X11_formed q_X11_formed.2.2.2.1 bl_X11_formed pl_X11_formed = true := by decide +kernel
theorem nm_X11_formed : plainName q_X11_formed.1.cls = true ∧ zRX 11 = q_X11_formed.1.cls ∧ (false = true → q_X11_formed.1.name = "<init>") := ⟨by decide +kernel, rfl, fun h => by first | rfl | cases h⟩
set_option maxRecDepth 100000 in
theorem wd_X11_block : zwd q_X11_block := ⟨zw_in (p := (7, 95)) (by decide +kernel), zw_in (p := (1, 11)) (by decide +kernel), fun h => absurd h (by decide), fun _ => zw_in (p := (7, 93)) (by decide +kernel), fun _ => zw_in (p := (7, 94)) (by decide +kernel)⟩
def cal_X11_block : List zCal := [q_X11_isIn, q_X11_at, q_X11_worked]
def b_X11_block_127 : List zE := (127, .aload_n 0, []) :: (128, .iload 4, []) :: (130, .iload 5, []) :: (132, .invokevirtual 281, [2, 2, 11]) :: (135, .ireturn, []) :: []
def p_X11_block_127 : List (List (Nat × Nat)) := [] :: [] :: [] :: [(7, 32)] :: [] :: []
def b_X11_block_121 : List zE := (121, .iinc 6 1, [1]) :: (124, .goto (-57), [67, 1]) :: []
def p_X11_block_121 : List (List (Nat × Nat)) := [] :: [] :: []
def b_X11_block_77 : List zE := (77, .iload 7, []) :: (79, .iload 5, []) :: (81, .if_icmp .ge 40, [121, 0]) :: (84, .aload_n 0, []) :: (85, .getfield 43, [11, 11]) :: (88, .bipush 8, [8]) :: (90, .iload 6, []) :: (92, .imul, []) :: (93, .iload 7, []) :: (95, .iadd, []) :: (96, .aload_n 0, []) :: (97, .getfield 19, [11, 4]) :: (100, .aload_n 0, []) :: (101, .iload_n 1, []) :: (102, .iload_n 2, []) :: (103, .iload 6, []) :: (105, .iadd, []) :: (106, .iload_n 3, []) :: (107, .iload 7, []) :: (109, .iadd, []) :: (110, .invokevirtual 261, [1, 3, 11]) :: (113, .daload, []) :: (114, .dastore, []) :: (115, .iinc 7 1, [1]) :: (118, .goto (-41), [77, 1]) :: []
def p_X11_block_77 : List (List (Nat × Nat)) := [] :: [] :: [] :: [] :: [(6, 2)] :: [] :: [] :: [] :: [] :: [] :: [] :: [(5, 235)] :: [] :: [] :: [] :: [] :: [] :: [] :: [] :: [] :: [(6, 215)] :: [] :: [] :: [] :: [] :: []
def b_X11_block_67 : List zE := (67, .iload 6, []) :: (69, .iload 4, []) :: (71, .if_icmp .ge 56, [127, 0]) :: (74, .iconst 0, [0]) :: (75, .istore 7, []) :: (77, .nop, []) :: []
def p_X11_block_67 : List (List (Nat × Nat)) := [] :: [] :: [] :: [] :: [] :: [] :: []
def b_X11_block_64 : List zE := (64, .iconst 0, [0]) :: (65, .istore 6, []) :: (67, .nop, []) :: []
def p_X11_block_64 : List (List (Nat × Nat)) := [] :: [] :: [] :: []
def b_X11_block_62 : List zE := (62, .iconst (-1), [4294967295]) :: (63, .ireturn, []) :: []
def p_X11_block_62 : List (List (Nat × Nat)) := [] :: [] :: []
def b_X11_block_0 : List zE := (0, .aload_n 0, []) :: (1, .iload_n 1, []) :: (2, .iload_n 2, []) :: (3, .iload_n 3, []) :: (4, .invokevirtual 247, [0, 3, 11]) :: (7, .ifCond .eq 55, [62, 0]) :: (10, .iload 4, []) :: (12, .iconst 1, [1]) :: (13, .if_icmp .lt 49, [62, 0]) :: (16, .iload 4, []) :: (18, .bipush 8, [8]) :: (20, .if_icmp .gt 42, [62, 0]) :: (23, .iload 5, []) :: (25, .iconst 1, [1]) :: (26, .if_icmp .lt 36, [62, 0]) :: (29, .iload 5, []) :: (31, .bipush 8, [8]) :: (33, .if_icmp .gt 29, [62, 0]) :: (36, .iload_n 2, []) :: (37, .iload 4, []) :: (39, .iadd, []) :: (40, .aload_n 0, []) :: (41, .getfield 31, [11, 7]) :: (44, .iload_n 1, []) :: (45, .iaload, []) :: (46, .if_icmp .gt 16, [62, 0]) :: (49, .iload_n 3, []) :: (50, .iload 5, []) :: (52, .iadd, []) :: (53, .aload_n 0, []) :: (54, .getfield 34, [11, 8]) :: (57, .iload_n 1, []) :: (58, .iaload, []) :: (59, .if_icmp .le 5, [64, 0]) :: (62, .nop, [0]) :: []
def p_X11_block_0 : List (List (Nat × Nat)) := [] :: [] :: [] :: [] :: [(6, 194)] :: [] :: [] :: [] :: [] :: [] :: [] :: [] :: [] :: [] :: [] :: [] :: [] :: [] :: [] :: [] :: [] :: [] :: [(5, 238)] :: [] :: [] :: [] :: [] :: [] :: [] :: [] :: [(5, 239)] :: [] :: [] :: [] :: [] :: []
def bl_X11_block : List (Nat × List zE) := [(0, b_X11_block_0), (62, b_X11_block_62), (64, b_X11_block_64), (67, b_X11_block_67), (77, b_X11_block_77), (121, b_X11_block_121), (127, b_X11_block_127)]
def pl_X11_block : List (List (List (Nat × Nat))) := [p_X11_block_0, p_X11_block_62, p_X11_block_64, p_X11_block_67, p_X11_block_77, p_X11_block_121, p_X11_block_127]
theorem k_X11_block_0 : zlk 0 bl_X11_block = b_X11_block_0 := rfl
theorem k_X11_block_62 : zlk 62 bl_X11_block = b_X11_block_62 := rfl
theorem k_X11_block_64 : zlk 64 bl_X11_block = b_X11_block_64 := rfl
theorem k_X11_block_67 : zlk 67 bl_X11_block = b_X11_block_67 := rfl
theorem k_X11_block_77 : zlk 77 bl_X11_block = b_X11_block_77 := rfl
theorem k_X11_block_121 : zlk 121 bl_X11_block = b_X11_block_121 := rfl
theorem k_X11_block_127 : zlk 127 bl_X11_block = b_X11_block_127 := rfl
set_option maxRecDepth 100000 in
theorem ck_X11_block : zall q_X11_block.2.2.2.2.1 q_X11_block.2.1 11 false q_X11_block.2.2.1 cal_X11_block q_X11_block.2.2.2.1 bl_X11_block pl_X11_block = true := by decide +kernel
theorem nm_X11_block : plainName q_X11_block.1.cls = true ∧ zRX 11 = q_X11_block.1.cls ∧ (false = true → q_X11_block.1.name = "<init>") := ⟨by decide +kernel, rfl, fun h => by first | rfl | cases h⟩
set_option maxRecDepth 100000 in
theorem wd_X11_same : zwd q_X11_same := ⟨zw_in (p := (7, 99)) (by decide +kernel), zw_in (p := (1, 11)) (by decide +kernel), fun h => absurd h (by decide), fun _ => zw_in (p := (7, 97)) (by decide +kernel), fun _ => zw_in (p := (7, 98)) (by decide +kernel)⟩
def cal_X11_same : List zCal := [q_X11_isMatrix]
def b_X11_same_117 : List zE := (117, .ireturn, []) :: []
def p_X11_same_117 : List (List (Nat × Nat)) := [] :: []
def b_X11_same_116 : List zE := (116, .iconst 0, [0]) :: (117, .nop, [0]) :: []
def p_X11_same_116 : List (List (Nat × Nat)) := [] :: [] :: []
def b_X11_same_108 : List zE := (108, .iload_n 3, []) :: (109, .ifCond .eq 7, [116, 0]) :: (112, .iconst 1, [1]) :: (113, .goto 4, [117, 0]) :: []
def p_X11_same_108 : List (List (Nat × Nat)) := [] :: [] :: [] :: [] :: []
def b_X11_same_101 : List zE := (101, .istore_n 3, []) :: (102, .iinc 4 1, [1]) :: (105, .goto (-48), [57, 1]) :: []
def p_X11_same_101 : List (List (Nat × Nat)) := [] :: [] :: [] :: []
def b_X11_same_100 : List zE := (100, .iconst 0, [0]) :: (101, .nop, [0]) :: []
def p_X11_same_100 : List (List (Nat × Nat)) := [] :: [] :: []
def b_X11_same_57 : List zE := (57, .iload 4, []) :: (59, .bipush 64, [64]) :: (61, .if_icmp .ge 47, [108, 0]) :: (64, .iload_n 3, []) :: (65, .ifCond .eq 35, [100, 0]) :: (68, .aload_n 0, []) :: (69, .getfield 19, [11, 4]) :: (72, .bipush 64, [64]) :: (74, .iload_n 1, []) :: (75, .imul, []) :: (76, .iload 4, []) :: (78, .iadd, []) :: (79, .daload, []) :: (80, .aload_n 0, []) :: (81, .getfield 19, [11, 4]) :: (84, .bipush 64, [64]) :: (86, .iload_n 2, []) :: (87, .imul, []) :: (88, .iload 4, []) :: (90, .iadd, []) :: (91, .daload, []) :: (92, .dcmp .l, []) :: (93, .ifCond .ne 7, [100, 0]) :: (96, .iconst 1, [1]) :: (97, .goto 4, [101, 0]) :: []
def p_X11_same_57 : List (List (Nat × Nat)) := [] :: [] :: [] :: [] :: [] :: [] :: [(5, 235)] :: [] :: [] :: [] :: [] :: [] :: [] :: [] :: [(5, 235)] :: [] :: [] :: [] :: [] :: [] :: [] :: [] :: [] :: [] :: [] :: []
def b_X11_same_53 : List zE := (53, .istore_n 3, []) :: (54, .iconst 0, [0]) :: (55, .istore 4, []) :: (57, .nop, []) :: []
def p_X11_same_53 : List (List (Nat × Nat)) := [] :: [] :: [] :: [] :: []
def b_X11_same_52 : List zE := (52, .iconst 0, [0]) :: (53, .nop, [0]) :: []
def p_X11_same_52 : List (List (Nat × Nat)) := [] :: [] :: []
def b_X11_same_18 : List zE := (18, .aload_n 0, []) :: (19, .getfield 31, [11, 7]) :: (22, .iload_n 1, []) :: (23, .iaload, []) :: (24, .aload_n 0, []) :: (25, .getfield 31, [11, 7]) :: (28, .iload_n 2, []) :: (29, .iaload, []) :: (30, .if_icmp .ne 22, [52, 0]) :: (33, .aload_n 0, []) :: (34, .getfield 34, [11, 8]) :: (37, .iload_n 1, []) :: (38, .iaload, []) :: (39, .aload_n 0, []) :: (40, .getfield 34, [11, 8]) :: (43, .iload_n 2, []) :: (44, .iaload, []) :: (45, .if_icmp .ne 7, [52, 0]) :: (48, .iconst 1, [1]) :: (49, .goto 4, [53, 0]) :: []
def p_X11_same_18 : List (List (Nat × Nat)) := [] :: [(5, 238)] :: [] :: [] :: [] :: [(5, 238)] :: [] :: [] :: [] :: [] :: [(5, 239)] :: [] :: [] :: [] :: [(5, 239)] :: [] :: [] :: [] :: [] :: [] :: []
def b_X11_same_16 : List zE := (16, .iconst (-1), [4294967295]) :: (17, .ireturn, []) :: []
def p_X11_same_16 : List (List (Nat × Nat)) := [] :: [] :: []
def b_X11_same_0 : List zE := (0, .aload_n 0, []) :: (1, .iload_n 1, []) :: (2, .invokevirtual 243, [0, 1, 11]) :: (5, .ifCond .eq 11, [16, 0]) :: (8, .aload_n 0, []) :: (9, .iload_n 2, []) :: (10, .invokevirtual 243, [0, 1, 11]) :: (13, .ifCond .ne 5, [18, 0]) :: (16, .nop, [0]) :: []
def p_X11_same_0 : List (List (Nat × Nat)) := [] :: [] :: [(6, 186)] :: [] :: [] :: [] :: [(6, 186)] :: [] :: [] :: []
def bl_X11_same : List (Nat × List zE) := [(0, b_X11_same_0), (16, b_X11_same_16), (18, b_X11_same_18), (52, b_X11_same_52), (53, b_X11_same_53), (57, b_X11_same_57), (100, b_X11_same_100), (101, b_X11_same_101), (108, b_X11_same_108), (116, b_X11_same_116), (117, b_X11_same_117)]
def pl_X11_same : List (List (List (Nat × Nat))) := [p_X11_same_0, p_X11_same_16, p_X11_same_18, p_X11_same_52, p_X11_same_53, p_X11_same_57, p_X11_same_100, p_X11_same_101, p_X11_same_108, p_X11_same_116, p_X11_same_117]
theorem k_X11_same_0 : zlk 0 bl_X11_same = b_X11_same_0 := rfl
theorem k_X11_same_16 : zlk 16 bl_X11_same = b_X11_same_16 := rfl
theorem k_X11_same_18 : zlk 18 bl_X11_same = b_X11_same_18 := rfl
theorem k_X11_same_52 : zlk 52 bl_X11_same = b_X11_same_52 := rfl
theorem k_X11_same_53 : zlk 53 bl_X11_same = b_X11_same_53 := rfl
theorem k_X11_same_57 : zlk 57 bl_X11_same = b_X11_same_57 := rfl
theorem k_X11_same_100 : zlk 100 bl_X11_same = b_X11_same_100 := rfl
theorem k_X11_same_101 : zlk 101 bl_X11_same = b_X11_same_101 := rfl
theorem k_X11_same_108 : zlk 108 bl_X11_same = b_X11_same_108 := rfl
theorem k_X11_same_116 : zlk 116 bl_X11_same = b_X11_same_116 := rfl
theorem k_X11_same_117 : zlk 117 bl_X11_same = b_X11_same_117 := rfl
set_option maxRecDepth 100000 in
theorem ck_X11_same : zall q_X11_same.2.2.2.2.1 q_X11_same.2.1 11 false q_X11_same.2.2.1 cal_X11_same q_X11_same.2.2.2.1 bl_X11_same pl_X11_same = true := by decide +kernel
theorem nm_X11_same : plainName q_X11_same.1.cls = true ∧ zRX 11 = q_X11_same.1.cls ∧ (false = true → q_X11_same.1.name = "<init>") := ⟨by decide +kernel, rfl, fun h => by first | rfl | cases h⟩
set_option maxRecDepth 100000 in
theorem wd_X11_isFactor : zwd q_X11_isFactor := ⟨zw_in (p := (7, 132)) (by decide +kernel), zw_in (p := (1, 11)) (by decide +kernel), fun h => absurd h (by decide), fun _ => zw_in (p := (7, 131)) (by decide +kernel), fun _ => zw_in (p := (0, 73)) (by decide +kernel)⟩
def cal_X11_isFactor : List zCal := []
def b_X11_isFactor_24 : List zE := (24, .ireturn, []) :: []
def p_X11_isFactor_24 : List (List (Nat × Nat)) := [] :: []
def b_X11_isFactor_23 : List zE := (23, .iconst 0, [0]) :: (24, .nop, [0]) :: []
def p_X11_isFactor_23 : List (List (Nat × Nat)) := [] :: [] :: []
def b_X11_isFactor_0 : List zE := (0, .iload_n 1, []) :: (1, .ifCond .lt 22, [23, 0]) :: (4, .iload_n 1, []) :: (5, .bipush 12, [12]) :: (7, .if_icmp .ge 16, [23, 0]) :: (10, .aload_n 0, []) :: (11, .getfield 49, [11, 13]) :: (14, .iload_n 1, []) :: (15, .baload, []) :: (16, .ifCond .eq 7, [23, 0]) :: (19, .iconst 1, [1]) :: (20, .goto 4, [24, 0]) :: []
def p_X11_isFactor_0 : List (List (Nat × Nat)) := [] :: [] :: [] :: [] :: [] :: [] :: [(6, 4)] :: [] :: [] :: [] :: [] :: [] :: []
def bl_X11_isFactor : List (Nat × List zE) := [(0, b_X11_isFactor_0), (23, b_X11_isFactor_23), (24, b_X11_isFactor_24)]
def pl_X11_isFactor : List (List (List (Nat × Nat))) := [p_X11_isFactor_0, p_X11_isFactor_23, p_X11_isFactor_24]
theorem k_X11_isFactor_0 : zlk 0 bl_X11_isFactor = b_X11_isFactor_0 := rfl
theorem k_X11_isFactor_23 : zlk 23 bl_X11_isFactor = b_X11_isFactor_23 := rfl
theorem k_X11_isFactor_24 : zlk 24 bl_X11_isFactor = b_X11_isFactor_24 := rfl
set_option maxRecDepth 100000 in
theorem ck_X11_isFactor : zall q_X11_isFactor.2.2.2.2.1 q_X11_isFactor.2.1 11 false q_X11_isFactor.2.2.1 cal_X11_isFactor q_X11_isFactor.2.2.2.1 bl_X11_isFactor pl_X11_isFactor = true := by decide +kernel
theorem nm_X11_isFactor : plainName q_X11_isFactor.1.cls = true ∧ zRX 11 = q_X11_isFactor.1.cls ∧ (false = true → q_X11_isFactor.1.name = "<init>") := ⟨by decide +kernel, rfl, fun h => by first | rfl | cases h⟩
set_option maxRecDepth 100000 in
theorem wd_X11_swapRows : zwd q_X11_swapRows := ⟨zw_in (p := (7, 120)) (by decide +kernel), zw_in (p := (1, 11)) (by decide +kernel), fun h => absurd h (by decide), fun _ => zw_in (p := (7, 119)) (by decide +kernel), fun _ => zw_in (p := (0, 71)) (by decide +kernel)⟩
def cal_X11_swapRows : List zCal := []
def b_X11_swapRows_94 : List zE := (94, .aload_n 0, []) :: (95, .getfield 61, [11, 17]) :: (98, .bipush 8, [8]) :: (100, .iload_n 1, []) :: (101, .imul, []) :: (102, .iload_n 2, []) :: (103, .iadd, []) :: (104, .iaload, []) :: (105, .istore 4, []) :: (107, .aload_n 0, []) :: (108, .getfield 61, [11, 17]) :: (111, .bipush 8, [8]) :: (113, .iload_n 1, []) :: (114, .imul, []) :: (115, .iload_n 2, []) :: (116, .iadd, []) :: (117, .aload_n 0, []) :: (118, .getfield 61, [11, 17]) :: (121, .bipush 8, [8]) :: (123, .iload_n 1, []) :: (124, .imul, []) :: (125, .iload_n 3, []) :: (126, .iadd, []) :: (127, .iaload, []) :: (128, .iastore, []) :: (129, .aload_n 0, []) :: (130, .getfield 61, [11, 17]) :: (133, .bipush 8, [8]) :: (135, .iload_n 1, []) :: (136, .imul, []) :: (137, .iload_n 3, []) :: (138, .iadd, []) :: (139, .iload 4, []) :: (141, .iastore, []) :: (142, .aload_n 0, []) :: (143, .getfield 67, [11, 19]) :: (146, .iload_n 1, []) :: (147, .dup2, []) :: (148, .iaload, []) :: (149, .iconst 1, [1]) :: (150, .iadd, []) :: (151, .iastore, []) :: (152, .return_, []) :: []
def p_X11_swapRows_94 : List (List (Nat × Nat)) := [] :: [(6, 8)] :: [] :: [] :: [] :: [] :: [] :: [] :: [] :: [] :: [(6, 8)] :: [] :: [] :: [] :: [] :: [] :: [] :: [(6, 8)] :: [] :: [] :: [] :: [] :: [] :: [] :: [] :: [] :: [(6, 8)] :: [] :: [] :: [] :: [] :: [] :: [] :: [] :: [] :: [(6, 10)] :: [] :: [] :: [] :: [] :: [] :: [] :: [] :: []
def b_X11_swapRows_9 : List zE := (9, .iload 4, []) :: (11, .bipush 8, [8]) :: (13, .if_icmp .ge 81, [94, 0]) :: (16, .aload_n 0, []) :: (17, .getfield 46, [11, 12]) :: (20, .bipush 64, [64]) :: (22, .iload_n 1, []) :: (23, .imul, []) :: (24, .bipush 8, [8]) :: (26, .iload_n 2, []) :: (27, .imul, []) :: (28, .iadd, []) :: (29, .iload 4, []) :: (31, .iadd, []) :: (32, .daload, []) :: (33, .dstore 5, []) :: (35, .aload_n 0, []) :: (36, .getfield 46, [11, 12]) :: (39, .bipush 64, [64]) :: (41, .iload_n 1, []) :: (42, .imul, []) :: (43, .bipush 8, [8]) :: (45, .iload_n 2, []) :: (46, .imul, []) :: (47, .iadd, []) :: (48, .iload 4, []) :: (50, .iadd, []) :: (51, .aload_n 0, []) :: (52, .getfield 46, [11, 12]) :: (55, .bipush 64, [64]) :: (57, .iload_n 1, []) :: (58, .imul, []) :: (59, .bipush 8, [8]) :: (61, .iload_n 3, []) :: (62, .imul, []) :: (63, .iadd, []) :: (64, .iload 4, []) :: (66, .iadd, []) :: (67, .daload, []) :: (68, .dastore, []) :: (69, .aload_n 0, []) :: (70, .getfield 46, [11, 12]) :: (73, .bipush 64, [64]) :: (75, .iload_n 1, []) :: (76, .imul, []) :: (77, .bipush 8, [8]) :: (79, .iload_n 3, []) :: (80, .imul, []) :: (81, .iadd, []) :: (82, .iload 4, []) :: (84, .iadd, []) :: (85, .dload 5, []) :: (87, .dastore, []) :: (88, .iinc 4 1, [1]) :: (91, .goto (-82), [9, 1]) :: []
def p_X11_swapRows_9 : List (List (Nat × Nat)) := [] :: [] :: [] :: [] :: [(6, 3)] :: [] :: [] :: [] :: [] :: [] :: [] :: [] :: [] :: [] :: [] :: [] :: [] :: [(6, 3)] :: [] :: [] :: [] :: [] :: [] :: [] :: [] :: [] :: [] :: [] :: [(6, 3)] :: [] :: [] :: [] :: [] :: [] :: [] :: [] :: [] :: [] :: [] :: [] :: [] :: [(6, 3)] :: [] :: [] :: [] :: [] :: [] :: [] :: [] :: [] :: [] :: [] :: [] :: [] :: [] :: []
def b_X11_swapRows_6 : List zE := (6, .iconst 0, [0]) :: (7, .istore 4, []) :: (9, .nop, []) :: []
def p_X11_swapRows_6 : List (List (Nat × Nat)) := [] :: [] :: [] :: []
def b_X11_swapRows_0 : List zE := (0, .iload_n 2, []) :: (1, .iload_n 3, []) :: (2, .if_icmp .ne 4, [6, 0]) :: (5, .return_, []) :: []
def p_X11_swapRows_0 : List (List (Nat × Nat)) := [] :: [] :: [] :: [] :: []
def bl_X11_swapRows : List (Nat × List zE) := [(0, b_X11_swapRows_0), (6, b_X11_swapRows_6), (9, b_X11_swapRows_9), (94, b_X11_swapRows_94)]
def pl_X11_swapRows : List (List (List (Nat × Nat))) := [p_X11_swapRows_0, p_X11_swapRows_6, p_X11_swapRows_9, p_X11_swapRows_94]
theorem k_X11_swapRows_0 : zlk 0 bl_X11_swapRows = b_X11_swapRows_0 := rfl
theorem k_X11_swapRows_6 : zlk 6 bl_X11_swapRows = b_X11_swapRows_6 := rfl
theorem k_X11_swapRows_9 : zlk 9 bl_X11_swapRows = b_X11_swapRows_9 := rfl
theorem k_X11_swapRows_94 : zlk 94 bl_X11_swapRows = b_X11_swapRows_94 := rfl
set_option maxRecDepth 100000 in
theorem ck_X11_swapRows : zall q_X11_swapRows.2.2.2.2.1 q_X11_swapRows.2.1 11 false q_X11_swapRows.2.2.1 cal_X11_swapRows q_X11_swapRows.2.2.2.1 bl_X11_swapRows pl_X11_swapRows = true := by decide +kernel
theorem nm_X11_swapRows : plainName q_X11_swapRows.1.cls = true ∧ zRX 11 = q_X11_swapRows.1.cls ∧ (false = true → q_X11_swapRows.1.name = "<init>") := ⟨by decide +kernel, rfl, fun h => by first | rfl | cases h⟩
set_option maxRecDepth 100000 in
theorem wd_X11_swapColumns : zwd q_X11_swapColumns := ⟨zw_in (p := (7, 124)) (by decide +kernel), zw_in (p := (1, 11)) (by decide +kernel), fun h => absurd h (by decide), fun _ => zw_in (p := (7, 123)) (by decide +kernel), fun _ => zw_in (p := (0, 72)) (by decide +kernel)⟩
def cal_X11_swapColumns : List zCal := []
def b_X11_swapColumns_94 : List zE := (94, .aload_n 0, []) :: (95, .getfield 64, [11, 18]) :: (98, .bipush 8, [8]) :: (100, .iload_n 1, []) :: (101, .imul, []) :: (102, .iload_n 2, []) :: (103, .iadd, []) :: (104, .iaload, []) :: (105, .istore 4, []) :: (107, .aload_n 0, []) :: (108, .getfield 64, [11, 18]) :: (111, .bipush 8, [8]) :: (113, .iload_n 1, []) :: (114, .imul, []) :: (115, .iload_n 2, []) :: (116, .iadd, []) :: (117, .aload_n 0, []) :: (118, .getfield 64, [11, 18]) :: (121, .bipush 8, [8]) :: (123, .iload_n 1, []) :: (124, .imul, []) :: (125, .iload_n 3, []) :: (126, .iadd, []) :: (127, .iaload, []) :: (128, .iastore, []) :: (129, .aload_n 0, []) :: (130, .getfield 64, [11, 18]) :: (133, .bipush 8, [8]) :: (135, .iload_n 1, []) :: (136, .imul, []) :: (137, .iload_n 3, []) :: (138, .iadd, []) :: (139, .iload 4, []) :: (141, .iastore, []) :: (142, .aload_n 0, []) :: (143, .getfield 67, [11, 19]) :: (146, .iload_n 1, []) :: (147, .dup2, []) :: (148, .iaload, []) :: (149, .iconst 1, [1]) :: (150, .iadd, []) :: (151, .iastore, []) :: (152, .return_, []) :: []
def p_X11_swapColumns_94 : List (List (Nat × Nat)) := [] :: [(6, 9)] :: [] :: [] :: [] :: [] :: [] :: [] :: [] :: [] :: [(6, 9)] :: [] :: [] :: [] :: [] :: [] :: [] :: [(6, 9)] :: [] :: [] :: [] :: [] :: [] :: [] :: [] :: [] :: [(6, 9)] :: [] :: [] :: [] :: [] :: [] :: [] :: [] :: [] :: [(6, 10)] :: [] :: [] :: [] :: [] :: [] :: [] :: [] :: []
def b_X11_swapColumns_9 : List zE := (9, .iload 4, []) :: (11, .bipush 8, [8]) :: (13, .if_icmp .ge 81, [94, 0]) :: (16, .aload_n 0, []) :: (17, .getfield 46, [11, 12]) :: (20, .bipush 64, [64]) :: (22, .iload_n 1, []) :: (23, .imul, []) :: (24, .bipush 8, [8]) :: (26, .iload 4, []) :: (28, .imul, []) :: (29, .iadd, []) :: (30, .iload_n 2, []) :: (31, .iadd, []) :: (32, .daload, []) :: (33, .dstore 5, []) :: (35, .aload_n 0, []) :: (36, .getfield 46, [11, 12]) :: (39, .bipush 64, [64]) :: (41, .iload_n 1, []) :: (42, .imul, []) :: (43, .bipush 8, [8]) :: (45, .iload 4, []) :: (47, .imul, []) :: (48, .iadd, []) :: (49, .iload_n 2, []) :: (50, .iadd, []) :: (51, .aload_n 0, []) :: (52, .getfield 46, [11, 12]) :: (55, .bipush 64, [64]) :: (57, .iload_n 1, []) :: (58, .imul, []) :: (59, .bipush 8, [8]) :: (61, .iload 4, []) :: (63, .imul, []) :: (64, .iadd, []) :: (65, .iload_n 3, []) :: (66, .iadd, []) :: (67, .daload, []) :: (68, .dastore, []) :: (69, .aload_n 0, []) :: (70, .getfield 46, [11, 12]) :: (73, .bipush 64, [64]) :: (75, .iload_n 1, []) :: (76, .imul, []) :: (77, .bipush 8, [8]) :: (79, .iload 4, []) :: (81, .imul, []) :: (82, .iadd, []) :: (83, .iload_n 3, []) :: (84, .iadd, []) :: (85, .dload 5, []) :: (87, .dastore, []) :: (88, .iinc 4 1, [1]) :: (91, .goto (-82), [9, 1]) :: []
def p_X11_swapColumns_9 : List (List (Nat × Nat)) := [] :: [] :: [] :: [] :: [(6, 3)] :: [] :: [] :: [] :: [] :: [] :: [] :: [] :: [] :: [] :: [] :: [] :: [] :: [(6, 3)] :: [] :: [] :: [] :: [] :: [] :: [] :: [] :: [] :: [] :: [] :: [(6, 3)] :: [] :: [] :: [] :: [] :: [] :: [] :: [] :: [] :: [] :: [] :: [] :: [] :: [(6, 3)] :: [] :: [] :: [] :: [] :: [] :: [] :: [] :: [] :: [] :: [] :: [] :: [] :: [] :: []
def b_X11_swapColumns_6 : List zE := (6, .iconst 0, [0]) :: (7, .istore 4, []) :: (9, .nop, []) :: []
def p_X11_swapColumns_6 : List (List (Nat × Nat)) := [] :: [] :: [] :: []
def b_X11_swapColumns_0 : List zE := (0, .iload_n 2, []) :: (1, .iload_n 3, []) :: (2, .if_icmp .ne 4, [6, 0]) :: (5, .return_, []) :: []
def p_X11_swapColumns_0 : List (List (Nat × Nat)) := [] :: [] :: [] :: [] :: []
def bl_X11_swapColumns : List (Nat × List zE) := [(0, b_X11_swapColumns_0), (6, b_X11_swapColumns_6), (9, b_X11_swapColumns_9), (94, b_X11_swapColumns_94)]
def pl_X11_swapColumns : List (List (List (Nat × Nat))) := [p_X11_swapColumns_0, p_X11_swapColumns_6, p_X11_swapColumns_9, p_X11_swapColumns_94]
theorem k_X11_swapColumns_0 : zlk 0 bl_X11_swapColumns = b_X11_swapColumns_0 := rfl
theorem k_X11_swapColumns_6 : zlk 6 bl_X11_swapColumns = b_X11_swapColumns_6 := rfl
theorem k_X11_swapColumns_9 : zlk 9 bl_X11_swapColumns = b_X11_swapColumns_9 := rfl
theorem k_X11_swapColumns_94 : zlk 94 bl_X11_swapColumns = b_X11_swapColumns_94 := rfl
set_option maxRecDepth 100000 in
theorem ck_X11_swapColumns : zall q_X11_swapColumns.2.2.2.2.1 q_X11_swapColumns.2.1 11 false q_X11_swapColumns.2.2.1 cal_X11_swapColumns q_X11_swapColumns.2.2.2.1 bl_X11_swapColumns pl_X11_swapColumns = true := by decide +kernel
theorem nm_X11_swapColumns : plainName q_X11_swapColumns.1.cls = true ∧ zRX 11 = q_X11_swapColumns.1.cls ∧ (false = true → q_X11_swapColumns.1.name = "<init>") := ⟨by decide +kernel, rfl, fun h => by first | rfl | cases h⟩
set_option maxRecDepth 100000 in
theorem wd_X11_step : zwd q_X11_step := ⟨zw_in (p := (7, 116)) (by decide +kernel), zw_in (p := (1, 11)) (by decide +kernel), fun h => absurd h (by decide), fun _ => zw_in (p := (7, 115)) (by decide +kernel), fun _ => zw_in (p := (0, 70)) (by decide +kernel)⟩
def cal_X11_step : List zCal := [q_X11_size, q_X11_swapRows, q_X11_swapColumns, q_X11_isFinite, q_X11_fused]
def b_X11_step_375 : List zE := (375, .iconst 1, [1]) :: (376, .ireturn, []) :: []
def p_X11_step_375 : List (List (Nat × Nat)) := [] :: [] :: []
def b_X11_step_369 : List zE := (369, .iinc 9 1, [1]) :: (372, .goto (-198), [174, 1]) :: []
def p_X11_step_369 : List (List (Nat × Nat)) := [] :: [] :: []
def b_X11_step_362 : List zE := (362, .iload 8, []) :: (364, .ifCond .ne 5, [369, 0]) :: (367, .iconst 0, [0]) :: (368, .ireturn, []) :: []
def p_X11_step_362 : List (List (Nat × Nat)) := [] :: [] :: [] :: [] :: []
def b_X11_step_327 : List zE := (327, .dstore 15, []) :: (329, .aload_n 0, []) :: (330, .getfield 46, [11, 12]) :: (333, .bipush 64, [64]) :: (335, .iload_n 1, []) :: (336, .imul, []) :: (337, .bipush 8, [8]) :: (339, .iload 9, []) :: (341, .imul, []) :: (342, .iadd, []) :: (343, .iload 12, []) :: (345, .iadd, []) :: (346, .dload 15, []) :: (348, .dastore, []) :: (349, .dload 15, []) :: (351, .invokestatic 277, [3, 1]) :: (354, .istore 8, []) :: (356, .iinc 12 1, [1]) :: (359, .goto (-113), [246, 1]) :: []
def p_X11_step_327 : List (List (Nat × Nat)) := [] :: [] :: [(6, 3)] :: [] :: [] :: [] :: [] :: [] :: [] :: [] :: [] :: [] :: [] :: [] :: [] :: [(7, 36)] :: [] :: [] :: [] :: []
def b_X11_step_319 : List zE := (319, .dload 15, []) :: (321, .dload 10, []) :: (323, .dload 13, []) :: (325, .dmul, []) :: (326, .dsub, []) :: (327, .nop, [0]) :: []
def p_X11_step_319 : List (List (Nat × Nat)) := [] :: [] :: [] :: [] :: [] :: [] :: []
def b_X11_step_246 : List zE := (246, .iload 12, []) :: (248, .iload_n 3, []) :: (249, .if_icmp .ge 113, [362, 0]) :: (252, .iload 8, []) :: (254, .ifCond .eq 108, [362, 0]) :: (257, .aload_n 0, []) :: (258, .getfield 46, [11, 12]) :: (261, .bipush 64, [64]) :: (263, .iload_n 1, []) :: (264, .imul, []) :: (265, .bipush 8, [8]) :: (267, .iload_n 2, []) :: (268, .imul, []) :: (269, .iadd, []) :: (270, .iload 12, []) :: (272, .iadd, []) :: (273, .daload, []) :: (274, .dstore 13, []) :: (276, .aload_n 0, []) :: (277, .getfield 46, [11, 12]) :: (280, .bipush 64, [64]) :: (282, .iload_n 1, []) :: (283, .imul, []) :: (284, .bipush 8, [8]) :: (286, .iload 9, []) :: (288, .imul, []) :: (289, .iadd, []) :: (290, .iload 12, []) :: (292, .iadd, []) :: (293, .daload, []) :: (294, .dstore 15, []) :: (296, .aload_n 0, []) :: (297, .getfield 55, [11, 15]) :: (300, .iload_n 1, []) :: (301, .baload, []) :: (302, .ifCond .eq 17, [319, 0]) :: (305, .aload_n 0, []) :: (306, .dload 10, []) :: (308, .dneg, []) :: (309, .dload 13, []) :: (311, .dload 15, []) :: (313, .invokevirtual 285, [4, 3, 11]) :: (316, .goto 11, [327, 0]) :: []
def p_X11_step_246 : List (List (Nat × Nat)) := [] :: [] :: [] :: [] :: [] :: [] :: [(6, 3)] :: [] :: [] :: [] :: [] :: [] :: [] :: [] :: [] :: [] :: [] :: [] :: [] :: [(6, 3)] :: [] :: [] :: [] :: [] :: [] :: [] :: [] :: [] :: [] :: [] :: [] :: [] :: [(6, 6)] :: [] :: [] :: [] :: [] :: [] :: [] :: [] :: [] :: [(7, 43)] :: [] :: []
def b_X11_step_239 : List zE := (239, .istore 8, []) :: (241, .iload_n 2, []) :: (242, .iconst 1, [1]) :: (243, .iadd, []) :: (244, .istore 12, []) :: (246, .nop, []) :: []
def p_X11_step_239 : List (List (Nat × Nat)) := [] :: [] :: [] :: [] :: [] :: [] :: []
def b_X11_step_238 : List zE := (238, .iconst 0, [0]) :: (239, .nop, [0]) :: []
def p_X11_step_238 : List (List (Nat × Nat)) := [] :: [] :: []
def b_X11_step_174 : List zE := (174, .iload 9, []) :: (176, .iload_n 3, []) :: (177, .if_icmp .ge 198, [375, 0]) :: (180, .aload_n 0, []) :: (181, .getfield 46, [11, 12]) :: (184, .bipush 64, [64]) :: (186, .iload_n 1, []) :: (187, .imul, []) :: (188, .bipush 8, [8]) :: (190, .iload 9, []) :: (192, .imul, []) :: (193, .iadd, []) :: (194, .iload_n 2, []) :: (195, .iadd, []) :: (196, .daload, []) :: (197, .dload 6, []) :: (199, .ddiv, []) :: (200, .dstore 10, []) :: (202, .aload_n 0, []) :: (203, .getfield 46, [11, 12]) :: (206, .bipush 64, [64]) :: (208, .iload_n 1, []) :: (209, .imul, []) :: (210, .bipush 8, [8]) :: (212, .iload 9, []) :: (214, .imul, []) :: (215, .iadd, []) :: (216, .iload_n 2, []) :: (217, .iadd, []) :: (218, .dload 10, []) :: (220, .dastore, []) :: (221, .iload 8, []) :: (223, .ifCond .eq 15, [238, 0]) :: (226, .dload 10, []) :: (228, .invokestatic 277, [3, 1]) :: (231, .ifCond .eq 7, [238, 0]) :: (234, .iconst 1, [1]) :: (235, .goto 4, [239, 0]) :: []
def p_X11_step_174 : List (List (Nat × Nat)) := [] :: [] :: [] :: [] :: [(6, 3)] :: [] :: [] :: [] :: [] :: [] :: [] :: [] :: [] :: [] :: [] :: [] :: [] :: [] :: [] :: [(6, 3)] :: [] :: [] :: [] :: [] :: [] :: [] :: [] :: [] :: [] :: [] :: [] :: [] :: [] :: [] :: [(7, 36)] :: [] :: [] :: [] :: []
def b_X11_step_166 : List zE := (166, .iconst 1, [1]) :: (167, .istore 8, []) :: (169, .iload_n 2, []) :: (170, .iconst 1, [1]) :: (171, .iadd, []) :: (172, .istore 9, []) :: (174, .nop, []) :: []
def p_X11_step_166 : List (List (Nat × Nat)) := [] :: [] :: [] :: [] :: [] :: [] :: [] :: []
def b_X11_step_125 : List zE := (125, .aload_n 0, []) :: (126, .iload_n 1, []) :: (127, .iload_n 2, []) :: (128, .iload 4, []) :: (130, .invokevirtual 292, [1, 3, 11]) :: (133, .aload_n 0, []) :: (134, .iload_n 1, []) :: (135, .iload_n 2, []) :: (136, .iload 5, []) :: (138, .invokevirtual 296, [2, 3, 11]) :: (141, .aload_n 0, []) :: (142, .getfield 46, [11, 12]) :: (145, .bipush 64, [64]) :: (147, .iload_n 1, []) :: (148, .imul, []) :: (149, .bipush 9, [9]) :: (151, .iload_n 2, []) :: (152, .imul, []) :: (153, .iadd, []) :: (154, .daload, []) :: (155, .dstore 6, []) :: (157, .dload 6, []) :: (159, .dconst 0, [0]) :: (160, .dcmp .l, []) :: (161, .ifCond .ne 5, [166, 0]) :: (164, .iconst 0, [0]) :: (165, .ireturn, []) :: []
def p_X11_step_125 : List (List (Nat × Nat)) := [] :: [] :: [] :: [] :: [(7, 117)] :: [] :: [] :: [] :: [] :: [(7, 121)] :: [] :: [(6, 3)] :: [] :: [] :: [] :: [] :: [] :: [] :: [] :: [] :: [] :: [] :: [] :: [] :: [] :: [] :: [] :: []
def b_X11_step_119 : List zE := (119, .iinc 6 1, [1]) :: (122, .goto (-106), [16, 1]) :: []
def p_X11_step_119 : List (List (Nat × Nat)) := [] :: [] :: []
def b_X11_step_113 : List zE := (113, .iinc 7 1, [1]) :: (116, .goto (-82), [34, 1]) :: []
def p_X11_step_113 : List (List (Nat × Nat)) := [] :: [] :: []
def b_X11_step_105 : List zE := (105, .iload 6, []) :: (107, .istore 4, []) :: (109, .iload 7, []) :: (111, .istore 5, []) :: (113, .nop, [0]) :: []
def p_X11_step_105 : List (List (Nat × Nat)) := [] :: [] :: [] :: [] :: [] :: []
def b_X11_step_53 : List zE := (53, .if_icmp .ge 66, [119, 0]) :: (56, .aload_n 0, []) :: (57, .getfield 46, [11, 12]) :: (60, .bipush 64, [64]) :: (62, .iload_n 1, []) :: (63, .imul, []) :: (64, .bipush 8, [8]) :: (66, .iload 6, []) :: (68, .imul, []) :: (69, .iadd, []) :: (70, .iload 7, []) :: (72, .iadd, []) :: (73, .daload, []) :: (74, .invokestatic 289, [0, 1]) :: (77, .aload_n 0, []) :: (78, .getfield 46, [11, 12]) :: (81, .bipush 64, [64]) :: (83, .iload_n 1, []) :: (84, .imul, []) :: (85, .bipush 8, [8]) :: (87, .iload 4, []) :: (89, .imul, []) :: (90, .iadd, []) :: (91, .iload 5, []) :: (93, .iadd, []) :: (94, .daload, []) :: (95, .invokestatic 289, [0, 1]) :: (98, .dcmp .g, []) :: (99, .ifCond .gt 6, [105, 0]) :: (102, .goto 11, [113, 0]) :: []
def p_X11_step_53 : List (List (Nat × Nat)) := [] :: [] :: [(6, 3)] :: [] :: [] :: [] :: [] :: [] :: [] :: [] :: [] :: [] :: [] :: [(7, 12)] :: [] :: [(6, 3)] :: [] :: [] :: [] :: [] :: [] :: [] :: [] :: [] :: [] :: [] :: [(7, 12)] :: [] :: [] :: [] :: []
def b_X11_step_50 : List zE := (50, .iload_n 2, []) :: (51, .iconst 1, [1]) :: (52, .iadd, []) :: (53, .nop, [0]) :: []
def p_X11_step_50 : List (List (Nat × Nat)) := [] :: [] :: [] :: [] :: []
def b_X11_step_34 : List zE := (34, .iload 7, []) :: (36, .aload_n 0, []) :: (37, .getfield 52, [11, 14]) :: (40, .iload_n 1, []) :: (41, .iaload, []) :: (42, .iconst 2, [2]) :: (43, .if_icmp .ne 7, [50, 0]) :: (46, .iload_n 3, []) :: (47, .goto 6, [53, 0]) :: []
def p_X11_step_34 : List (List (Nat × Nat)) := [] :: [] :: [(6, 5)] :: [] :: [] :: [] :: [] :: [] :: [] :: []
def b_X11_step_16 : List zE := (16, .iload 6, []) :: (18, .iload_n 3, []) :: (19, .if_icmp .ge 106, [125, 0]) :: (22, .aload_n 0, []) :: (23, .getfield 52, [11, 14]) :: (26, .iload_n 1, []) :: (27, .iaload, []) :: (28, .ifCond .le 97, [125, 0]) :: (31, .iload_n 2, []) :: (32, .istore 7, []) :: (34, .nop, []) :: []
def p_X11_step_16 : List (List (Nat × Nat)) := [] :: [] :: [] :: [] :: [(6, 5)] :: [] :: [] :: [] :: [] :: [] :: [] :: []
def b_X11_step_0 : List zE := (0, .aload_n 0, []) :: (1, .getfield 58, [11, 16]) :: (4, .iload_n 1, []) :: (5, .iaload, []) :: (6, .istore_n 3, []) :: (7, .iload_n 2, []) :: (8, .istore 4, []) :: (10, .iload_n 2, []) :: (11, .istore 5, []) :: (13, .iload_n 2, []) :: (14, .istore 6, []) :: (16, .nop, []) :: []
def p_X11_step_0 : List (List (Nat × Nat)) := [] :: [(6, 7)] :: [] :: [] :: [] :: [] :: [] :: [] :: [] :: [] :: [] :: [] :: []
def bl_X11_step : List (Nat × List zE) := [(0, b_X11_step_0), (16, b_X11_step_16), (34, b_X11_step_34), (50, b_X11_step_50), (53, b_X11_step_53), (105, b_X11_step_105), (113, b_X11_step_113), (119, b_X11_step_119), (125, b_X11_step_125), (166, b_X11_step_166), (174, b_X11_step_174), (238, b_X11_step_238), (239, b_X11_step_239), (246, b_X11_step_246), (319, b_X11_step_319), (327, b_X11_step_327), (362, b_X11_step_362), (369, b_X11_step_369), (375, b_X11_step_375)]
def pl_X11_step : List (List (List (Nat × Nat))) := [p_X11_step_0, p_X11_step_16, p_X11_step_34, p_X11_step_50, p_X11_step_53, p_X11_step_105, p_X11_step_113, p_X11_step_119, p_X11_step_125, p_X11_step_166, p_X11_step_174, p_X11_step_238, p_X11_step_239, p_X11_step_246, p_X11_step_319, p_X11_step_327, p_X11_step_362, p_X11_step_369, p_X11_step_375]
theorem k_X11_step_0 : zlk 0 bl_X11_step = b_X11_step_0 := rfl
theorem k_X11_step_16 : zlk 16 bl_X11_step = b_X11_step_16 := rfl
theorem k_X11_step_34 : zlk 34 bl_X11_step = b_X11_step_34 := rfl
theorem k_X11_step_50 : zlk 50 bl_X11_step = b_X11_step_50 := rfl
theorem k_X11_step_53 : zlk 53 bl_X11_step = b_X11_step_53 := rfl
theorem k_X11_step_105 : zlk 105 bl_X11_step = b_X11_step_105 := rfl
theorem k_X11_step_113 : zlk 113 bl_X11_step = b_X11_step_113 := rfl
theorem k_X11_step_119 : zlk 119 bl_X11_step = b_X11_step_119 := rfl
theorem k_X11_step_125 : zlk 125 bl_X11_step = b_X11_step_125 := rfl
theorem k_X11_step_166 : zlk 166 bl_X11_step = b_X11_step_166 := rfl
theorem k_X11_step_174 : zlk 174 bl_X11_step = b_X11_step_174 := rfl
theorem k_X11_step_238 : zlk 238 bl_X11_step = b_X11_step_238 := rfl
theorem k_X11_step_239 : zlk 239 bl_X11_step = b_X11_step_239 := rfl
theorem k_X11_step_246 : zlk 246 bl_X11_step = b_X11_step_246 := rfl
theorem k_X11_step_319 : zlk 319 bl_X11_step = b_X11_step_319 := rfl
theorem k_X11_step_327 : zlk 327 bl_X11_step = b_X11_step_327 := rfl
theorem k_X11_step_362 : zlk 362 bl_X11_step = b_X11_step_362 := rfl
theorem k_X11_step_369 : zlk 369 bl_X11_step = b_X11_step_369 := rfl
theorem k_X11_step_375 : zlk 375 bl_X11_step = b_X11_step_375 := rfl
set_option maxRecDepth 100000 in
theorem ck_X11_step : zall q_X11_step.2.2.2.2.1 q_X11_step.2.1 11 false q_X11_step.2.2.1 cal_X11_step q_X11_step.2.2.2.1 bl_X11_step pl_X11_step = true := by decide +kernel
theorem nm_X11_step : plainName q_X11_step.1.cls = true ∧ zRX 11 = q_X11_step.1.cls ∧ (false = true → q_X11_step.1.name = "<init>") := ⟨by decide +kernel, rfl, fun h => by first | rfl | cases h⟩
set_option maxRecDepth 100000 in
theorem wd_X11_rootRow : zwd q_X11_rootRow := ⟨zw_in (p := (7, 107)) (by decide +kernel), zw_in (p := (1, 11)) (by decide +kernel), fun h => absurd h (by decide), fun _ => zw_in (p := (7, 106)) (by decide +kernel), fun _ => zw_in (p := (0, 69)) (by decide +kernel)⟩
def cal_X11_rootRow : List zCal := [q_X11_fused, q_X11_isFinite, q_X11_root]
def b_X11_rootRow_200 : List zE := (200, .iconst 1, [1]) :: (201, .ireturn, []) :: []
def p_X11_rootRow_200 : List (List (Nat × Nat)) := [] :: [] :: []
def b_X11_rootRow_178 : List zE := (178, .aload_n 0, []) :: (179, .getfield 46, [11, 12]) :: (182, .iload_n 3, []) :: (183, .bipush 8, [8]) :: (185, .iload_n 2, []) :: (186, .imul, []) :: (187, .iadd, []) :: (188, .iload 4, []) :: (190, .iadd, []) :: (191, .dload 7, []) :: (193, .dastore, []) :: (194, .iinc 4 1, [1]) :: (197, .goto (-189), [8, 1]) :: []
def p_X11_rootRow_178 : List (List (Nat × Nat)) := [] :: [(6, 3)] :: [] :: [] :: [] :: [] :: [] :: [] :: [] :: [] :: [] :: [] :: [] :: []
def b_X11_rootRow_166 : List zE := (166, .dstore 7, []) :: (168, .dload 7, []) :: (170, .invokestatic 277, [1, 1]) :: (173, .ifCond .ne 5, [178, 0]) :: (176, .iconst 0, [0]) :: (177, .ireturn, []) :: []
def p_X11_rootRow_166 : List (List (Nat × Nat)) := [] :: [] :: [(7, 36)] :: [] :: [] :: [] :: []
def b_X11_rootRow_151 : List zE := (151, .dload 5, []) :: (153, .aload_n 0, []) :: (154, .getfield 46, [11, 12]) :: (157, .iload_n 3, []) :: (158, .bipush 9, [9]) :: (160, .iload 4, []) :: (162, .imul, []) :: (163, .iadd, []) :: (164, .daload, []) :: (165, .ddiv, []) :: (166, .nop, [0]) :: []
def p_X11_rootRow_151 : List (List (Nat × Nat)) := [] :: [] :: [(6, 3)] :: [] :: [] :: [] :: [] :: [] :: [] :: [] :: [] :: []
def b_X11_rootRow_137 : List zE := (137, .iload_n 2, []) :: (138, .iload 4, []) :: (140, .if_icmp .ne 11, [151, 0]) :: (143, .dload 5, []) :: (145, .invokestatic 299, [2, 1]) :: (148, .goto 18, [166, 0]) :: []
def p_X11_rootRow_137 : List (List (Nat × Nat)) := [] :: [] :: [] :: [] :: [(7, 108)] :: [] :: []
def b_X11_rootRow_122 : List zE := (122, .iload_n 2, []) :: (123, .iload 4, []) :: (125, .if_icmp .ne 12, [137, 0]) :: (128, .dload 5, []) :: (130, .dconst 0, [0]) :: (131, .dcmp .g, []) :: (132, .ifCond .gt 5, [137, 0]) :: (135, .iconst 0, [0]) :: (136, .ireturn, []) :: []
def p_X11_rootRow_122 : List (List (Nat × Nat)) := [] :: [] :: [] :: [] :: [] :: [] :: [] :: [] :: [] :: []
def b_X11_rootRow_116 : List zE := (116, .iinc 7 1, [1]) :: (119, .goto (-86), [33, 1]) :: []
def p_X11_rootRow_116 : List (List (Nat × Nat)) := [] :: [] :: []
def b_X11_rootRow_104 : List zE := (104, .dstore 5, []) :: (106, .dload 5, []) :: (108, .invokestatic 277, [1, 1]) :: (111, .ifCond .ne 5, [116, 0]) :: (114, .iconst 0, [0]) :: (115, .ireturn, []) :: []
def p_X11_rootRow_104 : List (List (Nat × Nat)) := [] :: [] :: [(7, 36)] :: [] :: [] :: [] :: []
def b_X11_rootRow_96 : List zE := (96, .dload 5, []) :: (98, .dload 8, []) :: (100, .dload 10, []) :: (102, .dmul, []) :: (103, .dsub, []) :: (104, .nop, [0]) :: []
def p_X11_rootRow_96 : List (List (Nat × Nat)) := [] :: [] :: [] :: [] :: [] :: [] :: []
def b_X11_rootRow_33 : List zE := (33, .iload 7, []) :: (35, .iload 4, []) :: (37, .if_icmp .ge 85, [122, 0]) :: (40, .aload_n 0, []) :: (41, .getfield 46, [11, 12]) :: (44, .iload_n 3, []) :: (45, .bipush 8, [8]) :: (47, .iload_n 2, []) :: (48, .imul, []) :: (49, .iadd, []) :: (50, .iload 7, []) :: (52, .iadd, []) :: (53, .daload, []) :: (54, .dstore 8, []) :: (56, .aload_n 0, []) :: (57, .getfield 46, [11, 12]) :: (60, .iload_n 3, []) :: (61, .bipush 8, [8]) :: (63, .iload 4, []) :: (65, .imul, []) :: (66, .iadd, []) :: (67, .iload 7, []) :: (69, .iadd, []) :: (70, .daload, []) :: (71, .dstore 10, []) :: (73, .aload_n 0, []) :: (74, .getfield 55, [11, 15]) :: (77, .iload_n 1, []) :: (78, .baload, []) :: (79, .ifCond .eq 17, [96, 0]) :: (82, .aload_n 0, []) :: (83, .dload 8, []) :: (85, .dneg, []) :: (86, .dload 10, []) :: (88, .dload 5, []) :: (90, .invokevirtual 285, [0, 3, 11]) :: (93, .goto 11, [104, 0]) :: []
def p_X11_rootRow_33 : List (List (Nat × Nat)) := [] :: [] :: [] :: [] :: [(6, 3)] :: [] :: [] :: [] :: [] :: [] :: [] :: [] :: [] :: [] :: [] :: [(6, 3)] :: [] :: [] :: [] :: [] :: [] :: [] :: [] :: [] :: [] :: [] :: [(6, 6)] :: [] :: [] :: [] :: [] :: [] :: [] :: [] :: [] :: [(7, 43)] :: [] :: []
def b_X11_rootRow_8 : List zE := (8, .iload 4, []) :: (10, .iload_n 2, []) :: (11, .if_icmp .gt 189, [200, 0]) :: (14, .aload_n 0, []) :: (15, .getfield 46, [11, 12]) :: (18, .iload_n 3, []) :: (19, .bipush 8, [8]) :: (21, .iload_n 2, []) :: (22, .imul, []) :: (23, .iadd, []) :: (24, .iload 4, []) :: (26, .iadd, []) :: (27, .daload, []) :: (28, .dstore 5, []) :: (30, .iconst 0, [0]) :: (31, .istore 7, []) :: (33, .nop, []) :: []
def p_X11_rootRow_8 : List (List (Nat × Nat)) := [] :: [] :: [] :: [] :: [(6, 3)] :: [] :: [] :: [] :: [] :: [] :: [] :: [] :: [] :: [] :: [] :: [] :: [] :: []
def b_X11_rootRow_0 : List zE := (0, .bipush 64, [64]) :: (2, .iload_n 1, []) :: (3, .imul, []) :: (4, .istore_n 3, []) :: (5, .iconst 0, [0]) :: (6, .istore 4, []) :: (8, .nop, []) :: []
def p_X11_rootRow_0 : List (List (Nat × Nat)) := [] :: [] :: [] :: [] :: [] :: [] :: [] :: []
def bl_X11_rootRow : List (Nat × List zE) := [(0, b_X11_rootRow_0), (8, b_X11_rootRow_8), (33, b_X11_rootRow_33), (96, b_X11_rootRow_96), (104, b_X11_rootRow_104), (116, b_X11_rootRow_116), (122, b_X11_rootRow_122), (137, b_X11_rootRow_137), (151, b_X11_rootRow_151), (166, b_X11_rootRow_166), (178, b_X11_rootRow_178), (200, b_X11_rootRow_200)]
def pl_X11_rootRow : List (List (List (Nat × Nat))) := [p_X11_rootRow_0, p_X11_rootRow_8, p_X11_rootRow_33, p_X11_rootRow_96, p_X11_rootRow_104, p_X11_rootRow_116, p_X11_rootRow_122, p_X11_rootRow_137, p_X11_rootRow_151, p_X11_rootRow_166, p_X11_rootRow_178, p_X11_rootRow_200]
theorem k_X11_rootRow_0 : zlk 0 bl_X11_rootRow = b_X11_rootRow_0 := rfl
theorem k_X11_rootRow_8 : zlk 8 bl_X11_rootRow = b_X11_rootRow_8 := rfl
theorem k_X11_rootRow_33 : zlk 33 bl_X11_rootRow = b_X11_rootRow_33 := rfl
theorem k_X11_rootRow_96 : zlk 96 bl_X11_rootRow = b_X11_rootRow_96 := rfl
theorem k_X11_rootRow_104 : zlk 104 bl_X11_rootRow = b_X11_rootRow_104 := rfl
theorem k_X11_rootRow_116 : zlk 116 bl_X11_rootRow = b_X11_rootRow_116 := rfl
theorem k_X11_rootRow_122 : zlk 122 bl_X11_rootRow = b_X11_rootRow_122 := rfl
theorem k_X11_rootRow_137 : zlk 137 bl_X11_rootRow = b_X11_rootRow_137 := rfl
theorem k_X11_rootRow_151 : zlk 151 bl_X11_rootRow = b_X11_rootRow_151 := rfl
theorem k_X11_rootRow_166 : zlk 166 bl_X11_rootRow = b_X11_rootRow_166 := rfl
theorem k_X11_rootRow_178 : zlk 178 bl_X11_rootRow = b_X11_rootRow_178 := rfl
theorem k_X11_rootRow_200 : zlk 200 bl_X11_rootRow = b_X11_rootRow_200 := rfl
set_option maxRecDepth 100000 in
theorem ck_X11_rootRow : zall q_X11_rootRow.2.2.2.2.1 q_X11_rootRow.2.1 11 false q_X11_rootRow.2.2.1 cal_X11_rootRow q_X11_rootRow.2.2.2.1 bl_X11_rootRow pl_X11_rootRow = true := by decide +kernel
theorem nm_X11_rootRow : plainName q_X11_rootRow.1.cls = true ∧ zRX 11 = q_X11_rootRow.1.cls ∧ (false = true → q_X11_rootRow.1.name = "<init>") := ⟨by decide +kernel, rfl, fun h => by first | rfl | cases h⟩
