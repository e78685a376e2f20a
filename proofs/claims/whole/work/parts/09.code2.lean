/-! the methods' code as data (written by wip/whole/gen/code.py) -/
set_option maxRecDepth 100000 in
theorem wd_X1_quotient : zwd q_X1_quotient := ⟨zw_in (p := (4, 198)) (by decide +kernel), zw_in (p := (1, 4)) (by decide +kernel), fun h => absurd h (by decide), fun _ => zw_in (p := (4, 197)) (by decide +kernel), fun _ => zw_in (p := (0, 33)) (by decide +kernel)⟩
def cal_X1_quotient : List zCal := [q_X9_copy, q_X1_ratio]
def b_X1_quotient_35 : List zE := (35, .aload_n 0, []) :: (36, .iconst 0, [0]) :: (37, .iconst 0, [0]) :: (38, .invokevirtual 171, [1, 2, 1]) :: (41, .lreturn, []) :: []
def p_X1_quotient_35 : List (List (Nat × Nat)) := [] :: [] :: [] :: [(4, 199)] :: [] :: []
def b_X1_quotient_0 : List zE := (0, .aload_n 0, []) :: (1, .getfield 20, [1, 1]) :: (4, .aload_n 1, []) :: (5, .invokevirtual 120, [0, 1, 9]) :: (8, .aload_n 0, []) :: (9, .getfield 24, [1, 2]) :: (12, .aload_n 2, []) :: (13, .invokevirtual 120, [0, 1, 9]) :: (16, .iload_n 3, []) :: (17, .ifCond .eq 18, [35, 0]) :: (20, .aload_n 0, []) :: (21, .getfield 20, [1, 1]) :: (24, .aload_n 0, []) :: (25, .getfield 20, [1, 1]) :: (28, .getfield 124, [9, 2]) :: (31, .ineg, []) :: (32, .putfield 124, [9, 2]) :: (35, .nop, [0]) :: []
def p_X1_quotient_0 : List (List (Nat × Nat)) := [] :: [(1, 110)] :: [] :: [(4, 190)] :: [] :: [(1, 111)] :: [] :: [(4, 190)] :: [] :: [] :: [] :: [(1, 110)] :: [] :: [(1, 110)] :: [(1, 100)] :: [] :: [(1, 100)] :: [] :: []
def bl_X1_quotient : List (Nat × List zE) := [(0, b_X1_quotient_0), (35, b_X1_quotient_35)]
def pl_X1_quotient : List (List (List (Nat × Nat))) := [p_X1_quotient_0, p_X1_quotient_35]
theorem k_X1_quotient_0 : zlk 0 bl_X1_quotient = b_X1_quotient_0 := rfl
theorem k_X1_quotient_35 : zlk 35 bl_X1_quotient = b_X1_quotient_35 := rfl
set_option maxRecDepth 100000 in
theorem ck_X1_quotient : zall q_X1_quotient.2.2.2.2.1 q_X1_quotient.2.1 1 false q_X1_quotient.2.2.1 cal_X1_quotient q_X1_quotient.2.2.2.1 bl_X1_quotient pl_X1_quotient = true := by decide +kernel
theorem nm_X1_quotient : plainName q_X1_quotient.1.cls = true ∧ zRX 1 = q_X1_quotient.1.cls ∧ (false = true → q_X1_quotient.1.name = "<init>") := ⟨by decide +kernel, rfl, fun h => by first | rfl | cases h⟩
set_option maxRecDepth 100000 in
theorem wd_X1_writeSolution : zwd q_X1_writeSolution := ⟨zw_in (p := (4, 194)) (by decide +kernel), zw_in (p := (1, 4)) (by decide +kernel), fun h => absurd h (by decide), fun _ => zw_in (p := (4, 192)) (by decide +kernel), fun _ => zw_in (p := (4, 193)) (by decide +kernel)⟩
def cal_X1_writeSolution : List zCal := [q_X1_at, q_X1_quotient]
def b_X1_writeSolution_45 : List zE := (45, .return_, []) :: []
def p_X1_writeSolution_45 : List (List (Nat × Nat)) := [] :: []
def b_X1_writeSolution_2 : List zE := (2, .iload_n 2, []) :: (3, .aload_n 0, []) :: (4, .getfield 99, [1, 11]) :: (7, .if_icmp .ge 38, [45, 0]) :: (10, .iload_n 2, []) :: (11, .aload_n 1, []) :: (12, .arraylength, []) :: (13, .if_icmp .ge 32, [45, 0]) :: (16, .aload_n 1, []) :: (17, .iload_n 2, []) :: (18, .aload_n 0, []) :: (19, .aload_n 0, []) :: (20, .iload_n 2, []) :: (21, .aload_n 0, []) :: (22, .getfield 51, [1, 8]) :: (25, .invokevirtual 66, [0, 2, 1]) :: (28, .aload_n 0, []) :: (29, .iload_n 2, []) :: (30, .iload_n 2, []) :: (31, .invokevirtual 66, [0, 2, 1]) :: (34, .iconst 0, [0]) :: (35, .invokevirtual 162, [1, 3, 1]) :: (38, .lastore, []) :: (39, .iinc 2 1, [1]) :: (42, .goto (-40), [2, 1]) :: []
def p_X1_writeSolution_2 : List (List (Nat × Nat)) := [] :: [] :: [(1, 120)] :: [] :: [] :: [] :: [] :: [] :: [] :: [] :: [] :: [] :: [] :: [] :: [(1, 117)] :: [(4, 97)] :: [] :: [] :: [] :: [(4, 97)] :: [] :: [(4, 195)] :: [] :: [] :: [] :: []
def b_X1_writeSolution_0 : List zE := (0, .iconst 0, [0]) :: (1, .istore_n 2, []) :: (2, .nop, []) :: []
def p_X1_writeSolution_0 : List (List (Nat × Nat)) := [] :: [] :: [] :: []
def bl_X1_writeSolution : List (Nat × List zE) := [(0, b_X1_writeSolution_0), (2, b_X1_writeSolution_2), (45, b_X1_writeSolution_45)]
def pl_X1_writeSolution : List (List (List (Nat × Nat))) := [p_X1_writeSolution_0, p_X1_writeSolution_2, p_X1_writeSolution_45]
theorem k_X1_writeSolution_0 : zlk 0 bl_X1_writeSolution = b_X1_writeSolution_0 := rfl
theorem k_X1_writeSolution_2 : zlk 2 bl_X1_writeSolution = b_X1_writeSolution_2 := rfl
theorem k_X1_writeSolution_45 : zlk 45 bl_X1_writeSolution = b_X1_writeSolution_45 := rfl
set_option maxRecDepth 100000 in
theorem ck_X1_writeSolution : zall q_X1_writeSolution.2.2.2.2.1 q_X1_writeSolution.2.1 1 false q_X1_writeSolution.2.2.1 cal_X1_writeSolution q_X1_writeSolution.2.2.2.1 bl_X1_writeSolution pl_X1_writeSolution = true := by decide +kernel
theorem nm_X1_writeSolution : plainName q_X1_writeSolution.1.cls = true ∧ zRX 1 = q_X1_writeSolution.1.cls ∧ (false = true → q_X1_writeSolution.1.name = "<init>") := ⟨by decide +kernel, rfl, fun h => by first | rfl | cases h⟩
set_option maxRecDepth 100000 in
theorem wd_X1_freeColumn : zwd q_X1_freeColumn := ⟨zw_in (p := (4, 231)) (by decide +kernel), zw_in (p := (1, 4)) (by decide +kernel), fun h => absurd h (by decide), fun _ => zw_in (p := (4, 230)) (by decide +kernel), fun _ => zw_in (p := (0, 35)) (by decide +kernel)⟩
def cal_X1_freeColumn : List zCal := []
def b_X1_freeColumn_37 : List zE := (37, .iconst (-1), [4294967295]) :: (38, .ireturn, []) :: []
def p_X1_freeColumn_37 : List (List (Nat × Nat)) := [] :: [] :: []
def b_X1_freeColumn_31 : List zE := (31, .iinc 3 1, [1]) :: (34, .goto (-30), [4, 1]) :: []
def p_X1_freeColumn_31 : List (List (Nat × Nat)) := [] :: [] :: []
def b_X1_freeColumn_4 : List zE := (4, .iload_n 3, []) :: (5, .aload_n 0, []) :: (6, .getfield 51, [1, 8]) :: (9, .if_icmp .ge 28, [37, 0]) :: (12, .aload_n 0, []) :: (13, .getfield 37, [1, 6]) :: (16, .iload_n 3, []) :: (17, .baload, []) :: (18, .ifCond .eq 13, [31, 0]) :: (21, .iload_n 2, []) :: (22, .iinc 2 1, [1]) :: (25, .iload_n 1, []) :: (26, .if_icmp .ne 5, [31, 0]) :: (29, .iload_n 3, []) :: (30, .ireturn, []) :: []
def p_X1_freeColumn_4 : List (List (Nat × Nat)) := [] :: [] :: [(1, 117)] :: [] :: [] :: [(1, 115)] :: [] :: [] :: [] :: [] :: [] :: [] :: [] :: [] :: [] :: []
def b_X1_freeColumn_0 : List zE := (0, .iconst 0, [0]) :: (1, .istore_n 2, []) :: (2, .iconst 0, [0]) :: (3, .istore_n 3, []) :: (4, .nop, []) :: []
def p_X1_freeColumn_0 : List (List (Nat × Nat)) := [] :: [] :: [] :: [] :: [] :: []
def bl_X1_freeColumn : List (Nat × List zE) := [(0, b_X1_freeColumn_0), (4, b_X1_freeColumn_4), (31, b_X1_freeColumn_31), (37, b_X1_freeColumn_37)]
def pl_X1_freeColumn : List (List (List (Nat × Nat))) := [p_X1_freeColumn_0, p_X1_freeColumn_4, p_X1_freeColumn_31, p_X1_freeColumn_37]
theorem k_X1_freeColumn_0 : zlk 0 bl_X1_freeColumn = b_X1_freeColumn_0 := rfl
theorem k_X1_freeColumn_4 : zlk 4 bl_X1_freeColumn = b_X1_freeColumn_4 := rfl
theorem k_X1_freeColumn_31 : zlk 31 bl_X1_freeColumn = b_X1_freeColumn_31 := rfl
theorem k_X1_freeColumn_37 : zlk 37 bl_X1_freeColumn = b_X1_freeColumn_37 := rfl
set_option maxRecDepth 100000 in
theorem ck_X1_freeColumn : zall q_X1_freeColumn.2.2.2.2.1 q_X1_freeColumn.2.1 1 false q_X1_freeColumn.2.2.1 cal_X1_freeColumn q_X1_freeColumn.2.2.2.1 bl_X1_freeColumn pl_X1_freeColumn = true := by decide +kernel
theorem nm_X1_freeColumn : plainName q_X1_freeColumn.1.cls = true ∧ zRX 1 = q_X1_freeColumn.1.cls ∧ (false = true → q_X1_freeColumn.1.name = "<init>") := ⟨by decide +kernel, rfl, fun h => by first | rfl | cases h⟩
set_option maxRecDepth 100000 in
theorem wd_X1_writeNullVector : zwd q_X1_writeNullVector := ⟨zw_in (p := (4, 227)) (by decide +kernel), zw_in (p := (1, 4)) (by decide +kernel), fun h => absurd h (by decide), fun _ => zw_in (p := (4, 225)) (by decide +kernel), fun _ => zw_in (p := (4, 226)) (by decide +kernel)⟩
def cal_X1_writeNullVector : List zCal := [q_X1_prepare, q_X1_eliminate, q_X1_freeColumn, q_X1_at, q_X1_quotient]
def b_X1_writeNullVector_125 : List zE := (125, .iconst 1, [1]) :: (126, .ireturn, []) :: []
def p_X1_writeNullVector_125 : List (List (Nat × Nat)) := [] :: [] :: []
def b_X1_writeNullVector_119 : List zE := (119, .iinc 5 1, [1]) :: (122, .goto (-58), [64, 1]) :: []
def p_X1_writeNullVector_119 : List (List (Nat × Nat)) := [] :: [] :: []
def b_X1_writeNullVector_64 : List zE := (64, .iload 5, []) :: (66, .aload_n 0, []) :: (67, .getfield 99, [1, 11]) :: (70, .if_icmp .ge 55, [125, 0]) :: (73, .aload_n 0, []) :: (74, .getfield 33, [1, 5]) :: (77, .iload 5, []) :: (79, .iaload, []) :: (80, .istore 6, []) :: (82, .iload 6, []) :: (84, .ifCond .lt 35, [119, 0]) :: (87, .iload 6, []) :: (89, .aload_n 3, []) :: (90, .arraylength, []) :: (91, .if_icmp .ge 28, [119, 0]) :: (94, .aload_n 3, []) :: (95, .iload 6, []) :: (97, .aload_n 0, []) :: (98, .aload_n 0, []) :: (99, .iload 5, []) :: (101, .iload 4, []) :: (103, .invokevirtual 66, [3, 2, 1]) :: (106, .aload_n 0, []) :: (107, .iload 5, []) :: (109, .iload 6, []) :: (111, .invokevirtual 66, [3, 2, 1]) :: (114, .iconst 1, [1]) :: (115, .invokevirtual 162, [4, 3, 1]) :: (118, .lastore, []) :: (119, .nop, [0]) :: []
def p_X1_writeNullVector_64 : List (List (Nat × Nat)) := [] :: [] :: [(1, 120)] :: [] :: [] :: [(1, 114)] :: [] :: [] :: [] :: [] :: [] :: [] :: [] :: [] :: [] :: [] :: [] :: [] :: [] :: [] :: [] :: [(4, 97)] :: [] :: [] :: [] :: [(4, 97)] :: [] :: [(4, 195)] :: [] :: [] :: []
def b_X1_writeNullVector_61 : List zE := (61, .iconst 0, [0]) :: (62, .istore 5, []) :: (64, .nop, []) :: []
def p_X1_writeNullVector_61 : List (List (Nat × Nat)) := [] :: [] :: [] :: []
def b_X1_writeNullVector_54 : List zE := (54, .lastore, []) :: (55, .iinc 5 1, [1]) :: (58, .goto (-30), [28, 1]) :: []
def p_X1_writeNullVector_54 : List (List (Nat × Nat)) := [] :: [] :: [] :: []
def b_X1_writeNullVector_53 : List zE := (53, .lconst 0, [0]) :: (54, .nop, [0]) :: []
def p_X1_writeNullVector_53 : List (List (Nat × Nat)) := [] :: [] :: []
def b_X1_writeNullVector_28 : List zE := (28, .iload 5, []) :: (30, .aload_n 0, []) :: (31, .getfield 51, [1, 8]) :: (34, .if_icmp .ge 27, [61, 0]) :: (37, .aload_n 3, []) :: (38, .iload 5, []) :: (40, .iload 5, []) :: (42, .iload 4, []) :: (44, .if_icmp .ne 9, [53, 0]) :: (47, .ldc2_w 169, [4607182418800017408]) :: (50, .goto 4, [54, 0]) :: []
def p_X1_writeNullVector_28 : List (List (Nat × Nat)) := [] :: [] :: [(1, 117)] :: [] :: [] :: [] :: [] :: [] :: [] :: [(4, 232)] :: [] :: []
def b_X1_writeNullVector_25 : List zE := (25, .iconst 0, [0]) :: (26, .istore 5, []) :: (28, .nop, []) :: []
def p_X1_writeNullVector_25 : List (List (Nat × Nat)) := [] :: [] :: [] :: []
def b_X1_writeNullVector_0 : List zE := (0, .aload_n 0, []) :: (1, .aload_n 1, []) :: (2, .aconst_null, []) :: (3, .invokevirtual 155, [0, 2, 1]) :: (6, .aload_n 0, []) :: (7, .iconst 1, [1]) :: (8, .invokevirtual 159, [1, 1, 1]) :: (11, .aload_n 0, []) :: (12, .iload_n 2, []) :: (13, .invokevirtual 166, [2, 1, 1]) :: (16, .istore 4, []) :: (18, .iload 4, []) :: (20, .ifCond .ge 5, [25, 0]) :: (23, .iconst 0, [0]) :: (24, .ireturn, []) :: []
def p_X1_writeNullVector_0 : List (List (Nat × Nat)) := [] :: [] :: [] :: [(4, 84)] :: [] :: [] :: [(4, 123)] :: [] :: [] :: [(4, 228)] :: [] :: [] :: [] :: [] :: [] :: []
def bl_X1_writeNullVector : List (Nat × List zE) := [(0, b_X1_writeNullVector_0), (25, b_X1_writeNullVector_25), (28, b_X1_writeNullVector_28), (53, b_X1_writeNullVector_53), (54, b_X1_writeNullVector_54), (61, b_X1_writeNullVector_61), (64, b_X1_writeNullVector_64), (119, b_X1_writeNullVector_119), (125, b_X1_writeNullVector_125)]
def pl_X1_writeNullVector : List (List (List (Nat × Nat))) := [p_X1_writeNullVector_0, p_X1_writeNullVector_25, p_X1_writeNullVector_28, p_X1_writeNullVector_53, p_X1_writeNullVector_54, p_X1_writeNullVector_61, p_X1_writeNullVector_64, p_X1_writeNullVector_119, p_X1_writeNullVector_125]
theorem k_X1_writeNullVector_0 : zlk 0 bl_X1_writeNullVector = b_X1_writeNullVector_0 := rfl
theorem k_X1_writeNullVector_25 : zlk 25 bl_X1_writeNullVector = b_X1_writeNullVector_25 := rfl
theorem k_X1_writeNullVector_28 : zlk 28 bl_X1_writeNullVector = b_X1_writeNullVector_28 := rfl
theorem k_X1_writeNullVector_53 : zlk 53 bl_X1_writeNullVector = b_X1_writeNullVector_53 := rfl
theorem k_X1_writeNullVector_54 : zlk 54 bl_X1_writeNullVector = b_X1_writeNullVector_54 := rfl
theorem k_X1_writeNullVector_61 : zlk 61 bl_X1_writeNullVector = b_X1_writeNullVector_61 := rfl
theorem k_X1_writeNullVector_64 : zlk 64 bl_X1_writeNullVector = b_X1_writeNullVector_64 := rfl
theorem k_X1_writeNullVector_119 : zlk 119 bl_X1_writeNullVector = b_X1_writeNullVector_119 := rfl
theorem k_X1_writeNullVector_125 : zlk 125 bl_X1_writeNullVector = b_X1_writeNullVector_125 := rfl
set_option maxRecDepth 100000 in
theorem ck_X1_writeNullVector : zall q_X1_writeNullVector.2.2.2.2.1 q_X1_writeNullVector.2.1 1 false q_X1_writeNullVector.2.2.1 cal_X1_writeNullVector q_X1_writeNullVector.2.2.2.1 bl_X1_writeNullVector pl_X1_writeNullVector = true := by decide +kernel
theorem nm_X1_writeNullVector : plainName q_X1_writeNullVector.1.cls = true ∧ zRX 1 = q_X1_writeNullVector.1.cls ∧ (false = true → q_X1_writeNullVector.1.name = "<init>") := ⟨by decide +kernel, rfl, fun h => by first | rfl | cases h⟩
set_option maxRecDepth 100000 in
theorem wd_X1_determinantToLeft : zwd q_X1_determinantToLeft := ⟨zw_in (p := (5, 7)) (by decide +kernel), zw_in (p := (1, 4)) (by decide +kernel), fun h => absurd h (by decide), fun _ => zw_in (p := (5, 6)) (by decide +kernel), fun _ => zw_in (p := (0, 36)) (by decide +kernel)⟩
def cal_X1_determinantToLeft : List zCal := [q_X1_prepare, q_X1_eliminate, q_X9_zero, q_X1_at, q_X9_copy]
def b_X1_determinantToLeft_84 : List zE := (84, .return_, []) :: []
def p_X1_determinantToLeft_84 : List (List (Nat × Nat)) := [] :: []
def b_X1_determinantToLeft_81 : List zE := (81, .putfield 124, [9, 2]) :: (84, .nop, [0]) :: []
def p_X1_determinantToLeft_81 : List (List (Nat × Nat)) := [(1, 100)] :: [] :: []
def b_X1_determinantToLeft_74 : List zE := (74, .aload_n 0, []) :: (75, .getfield 20, [1, 1]) :: (78, .getfield 124, [9, 2]) :: (81, .nop, [0]) :: []
def p_X1_determinantToLeft_74 : List (List (Nat × Nat)) := [] :: [(1, 110)] :: [(1, 100)] :: [] :: []
def b_X1_determinantToLeft_0 : List zE := (0, .aload_n 0, []) :: (1, .aload_n 1, []) :: (2, .aconst_null, []) :: (3, .invokevirtual 155, [0, 2, 1]) :: (6, .aload_n 0, []) :: (7, .iconst 0, [0]) :: (8, .invokevirtual 159, [1, 1, 1]) :: (11, .aload_n 0, []) :: (12, .getfield 20, [1, 1]) :: (15, .invokevirtual 92, [2, 0, 9]) :: (18, .aload_n 0, []) :: (19, .getfield 99, [1, 11]) :: (22, .aload_n 0, []) :: (23, .getfield 47, [1, 7]) :: (26, .if_icmp .ne 58, [84, 0]) :: (29, .aload_n 0, []) :: (30, .getfield 20, [1, 1]) :: (33, .aload_n 0, []) :: (34, .aload_n 0, []) :: (35, .getfield 47, [1, 7]) :: (38, .iconst 1, [1]) :: (39, .isub, []) :: (40, .aload_n 0, []) :: (41, .getfield 47, [1, 7]) :: (44, .iconst 1, [1]) :: (45, .isub, []) :: (46, .invokevirtual 66, [3, 2, 1]) :: (49, .invokevirtual 120, [4, 1, 9]) :: (52, .aload_n 0, []) :: (53, .getfield 20, [1, 1]) :: (56, .aload_n 0, []) :: (57, .getfield 102, [1, 12]) :: (60, .ifCond .eq 14, [74, 0]) :: (63, .aload_n 0, []) :: (64, .getfield 20, [1, 1]) :: (67, .getfield 124, [9, 2]) :: (70, .ineg, []) :: (71, .goto 10, [81, 0]) :: []
def p_X1_determinantToLeft_0 : List (List (Nat × Nat)) := [] :: [] :: [] :: [(4, 84)] :: [] :: [] :: [(4, 123)] :: [] :: [(1, 110)] :: [(4, 105)] :: [] :: [(1, 120)] :: [] :: [(1, 116)] :: [] :: [] :: [(1, 110)] :: [] :: [] :: [(1, 116)] :: [] :: [] :: [] :: [(1, 116)] :: [] :: [] :: [(4, 97)] :: [(4, 190)] :: [] :: [(1, 110)] :: [] :: [(1, 121)] :: [] :: [] :: [(1, 110)] :: [(1, 100)] :: [] :: [] :: []
def bl_X1_determinantToLeft : List (Nat × List zE) := [(0, b_X1_determinantToLeft_0), (74, b_X1_determinantToLeft_74), (81, b_X1_determinantToLeft_81), (84, b_X1_determinantToLeft_84)]
def pl_X1_determinantToLeft : List (List (List (Nat × Nat))) := [p_X1_determinantToLeft_0, p_X1_determinantToLeft_74, p_X1_determinantToLeft_81, p_X1_determinantToLeft_84]
theorem k_X1_determinantToLeft_0 : zlk 0 bl_X1_determinantToLeft = b_X1_determinantToLeft_0 := rfl
theorem k_X1_determinantToLeft_74 : zlk 74 bl_X1_determinantToLeft = b_X1_determinantToLeft_74 := rfl
theorem k_X1_determinantToLeft_81 : zlk 81 bl_X1_determinantToLeft = b_X1_determinantToLeft_81 := rfl
theorem k_X1_determinantToLeft_84 : zlk 84 bl_X1_determinantToLeft = b_X1_determinantToLeft_84 := rfl
set_option maxRecDepth 100000 in
theorem ck_X1_determinantToLeft : zall q_X1_determinantToLeft.2.2.2.2.1 q_X1_determinantToLeft.2.1 1 false q_X1_determinantToLeft.2.2.1 cal_X1_determinantToLeft q_X1_determinantToLeft.2.2.2.1 bl_X1_determinantToLeft pl_X1_determinantToLeft = true := by decide +kernel
theorem nm_X1_determinantToLeft : plainName q_X1_determinantToLeft.1.cls = true ∧ zRX 1 = q_X1_determinantToLeft.1.cls ∧ (false = true → q_X1_determinantToLeft.1.name = "<init>") := ⟨by decide +kernel, rfl, fun h => by first | rfl | cases h⟩
set_option maxRecDepth 100000 in
theorem wd_X1_determinantOf : zwd q_X1_determinantOf := ⟨zw_in (p := (5, 3)) (by decide +kernel), zw_in (p := (1, 4)) (by decide +kernel), fun h => absurd h (by decide), fun _ => zw_in (p := (5, 1)) (by decide +kernel), fun _ => zw_in (p := (5, 2)) (by decide +kernel)⟩
def cal_X1_determinantOf : List zCal := [q_X1_determinantToLeft, q_X9_become, q_X1_ratio]
def b_X1_determinantOf_0 : List zE := (0, .aload_n 0, []) :: (1, .aload_n 1, []) :: (2, .invokevirtual 196, [0, 1, 1]) :: (5, .aload_n 0, []) :: (6, .getfield 24, [1, 2]) :: (9, .lconst 1, [1]) :: (10, .iconst 0, [0]) :: (11, .iconst 1, [1]) :: (12, .invokevirtual 95, [1, 3, 9]) :: (15, .aload_n 0, []) :: (16, .aload_n 0, []) :: (17, .getfield 47, [1, 7]) :: (20, .aload_n 0, []) :: (21, .getfield 55, [1, 10]) :: (24, .imul, []) :: (25, .iconst 0, [0]) :: (26, .invokevirtual 171, [2, 2, 1]) :: (29, .lreturn, []) :: []
def p_X1_determinantOf_0 : List (List (Nat × Nat)) := [] :: [] :: [(5, 4)] :: [] :: [(1, 111)] :: [] :: [] :: [] :: [(4, 109)] :: [] :: [] :: [(1, 116)] :: [] :: [(1, 119)] :: [] :: [] :: [(4, 199)] :: [] :: []
def bl_X1_determinantOf : List (Nat × List zE) := [(0, b_X1_determinantOf_0)]
def pl_X1_determinantOf : List (List (List (Nat × Nat))) := [p_X1_determinantOf_0]
theorem k_X1_determinantOf_0 : zlk 0 bl_X1_determinantOf = b_X1_determinantOf_0 := rfl
set_option maxRecDepth 100000 in
theorem ck_X1_determinantOf : zall q_X1_determinantOf.2.2.2.2.1 q_X1_determinantOf.2.1 1 false q_X1_determinantOf.2.2.1 cal_X1_determinantOf q_X1_determinantOf.2.2.2.1 bl_X1_determinantOf pl_X1_determinantOf = true := by decide +kernel
theorem nm_X1_determinantOf : plainName q_X1_determinantOf.1.cls = true ∧ zRX 1 = q_X1_determinantOf.1.cls ∧ (false = true → q_X1_determinantOf.1.name = "<init>") := ⟨by decide +kernel, rfl, fun h => by first | rfl | cases h⟩
set_option maxRecDepth 100000 in
theorem wd_X9_digit : zwd q_X9_digit := ⟨zw_in (p := (5, 19)) (by decide +kernel), zw_in (p := (1, 5)) (by decide +kernel), fun h => absurd h (by decide), fun _ => zw_in (p := (5, 17)) (by decide +kernel), fun _ => zw_in (p := (5, 18)) (by decide +kernel)⟩
def cal_X9_digit : List zCal := []
def b_X9_digit_22 : List zE := (22, .ireturn, []) :: []
def p_X9_digit_22 : List (List (Nat × Nat)) := [] :: []
def b_X9_digit_21 : List zE := (21, .iconst 0, [0]) :: (22, .nop, [0]) :: []
def p_X9_digit_21 : List (List (Nat × Nat)) := [] :: [] :: []
def b_X9_digit_0 : List zE := (0, .iload_n 1, []) :: (1, .ifCond .lt 20, [21, 0]) :: (4, .iload_n 1, []) :: (5, .aload_n 0, []) :: (6, .getfield 13, [9, 1]) :: (9, .if_icmp .ge 12, [21, 0]) :: (12, .aload_n 0, []) :: (13, .getfield 9, [9, 0]) :: (16, .iload_n 1, []) :: (17, .iaload, []) :: (18, .goto 4, [22, 0]) :: []
def p_X9_digit_0 : List (List (Nat × Nat)) := [] :: [] :: [] :: [] :: [(1, 97)] :: [] :: [] :: [(1, 96)] :: [] :: [] :: [] :: []
def bl_X9_digit : List (Nat × List zE) := [(0, b_X9_digit_0), (21, b_X9_digit_21), (22, b_X9_digit_22)]
def pl_X9_digit : List (List (List (Nat × Nat))) := [p_X9_digit_0, p_X9_digit_21, p_X9_digit_22]
theorem k_X9_digit_0 : zlk 0 bl_X9_digit = b_X9_digit_0 := rfl
theorem k_X9_digit_21 : zlk 21 bl_X9_digit = b_X9_digit_21 := rfl
theorem k_X9_digit_22 : zlk 22 bl_X9_digit = b_X9_digit_22 := rfl
set_option maxRecDepth 100000 in
theorem ck_X9_digit : zall q_X9_digit.2.2.2.2.1 q_X9_digit.2.1 9 false q_X9_digit.2.2.1 cal_X9_digit q_X9_digit.2.2.2.1 bl_X9_digit pl_X9_digit = true := by decide +kernel
theorem nm_X9_digit : plainName q_X9_digit.1.cls = true ∧ zRX 9 = q_X9_digit.1.cls ∧ (false = true → q_X9_digit.1.name = "<init>") := ⟨by decide +kernel, rfl, fun h => by first | rfl | cases h⟩
set_option maxRecDepth 100000 in
theorem wd_X1_determinantDigits : zwd q_X1_determinantDigits := ⟨zw_in (p := (5, 15)) (by decide +kernel), zw_in (p := (1, 4)) (by decide +kernel), fun h => absurd h (by decide), fun _ => zw_in (p := (5, 13)) (by decide +kernel), fun _ => zw_in (p := (5, 14)) (by decide +kernel)⟩
def cal_X1_determinantDigits : List zCal := [q_X1_determinantToLeft, q_X9_shiftUp, q_X9_digit]
def b_X1_determinantDigits_0 : List zE := (0, .aload_n 0, []) :: (1, .aload_n 1, []) :: (2, .invokevirtual 196, [0, 1, 1]) :: (5, .aload_n 0, []) :: (6, .getfield 20, [1, 1]) :: (9, .aload_n 0, []) :: (10, .getfield 47, [1, 7]) :: (13, .aload_n 0, []) :: (14, .getfield 55, [1, 10]) :: (17, .bipush 60, [60]) :: (19, .iadd, []) :: (20, .imul, []) :: (21, .invokevirtual 178, [1, 1, 9]) :: (24, .aload_n 0, []) :: (25, .getfield 20, [1, 1]) :: (28, .iload_n 2, []) :: (29, .invokevirtual 200, [2, 1, 9]) :: (32, .ireturn, []) :: []
def p_X1_determinantDigits_0 : List (List (Nat × Nat)) := [] :: [] :: [(5, 4)] :: [] :: [(1, 110)] :: [] :: [(1, 116)] :: [] :: [(1, 119)] :: [] :: [] :: [] :: [(4, 208)] :: [] :: [(1, 110)] :: [] :: [(5, 16)] :: [] :: []
def bl_X1_determinantDigits : List (Nat × List zE) := [(0, b_X1_determinantDigits_0)]
def pl_X1_determinantDigits : List (List (List (Nat × Nat))) := [p_X1_determinantDigits_0]
theorem k_X1_determinantDigits_0 : zlk 0 bl_X1_determinantDigits = b_X1_determinantDigits_0 := rfl
set_option maxRecDepth 100000 in
theorem ck_X1_determinantDigits : zall q_X1_determinantDigits.2.2.2.2.1 q_X1_determinantDigits.2.1 1 false q_X1_determinantDigits.2.2.1 cal_X1_determinantDigits q_X1_determinantDigits.2.2.2.1 bl_X1_determinantDigits pl_X1_determinantDigits = true := by decide +kernel
theorem nm_X1_determinantDigits : plainName q_X1_determinantDigits.1.cls = true ∧ zRX 1 = q_X1_determinantDigits.1.cls ∧ (false = true → q_X1_determinantDigits.1.name = "<init>") := ⟨by decide +kernel, rfl, fun h => by first | rfl | cases h⟩
set_option maxRecDepth 100000 in
theorem wd_X1_greatestRowSum : zwd q_X1_greatestRowSum := ⟨zw_in (p := (5, 35)) (by decide +kernel), zw_in (p := (1, 4)) (by decide +kernel), fun h => absurd h (by decide), fun _ => zw_in (p := (5, 34)) (by decide +kernel), fun _ => zw_in (p := (0, 38)) (by decide +kernel)⟩
def cal_X1_greatestRowSum : List zCal := [q_X9_zero, q_X1_at, q_X9_addSize, q_X9_compareSize, q_X9_copy]
def b_X1_greatestRowSum_86 : List zE := (86, .return_, []) :: []
def p_X1_greatestRowSum_86 : List (List (Nat × Nat)) := [] :: []
def b_X1_greatestRowSum_80 : List zE := (80, .iinc 2 1, [1]) :: (83, .goto (-74), [9, 1]) :: []
def p_X1_greatestRowSum_80 : List (List (Nat × Nat)) := [] :: [] :: []
def b_X1_greatestRowSum_55 : List zE := (55, .aload_n 0, []) :: (56, .getfield 24, [1, 2]) :: (59, .aload_n 0, []) :: (60, .getfield 20, [1, 1]) :: (63, .invokevirtual 181, [3, 1, 9]) :: (66, .ifCond .le 14, [80, 0]) :: (69, .aload_n 0, []) :: (70, .getfield 20, [1, 1]) :: (73, .aload_n 0, []) :: (74, .getfield 24, [1, 2]) :: (77, .invokevirtual 120, [4, 1, 9]) :: (80, .nop, [0]) :: []
def p_X1_greatestRowSum_55 : List (List (Nat × Nat)) := [] :: [(1, 111)] :: [] :: [(1, 110)] :: [(4, 209)] :: [] :: [] :: [(1, 110)] :: [] :: [(1, 111)] :: [(4, 190)] :: [] :: []
def b_X1_greatestRowSum_26 : List zE := (26, .iload_n 3, []) :: (27, .iload_n 1, []) :: (28, .aload_n 0, []) :: (29, .getfield 51, [1, 8]) :: (32, .iadd, []) :: (33, .if_icmp .ge 22, [55, 0]) :: (36, .aload_n 0, []) :: (37, .getfield 24, [1, 2]) :: (40, .aload_n 0, []) :: (41, .iload_n 2, []) :: (42, .iload_n 3, []) :: (43, .invokevirtual 66, [1, 2, 1]) :: (46, .invokevirtual 211, [2, 1, 9]) :: (49, .iinc 3 1, [1]) :: (52, .goto (-26), [26, 1]) :: []
def p_X1_greatestRowSum_26 : List (List (Nat × Nat)) := [] :: [] :: [] :: [(1, 117)] :: [] :: [] :: [] :: [(1, 111)] :: [] :: [] :: [] :: [(4, 97)] :: [(5, 36)] :: [] :: [] :: []
def b_X1_greatestRowSum_9 : List zE := (9, .iload_n 2, []) :: (10, .aload_n 0, []) :: (11, .getfield 47, [1, 7]) :: (14, .if_icmp .ge 72, [86, 0]) :: (17, .aload_n 0, []) :: (18, .getfield 24, [1, 2]) :: (21, .invokevirtual 92, [0, 0, 9]) :: (24, .iload_n 1, []) :: (25, .istore_n 3, []) :: (26, .nop, []) :: []
def p_X1_greatestRowSum_9 : List (List (Nat × Nat)) := [] :: [] :: [(1, 116)] :: [] :: [] :: [(1, 111)] :: [(4, 105)] :: [] :: [] :: [] :: []
def b_X1_greatestRowSum_0 : List zE := (0, .aload_n 0, []) :: (1, .getfield 20, [1, 1]) :: (4, .invokevirtual 92, [0, 0, 9]) :: (7, .iconst 0, [0]) :: (8, .istore_n 2, []) :: (9, .nop, []) :: []
def p_X1_greatestRowSum_0 : List (List (Nat × Nat)) := [] :: [(1, 110)] :: [(4, 105)] :: [] :: [] :: [] :: []
def bl_X1_greatestRowSum : List (Nat × List zE) := [(0, b_X1_greatestRowSum_0), (9, b_X1_greatestRowSum_9), (26, b_X1_greatestRowSum_26), (55, b_X1_greatestRowSum_55), (80, b_X1_greatestRowSum_80), (86, b_X1_greatestRowSum_86)]
def pl_X1_greatestRowSum : List (List (List (Nat × Nat))) := [p_X1_greatestRowSum_0, p_X1_greatestRowSum_9, p_X1_greatestRowSum_26, p_X1_greatestRowSum_55, p_X1_greatestRowSum_80, p_X1_greatestRowSum_86]
theorem k_X1_greatestRowSum_0 : zlk 0 bl_X1_greatestRowSum = b_X1_greatestRowSum_0 := rfl
theorem k_X1_greatestRowSum_9 : zlk 9 bl_X1_greatestRowSum = b_X1_greatestRowSum_9 := rfl
theorem k_X1_greatestRowSum_26 : zlk 26 bl_X1_greatestRowSum = b_X1_greatestRowSum_26 := rfl
theorem k_X1_greatestRowSum_55 : zlk 55 bl_X1_greatestRowSum = b_X1_greatestRowSum_55 := rfl
theorem k_X1_greatestRowSum_80 : zlk 80 bl_X1_greatestRowSum = b_X1_greatestRowSum_80 := rfl
theorem k_X1_greatestRowSum_86 : zlk 86 bl_X1_greatestRowSum = b_X1_greatestRowSum_86 := rfl
set_option maxRecDepth 100000 in
theorem ck_X1_greatestRowSum : zall q_X1_greatestRowSum.2.2.2.2.1 q_X1_greatestRowSum.2.1 1 false q_X1_greatestRowSum.2.2.1 cal_X1_greatestRowSum q_X1_greatestRowSum.2.2.2.1 bl_X1_greatestRowSum pl_X1_greatestRowSum = true := by decide +kernel
theorem nm_X1_greatestRowSum : plainName q_X1_greatestRowSum.1.cls = true ∧ zRX 1 = q_X1_greatestRowSum.1.cls ∧ (false = true → q_X1_greatestRowSum.1.name = "<init>") := ⟨by decide +kernel, rfl, fun h => by first | rfl | cases h⟩
set_option maxRecDepth 100000 in
theorem wd_X1_conditionOf : zwd q_X1_conditionOf := ⟨zw_in (p := (5, 27)) (by decide +kernel), zw_in (p := (1, 4)) (by decide +kernel), fun h => absurd h (by decide), fun _ => zw_in (p := (5, 25)) (by decide +kernel), fun _ => zw_in (p := (5, 26)) (by decide +kernel)⟩
def cal_X1_conditionOf : List zCal := [q_X1_prepare, q_X1_appendUnits, q_X1_greatestRowSum, q_X9_copy, q_X1_eliminate, q_X9_becomeProduct, q_X1_at, q_X1_ratio]
def b_X1_conditionOf_46 : List zE := (46, .aload_n 0, []) :: (47, .aload_n 0, []) :: (48, .getfield 51, [1, 8]) :: (51, .invokevirtual 206, [2, 1, 1]) :: (54, .aload_n 0, []) :: (55, .getfield 24, [1, 2]) :: (58, .aload_n 0, []) :: (59, .getfield 20, [1, 1]) :: (62, .invokevirtual 120, [3, 1, 9]) :: (65, .aload_n 0, []) :: (66, .getfield 20, [1, 1]) :: (69, .aload_n 0, []) :: (70, .getfield 24, [1, 2]) :: (73, .aload_n 0, []) :: (74, .getfield 27, [1, 3]) :: (77, .invokevirtual 144, [5, 2, 9]) :: (80, .aload_n 0, []) :: (81, .getfield 24, [1, 2]) :: (84, .aload_n 0, []) :: (85, .iconst 0, [0]) :: (86, .iconst 0, [0]) :: (87, .invokevirtual 66, [6, 2, 1]) :: (90, .invokevirtual 120, [3, 1, 9]) :: (93, .aload_n 0, []) :: (94, .getfield 24, [1, 2]) :: (97, .iconst 1, [1]) :: (98, .putfield 124, [9, 2]) :: (101, .aload_n 0, []) :: (102, .iconst 0, [0]) :: (103, .iconst 1, [1]) :: (104, .invokevirtual 171, [7, 2, 1]) :: (107, .lreturn, []) :: []
def p_X1_conditionOf_46 : List (List (Nat × Nat)) := [] :: [] :: [(1, 117)] :: [(5, 32)] :: [] :: [(1, 111)] :: [] :: [(1, 110)] :: [(4, 190)] :: [] :: [(1, 110)] :: [] :: [(1, 111)] :: [] :: [(1, 112)] :: [(4, 157)] :: [] :: [(1, 111)] :: [] :: [] :: [] :: [(4, 97)] :: [(4, 190)] :: [] :: [(1, 111)] :: [] :: [(1, 100)] :: [] :: [] :: [] :: [(4, 199)] :: [] :: []
def b_X1_conditionOf_0 : List zE := (0, .aload_n 0, []) :: (1, .aload_n 1, []) :: (2, .aconst_null, []) :: (3, .invokevirtual 155, [0, 2, 1]) :: (6, .aload_n 0, []) :: (7, .invokevirtual 203, [1, 0, 1]) :: (10, .aload_n 0, []) :: (11, .iconst 0, [0]) :: (12, .invokevirtual 206, [2, 1, 1]) :: (15, .aload_n 0, []) :: (16, .getfield 27, [1, 3]) :: (19, .aload_n 0, []) :: (20, .getfield 20, [1, 1]) :: (23, .invokevirtual 120, [3, 1, 9]) :: (26, .aload_n 0, []) :: (27, .iconst 1, [1]) :: (28, .invokevirtual 159, [4, 1, 1]) :: (31, .aload_n 0, []) :: (32, .getfield 99, [1, 11]) :: (35, .aload_n 0, []) :: (36, .getfield 47, [1, 7]) :: (39, .if_icmp .ge 7, [46, 0]) :: (42, .ldc2_w 209, [18446744073709551615]) :: (45, .lreturn, []) :: []
def p_X1_conditionOf_0 : List (List (Nat × Nat)) := [] :: [] :: [] :: [(4, 84)] :: [] :: [(5, 28)] :: [] :: [] :: [(5, 32)] :: [] :: [(1, 112)] :: [] :: [(1, 110)] :: [(4, 190)] :: [] :: [] :: [(4, 123)] :: [] :: [(1, 120)] :: [] :: [(1, 116)] :: [] :: [(5, 37)] :: [] :: []
def bl_X1_conditionOf : List (Nat × List zE) := [(0, b_X1_conditionOf_0), (46, b_X1_conditionOf_46)]
def pl_X1_conditionOf : List (List (List (Nat × Nat))) := [p_X1_conditionOf_0, p_X1_conditionOf_46]
theorem k_X1_conditionOf_0 : zlk 0 bl_X1_conditionOf = b_X1_conditionOf_0 := rfl
theorem k_X1_conditionOf_46 : zlk 46 bl_X1_conditionOf = b_X1_conditionOf_46 := rfl
set_option maxRecDepth 100000 in
theorem ck_X1_conditionOf : zall q_X1_conditionOf.2.2.2.2.1 q_X1_conditionOf.2.1 1 false q_X1_conditionOf.2.2.1 cal_X1_conditionOf q_X1_conditionOf.2.2.2.1 bl_X1_conditionOf pl_X1_conditionOf = true := by decide +kernel
theorem nm_X1_conditionOf : plainName q_X1_conditionOf.1.cls = true ∧ zRX 1 = q_X1_conditionOf.1.cls ∧ (false = true → q_X1_conditionOf.1.name = "<init>") := ⟨by decide +kernel, rfl, fun h => by first | rfl | cases h⟩
set_option maxRecDepth 100000 in
theorem wd_X2_init : zwd q_X2_init := ⟨zw_in (p := (2, 11)) (by decide +kernel), zw_in (p := (1, 9)) (by decide +kernel), fun h => absurd h (by decide), fun _ => zw_in (p := (2, 10)) (by decide +kernel), fun h => absurd h (by decide)⟩
def cal_X2_init : List zCal := []
def b_X2_init_0 : List zE := (0, .aload_n 0, []) :: (1, .invokespecial 3, []) :: (4, .aload_n 0, []) :: (5, .bipush 64, [64]) :: (7, .newarray .long, [22]) :: (9, .putfield 9, [2, 6]) :: (12, .aload_n 0, []) :: (13, .bipush 8, [8]) :: (15, .newarray .int, [20]) :: (17, .putfield 15, [2, 7]) :: (20, .aload_n 0, []) :: (21, .bipush 8, [8]) :: (23, .newarray .int, [20]) :: (25, .putfield 19, [2, 8]) :: (28, .aload_n 0, []) :: (29, .bipush 8, [8]) :: (31, .newarray .long, [22]) :: (33, .putfield 22, [2, 9]) :: (36, .aload_n 0, []) :: (37, .bipush 8, [8]) :: (39, .newarray .long, [22]) :: (41, .putfield 25, [2, 10]) :: (44, .return_, []) :: []
def p_X2_init_0 : List (List (Nat × Nat)) := [] :: [(2, 12), (1, 21), (1, 22)] :: [] :: [] :: [(1, 54)] :: [(2, 20)] :: [] :: [] :: [(1, 108)] :: [(2, 21)] :: [] :: [] :: [(1, 108)] :: [(2, 23)] :: [] :: [] :: [(1, 54)] :: [(2, 25)] :: [] :: [] :: [(1, 54)] :: [(2, 26)] :: [] :: []
def bl_X2_init : List (Nat × List zE) := [(0, b_X2_init_0)]
def pl_X2_init : List (List (List (Nat × Nat))) := [p_X2_init_0]
theorem k_X2_init_0 : zlk 0 bl_X2_init = b_X2_init_0 := rfl
set_option maxRecDepth 100000 in
theorem ck_X2_init : zall q_X2_init.2.2.2.2.1 q_X2_init.2.1 2 true q_X2_init.2.2.1 cal_X2_init q_X2_init.2.2.2.1 bl_X2_init pl_X2_init = true := by decide +kernel
theorem nm_X2_init : plainName q_X2_init.1.cls = true ∧ zRX 2 = q_X2_init.1.cls ∧ (true = true → q_X2_init.1.name = "<init>") := ⟨by decide +kernel, rfl, fun h => by first | rfl | cases h⟩
set_option maxRecDepth 100000 in
theorem wd_X2_at : zwd q_X2_at := ⟨zw_in (p := (3, 78)) (by decide +kernel), zw_in (p := (1, 9)) (by decide +kernel), fun h => absurd h (by decide), fun _ => zw_in (p := (3, 76)) (by decide +kernel), fun _ => zw_in (p := (3, 77)) (by decide +kernel)⟩
def cal_X2_at : List zCal := []
def b_X2_at_30 : List zE := (30, .lreturn, []) :: []
def p_X2_at_30 : List (List (Nat × Nat)) := [] :: []
def b_X2_at_29 : List zE := (29, .lconst 0, [0]) :: (30, .nop, [0]) :: []
def p_X2_at_29 : List (List (Nat × Nat)) := [] :: [] :: []
def b_X2_at_0 : List zE := (0, .iload_n 1, []) :: (1, .bipush 8, [8]) :: (3, .imul, []) :: (4, .iload_n 2, []) :: (5, .iadd, []) :: (6, .istore_n 3, []) :: (7, .iload_n 3, []) :: (8, .ifCond .lt 21, [29, 0]) :: (11, .iload_n 3, []) :: (12, .aload_n 0, []) :: (13, .getfield 9, [2, 6]) :: (16, .arraylength, []) :: (17, .if_icmp .ge 12, [29, 0]) :: (20, .aload_n 0, []) :: (21, .getfield 9, [2, 6]) :: (24, .iload_n 3, []) :: (25, .laload, []) :: (26, .goto 4, [30, 0]) :: []
def p_X2_at_0 : List (List (Nat × Nat)) := [] :: [] :: [] :: [] :: [] :: [] :: [] :: [] :: [] :: [] :: [(2, 20)] :: [] :: [] :: [] :: [(2, 20)] :: [] :: [] :: [] :: []
def bl_X2_at : List (Nat × List zE) := [(0, b_X2_at_0), (29, b_X2_at_29), (30, b_X2_at_30)]
def pl_X2_at : List (List (List (Nat × Nat))) := [p_X2_at_0, p_X2_at_29, p_X2_at_30]
theorem k_X2_at_0 : zlk 0 bl_X2_at = b_X2_at_0 := rfl
theorem k_X2_at_29 : zlk 29 bl_X2_at = b_X2_at_29 := rfl
theorem k_X2_at_30 : zlk 30 bl_X2_at = b_X2_at_30 := rfl
set_option maxRecDepth 100000 in
theorem ck_X2_at : zall q_X2_at.2.2.2.2.1 q_X2_at.2.1 2 false q_X2_at.2.2.1 cal_X2_at q_X2_at.2.2.2.1 bl_X2_at pl_X2_at = true := by decide +kernel
theorem nm_X2_at : plainName q_X2_at.1.cls = true ∧ zRX 2 = q_X2_at.1.cls ∧ (false = true → q_X2_at.1.name = "<init>") := ⟨by decide +kernel, rfl, fun h => by first | rfl | cases h⟩
set_option maxRecDepth 100000 in
theorem wd_X2_store : zwd q_X2_store := ⟨zw_in (p := (3, 66)) (by decide +kernel), zw_in (p := (1, 9)) (by decide +kernel), fun h => absurd h (by decide), fun _ => zw_in (p := (3, 65)) (by decide +kernel), fun _ => zw_in (p := (0, 3)) (by decide +kernel)⟩
def cal_X2_store : List zCal := []
def b_X2_store_31 : List zE := (31, .return_, []) :: []
def p_X2_store_31 : List (List (Nat × Nat)) := [] :: []
def b_X2_store_0 : List zE := (0, .iload_n 1, []) :: (1, .bipush 8, [8]) :: (3, .imul, []) :: (4, .iload_n 2, []) :: (5, .iadd, []) :: (6, .istore 5, []) :: (8, .iload 5, []) :: (10, .ifCond .lt 21, [31, 0]) :: (13, .iload 5, []) :: (15, .aload_n 0, []) :: (16, .getfield 9, [2, 6]) :: (19, .arraylength, []) :: (20, .if_icmp .ge 11, [31, 0]) :: (23, .aload_n 0, []) :: (24, .getfield 9, [2, 6]) :: (27, .iload 5, []) :: (29, .lload_n 3, []) :: (30, .lastore, []) :: (31, .nop, [0]) :: []
def p_X2_store_0 : List (List (Nat × Nat)) := [] :: [] :: [] :: [] :: [] :: [] :: [] :: [] :: [] :: [] :: [(2, 20)] :: [] :: [] :: [] :: [(2, 20)] :: [] :: [] :: [] :: [] :: []
def bl_X2_store : List (Nat × List zE) := [(0, b_X2_store_0), (31, b_X2_store_31)]
def pl_X2_store : List (List (List (Nat × Nat))) := [p_X2_store_0, p_X2_store_31]
theorem k_X2_store_0 : zlk 0 bl_X2_store = b_X2_store_0 := rfl
theorem k_X2_store_31 : zlk 31 bl_X2_store = b_X2_store_31 := rfl
set_option maxRecDepth 100000 in
theorem ck_X2_store : zall q_X2_store.2.2.2.2.1 q_X2_store.2.1 2 false q_X2_store.2.2.1 cal_X2_store q_X2_store.2.2.2.1 bl_X2_store pl_X2_store = true := by decide +kernel
theorem nm_X2_store : plainName q_X2_store.1.cls = true ∧ zRX 2 = q_X2_store.1.cls ∧ (false = true → q_X2_store.1.name = "<init>") := ⟨by decide +kernel, rfl, fun h => by first | rfl | cases h⟩
set_option maxRecDepth 100000 in
theorem wd_X3_greatestSize : zwd q_X3_greatestSize := ⟨zw_in (p := (3, 57)) (by decide +kernel), zw_in (p := (1, 8)) (by decide +kernel), fun h => absurd h (by decide), fun _ => zw_in (p := (3, 55)) (by decide +kernel), fun _ => zw_in (p := (3, 56)) (by decide +kernel)⟩
def cal_X3_greatestSize : List zCal := [q_X3_at, q_X0_magnitude]
def b_X3_greatestSize_51 : List zE := (51, .lload_n 1, []) :: (52, .lreturn, []) :: []
def p_X3_greatestSize_51 : List (List (Nat × Nat)) := [] :: [] :: []
def b_X3_greatestSize_45 : List zE := (45, .iinc 3 1, [1]) :: (48, .goto (-44), [4, 1]) :: []
def p_X3_greatestSize_45 : List (List (Nat × Nat)) := [] :: [] :: []
def b_X3_greatestSize_15 : List zE := (15, .iload 4, []) :: (17, .aload_n 0, []) :: (18, .getfield 22, [3, 3]) :: (21, .if_icmp .ge 24, [45, 0]) :: (24, .lload_n 1, []) :: (25, .aload_n 0, []) :: (26, .iload_n 3, []) :: (27, .iload 4, []) :: (29, .invokevirtual 41, [0, 2, 3]) :: (32, .invokestatic 59, [1, 1]) :: (35, .invokestatic 62, [105]) :: (38, .lstore_n 1, []) :: (39, .iinc 4 1, [1]) :: (42, .goto (-27), [15, 1]) :: []
def p_X3_greatestSize_15 : List (List (Nat × Nat)) := [] :: [] :: [(1, 223)] :: [] :: [] :: [] :: [] :: [] :: [(2, 147)] :: [(3, 58)] :: [(3, 59), (3, 60), (1, 14), (3, 61)] :: [] :: [] :: [] :: []
def b_X3_greatestSize_4 : List zE := (4, .iload_n 3, []) :: (5, .aload_n 0, []) :: (6, .getfield 19, [3, 2]) :: (9, .if_icmp .ge 42, [51, 0]) :: (12, .iconst 0, [0]) :: (13, .istore 4, []) :: (15, .nop, []) :: []
def p_X3_greatestSize_4 : List (List (Nat × Nat)) := [] :: [] :: [(1, 216)] :: [] :: [] :: [] :: [] :: []
def b_X3_greatestSize_0 : List zE := (0, .lconst 0, [0]) :: (1, .lstore_n 1, []) :: (2, .iconst 0, [0]) :: (3, .istore_n 3, []) :: (4, .nop, []) :: []
def p_X3_greatestSize_0 : List (List (Nat × Nat)) := [] :: [] :: [] :: [] :: [] :: []
def bl_X3_greatestSize : List (Nat × List zE) := [(0, b_X3_greatestSize_0), (4, b_X3_greatestSize_4), (15, b_X3_greatestSize_15), (45, b_X3_greatestSize_45), (51, b_X3_greatestSize_51)]
def pl_X3_greatestSize : List (List (List (Nat × Nat))) := [p_X3_greatestSize_0, p_X3_greatestSize_4, p_X3_greatestSize_15, p_X3_greatestSize_45, p_X3_greatestSize_51]
theorem k_X3_greatestSize_0 : zlk 0 bl_X3_greatestSize = b_X3_greatestSize_0 := rfl
theorem k_X3_greatestSize_4 : zlk 4 bl_X3_greatestSize = b_X3_greatestSize_4 := rfl
theorem k_X3_greatestSize_15 : zlk 15 bl_X3_greatestSize = b_X3_greatestSize_15 := rfl
theorem k_X3_greatestSize_45 : zlk 45 bl_X3_greatestSize = b_X3_greatestSize_45 := rfl
theorem k_X3_greatestSize_51 : zlk 51 bl_X3_greatestSize = b_X3_greatestSize_51 := rfl
set_option maxRecDepth 100000 in
theorem ck_X3_greatestSize : zall q_X3_greatestSize.2.2.2.2.1 q_X3_greatestSize.2.1 3 false q_X3_greatestSize.2.2.1 cal_X3_greatestSize q_X3_greatestSize.2.2.2.1 bl_X3_greatestSize pl_X3_greatestSize = true := by decide +kernel
theorem nm_X3_greatestSize : plainName q_X3_greatestSize.1.cls = true ∧ zRX 3 = q_X3_greatestSize.1.cls ∧ (false = true → q_X3_greatestSize.1.name = "<init>") := ⟨by decide +kernel, rfl, fun h => by first | rfl | cases h⟩
set_option maxRecDepth 100000 in
theorem wd_X2_rootStep : zwd q_X2_rootStep := ⟨zw_in (p := (3, 74)) (by decide +kernel), zw_in (p := (1, 9)) (by decide +kernel), fun h => absurd h (by decide), fun _ => zw_in (p := (3, 73)) (by decide +kernel), fun _ => zw_in (p := (0, 5)) (by decide +kernel)⟩
def cal_X2_rootStep : List zCal := [q_X2_at, q_X0_less, q_X0_finite, q_X0_root, q_X0_over, q_X2_store]
def b_X2_rootStep_89 : List zE := (89, .lstore 5, []) :: (91, .aload_n 0, []) :: (92, .iload_n 1, []) :: (93, .iload_n 2, []) :: (94, .lload 5, []) :: (96, .invokevirtual 59, [5, 3, 2]) :: (99, .lload 5, []) :: (101, .invokestatic 89, [2, 1]) :: (104, .ireturn, []) :: []
def p_X2_rootStep_89 : List (List (Nat × Nat)) := [] :: [] :: [] :: [] :: [] :: [(3, 63)] :: [] :: [(3, 80)] :: [] :: []
def b_X2_rootStep_79 : List zE := (79, .lload_n 3, []) :: (80, .aload_n 0, []) :: (81, .iload_n 2, []) :: (82, .iload_n 2, []) :: (83, .invokevirtual 74, [0, 2, 2]) :: (86, .invokestatic 85, [4, 2]) :: (89, .nop, [0]) :: []
def p_X2_rootStep_79 : List (List (Nat × Nat)) := [] :: [] :: [] :: [] :: [(3, 75)] :: [(3, 85)] :: [] :: []
def b_X2_rootStep_67 : List zE := (67, .iload_n 1, []) :: (68, .iload_n 2, []) :: (69, .if_icmp .ne 10, [79, 0]) :: (72, .lload_n 3, []) :: (73, .invokestatic 107, [3, 1]) :: (76, .goto 13, [89, 0]) :: []
def p_X2_rootStep_67 : List (List (Nat × Nat)) := [] :: [] :: [] :: [] :: [(3, 81)] :: [] :: []
def b_X2_rootStep_54 : List zE := (54, .iload_n 1, []) :: (55, .iload_n 2, []) :: (56, .if_icmp .ne 11, [67, 0]) :: (59, .lload_n 3, []) :: (60, .lconst 0, [0]) :: (61, .lcmp, []) :: (62, .ifCond .gt 5, [67, 0]) :: (65, .iconst 0, [0]) :: (66, .ireturn, []) :: []
def p_X2_rootStep_54 : List (List (Nat × Nat)) := [] :: [] :: [] :: [] :: [] :: [] :: [] :: [] :: [] :: []
def b_X2_rootStep_48 : List zE := (48, .iinc 5 1, [1]) :: (51, .goto (-41), [10, 1]) :: []
def p_X2_rootStep_48 : List (List (Nat × Nat)) := [] :: [] :: []
def b_X2_rootStep_10 : List zE := (10, .iload 5, []) :: (12, .iload_n 2, []) :: (13, .if_icmp .ge 41, [54, 0]) :: (16, .lload_n 3, []) :: (17, .aload_n 0, []) :: (18, .iload_n 1, []) :: (19, .iload 5, []) :: (21, .invokevirtual 74, [0, 2, 2]) :: (24, .aload_n 0, []) :: (25, .iload_n 2, []) :: (26, .iload 5, []) :: (28, .invokevirtual 74, [0, 2, 2]) :: (31, .aload_n 0, []) :: (32, .getfield 40, [2, 3]) :: (35, .invokestatic 93, [1, 4]) :: (38, .lstore_n 3, []) :: (39, .lload_n 3, []) :: (40, .invokestatic 89, [2, 1]) :: (43, .ifCond .ne 5, [48, 0]) :: (46, .iconst 0, [0]) :: (47, .ireturn, []) :: []
def p_X2_rootStep_10 : List (List (Nat × Nat)) := [] :: [] :: [] :: [] :: [] :: [] :: [] :: [(3, 75)] :: [] :: [] :: [] :: [(3, 75)] :: [] :: [(2, 17)] :: [(3, 79)] :: [] :: [] :: [(3, 80)] :: [] :: [] :: [] :: []
def b_X2_rootStep_0 : List zE := (0, .aload_n 0, []) :: (1, .iload_n 1, []) :: (2, .iload_n 2, []) :: (3, .invokevirtual 74, [0, 2, 2]) :: (6, .lstore_n 3, []) :: (7, .iconst 0, [0]) :: (8, .istore 5, []) :: (10, .nop, []) :: []
def p_X2_rootStep_0 : List (List (Nat × Nat)) := [] :: [] :: [] :: [(3, 75)] :: [] :: [] :: [] :: [] :: []
def bl_X2_rootStep : List (Nat × List zE) := [(0, b_X2_rootStep_0), (10, b_X2_rootStep_10), (48, b_X2_rootStep_48), (54, b_X2_rootStep_54), (67, b_X2_rootStep_67), (79, b_X2_rootStep_79), (89, b_X2_rootStep_89)]
def pl_X2_rootStep : List (List (List (Nat × Nat))) := [p_X2_rootStep_0, p_X2_rootStep_10, p_X2_rootStep_48, p_X2_rootStep_54, p_X2_rootStep_67, p_X2_rootStep_79, p_X2_rootStep_89]
theorem k_X2_rootStep_0 : zlk 0 bl_X2_rootStep = b_X2_rootStep_0 := rfl
theorem k_X2_rootStep_10 : zlk 10 bl_X2_rootStep = b_X2_rootStep_10 := rfl
theorem k_X2_rootStep_48 : zlk 48 bl_X2_rootStep = b_X2_rootStep_48 := rfl
theorem k_X2_rootStep_54 : zlk 54 bl_X2_rootStep = b_X2_rootStep_54 := rfl
theorem k_X2_rootStep_67 : zlk 67 bl_X2_rootStep = b_X2_rootStep_67 := rfl
theorem k_X2_rootStep_79 : zlk 79 bl_X2_rootStep = b_X2_rootStep_79 := rfl
theorem k_X2_rootStep_89 : zlk 89 bl_X2_rootStep = b_X2_rootStep_89 := rfl
set_option maxRecDepth 100000 in
theorem ck_X2_rootStep : zall q_X2_rootStep.2.2.2.2.1 q_X2_rootStep.2.1 2 false q_X2_rootStep.2.2.1 cal_X2_rootStep q_X2_rootStep.2.2.2.1 bl_X2_rootStep pl_X2_rootStep = true := by decide +kernel
theorem nm_X2_rootStep : plainName q_X2_rootStep.1.cls = true ∧ zRX 2 = q_X2_rootStep.1.cls ∧ (false = true → q_X2_rootStep.1.name = "<init>") := ⟨by decide +kernel, rfl, fun h => by first | rfl | cases h⟩
set_option maxRecDepth 100000 in
theorem wd_X2_makeByRoots : zwd q_X2_makeByRoots := ⟨zw_in (p := (3, 70)) (by decide +kernel), zw_in (p := (1, 9)) (by decide +kernel), fun h => absurd h (by decide), fun _ => zw_in (p := (3, 69)) (by decide +kernel), fun _ => zw_in (p := (0, 4)) (by decide +kernel)⟩
def cal_X2_makeByRoots : List zCal := [q_X2_rootStep, q_X2_store]
def b_X2_makeByRoots_65 : List zE := (65, .iconst (-1), [4294967295]) :: (66, .ireturn, []) :: []
def p_X2_makeByRoots_65 : List (List (Nat × Nat)) := [] :: [] :: []
def b_X2_makeByRoots_59 : List zE := (59, .iinc 1 1, [1]) :: (62, .goto (-60), [2, 1]) :: []
def p_X2_makeByRoots_59 : List (List (Nat × Nat)) := [] :: [] :: []
def b_X2_makeByRoots_38 : List zE := (38, .iload_n 2, []) :: (39, .aload_n 0, []) :: (40, .getfield 34, [2, 1]) :: (43, .if_icmp .ge 16, [59, 0]) :: (46, .aload_n 0, []) :: (47, .iload_n 1, []) :: (48, .iload_n 2, []) :: (49, .lconst 0, [0]) :: (50, .invokevirtual 59, [1, 3, 2]) :: (53, .iinc 2 1, [1]) :: (56, .goto (-18), [38, 1]) :: []
def p_X2_makeByRoots_38 : List (List (Nat × Nat)) := [] :: [] :: [(2, 14)] :: [] :: [] :: [] :: [] :: [] :: [(3, 63)] :: [] :: [] :: []
def b_X2_makeByRoots_34 : List zE := (34, .iload_n 1, []) :: (35, .iconst 1, [1]) :: (36, .iadd, []) :: (37, .istore_n 2, []) :: (38, .nop, []) :: []
def p_X2_makeByRoots_34 : List (List (Nat × Nat)) := [] :: [] :: [] :: [] :: [] :: []
def b_X2_makeByRoots_28 : List zE := (28, .iinc 2 1, [1]) :: (31, .goto (-19), [12, 1]) :: []
def p_X2_makeByRoots_28 : List (List (Nat × Nat)) := [] :: [] :: []
def b_X2_makeByRoots_12 : List zE := (12, .iload_n 2, []) :: (13, .iload_n 1, []) :: (14, .if_icmp .gt 20, [34, 0]) :: (17, .aload_n 0, []) :: (18, .iload_n 1, []) :: (19, .iload_n 2, []) :: (20, .invokevirtual 104, [0, 2, 2]) :: (23, .ifCond .ne 5, [28, 0]) :: (26, .iload_n 1, []) :: (27, .ireturn, []) :: []
def p_X2_makeByRoots_12 : List (List (Nat × Nat)) := [] :: [] :: [] :: [] :: [] :: [] :: [(3, 71)] :: [] :: [] :: [] :: []
def b_X2_makeByRoots_2 : List zE := (2, .iload_n 1, []) :: (3, .aload_n 0, []) :: (4, .getfield 34, [2, 1]) :: (7, .if_icmp .ge 58, [65, 0]) :: (10, .iconst 0, [0]) :: (11, .istore_n 2, []) :: (12, .nop, []) :: []
def p_X2_makeByRoots_2 : List (List (Nat × Nat)) := [] :: [] :: [(2, 14)] :: [] :: [] :: [] :: [] :: []
def b_X2_makeByRoots_0 : List zE := (0, .iconst 0, [0]) :: (1, .istore_n 1, []) :: (2, .nop, []) :: []
def p_X2_makeByRoots_0 : List (List (Nat × Nat)) := [] :: [] :: [] :: []
def bl_X2_makeByRoots : List (Nat × List zE) := [(0, b_X2_makeByRoots_0), (2, b_X2_makeByRoots_2), (12, b_X2_makeByRoots_12), (28, b_X2_makeByRoots_28), (34, b_X2_makeByRoots_34), (38, b_X2_makeByRoots_38), (59, b_X2_makeByRoots_59), (65, b_X2_makeByRoots_65)]
def pl_X2_makeByRoots : List (List (List (Nat × Nat))) := [p_X2_makeByRoots_0, p_X2_makeByRoots_2, p_X2_makeByRoots_12, p_X2_makeByRoots_28, p_X2_makeByRoots_34, p_X2_makeByRoots_38, p_X2_makeByRoots_59, p_X2_makeByRoots_65]
theorem k_X2_makeByRoots_0 : zlk 0 bl_X2_makeByRoots = b_X2_makeByRoots_0 := rfl
theorem k_X2_makeByRoots_2 : zlk 2 bl_X2_makeByRoots = b_X2_makeByRoots_2 := rfl
theorem k_X2_makeByRoots_12 : zlk 12 bl_X2_makeByRoots = b_X2_makeByRoots_12 := rfl
theorem k_X2_makeByRoots_28 : zlk 28 bl_X2_makeByRoots = b_X2_makeByRoots_28 := rfl
theorem k_X2_makeByRoots_34 : zlk 34 bl_X2_makeByRoots = b_X2_makeByRoots_34 := rfl
theorem k_X2_makeByRoots_38 : zlk 38 bl_X2_makeByRoots = b_X2_makeByRoots_38 := rfl
theorem k_X2_makeByRoots_59 : zlk 59 bl_X2_makeByRoots = b_X2_makeByRoots_59 := rfl
theorem k_X2_makeByRoots_65 : zlk 65 bl_X2_makeByRoots = b_X2_makeByRoots_65 := rfl
set_option maxRecDepth 100000 in
theorem ck_X2_makeByRoots : zall q_X2_makeByRoots.2.2.2.2.1 q_X2_makeByRoots.2.1 2 false q_X2_makeByRoots.2.2.1 cal_X2_makeByRoots q_X2_makeByRoots.2.2.2.1 bl_X2_makeByRoots pl_X2_makeByRoots = true := by decide +kernel
theorem nm_X2_makeByRoots : plainName q_X2_makeByRoots.1.cls = true ∧ zRX 2 = q_X2_makeByRoots.1.cls ∧ (false = true → q_X2_makeByRoots.1.name = "<init>") := ⟨by decide +kernel, rfl, fun h => by first | rfl | cases h⟩
set_option maxRecDepth 100000 in
theorem wd_X2_exchangeRows : zwd q_X2_exchangeRows := ⟨zw_in (p := (3, 101)) (by decide +kernel), zw_in (p := (1, 9)) (by decide +kernel), fun h => absurd h (by decide), fun _ => zw_in (p := (3, 100)) (by decide +kernel), fun _ => zw_in (p := (0, 8)) (by decide +kernel)⟩
def cal_X2_exchangeRows : List zCal := [q_X2_at, q_X2_store]
def b_X2_exchangeRows_83 : List zE := (83, .putfield 44, [2, 4]) :: (86, .return_, []) :: []
def p_X2_exchangeRows_83 : List (List (Nat × Nat)) := [(2, 18)] :: [] :: []
def b_X2_exchangeRows_82 : List zE := (82, .iconst 0, [0]) :: (83, .nop, [0]) :: []
def p_X2_exchangeRows_82 : List (List (Nat × Nat)) := [] :: [] :: []
def b_X2_exchangeRows_44 : List zE := (44, .aload_n 0, []) :: (45, .getfield 15, [2, 7]) :: (48, .iload_n 1, []) :: (49, .iaload, []) :: (50, .istore_n 3, []) :: (51, .aload_n 0, []) :: (52, .getfield 15, [2, 7]) :: (55, .iload_n 1, []) :: (56, .aload_n 0, []) :: (57, .getfield 15, [2, 7]) :: (60, .iload_n 2, []) :: (61, .iaload, []) :: (62, .iastore, []) :: (63, .aload_n 0, []) :: (64, .getfield 15, [2, 7]) :: (67, .iload_n 2, []) :: (68, .iload_n 3, []) :: (69, .iastore, []) :: (70, .aload_n 0, []) :: (71, .aload_n 0, []) :: (72, .getfield 44, [2, 4]) :: (75, .ifCond .ne 7, [82, 0]) :: (78, .iconst 1, [1]) :: (79, .goto 4, [83, 0]) :: []
def p_X2_exchangeRows_44 : List (List (Nat × Nat)) := [] :: [(2, 21)] :: [] :: [] :: [] :: [] :: [(2, 21)] :: [] :: [] :: [(2, 21)] :: [] :: [] :: [] :: [] :: [(2, 21)] :: [] :: [] :: [] :: [] :: [] :: [(2, 18)] :: [] :: [] :: [] :: []
def b_X2_exchangeRows_2 : List zE := (2, .iload_n 3, []) :: (3, .aload_n 0, []) :: (4, .getfield 34, [2, 1]) :: (7, .if_icmp .ge 37, [44, 0]) :: (10, .aload_n 0, []) :: (11, .iload_n 1, []) :: (12, .iload_n 3, []) :: (13, .invokevirtual 74, [0, 2, 2]) :: (16, .lstore 4, []) :: (18, .aload_n 0, []) :: (19, .iload_n 1, []) :: (20, .iload_n 3, []) :: (21, .aload_n 0, []) :: (22, .iload_n 2, []) :: (23, .iload_n 3, []) :: (24, .invokevirtual 74, [0, 2, 2]) :: (27, .invokevirtual 59, [1, 3, 2]) :: (30, .aload_n 0, []) :: (31, .iload_n 2, []) :: (32, .iload_n 3, []) :: (33, .lload 4, []) :: (35, .invokevirtual 59, [1, 3, 2]) :: (38, .iinc 3 1, [1]) :: (41, .goto (-39), [2, 1]) :: []
def p_X2_exchangeRows_2 : List (List (Nat × Nat)) := [] :: [] :: [(2, 14)] :: [] :: [] :: [] :: [] :: [(3, 75)] :: [] :: [] :: [] :: [] :: [] :: [] :: [] :: [(3, 75)] :: [(3, 63)] :: [] :: [] :: [] :: [] :: [(3, 63)] :: [] :: [] :: []
def b_X2_exchangeRows_0 : List zE := (0, .iconst 0, [0]) :: (1, .istore_n 3, []) :: (2, .nop, []) :: []
def p_X2_exchangeRows_0 : List (List (Nat × Nat)) := [] :: [] :: [] :: []
def bl_X2_exchangeRows : List (Nat × List zE) := [(0, b_X2_exchangeRows_0), (2, b_X2_exchangeRows_2), (44, b_X2_exchangeRows_44), (82, b_X2_exchangeRows_82), (83, b_X2_exchangeRows_83)]
def pl_X2_exchangeRows : List (List (List (Nat × Nat))) := [p_X2_exchangeRows_0, p_X2_exchangeRows_2, p_X2_exchangeRows_44, p_X2_exchangeRows_82, p_X2_exchangeRows_83]
theorem k_X2_exchangeRows_0 : zlk 0 bl_X2_exchangeRows = b_X2_exchangeRows_0 := rfl
theorem k_X2_exchangeRows_2 : zlk 2 bl_X2_exchangeRows = b_X2_exchangeRows_2 := rfl
theorem k_X2_exchangeRows_44 : zlk 44 bl_X2_exchangeRows = b_X2_exchangeRows_44 := rfl
theorem k_X2_exchangeRows_82 : zlk 82 bl_X2_exchangeRows = b_X2_exchangeRows_82 := rfl
theorem k_X2_exchangeRows_83 : zlk 83 bl_X2_exchangeRows = b_X2_exchangeRows_83 := rfl
set_option maxRecDepth 100000 in
theorem ck_X2_exchangeRows : zall q_X2_exchangeRows.2.2.2.2.1 q_X2_exchangeRows.2.1 2 false q_X2_exchangeRows.2.2.1 cal_X2_exchangeRows q_X2_exchangeRows.2.2.2.1 bl_X2_exchangeRows pl_X2_exchangeRows = true := by decide +kernel
theorem nm_X2_exchangeRows : plainName q_X2_exchangeRows.1.cls = true ∧ zRX 2 = q_X2_exchangeRows.1.cls ∧ (false = true → q_X2_exchangeRows.1.name = "<init>") := ⟨by decide +kernel, rfl, fun h => by first | rfl | cases h⟩
set_option maxRecDepth 100000 in
theorem wd_X2_exchangeColumns : zwd q_X2_exchangeColumns := ⟨zw_in (p := (3, 105)) (by decide +kernel), zw_in (p := (1, 9)) (by decide +kernel), fun h => absurd h (by decide), fun _ => zw_in (p := (3, 104)) (by decide +kernel), fun _ => zw_in (p := (0, 9)) (by decide +kernel)⟩
def cal_X2_exchangeColumns : List zCal := [q_X2_at, q_X2_store]
def b_X2_exchangeColumns_83 : List zE := (83, .putfield 44, [2, 4]) :: (86, .return_, []) :: []
def p_X2_exchangeColumns_83 : List (List (Nat × Nat)) := [(2, 18)] :: [] :: []
def b_X2_exchangeColumns_82 : List zE := (82, .iconst 0, [0]) :: (83, .nop, [0]) :: []
def p_X2_exchangeColumns_82 : List (List (Nat × Nat)) := [] :: [] :: []
def b_X2_exchangeColumns_44 : List zE := (44, .aload_n 0, []) :: (45, .getfield 19, [2, 8]) :: (48, .iload_n 1, []) :: (49, .iaload, []) :: (50, .istore_n 3, []) :: (51, .aload_n 0, []) :: (52, .getfield 19, [2, 8]) :: (55, .iload_n 1, []) :: (56, .aload_n 0, []) :: (57, .getfield 19, [2, 8]) :: (60, .iload_n 2, []) :: (61, .iaload, []) :: (62, .iastore, []) :: (63, .aload_n 0, []) :: (64, .getfield 19, [2, 8]) :: (67, .iload_n 2, []) :: (68, .iload_n 3, []) :: (69, .iastore, []) :: (70, .aload_n 0, []) :: (71, .aload_n 0, []) :: (72, .getfield 44, [2, 4]) :: (75, .ifCond .ne 7, [82, 0]) :: (78, .iconst 1, [1]) :: (79, .goto 4, [83, 0]) :: []
def p_X2_exchangeColumns_44 : List (List (Nat × Nat)) := [] :: [(2, 23)] :: [] :: [] :: [] :: [] :: [(2, 23)] :: [] :: [] :: [(2, 23)] :: [] :: [] :: [] :: [] :: [(2, 23)] :: [] :: [] :: [] :: [] :: [] :: [(2, 18)] :: [] :: [] :: [] :: []
def b_X2_exchangeColumns_2 : List zE := (2, .iload_n 3, []) :: (3, .aload_n 0, []) :: (4, .getfield 34, [2, 1]) :: (7, .if_icmp .ge 37, [44, 0]) :: (10, .aload_n 0, []) :: (11, .iload_n 3, []) :: (12, .iload_n 1, []) :: (13, .invokevirtual 74, [0, 2, 2]) :: (16, .lstore 4, []) :: (18, .aload_n 0, []) :: (19, .iload_n 3, []) :: (20, .iload_n 1, []) :: (21, .aload_n 0, []) :: (22, .iload_n 3, []) :: (23, .iload_n 2, []) :: (24, .invokevirtual 74, [0, 2, 2]) :: (27, .invokevirtual 59, [1, 3, 2]) :: (30, .aload_n 0, []) :: (31, .iload_n 3, []) :: (32, .iload_n 2, []) :: (33, .lload 4, []) :: (35, .invokevirtual 59, [1, 3, 2]) :: (38, .iinc 3 1, [1]) :: (41, .goto (-39), [2, 1]) :: []
def p_X2_exchangeColumns_2 : List (List (Nat × Nat)) := [] :: [] :: [(2, 14)] :: [] :: [] :: [] :: [] :: [(3, 75)] :: [] :: [] :: [] :: [] :: [] :: [] :: [] :: [(3, 75)] :: [(3, 63)] :: [] :: [] :: [] :: [] :: [(3, 63)] :: [] :: [] :: []
def b_X2_exchangeColumns_0 : List zE := (0, .iconst 0, [0]) :: (1, .istore_n 3, []) :: (2, .nop, []) :: []
def p_X2_exchangeColumns_0 : List (List (Nat × Nat)) := [] :: [] :: [] :: []
def bl_X2_exchangeColumns : List (Nat × List zE) := [(0, b_X2_exchangeColumns_0), (2, b_X2_exchangeColumns_2), (44, b_X2_exchangeColumns_44), (82, b_X2_exchangeColumns_82), (83, b_X2_exchangeColumns_83)]
def pl_X2_exchangeColumns : List (List (List (Nat × Nat))) := [p_X2_exchangeColumns_0, p_X2_exchangeColumns_2, p_X2_exchangeColumns_44, p_X2_exchangeColumns_82, p_X2_exchangeColumns_83]
theorem k_X2_exchangeColumns_0 : zlk 0 bl_X2_exchangeColumns = b_X2_exchangeColumns_0 := rfl
theorem k_X2_exchangeColumns_2 : zlk 2 bl_X2_exchangeColumns = b_X2_exchangeColumns_2 := rfl
theorem k_X2_exchangeColumns_44 : zlk 44 bl_X2_exchangeColumns = b_X2_exchangeColumns_44 := rfl
theorem k_X2_exchangeColumns_82 : zlk 82 bl_X2_exchangeColumns = b_X2_exchangeColumns_82 := rfl
theorem k_X2_exchangeColumns_83 : zlk 83 bl_X2_exchangeColumns = b_X2_exchangeColumns_83 := rfl
set_option maxRecDepth 100000 in
theorem ck_X2_exchangeColumns : zall q_X2_exchangeColumns.2.2.2.2.1 q_X2_exchangeColumns.2.1 2 false q_X2_exchangeColumns.2.2.1 cal_X2_exchangeColumns q_X2_exchangeColumns.2.2.2.1 bl_X2_exchangeColumns pl_X2_exchangeColumns = true := by decide +kernel
theorem nm_X2_exchangeColumns : plainName q_X2_exchangeColumns.1.cls = true ∧ zRX 2 = q_X2_exchangeColumns.1.cls ∧ (false = true → q_X2_exchangeColumns.1.name = "<init>") := ⟨by decide +kernel, rfl, fun h => by first | rfl | cases h⟩
set_option maxRecDepth 100000 in
theorem wd_X2_exchange : zwd q_X2_exchange := ⟨zw_in (p := (3, 96)) (by decide +kernel), zw_in (p := (1, 9)) (by decide +kernel), fun h => absurd h (by decide), fun _ => zw_in (p := (3, 95)) (by decide +kernel), fun _ => zw_in (p := (0, 7)) (by decide +kernel)⟩
def cal_X2_exchange : List zCal := [q_X2_at, q_X0_magnitude, q_X2_exchangeRows, q_X2_exchangeColumns]
def b_X2_exchange_110 : List zE := (110, .return_, []) :: []
def p_X2_exchange_110 : List (List (Nat × Nat)) := [] :: []
def b_X2_exchange_99 : List zE := (99, .iload_n 3, []) :: (100, .iload_n 1, []) :: (101, .if_icmp .eq 9, [110, 0]) :: (104, .aload_n 0, []) :: (105, .iload_n 1, []) :: (106, .iload_n 3, []) :: (107, .invokevirtual 101, [3, 2, 2]) :: (110, .nop, [0]) :: []
def p_X2_exchange_99 : List (List (Nat × Nat)) := [] :: [] :: [] :: [] :: [] :: [] :: [(3, 102)] :: [] :: []
def b_X2_exchange_88 : List zE := (88, .iload_n 2, []) :: (89, .iload_n 1, []) :: (90, .if_icmp .eq 9, [99, 0]) :: (93, .aload_n 0, []) :: (94, .iload_n 1, []) :: (95, .iload_n 2, []) :: (96, .invokevirtual 97, [2, 2, 2]) :: (99, .nop, [0]) :: []
def p_X2_exchange_88 : List (List (Nat × Nat)) := [] :: [] :: [] :: [] :: [] :: [] :: [(3, 98)] :: [] :: []
def b_X2_exchange_82 : List zE := (82, .iinc 5 1, [1]) :: (85, .goto (-58), [27, 1]) :: []
def p_X2_exchange_82 : List (List (Nat × Nat)) := [] :: [] :: []
def b_X2_exchange_76 : List zE := (76, .iinc 6 1, [1]) :: (79, .goto (-40), [39, 1]) :: []
def p_X2_exchange_76 : List (List (Nat × Nat)) := [] :: [] :: []
def b_X2_exchange_39 : List zE := (39, .iload 6, []) :: (41, .iload 4, []) :: (43, .if_icmp .ge 39, [82, 0]) :: (46, .aload_n 0, []) :: (47, .iload 5, []) :: (49, .iload 6, []) :: (51, .invokevirtual 74, [0, 2, 2]) :: (54, .invokestatic 75, [1, 1]) :: (57, .aload_n 0, []) :: (58, .iload_n 2, []) :: (59, .iload_n 3, []) :: (60, .invokevirtual 74, [0, 2, 2]) :: (63, .invokestatic 75, [1, 1]) :: (66, .lcmp, []) :: (67, .ifCond .le 9, [76, 0]) :: (70, .iload 5, []) :: (72, .istore_n 2, []) :: (73, .iload 6, []) :: (75, .istore_n 3, []) :: (76, .nop, [0]) :: []
def p_X2_exchange_39 : List (List (Nat × Nat)) := [] :: [] :: [] :: [] :: [] :: [] :: [(3, 75)] :: [(3, 97)] :: [] :: [] :: [] :: [(3, 75)] :: [(3, 97)] :: [] :: [] :: [] :: [] :: [] :: [] :: [] :: []
def b_X2_exchange_27 : List zE := (27, .iload 5, []) :: (29, .aload_n 0, []) :: (30, .getfield 34, [2, 1]) :: (33, .if_icmp .ge 55, [88, 0]) :: (36, .iload_n 1, []) :: (37, .istore 6, []) :: (39, .nop, []) :: []
def p_X2_exchange_27 : List (List (Nat × Nat)) := [] :: [] :: [(2, 14)] :: [] :: [] :: [] :: [] :: []
def b_X2_exchange_22 : List zE := (22, .istore 4, []) :: (24, .iload_n 1, []) :: (25, .istore 5, []) :: (27, .nop, []) :: []
def p_X2_exchange_22 : List (List (Nat × Nat)) := [] :: [] :: [] :: [] :: []
def b_X2_exchange_19 : List zE := (19, .iload_n 1, []) :: (20, .iconst 1, [1]) :: (21, .iadd, []) :: (22, .nop, [0]) :: []
def p_X2_exchange_19 : List (List (Nat × Nat)) := [] :: [] :: [] :: [] :: []
def b_X2_exchange_0 : List zE := (0, .iload_n 1, []) :: (1, .istore_n 2, []) :: (2, .iload_n 1, []) :: (3, .istore_n 3, []) :: (4, .aload_n 0, []) :: (5, .getfield 37, [2, 2]) :: (8, .iconst 2, [2]) :: (9, .if_icmp .ne 10, [19, 0]) :: (12, .aload_n 0, []) :: (13, .getfield 34, [2, 1]) :: (16, .goto 6, [22, 0]) :: []
def p_X2_exchange_0 : List (List (Nat × Nat)) := [] :: [] :: [] :: [] :: [] :: [(2, 16)] :: [] :: [] :: [] :: [(2, 14)] :: [] :: []
def bl_X2_exchange : List (Nat × List zE) := [(0, b_X2_exchange_0), (19, b_X2_exchange_19), (22, b_X2_exchange_22), (27, b_X2_exchange_27), (39, b_X2_exchange_39), (76, b_X2_exchange_76), (82, b_X2_exchange_82), (88, b_X2_exchange_88), (99, b_X2_exchange_99), (110, b_X2_exchange_110)]
def pl_X2_exchange : List (List (List (Nat × Nat))) := [p_X2_exchange_0, p_X2_exchange_19, p_X2_exchange_22, p_X2_exchange_27, p_X2_exchange_39, p_X2_exchange_76, p_X2_exchange_82, p_X2_exchange_88, p_X2_exchange_99, p_X2_exchange_110]
theorem k_X2_exchange_0 : zlk 0 bl_X2_exchange = b_X2_exchange_0 := rfl
theorem k_X2_exchange_19 : zlk 19 bl_X2_exchange = b_X2_exchange_19 := rfl
theorem k_X2_exchange_22 : zlk 22 bl_X2_exchange = b_X2_exchange_22 := rfl
theorem k_X2_exchange_27 : zlk 27 bl_X2_exchange = b_X2_exchange_27 := rfl
theorem k_X2_exchange_39 : zlk 39 bl_X2_exchange = b_X2_exchange_39 := rfl
theorem k_X2_exchange_76 : zlk 76 bl_X2_exchange = b_X2_exchange_76 := rfl
theorem k_X2_exchange_82 : zlk 82 bl_X2_exchange = b_X2_exchange_82 := rfl
theorem k_X2_exchange_88 : zlk 88 bl_X2_exchange = b_X2_exchange_88 := rfl
theorem k_X2_exchange_99 : zlk 99 bl_X2_exchange = b_X2_exchange_99 := rfl
theorem k_X2_exchange_110 : zlk 110 bl_X2_exchange = b_X2_exchange_110 := rfl
set_option maxRecDepth 100000 in
theorem ck_X2_exchange : zall q_X2_exchange.2.2.2.2.1 q_X2_exchange.2.1 2 false q_X2_exchange.2.2.1 cal_X2_exchange q_X2_exchange.2.2.2.1 bl_X2_exchange pl_X2_exchange = true := by decide +kernel
theorem nm_X2_exchange : plainName q_X2_exchange.1.cls = true ∧ zRX 2 = q_X2_exchange.1.cls ∧ (false = true → q_X2_exchange.1.name = "<init>") := ⟨by decide +kernel, rfl, fun h => by first | rfl | cases h⟩
set_option maxRecDepth 100000 in
theorem wd_X2_workRow : zwd q_X2_workRow := ⟨zw_in (p := (3, 109)) (by decide +kernel), zw_in (p := (1, 9)) (by decide +kernel), fun h => absurd h (by decide), fun _ => zw_in (p := (3, 108)) (by decide +kernel), fun _ => zw_in (p := (0, 10)) (by decide +kernel)⟩
def cal_X2_workRow : List zCal := [q_X2_at, q_X0_over, q_X0_finite, q_X2_store, q_X0_less]
def b_X2_workRow_95 : List zE := (95, .iconst 1, [1]) :: (96, .ireturn, []) :: []
def p_X2_workRow_95 : List (List (Nat × Nat)) := [] :: [] :: []
def b_X2_workRow_80 : List zE := (80, .aload_n 0, []) :: (81, .iload_n 2, []) :: (82, .iload 5, []) :: (84, .lload 6, []) :: (86, .invokevirtual 59, [3, 3, 2]) :: (89, .iinc 5 1, [1]) :: (92, .goto (-55), [37, 1]) :: []
def p_X2_workRow_80 : List (List (Nat × Nat)) := [] :: [] :: [] :: [] :: [(3, 63)] :: [] :: [] :: []
def b_X2_workRow_37 : List zE := (37, .iload 5, []) :: (39, .aload_n 0, []) :: (40, .getfield 34, [2, 1]) :: (43, .if_icmp .ge 52, [95, 0]) :: (46, .aload_n 0, []) :: (47, .iload_n 2, []) :: (48, .iload 5, []) :: (50, .invokevirtual 74, [0, 2, 2]) :: (53, .lload_n 3, []) :: (54, .aload_n 0, []) :: (55, .iload_n 1, []) :: (56, .iload 5, []) :: (58, .invokevirtual 74, [0, 2, 2]) :: (61, .aload_n 0, []) :: (62, .getfield 40, [2, 3]) :: (65, .invokestatic 93, [4, 4]) :: (68, .lstore 6, []) :: (70, .lload 6, []) :: (72, .invokestatic 89, [2, 1]) :: (75, .ifCond .ne 5, [80, 0]) :: (78, .iconst 0, [0]) :: (79, .ireturn, []) :: []
def p_X2_workRow_37 : List (List (Nat × Nat)) := [] :: [] :: [(2, 14)] :: [] :: [] :: [] :: [] :: [(3, 75)] :: [] :: [] :: [] :: [] :: [(3, 75)] :: [] :: [(2, 17)] :: [(3, 79)] :: [] :: [] :: [(3, 80)] :: [] :: [] :: [] :: []
def b_X2_workRow_25 : List zE := (25, .aload_n 0, []) :: (26, .iload_n 2, []) :: (27, .iload_n 1, []) :: (28, .lload_n 3, []) :: (29, .invokevirtual 59, [3, 3, 2]) :: (32, .iload_n 1, []) :: (33, .iconst 1, [1]) :: (34, .iadd, []) :: (35, .istore 5, []) :: (37, .nop, []) :: []
def p_X2_workRow_25 : List (List (Nat × Nat)) := [] :: [] :: [] :: [] :: [(3, 63)] :: [] :: [] :: [] :: [] :: [] :: []
def b_X2_workRow_0 : List zE := (0, .aload_n 0, []) :: (1, .iload_n 2, []) :: (2, .iload_n 1, []) :: (3, .invokevirtual 74, [0, 2, 2]) :: (6, .aload_n 0, []) :: (7, .iload_n 1, []) :: (8, .iload_n 1, []) :: (9, .invokevirtual 74, [0, 2, 2]) :: (12, .invokestatic 85, [1, 2]) :: (15, .lstore_n 3, []) :: (16, .lload_n 3, []) :: (17, .invokestatic 89, [2, 1]) :: (20, .ifCond .ne 5, [25, 0]) :: (23, .iconst 0, [0]) :: (24, .ireturn, []) :: []
def p_X2_workRow_0 : List (List (Nat × Nat)) := [] :: [] :: [] :: [(3, 75)] :: [] :: [] :: [] :: [(3, 75)] :: [(3, 85)] :: [] :: [] :: [(3, 80)] :: [] :: [] :: [] :: []
def bl_X2_workRow : List (Nat × List zE) := [(0, b_X2_workRow_0), (25, b_X2_workRow_25), (37, b_X2_workRow_37), (80, b_X2_workRow_80), (95, b_X2_workRow_95)]
def pl_X2_workRow : List (List (List (Nat × Nat))) := [p_X2_workRow_0, p_X2_workRow_25, p_X2_workRow_37, p_X2_workRow_80, p_X2_workRow_95]
theorem k_X2_workRow_0 : zlk 0 bl_X2_workRow = b_X2_workRow_0 := rfl
theorem k_X2_workRow_25 : zlk 25 bl_X2_workRow = b_X2_workRow_25 := rfl
theorem k_X2_workRow_37 : zlk 37 bl_X2_workRow = b_X2_workRow_37 := rfl
theorem k_X2_workRow_80 : zlk 80 bl_X2_workRow = b_X2_workRow_80 := rfl
theorem k_X2_workRow_95 : zlk 95 bl_X2_workRow = b_X2_workRow_95 := rfl
set_option maxRecDepth 100000 in
theorem ck_X2_workRow : zall q_X2_workRow.2.2.2.2.1 q_X2_workRow.2.1 2 false q_X2_workRow.2.2.1 cal_X2_workRow q_X2_workRow.2.2.2.1 bl_X2_workRow pl_X2_workRow = true := by decide +kernel
theorem nm_X2_workRow : plainName q_X2_workRow.1.cls = true ∧ zRX 2 = q_X2_workRow.1.cls ∧ (false = true → q_X2_workRow.1.name = "<init>") := ⟨by decide +kernel, rfl, fun h => by first | rfl | cases h⟩
set_option maxRecDepth 100000 in
theorem wd_X2_makeByPivots : zwd q_X2_makeByPivots := ⟨zw_in (p := (3, 92)) (by decide +kernel), zw_in (p := (1, 9)) (by decide +kernel), fun h => absurd h (by decide), fun _ => zw_in (p := (3, 91)) (by decide +kernel), fun _ => zw_in (p := (0, 6)) (by decide +kernel)⟩
def cal_X2_makeByPivots : List zCal := [q_X2_exchange, q_X2_at, q_X0_magnitude, q_X2_workRow]
def b_X2_makeByPivots_73 : List zE := (73, .iconst (-1), [4294967295]) :: (74, .ireturn, []) :: []
def p_X2_makeByPivots_73 : List (List (Nat × Nat)) := [] :: [] :: []
def b_X2_makeByPivots_67 : List zE := (67, .iinc 1 1, [1]) :: (70, .goto (-68), [2, 1]) :: []
def p_X2_makeByPivots_67 : List (List (Nat × Nat)) := [] :: [] :: []
def b_X2_makeByPivots_61 : List zE := (61, .iinc 2 1, [1]) :: (64, .goto (-22), [42, 1]) :: []
def p_X2_makeByPivots_61 : List (List (Nat × Nat)) := [] :: [] :: []
def b_X2_makeByPivots_42 : List zE := (42, .iload_n 2, []) :: (43, .aload_n 0, []) :: (44, .getfield 34, [2, 1]) :: (47, .if_icmp .ge 20, [67, 0]) :: (50, .aload_n 0, []) :: (51, .iload_n 1, []) :: (52, .iload_n 2, []) :: (53, .invokevirtual 81, [3, 2, 2]) :: (56, .ifCond .ne 5, [61, 0]) :: (59, .iload_n 1, []) :: (60, .ireturn, []) :: []
def p_X2_makeByPivots_42 : List (List (Nat × Nat)) := [] :: [] :: [(2, 14)] :: [] :: [] :: [] :: [] :: [(3, 106)] :: [] :: [] :: [] :: []
def b_X2_makeByPivots_38 : List zE := (38, .iload_n 1, []) :: (39, .iconst 1, [1]) :: (40, .iadd, []) :: (41, .istore_n 2, []) :: (42, .nop, []) :: []
def p_X2_makeByPivots_38 : List (List (Nat × Nat)) := [] :: [] :: [] :: [] :: [] :: []
def b_X2_makeByPivots_22 : List zE := (22, .aload_n 0, []) :: (23, .iload_n 1, []) :: (24, .iload_n 1, []) :: (25, .invokevirtual 74, [1, 2, 2]) :: (28, .invokestatic 75, [2, 1]) :: (31, .lconst 0, [0]) :: (32, .lcmp, []) :: (33, .ifCond .ne 5, [38, 0]) :: (36, .iload_n 1, []) :: (37, .ireturn, []) :: []
def p_X2_makeByPivots_22 : List (List (Nat × Nat)) := [] :: [] :: [] :: [(3, 75)] :: [(3, 97)] :: [] :: [] :: [] :: [] :: [] :: []
def b_X2_makeByPivots_2 : List zE := (2, .iload_n 1, []) :: (3, .aload_n 0, []) :: (4, .getfield 34, [2, 1]) :: (7, .if_icmp .ge 66, [73, 0]) :: (10, .aload_n 0, []) :: (11, .getfield 37, [2, 2]) :: (14, .ifCond .eq 8, [22, 0]) :: (17, .aload_n 0, []) :: (18, .iload_n 1, []) :: (19, .invokevirtual 70, [0, 1, 2]) :: (22, .nop, [0]) :: []
def p_X2_makeByPivots_2 : List (List (Nat × Nat)) := [] :: [] :: [(2, 14)] :: [] :: [] :: [(2, 16)] :: [] :: [] :: [] :: [(3, 93)] :: [] :: []
def b_X2_makeByPivots_0 : List zE := (0, .iconst 0, [0]) :: (1, .istore_n 1, []) :: (2, .nop, []) :: []
def p_X2_makeByPivots_0 : List (List (Nat × Nat)) := [] :: [] :: [] :: []
def bl_X2_makeByPivots : List (Nat × List zE) := [(0, b_X2_makeByPivots_0), (2, b_X2_makeByPivots_2), (22, b_X2_makeByPivots_22), (38, b_X2_makeByPivots_38), (42, b_X2_makeByPivots_42), (61, b_X2_makeByPivots_61), (67, b_X2_makeByPivots_67), (73, b_X2_makeByPivots_73)]
def pl_X2_makeByPivots : List (List (List (Nat × Nat))) := [p_X2_makeByPivots_0, p_X2_makeByPivots_2, p_X2_makeByPivots_22, p_X2_makeByPivots_38, p_X2_makeByPivots_42, p_X2_makeByPivots_61, p_X2_makeByPivots_67, p_X2_makeByPivots_73]
theorem k_X2_makeByPivots_0 : zlk 0 bl_X2_makeByPivots = b_X2_makeByPivots_0 := rfl
theorem k_X2_makeByPivots_2 : zlk 2 bl_X2_makeByPivots = b_X2_makeByPivots_2 := rfl
theorem k_X2_makeByPivots_22 : zlk 22 bl_X2_makeByPivots = b_X2_makeByPivots_22 := rfl
theorem k_X2_makeByPivots_38 : zlk 38 bl_X2_makeByPivots = b_X2_makeByPivots_38 := rfl
theorem k_X2_makeByPivots_42 : zlk 42 bl_X2_makeByPivots = b_X2_makeByPivots_42 := rfl
theorem k_X2_makeByPivots_61 : zlk 61 bl_X2_makeByPivots = b_X2_makeByPivots_61 := rfl
theorem k_X2_makeByPivots_67 : zlk 67 bl_X2_makeByPivots = b_X2_makeByPivots_67 := rfl
theorem k_X2_makeByPivots_73 : zlk 73 bl_X2_makeByPivots = b_X2_makeByPivots_73 := rfl
set_option maxRecDepth 100000 in
theorem ck_X2_makeByPivots : zall q_X2_makeByPivots.2.2.2.2.1 q_X2_makeByPivots.2.1 2 false q_X2_makeByPivots.2.2.1 cal_X2_makeByPivots q_X2_makeByPivots.2.2.2.1 bl_X2_makeByPivots pl_X2_makeByPivots = true := by decide +kernel
theorem nm_X2_makeByPivots : plainName q_X2_makeByPivots.1.cls = true ∧ zRX 2 = q_X2_makeByPivots.1.cls ∧ (false = true → q_X2_makeByPivots.1.name = "<init>") := ⟨by decide +kernel, rfl, fun h => by first | rfl | cases h⟩
set_option maxRecDepth 100000 in
theorem wd_X2_make : zwd q_X2_make := ⟨zw_in (p := (3, 53)) (by decide +kernel), zw_in (p := (1, 9)) (by decide +kernel), fun h => absurd h (by decide), fun _ => zw_in (p := (3, 51)) (by decide +kernel), fun _ => zw_in (p := (3, 52)) (by decide +kernel)⟩
def cal_X2_make : List zCal := [q_X3_greatestSize, q_X3_at, q_X2_store, q_X2_makeByRoots, q_X2_makeByPivots]
def b_X2_make_120 : List zE := (120, .ireturn, []) :: []
def p_X2_make_120 : List (List (Nat × Nat)) := [] :: []
def b_X2_make_116 : List zE := (116, .aload_n 0, []) :: (117, .invokevirtual 67, [4, 0, 2]) :: (120, .nop, [0]) :: []
def p_X2_make_116 : List (List (Nat × Nat)) := [] :: [(3, 89)] :: [] :: []
def b_X2_make_101 : List zE := (101, .aload_n 0, []) :: (102, .getfield 37, [2, 2]) :: (105, .iconst 3, [3]) :: (106, .if_icmp .ne 10, [116, 0]) :: (109, .aload_n 0, []) :: (110, .invokevirtual 63, [3, 0, 2]) :: (113, .goto 7, [120, 0]) :: []
def p_X2_make_101 : List (List (Nat × Nat)) := [] :: [(2, 16)] :: [] :: [] :: [] :: [(3, 67)] :: [] :: []
def b_X2_make_95 : List zE := (95, .iinc 4 1, [1]) :: (98, .goto (-64), [34, 1]) :: []
def p_X2_make_95 : List (List (Nat × Nat)) := [] :: [] :: []
def b_X2_make_64 : List zE := (64, .iload 5, []) :: (66, .aload_n 0, []) :: (67, .getfield 34, [2, 1]) :: (70, .if_icmp .ge 25, [95, 0]) :: (73, .aload_n 0, []) :: (74, .iload 4, []) :: (76, .iload 5, []) :: (78, .aload_n 1, []) :: (79, .iload 4, []) :: (81, .iload 5, []) :: (83, .invokevirtual 55, [1, 2, 3]) :: (86, .invokevirtual 59, [2, 3, 2]) :: (89, .iinc 5 1, [1]) :: (92, .goto (-28), [64, 1]) :: []
def p_X2_make_64 : List (List (Nat × Nat)) := [] :: [] :: [(2, 14)] :: [] :: [] :: [] :: [] :: [] :: [] :: [] :: [(3, 62)] :: [(3, 63)] :: [] :: [] :: []
def b_X2_make_34 : List zE := (34, .iload 4, []) :: (36, .aload_n 0, []) :: (37, .getfield 34, [2, 1]) :: (40, .if_icmp .ge 61, [101, 0]) :: (43, .aload_n 0, []) :: (44, .getfield 15, [2, 7]) :: (47, .iload 4, []) :: (49, .iload 4, []) :: (51, .iastore, []) :: (52, .aload_n 0, []) :: (53, .getfield 19, [2, 8]) :: (56, .iload 4, []) :: (58, .iload 4, []) :: (60, .iastore, []) :: (61, .iconst 0, [0]) :: (62, .istore 5, []) :: (64, .nop, []) :: []
def p_X2_make_34 : List (List (Nat × Nat)) := [] :: [] :: [(2, 14)] :: [] :: [] :: [(2, 21)] :: [] :: [] :: [] :: [] :: [(2, 23)] :: [] :: [] :: [] :: [] :: [] :: [] :: []
def b_X2_make_0 : List zE := (0, .aload_n 0, []) :: (1, .aload_n 1, []) :: (2, .getfield 28, [3, 2]) :: (5, .putfield 34, [2, 1]) :: (8, .aload_n 0, []) :: (9, .iload_n 2, []) :: (10, .putfield 37, [2, 2]) :: (13, .aload_n 0, []) :: (14, .iload_n 3, []) :: (15, .putfield 40, [2, 3]) :: (18, .aload_n 0, []) :: (19, .iconst 0, [0]) :: (20, .putfield 44, [2, 4]) :: (23, .aload_n 0, []) :: (24, .aload_n 1, []) :: (25, .invokevirtual 47, [0, 0, 3]) :: (28, .putfield 51, [2, 5]) :: (31, .iconst 0, [0]) :: (32, .istore 4, []) :: (34, .nop, []) :: []
def p_X2_make_0 : List (List (Nat × Nat)) := [] :: [] :: [(1, 217)] :: [(2, 14)] :: [] :: [] :: [(2, 16)] :: [] :: [] :: [(2, 17)] :: [] :: [] :: [(2, 18)] :: [] :: [] :: [(3, 54)] :: [(2, 19)] :: [] :: [] :: [] :: []
def bl_X2_make : List (Nat × List zE) := [(0, b_X2_make_0), (34, b_X2_make_34), (64, b_X2_make_64), (95, b_X2_make_95), (101, b_X2_make_101), (116, b_X2_make_116), (120, b_X2_make_120)]
def pl_X2_make : List (List (List (Nat × Nat))) := [p_X2_make_0, p_X2_make_34, p_X2_make_64, p_X2_make_95, p_X2_make_101, p_X2_make_116, p_X2_make_120]
theorem k_X2_make_0 : zlk 0 bl_X2_make = b_X2_make_0 := rfl
theorem k_X2_make_34 : zlk 34 bl_X2_make = b_X2_make_34 := rfl
theorem k_X2_make_64 : zlk 64 bl_X2_make = b_X2_make_64 := rfl
theorem k_X2_make_95 : zlk 95 bl_X2_make = b_X2_make_95 := rfl
theorem k_X2_make_101 : zlk 101 bl_X2_make = b_X2_make_101 := rfl
theorem k_X2_make_116 : zlk 116 bl_X2_make = b_X2_make_116 := rfl
theorem k_X2_make_120 : zlk 120 bl_X2_make = b_X2_make_120 := rfl
set_option maxRecDepth 100000 in
theorem ck_X2_make : zall q_X2_make.2.2.2.2.1 q_X2_make.2.1 2 false q_X2_make.2.2.1 cal_X2_make q_X2_make.2.2.2.1 bl_X2_make pl_X2_make = true := by decide +kernel
theorem nm_X2_make : plainName q_X2_make.1.cls = true ∧ zRX 2 = q_X2_make.1.cls ∧ (false = true → q_X2_make.1.name = "<init>") := ⟨by decide +kernel, rfl, fun h => by first | rfl | cases h⟩
set_option maxRecDepth 100000 in
theorem wd_X2_forward : zwd q_X2_forward := ⟨zw_in (p := (3, 197)) (by decide +kernel), zw_in (p := (1, 9)) (by decide +kernel), fun h => absurd h (by decide), fun _ => zw_in (p := (3, 196)) (by decide +kernel), fun _ => zw_in (p := (0, 14)) (by decide +kernel)⟩
def cal_X2_forward : List zCal := [q_X2_at, q_X0_less, q_X0_finite, q_X0_over]
def b_X2_forward_82 : List zE := (82, .lastore, []) :: (83, .aload_n 0, []) :: (84, .getfield 22, [2, 9]) :: (87, .iload_n 1, []) :: (88, .laload, []) :: (89, .invokestatic 89, [2, 1]) :: (92, .ireturn, []) :: []
def p_X2_forward_82 : List (List (Nat × Nat)) := [] :: [] :: [(2, 25)] :: [] :: [] :: [(3, 80)] :: [] :: []
def b_X2_forward_80 : List zE := (80, .lload 4, []) :: (82, .nop, [0]) :: []
def p_X2_forward_80 : List (List (Nat × Nat)) := [] :: [] :: []
def b_X2_forward_53 : List zE := (53, .aload_n 0, []) :: (54, .getfield 22, [2, 9]) :: (57, .iload_n 1, []) :: (58, .aload_n 0, []) :: (59, .getfield 37, [2, 2]) :: (62, .iconst 3, [3]) :: (63, .if_icmp .ne 17, [80, 0]) :: (66, .lload 4, []) :: (68, .aload_n 0, []) :: (69, .iload_n 1, []) :: (70, .iload_n 1, []) :: (71, .invokevirtual 74, [0, 2, 2]) :: (74, .invokestatic 85, [3, 2]) :: (77, .goto 5, [82, 0]) :: []
def p_X2_forward_53 : List (List (Nat × Nat)) := [] :: [(2, 25)] :: [] :: [] :: [(2, 16)] :: [] :: [] :: [] :: [] :: [] :: [] :: [(3, 75)] :: [(3, 85)] :: [] :: []
def b_X2_forward_47 : List zE := (47, .iinc 6 1, [1]) :: (50, .goto (-44), [6, 1]) :: []
def p_X2_forward_47 : List (List (Nat × Nat)) := [] :: [] :: []
def b_X2_forward_6 : List zE := (6, .iload 6, []) :: (8, .iload_n 1, []) :: (9, .if_icmp .ge 44, [53, 0]) :: (12, .lload 4, []) :: (14, .aload_n 0, []) :: (15, .iload_n 1, []) :: (16, .iload 6, []) :: (18, .invokevirtual 74, [0, 2, 2]) :: (21, .aload_n 0, []) :: (22, .getfield 22, [2, 9]) :: (25, .iload 6, []) :: (27, .laload, []) :: (28, .aload_n 0, []) :: (29, .getfield 40, [2, 3]) :: (32, .invokestatic 93, [1, 4]) :: (35, .lstore 4, []) :: (37, .lload 4, []) :: (39, .invokestatic 89, [2, 1]) :: (42, .ifCond .ne 5, [47, 0]) :: (45, .iconst 0, [0]) :: (46, .ireturn, []) :: []
def p_X2_forward_6 : List (List (Nat × Nat)) := [] :: [] :: [] :: [] :: [] :: [] :: [] :: [(3, 75)] :: [] :: [(2, 25)] :: [] :: [] :: [] :: [(2, 17)] :: [(3, 79)] :: [] :: [] :: [(3, 80)] :: [] :: [] :: [] :: []
def b_X2_forward_0 : List zE := (0, .lload_n 2, []) :: (1, .lstore 4, []) :: (3, .iconst 0, [0]) :: (4, .istore 6, []) :: (6, .nop, []) :: []
def p_X2_forward_0 : List (List (Nat × Nat)) := [] :: [] :: [] :: [] :: [] :: []
def bl_X2_forward : List (Nat × List zE) := [(0, b_X2_forward_0), (6, b_X2_forward_6), (47, b_X2_forward_47), (53, b_X2_forward_53), (80, b_X2_forward_80), (82, b_X2_forward_82)]
def pl_X2_forward : List (List (List (Nat × Nat))) := [p_X2_forward_0, p_X2_forward_6, p_X2_forward_47, p_X2_forward_53, p_X2_forward_80, p_X2_forward_82]
theorem k_X2_forward_0 : zlk 0 bl_X2_forward = b_X2_forward_0 := rfl
theorem k_X2_forward_6 : zlk 6 bl_X2_forward = b_X2_forward_6 := rfl
theorem k_X2_forward_47 : zlk 47 bl_X2_forward = b_X2_forward_47 := rfl
theorem k_X2_forward_53 : zlk 53 bl_X2_forward = b_X2_forward_53 := rfl
theorem k_X2_forward_80 : zlk 80 bl_X2_forward = b_X2_forward_80 := rfl
theorem k_X2_forward_82 : zlk 82 bl_X2_forward = b_X2_forward_82 := rfl
set_option maxRecDepth 100000 in
theorem ck_X2_forward : zall q_X2_forward.2.2.2.2.1 q_X2_forward.2.1 2 false q_X2_forward.2.2.1 cal_X2_forward q_X2_forward.2.2.2.1 bl_X2_forward pl_X2_forward = true := by decide +kernel
theorem nm_X2_forward : plainName q_X2_forward.1.cls = true ∧ zRX 2 = q_X2_forward.1.cls ∧ (false = true → q_X2_forward.1.name = "<init>") := ⟨by decide +kernel, rfl, fun h => by first | rfl | cases h⟩
set_option maxRecDepth 100000 in
theorem wd_X2_backward : zwd q_X2_backward := ⟨zw_in (p := (3, 201)) (by decide +kernel), zw_in (p := (1, 9)) (by decide +kernel), fun h => absurd h (by decide), fun _ => zw_in (p := (3, 200)) (by decide +kernel), fun _ => zw_in (p := (0, 15)) (by decide +kernel)⟩
def cal_X2_backward : List zCal := [q_X2_at, q_X0_less, q_X0_finite, q_X0_over]
def b_X2_backward_77 : List zE := (77, .aload_n 0, []) :: (78, .getfield 25, [2, 10]) :: (81, .iload_n 1, []) :: (82, .lload_n 2, []) :: (83, .aload_n 0, []) :: (84, .iload_n 1, []) :: (85, .iload_n 1, []) :: (86, .invokevirtual 74, [0, 2, 2]) :: (89, .invokestatic 85, [3, 2]) :: (92, .lastore, []) :: (93, .aload_n 0, []) :: (94, .getfield 25, [2, 10]) :: (97, .iload_n 1, []) :: (98, .laload, []) :: (99, .invokestatic 89, [2, 1]) :: (102, .ireturn, []) :: []
def p_X2_backward_77 : List (List (Nat × Nat)) := [] :: [(2, 26)] :: [] :: [] :: [] :: [] :: [] :: [(3, 75)] :: [(3, 85)] :: [] :: [] :: [(2, 26)] :: [] :: [] :: [(3, 80)] :: [] :: []
def b_X2_backward_71 : List zE := (71, .iinc 4 1, [1]) :: (74, .goto (-62), [12, 1]) :: []
def p_X2_backward_71 : List (List (Nat × Nat)) := [] :: [] :: []
def b_X2_backward_47 : List zE := (47, .aload_n 0, []) :: (48, .getfield 25, [2, 10]) :: (51, .iload 4, []) :: (53, .laload, []) :: (54, .aload_n 0, []) :: (55, .getfield 40, [2, 3]) :: (58, .invokestatic 93, [1, 4]) :: (61, .lstore_n 2, []) :: (62, .lload_n 2, []) :: (63, .invokestatic 89, [2, 1]) :: (66, .ifCond .ne 5, [71, 0]) :: (69, .iconst 0, [0]) :: (70, .ireturn, []) :: []
def p_X2_backward_47 : List (List (Nat × Nat)) := [] :: [(2, 26)] :: [] :: [] :: [] :: [(2, 17)] :: [(3, 79)] :: [] :: [] :: [(3, 80)] :: [] :: [] :: [] :: []
def b_X2_backward_40 : List zE := (40, .aload_n 0, []) :: (41, .iload_n 1, []) :: (42, .iload 4, []) :: (44, .invokevirtual 74, [0, 2, 2]) :: (47, .nop, [0]) :: []
def p_X2_backward_40 : List (List (Nat × Nat)) := [] :: [] :: [] :: [(3, 75)] :: [] :: []
def b_X2_backward_12 : List zE := (12, .iload 4, []) :: (14, .aload_n 0, []) :: (15, .getfield 34, [2, 1]) :: (18, .if_icmp .ge 59, [77, 0]) :: (21, .lload_n 2, []) :: (22, .aload_n 0, []) :: (23, .getfield 37, [2, 2]) :: (26, .iconst 3, [3]) :: (27, .if_icmp .ne 13, [40, 0]) :: (30, .aload_n 0, []) :: (31, .iload 4, []) :: (33, .iload_n 1, []) :: (34, .invokevirtual 74, [0, 2, 2]) :: (37, .goto 10, [47, 0]) :: []
def p_X2_backward_12 : List (List (Nat × Nat)) := [] :: [] :: [(2, 14)] :: [] :: [] :: [] :: [(2, 16)] :: [] :: [] :: [] :: [] :: [] :: [(3, 75)] :: [] :: []
def b_X2_backward_0 : List zE := (0, .aload_n 0, []) :: (1, .getfield 22, [2, 9]) :: (4, .iload_n 1, []) :: (5, .laload, []) :: (6, .lstore_n 2, []) :: (7, .iload_n 1, []) :: (8, .iconst 1, [1]) :: (9, .iadd, []) :: (10, .istore 4, []) :: (12, .nop, []) :: []
def p_X2_backward_0 : List (List (Nat × Nat)) := [] :: [(2, 25)] :: [] :: [] :: [] :: [] :: [] :: [] :: [] :: [] :: []
def bl_X2_backward : List (Nat × List zE) := [(0, b_X2_backward_0), (12, b_X2_backward_12), (40, b_X2_backward_40), (47, b_X2_backward_47), (71, b_X2_backward_71), (77, b_X2_backward_77)]
def pl_X2_backward : List (List (List (Nat × Nat))) := [p_X2_backward_0, p_X2_backward_12, p_X2_backward_40, p_X2_backward_47, p_X2_backward_71, p_X2_backward_77]
theorem k_X2_backward_0 : zlk 0 bl_X2_backward = b_X2_backward_0 := rfl
theorem k_X2_backward_12 : zlk 12 bl_X2_backward = b_X2_backward_12 := rfl
theorem k_X2_backward_40 : zlk 40 bl_X2_backward = b_X2_backward_40 := rfl
theorem k_X2_backward_47 : zlk 47 bl_X2_backward = b_X2_backward_47 := rfl
theorem k_X2_backward_71 : zlk 71 bl_X2_backward = b_X2_backward_71 := rfl
theorem k_X2_backward_77 : zlk 77 bl_X2_backward = b_X2_backward_77 := rfl
set_option maxRecDepth 100000 in
theorem ck_X2_backward : zall q_X2_backward.2.2.2.2.1 q_X2_backward.2.1 2 false q_X2_backward.2.2.1 cal_X2_backward q_X2_backward.2.2.2.1 bl_X2_backward pl_X2_backward = true := by decide +kernel
theorem nm_X2_backward : plainName q_X2_backward.1.cls = true ∧ zRX 2 = q_X2_backward.1.cls ∧ (false = true → q_X2_backward.1.name = "<init>") := ⟨by decide +kernel, rfl, fun h => by first | rfl | cases h⟩
set_option maxRecDepth 100000 in
theorem wd_X2_answer : zwd q_X2_answer := ⟨zw_in (p := (3, 193)) (by decide +kernel), zw_in (p := (1, 9)) (by decide +kernel), fun h => absurd h (by decide), fun _ => zw_in (p := (3, 191)) (by decide +kernel), fun _ => zw_in (p := (3, 192)) (by decide +kernel)⟩
def cal_X2_answer : List zCal := [q_X2_forward, q_X2_backward, q_X0_unsignedZero]
def b_X2_answer_110 : List zE := (110, .iconst 1, [1]) :: (111, .ireturn, []) :: []
def p_X2_answer_110 : List (List (Nat × Nat)) := [] :: [] :: []
def b_X2_answer_91 : List zE := (91, .aload_n 2, []) :: (92, .iload 4, []) :: (94, .aload_n 0, []) :: (95, .getfield 25, [2, 10]) :: (98, .iload_n 3, []) :: (99, .laload, []) :: (100, .invokestatic 118, [2, 1]) :: (103, .lastore, []) :: (104, .iinc 3 (-1), [4294967295]) :: (107, .goto (-50), [57, 1]) :: []
def p_X2_answer_91 : List (List (Nat × Nat)) := [] :: [] :: [] :: [(2, 26)] :: [] :: [] :: [(3, 202)] :: [] :: [] :: [] :: []
def b_X2_answer_89 : List zE := (89, .iconst 0, [0]) :: (90, .ireturn, []) :: []
def p_X2_answer_89 : List (List (Nat × Nat)) := [] :: [] :: []
def b_X2_answer_57 : List zE := (57, .iload_n 3, []) :: (58, .ifCond .lt 52, [110, 0]) :: (61, .aload_n 0, []) :: (62, .getfield 19, [2, 8]) :: (65, .iload_n 3, []) :: (66, .iaload, []) :: (67, .istore 4, []) :: (69, .iload 4, []) :: (71, .ifCond .lt 18, [89, 0]) :: (74, .iload 4, []) :: (76, .aload_n 2, []) :: (77, .arraylength, []) :: (78, .if_icmp .ge 11, [89, 0]) :: (81, .aload_n 0, []) :: (82, .iload_n 3, []) :: (83, .invokevirtual 114, [1, 1, 2]) :: (86, .ifCond .ne 5, [91, 0]) :: (89, .nop, [0]) :: []
def p_X2_answer_57 : List (List (Nat × Nat)) := [] :: [] :: [] :: [(2, 23)] :: [] :: [] :: [] :: [] :: [] :: [] :: [] :: [] :: [] :: [] :: [] :: [(3, 198)] :: [] :: [] :: []
def b_X2_answer_50 : List zE := (50, .aload_n 0, []) :: (51, .getfield 34, [2, 1]) :: (54, .iconst 1, [1]) :: (55, .isub, []) :: (56, .istore_n 3, []) :: (57, .nop, []) :: []
def p_X2_answer_50 : List (List (Nat × Nat)) := [] :: [(2, 14)] :: [] :: [] :: [] :: [] :: []
def b_X2_answer_44 : List zE := (44, .iinc 3 1, [1]) :: (47, .goto (-45), [2, 1]) :: []
def p_X2_answer_44 : List (List (Nat × Nat)) := [] :: [] :: []
def b_X2_answer_42 : List zE := (42, .iconst 0, [0]) :: (43, .ireturn, []) :: []
def p_X2_answer_42 : List (List (Nat × Nat)) := [] :: [] :: []
def b_X2_answer_2 : List zE := (2, .iload_n 3, []) :: (3, .aload_n 0, []) :: (4, .getfield 34, [2, 1]) :: (7, .if_icmp .ge 43, [50, 0]) :: (10, .aload_n 0, []) :: (11, .getfield 15, [2, 7]) :: (14, .iload_n 3, []) :: (15, .iaload, []) :: (16, .istore 4, []) :: (18, .iload 4, []) :: (20, .ifCond .lt 22, [42, 0]) :: (23, .iload 4, []) :: (25, .aload_n 1, []) :: (26, .arraylength, []) :: (27, .if_icmp .ge 15, [42, 0]) :: (30, .aload_n 0, []) :: (31, .iload_n 3, []) :: (32, .aload_n 1, []) :: (33, .iload 4, []) :: (35, .laload, []) :: (36, .invokevirtual 110, [0, 2, 2]) :: (39, .ifCond .ne 5, [44, 0]) :: (42, .nop, [0]) :: []
def p_X2_answer_2 : List (List (Nat × Nat)) := [] :: [] :: [(2, 14)] :: [] :: [] :: [(2, 21)] :: [] :: [] :: [] :: [] :: [] :: [] :: [] :: [] :: [] :: [] :: [] :: [] :: [] :: [] :: [(3, 194)] :: [] :: [] :: []
def b_X2_answer_0 : List zE := (0, .iconst 0, [0]) :: (1, .istore_n 3, []) :: (2, .nop, []) :: []
def p_X2_answer_0 : List (List (Nat × Nat)) := [] :: [] :: [] :: []
def bl_X2_answer : List (Nat × List zE) := [(0, b_X2_answer_0), (2, b_X2_answer_2), (42, b_X2_answer_42), (44, b_X2_answer_44), (50, b_X2_answer_50), (57, b_X2_answer_57), (89, b_X2_answer_89), (91, b_X2_answer_91), (110, b_X2_answer_110)]
def pl_X2_answer : List (List (List (Nat × Nat))) := [p_X2_answer_0, p_X2_answer_2, p_X2_answer_42, p_X2_answer_44, p_X2_answer_50, p_X2_answer_57, p_X2_answer_89, p_X2_answer_91, p_X2_answer_110]
theorem k_X2_answer_0 : zlk 0 bl_X2_answer = b_X2_answer_0 := rfl
theorem k_X2_answer_2 : zlk 2 bl_X2_answer = b_X2_answer_2 := rfl
theorem k_X2_answer_42 : zlk 42 bl_X2_answer = b_X2_answer_42 := rfl
theorem k_X2_answer_44 : zlk 44 bl_X2_answer = b_X2_answer_44 := rfl
theorem k_X2_answer_50 : zlk 50 bl_X2_answer = b_X2_answer_50 := rfl
theorem k_X2_answer_57 : zlk 57 bl_X2_answer = b_X2_answer_57 := rfl
theorem k_X2_answer_89 : zlk 89 bl_X2_answer = b_X2_answer_89 := rfl
theorem k_X2_answer_91 : zlk 91 bl_X2_answer = b_X2_answer_91 := rfl
theorem k_X2_answer_110 : zlk 110 bl_X2_answer = b_X2_answer_110 := rfl
set_option maxRecDepth 100000 in
theorem ck_X2_answer : zall q_X2_answer.2.2.2.2.1 q_X2_answer.2.1 2 false q_X2_answer.2.2.1 cal_X2_answer q_X2_answer.2.2.2.1 bl_X2_answer pl_X2_answer = true := by decide +kernel
theorem nm_X2_answer : plainName q_X2_answer.1.cls = true ∧ zRX 2 = q_X2_answer.1.cls ∧ (false = true → q_X2_answer.1.name = "<init>") := ⟨by decide +kernel, rfl, fun h => by first | rfl | cases h⟩
set_option maxRecDepth 100000 in
theorem wd_X2_grown : zwd q_X2_grown := ⟨zw_in (p := (3, 134)) (by decide +kernel), zw_in (p := (1, 9)) (by decide +kernel), fun h => absurd h (by decide), fun _ => zw_in (p := (3, 132)) (by decide +kernel), fun _ => zw_in (p := (3, 133)) (by decide +kernel)⟩
def cal_X2_grown : List zCal := [q_X2_at, q_X0_magnitude, q_X0_over]
def b_X2_grown_74 : List zE := (74, .lload_n 1, []) :: (75, .aload_n 0, []) :: (76, .getfield 51, [2, 5]) :: (79, .invokestatic 85, [2, 2]) :: (82, .lreturn, []) :: []
def p_X2_grown_74 : List (List (Nat × Nat)) := [] :: [] :: [(2, 19)] :: [(3, 85)] :: [] :: []
def b_X2_grown_68 : List zE := (68, .iinc 3 1, [1]) :: (71, .goto (-67), [4, 1]) :: []
def p_X2_grown_68 : List (List (Nat × Nat)) := [] :: [] :: []
def b_X2_grown_62 : List zE := (62, .iinc 4 1, [1]) :: (65, .goto (-50), [15, 1]) :: []
def p_X2_grown_62 : List (List (Nat × Nat)) := [] :: [] :: []
def b_X2_grown_47 : List zE := (47, .lload_n 1, []) :: (48, .aload_n 0, []) :: (49, .iload_n 3, []) :: (50, .iload 4, []) :: (52, .invokevirtual 74, [0, 2, 2]) :: (55, .invokestatic 75, [1, 1]) :: (58, .invokestatic 121, [105]) :: (61, .lstore_n 1, []) :: (62, .nop, [0]) :: []
def p_X2_grown_47 : List (List (Nat × Nat)) := [] :: [] :: [] :: [] :: [(3, 75)] :: [(3, 97)] :: [(3, 135), (3, 60), (1, 14), (3, 61)] :: [] :: [] :: []
def b_X2_grown_41 : List zE := (41, .iload 4, []) :: (43, .iload_n 3, []) :: (44, .if_icmp .lt 18, [62, 0]) :: (47, .nop, [0]) :: []
def p_X2_grown_41 : List (List (Nat × Nat)) := [] :: [] :: [] :: [] :: []
def b_X2_grown_15 : List zE := (15, .iload 4, []) :: (17, .aload_n 0, []) :: (18, .getfield 34, [2, 1]) :: (21, .if_icmp .ge 47, [68, 0]) :: (24, .aload_n 0, []) :: (25, .getfield 37, [2, 2]) :: (28, .iconst 3, [3]) :: (29, .if_icmp .ne 12, [41, 0]) :: (32, .iload 4, []) :: (34, .iload_n 3, []) :: (35, .if_icmp .gt 27, [62, 0]) :: (38, .goto 9, [47, 0]) :: []
def p_X2_grown_15 : List (List (Nat × Nat)) := [] :: [] :: [(2, 14)] :: [] :: [] :: [(2, 16)] :: [] :: [] :: [] :: [] :: [] :: [] :: []
def b_X2_grown_4 : List zE := (4, .iload_n 3, []) :: (5, .aload_n 0, []) :: (6, .getfield 34, [2, 1]) :: (9, .if_icmp .ge 65, [74, 0]) :: (12, .iconst 0, [0]) :: (13, .istore 4, []) :: (15, .nop, []) :: []
def p_X2_grown_4 : List (List (Nat × Nat)) := [] :: [] :: [(2, 14)] :: [] :: [] :: [] :: [] :: []
def b_X2_grown_0 : List zE := (0, .lconst 0, [0]) :: (1, .lstore_n 1, []) :: (2, .iconst 0, [0]) :: (3, .istore_n 3, []) :: (4, .nop, []) :: []
def p_X2_grown_0 : List (List (Nat × Nat)) := [] :: [] :: [] :: [] :: [] :: []
def bl_X2_grown : List (Nat × List zE) := [(0, b_X2_grown_0), (4, b_X2_grown_4), (15, b_X2_grown_15), (41, b_X2_grown_41), (47, b_X2_grown_47), (62, b_X2_grown_62), (68, b_X2_grown_68), (74, b_X2_grown_74)]
def pl_X2_grown : List (List (List (Nat × Nat))) := [p_X2_grown_0, p_X2_grown_4, p_X2_grown_15, p_X2_grown_41, p_X2_grown_47, p_X2_grown_62, p_X2_grown_68, p_X2_grown_74]
theorem k_X2_grown_0 : zlk 0 bl_X2_grown = b_X2_grown_0 := rfl
theorem k_X2_grown_4 : zlk 4 bl_X2_grown = b_X2_grown_4 := rfl
theorem k_X2_grown_15 : zlk 15 bl_X2_grown = b_X2_grown_15 := rfl
theorem k_X2_grown_41 : zlk 41 bl_X2_grown = b_X2_grown_41 := rfl
theorem k_X2_grown_47 : zlk 47 bl_X2_grown = b_X2_grown_47 := rfl
theorem k_X2_grown_62 : zlk 62 bl_X2_grown = b_X2_grown_62 := rfl
theorem k_X2_grown_68 : zlk 68 bl_X2_grown = b_X2_grown_68 := rfl
theorem k_X2_grown_74 : zlk 74 bl_X2_grown = b_X2_grown_74 := rfl
set_option maxRecDepth 100000 in
theorem ck_X2_grown : zall q_X2_grown.2.2.2.2.1 q_X2_grown.2.1 2 false q_X2_grown.2.2.1 cal_X2_grown q_X2_grown.2.2.2.1 bl_X2_grown pl_X2_grown = true := by decide +kernel
theorem nm_X2_grown : plainName q_X2_grown.1.cls = true ∧ zRX 2 = q_X2_grown.1.cls ∧ (false = true → q_X2_grown.1.name = "<init>") := ⟨by decide +kernel, rfl, fun h => by first | rfl | cases h⟩
set_option maxRecDepth 100000 in
theorem wd_X2_pivotProduct : zwd q_X2_pivotProduct := ⟨zw_in (p := (3, 143)) (by decide +kernel), zw_in (p := (1, 9)) (by decide +kernel), fun h => absurd h (by decide), fun _ => zw_in (p := (3, 141)) (by decide +kernel), fun _ => zw_in (p := (3, 142)) (by decide +kernel)⟩
def cal_X2_pivotProduct : List zCal := [q_X2_at, q_X0_fullMantissa, q_X0_times, q_X0_fullScale, q_X0_magnitude]
def b_X2_pivotProduct_168 : List zE := (168, .lreturn, []) :: []
def p_X2_pivotProduct_168 : List (List (Nat × Nat)) := [] :: []
def b_X2_pivotProduct_167 : List zE := (167, .lload_n 2, []) :: (168, .nop, [0]) :: []
def p_X2_pivotProduct_167 : List (List (Nat × Nat)) := [] :: [] :: []
def b_X2_pivotProduct_158 : List zE := (158, .iload_n 1, []) :: (159, .ifCond .eq 8, [167, 0]) :: (162, .lload 4, []) :: (164, .goto 4, [168, 0]) :: []
def p_X2_pivotProduct_158 : List (List (Nat × Nat)) := [] :: [] :: [] :: [] :: []
def b_X2_pivotProduct_114 : List zE := (114, .aload_n 0, []) :: (115, .getfield 37, [2, 2]) :: (118, .iconst 3, [3]) :: (119, .if_icmp .ne 39, [158, 0]) :: (122, .lload_n 2, []) :: (123, .lload_n 2, []) :: (124, .invokestatic 137, [2, 2]) :: (127, .lstore_n 2, []) :: (128, .lload 4, []) :: (130, .lload 4, []) :: (132, .ladd, []) :: (133, .lstore 4, []) :: (135, .lload_n 2, []) :: (136, .invokestatic 75, [4, 1]) :: (139, .ldc2_w 144, [4611686018427387904]) :: (142, .lcmp, []) :: (143, .ifCond .lt 15, [158, 0]) :: (146, .lload_n 2, []) :: (147, .ldc2_w 146, [4503599627370496]) :: (150, .lsub, []) :: (151, .lstore_n 2, []) :: (152, .lload 4, []) :: (154, .lconst 1, [1]) :: (155, .ladd, []) :: (156, .lstore 4, []) :: (158, .nop, [0]) :: []
def p_X2_pivotProduct_114 : List (List (Nat × Nat)) := [] :: [(2, 16)] :: [] :: [] :: [] :: [] :: [(3, 149)] :: [] :: [] :: [] :: [] :: [] :: [] :: [(3, 97)] :: [(3, 151)] :: [] :: [] :: [] :: [(3, 152)] :: [] :: [] :: [] :: [] :: [] :: [] :: [] :: []
def b_X2_pivotProduct_108 : List zE := (108, .iinc 6 1, [1]) :: (111, .goto (-88), [23, 1]) :: []
def p_X2_pivotProduct_108 : List (List (Nat × Nat)) := [] :: [] :: []
def b_X2_pivotProduct_23 : List zE := (23, .iload 6, []) :: (25, .aload_n 0, []) :: (26, .getfield 34, [2, 1]) :: (29, .if_icmp .ge 85, [114, 0]) :: (32, .aload_n 0, []) :: (33, .iload 6, []) :: (35, .iload 6, []) :: (37, .invokevirtual 74, [0, 2, 2]) :: (40, .lstore 7, []) :: (42, .lload 7, []) :: (44, .ldc2_w 130, [9223372036854775808]) :: (47, .land, []) :: (48, .ldc2_w 128, [4607182418800017408]) :: (51, .lor, []) :: (52, .lload 7, []) :: (54, .invokestatic 132, [1, 1]) :: (57, .ldc2_w 135, [4503599627370495]) :: (60, .land, []) :: (61, .lor, []) :: (62, .lstore 9, []) :: (64, .lload_n 2, []) :: (65, .lload 9, []) :: (67, .invokestatic 137, [2, 2]) :: (70, .lstore_n 2, []) :: (71, .lload 4, []) :: (73, .lload 7, []) :: (75, .invokestatic 140, [3, 1]) :: (78, .bipush 52, [52]) :: (80, .iadd, []) :: (81, .i2l, []) :: (82, .ladd, []) :: (83, .lstore 4, []) :: (85, .lload_n 2, []) :: (86, .invokestatic 75, [4, 1]) :: (89, .ldc2_w 144, [4611686018427387904]) :: (92, .lcmp, []) :: (93, .ifCond .lt 15, [108, 0]) :: (96, .lload_n 2, []) :: (97, .ldc2_w 146, [4503599627370496]) :: (100, .lsub, []) :: (101, .lstore_n 2, []) :: (102, .lload 4, []) :: (104, .lconst 1, [1]) :: (105, .ladd, []) :: (106, .lstore 4, []) :: (108, .nop, [0]) :: []
def p_X2_pivotProduct_23 : List (List (Nat × Nat)) := [] :: [] :: [(2, 14)] :: [] :: [] :: [] :: [] :: [(3, 75)] :: [] :: [] :: [(3, 146)] :: [] :: [(3, 145)] :: [] :: [] :: [(3, 147)] :: [(3, 148)] :: [] :: [] :: [] :: [] :: [] :: [(3, 149)] :: [] :: [] :: [] :: [(3, 150)] :: [] :: [] :: [] :: [] :: [] :: [] :: [(3, 97)] :: [(3, 151)] :: [] :: [] :: [] :: [(3, 152)] :: [] :: [] :: [] :: [] :: [] :: [] :: [] :: []
def b_X2_pivotProduct_16 : List zE := (16, .lstore_n 2, []) :: (17, .lconst 0, [0]) :: (18, .lstore 4, []) :: (20, .iconst 0, [0]) :: (21, .istore 6, []) :: (23, .nop, []) :: []
def p_X2_pivotProduct_16 : List (List (Nat × Nat)) := [] :: [] :: [] :: [] :: [] :: [] :: []
def b_X2_pivotProduct_13 : List zE := (13, .ldc2_w 128, [4607182418800017408]) :: (16, .nop, [0]) :: []
def p_X2_pivotProduct_13 : List (List (Nat × Nat)) := [(3, 145)] :: [] :: []
def b_X2_pivotProduct_0 : List zE := (0, .aload_n 0, []) :: (1, .getfield 44, [2, 4]) :: (4, .ifCond .eq 9, [13, 0]) :: (7, .ldc2_w 126, [13830554455654793216]) :: (10, .goto 6, [16, 0]) :: []
def p_X2_pivotProduct_0 : List (List (Nat × Nat)) := [] :: [(2, 18)] :: [] :: [(3, 144)] :: [] :: []
def bl_X2_pivotProduct : List (Nat × List zE) := [(0, b_X2_pivotProduct_0), (13, b_X2_pivotProduct_13), (16, b_X2_pivotProduct_16), (23, b_X2_pivotProduct_23), (108, b_X2_pivotProduct_108), (114, b_X2_pivotProduct_114), (158, b_X2_pivotProduct_158), (167, b_X2_pivotProduct_167), (168, b_X2_pivotProduct_168)]
def pl_X2_pivotProduct : List (List (List (Nat × Nat))) := [p_X2_pivotProduct_0, p_X2_pivotProduct_13, p_X2_pivotProduct_16, p_X2_pivotProduct_23, p_X2_pivotProduct_108, p_X2_pivotProduct_114, p_X2_pivotProduct_158, p_X2_pivotProduct_167, p_X2_pivotProduct_168]
theorem k_X2_pivotProduct_0 : zlk 0 bl_X2_pivotProduct = b_X2_pivotProduct_0 := rfl
theorem k_X2_pivotProduct_13 : zlk 13 bl_X2_pivotProduct = b_X2_pivotProduct_13 := rfl
theorem k_X2_pivotProduct_16 : zlk 16 bl_X2_pivotProduct = b_X2_pivotProduct_16 := rfl
theorem k_X2_pivotProduct_23 : zlk 23 bl_X2_pivotProduct = b_X2_pivotProduct_23 := rfl
theorem k_X2_pivotProduct_108 : zlk 108 bl_X2_pivotProduct = b_X2_pivotProduct_108 := rfl
theorem k_X2_pivotProduct_114 : zlk 114 bl_X2_pivotProduct = b_X2_pivotProduct_114 := rfl
theorem k_X2_pivotProduct_158 : zlk 158 bl_X2_pivotProduct = b_X2_pivotProduct_158 := rfl
theorem k_X2_pivotProduct_167 : zlk 167 bl_X2_pivotProduct = b_X2_pivotProduct_167 := rfl
theorem k_X2_pivotProduct_168 : zlk 168 bl_X2_pivotProduct = b_X2_pivotProduct_168 := rfl
set_option maxRecDepth 100000 in
theorem ck_X2_pivotProduct : zall q_X2_pivotProduct.2.2.2.2.1 q_X2_pivotProduct.2.1 2 false q_X2_pivotProduct.2.2.1 cal_X2_pivotProduct q_X2_pivotProduct.2.2.2.1 bl_X2_pivotProduct pl_X2_pivotProduct = true := by decide +kernel
theorem nm_X2_pivotProduct : plainName q_X2_pivotProduct.1.cls = true ∧ zRX 2 = q_X2_pivotProduct.1.cls ∧ (false = true → q_X2_pivotProduct.1.name = "<init>") := ⟨by decide +kernel, rfl, fun h => by first | rfl | cases h⟩
set_option maxRecDepth 100000 in
theorem wd_X3_init : zwd q_X3_init := ⟨zw_in (p := (1, 207)) (by decide +kernel), zw_in (p := (1, 8)) (by decide +kernel), fun h => absurd h (by decide), fun _ => zw_in (p := (1, 206)) (by decide +kernel), fun h => absurd h (by decide)⟩
def cal_X3_init : List zCal := []
def b_X3_init_0 : List zE := (0, .aload_n 0, []) :: (1, .invokespecial 3, []) :: (4, .aload_n 0, []) :: (5, .bipush 64, [64]) :: (7, .newarray .long, [22]) :: (9, .putfield 9, [3, 6]) :: (12, .return_, []) :: []
def p_X3_init_0 : List (List (Nat × Nat)) := [] :: [(1, 208), (1, 21), (1, 22)] :: [] :: [] :: [(1, 54)] :: [(1, 232)] :: [] :: []
def bl_X3_init : List (Nat × List zE) := [(0, b_X3_init_0)]
def pl_X3_init : List (List (List (Nat × Nat))) := [p_X3_init_0]
theorem k_X3_init_0 : zlk 0 bl_X3_init = b_X3_init_0 := rfl
set_option maxRecDepth 100000 in
theorem ck_X3_init : zall q_X3_init.2.2.2.2.1 q_X3_init.2.1 3 true q_X3_init.2.2.1 cal_X3_init q_X3_init.2.2.2.1 bl_X3_init pl_X3_init = true := by decide +kernel
theorem nm_X3_init : plainName q_X3_init.1.cls = true ∧ zRX 3 = q_X3_init.1.cls ∧ (true = true → q_X3_init.1.name = "<init>") := ⟨by decide +kernel, rfl, fun h => by first | rfl | cases h⟩
set_option maxRecDepth 100000 in
theorem wd_X3_sound : zwd q_X3_sound := ⟨zw_in (p := (2, 106)) (by decide +kernel), zw_in (p := (1, 8)) (by decide +kernel), fun _ => zw_in (p := (2, 105)) (by decide +kernel), fun h => absurd rfl h, fun h => absurd h (by decide)⟩
def cal_X3_sound : List zCal := []
def b_X3_sound_132 : List zE := (132, .ireturn, []) :: []
def p_X3_sound_132 : List (List (Nat × Nat)) := [] :: []
def b_X3_sound_131 : List zE := (131, .iconst 0, [0]) :: (132, .nop, [0]) :: []
def p_X3_sound_131 : List (List (Nat × Nat)) := [] :: [] :: []
def b_X3_sound_109 : List zE := (109, .iload_n 0, []) :: (110, .ifCond .lt 21, [131, 0]) :: (113, .iload_n 0, []) :: (114, .iconst 3, [3]) :: (115, .if_icmp .gt 16, [131, 0]) :: (118, .iload_n 3, []) :: (119, .ifCond .ne 12, [131, 0]) :: (122, .iload 4, []) :: (124, .ifCond .ne 7, [131, 0]) :: (127, .iconst 1, [1]) :: (128, .goto 4, [132, 0]) :: []
def p_X3_sound_109 : List (List (Nat × Nat)) := [] :: [] :: [] :: [] :: [] :: [] :: [] :: [] :: [] :: [] :: [] :: []
def b_X3_sound_97 : List zE := (97, .iload_n 0, []) :: (98, .iconst 1, [1]) :: (99, .if_icmp .ne 10, [109, 0]) :: (102, .iload_n 1, []) :: (103, .iload_n 2, []) :: (104, .if_icmp .eq 5, [109, 0]) :: (107, .iconst 0, [0]) :: (108, .ireturn, []) :: []
def p_X3_sound_97 : List (List (Nat × Nat)) := [] :: [] :: [] :: [] :: [] :: [] :: [] :: [] :: []
def b_X3_sound_96 : List zE := (96, .ireturn, []) :: []
def p_X3_sound_96 : List (List (Nat × Nat)) := [] :: []
def b_X3_sound_95 : List zE := (95, .iconst 0, [0]) :: (96, .nop, [0]) :: []
def p_X3_sound_95 : List (List (Nat × Nat)) := [] :: [] :: []
def b_X3_sound_62 : List zE := (62, .iload_n 0, []) :: (63, .iconst 4, [4]) :: (64, .if_icmp .ne 33, [97, 0]) :: (67, .iload_n 3, []) :: (68, .iconst 1, [1]) :: (69, .if_icmp .lt 26, [95, 0]) :: (72, .iload 4, []) :: (74, .iconst 1, [1]) :: (75, .if_icmp .lt 20, [95, 0]) :: (78, .iload_n 1, []) :: (79, .iload_n 3, []) :: (80, .irem, []) :: (81, .ifCond .ne 14, [95, 0]) :: (84, .iload_n 2, []) :: (85, .iload 4, []) :: (87, .irem, []) :: (88, .ifCond .ne 7, [95, 0]) :: (91, .iconst 1, [1]) :: (92, .goto 4, [96, 0]) :: []
def p_X3_sound_62 : List (List (Nat × Nat)) := [] :: [] :: [] :: [] :: [] :: [] :: [] :: [] :: [] :: [] :: [] :: [] :: [] :: [] :: [] :: [] :: [] :: [] :: [] :: []
def b_X3_sound_61 : List zE := (61, .ireturn, []) :: []
def p_X3_sound_61 : List (List (Nat × Nat)) := [] :: []
def b_X3_sound_60 : List zE := (60, .iconst 0, [0]) :: (61, .nop, [0]) :: []
def p_X3_sound_60 : List (List (Nat × Nat)) := [] :: [] :: []
def b_X3_sound_24 : List zE := (24, .iload_n 0, []) :: (25, .iconst 2, [2]) :: (26, .if_icmp .ne 36, [62, 0]) :: (29, .iload_n 1, []) :: (30, .iload_n 2, []) :: (31, .if_icmp .ne 29, [60, 0]) :: (34, .iload_n 3, []) :: (35, .ifCond .lt 25, [60, 0]) :: (38, .iload_n 3, []) :: (39, .bipush 7, [7]) :: (41, .if_icmp .gt 19, [60, 0]) :: (44, .iload 4, []) :: (46, .ifCond .lt 14, [60, 0]) :: (49, .iload 4, []) :: (51, .bipush 7, [7]) :: (53, .if_icmp .gt 7, [60, 0]) :: (56, .iconst 1, [1]) :: (57, .goto 4, [61, 0]) :: []
def p_X3_sound_24 : List (List (Nat × Nat)) := [] :: [] :: [] :: [] :: [] :: [] :: [] :: [] :: [] :: [] :: [] :: [] :: [] :: [] :: [] :: [] :: [] :: [] :: []
def b_X3_sound_22 : List zE := (22, .iconst 0, [0]) :: (23, .ireturn, []) :: []
def p_X3_sound_22 : List (List (Nat × Nat)) := [] :: [] :: []
def b_X3_sound_0 : List zE := (0, .iload_n 1, []) :: (1, .iconst 1, [1]) :: (2, .if_icmp .lt 20, [22, 0]) :: (5, .iload_n 1, []) :: (6, .bipush 8, [8]) :: (8, .if_icmp .gt 14, [22, 0]) :: (11, .iload_n 2, []) :: (12, .iconst 1, [1]) :: (13, .if_icmp .lt 9, [22, 0]) :: (16, .iload_n 2, []) :: (17, .bipush 8, [8]) :: (19, .if_icmp .le 5, [24, 0]) :: (22, .nop, [0]) :: []
def p_X3_sound_0 : List (List (Nat × Nat)) := [] :: [] :: [] :: [] :: [] :: [] :: [] :: [] :: [] :: [] :: [] :: [] :: [] :: []
def bl_X3_sound : List (Nat × List zE) := [(0, b_X3_sound_0), (22, b_X3_sound_22), (24, b_X3_sound_24), (60, b_X3_sound_60), (61, b_X3_sound_61), (62, b_X3_sound_62), (95, b_X3_sound_95), (96, b_X3_sound_96), (97, b_X3_sound_97), (109, b_X3_sound_109), (131, b_X3_sound_131), (132, b_X3_sound_132)]
def pl_X3_sound : List (List (List (Nat × Nat))) := [p_X3_sound_0, p_X3_sound_22, p_X3_sound_24, p_X3_sound_60, p_X3_sound_61, p_X3_sound_62, p_X3_sound_95, p_X3_sound_96, p_X3_sound_97, p_X3_sound_109, p_X3_sound_131, p_X3_sound_132]
theorem k_X3_sound_0 : zlk 0 bl_X3_sound = b_X3_sound_0 := rfl
theorem k_X3_sound_22 : zlk 22 bl_X3_sound = b_X3_sound_22 := rfl
theorem k_X3_sound_24 : zlk 24 bl_X3_sound = b_X3_sound_24 := rfl
theorem k_X3_sound_60 : zlk 60 bl_X3_sound = b_X3_sound_60 := rfl
theorem k_X3_sound_61 : zlk 61 bl_X3_sound = b_X3_sound_61 := rfl
theorem k_X3_sound_62 : zlk 62 bl_X3_sound = b_X3_sound_62 := rfl
theorem k_X3_sound_95 : zlk 95 bl_X3_sound = b_X3_sound_95 := rfl
theorem k_X3_sound_96 : zlk 96 bl_X3_sound = b_X3_sound_96 := rfl
theorem k_X3_sound_97 : zlk 97 bl_X3_sound = b_X3_sound_97 := rfl
theorem k_X3_sound_109 : zlk 109 bl_X3_sound = b_X3_sound_109 := rfl
theorem k_X3_sound_131 : zlk 131 bl_X3_sound = b_X3_sound_131 := rfl
theorem k_X3_sound_132 : zlk 132 bl_X3_sound = b_X3_sound_132 := rfl
set_option maxRecDepth 100000 in
theorem ck_X3_sound : zall q_X3_sound.2.2.2.2.1 q_X3_sound.2.1 3 false q_X3_sound.2.2.1 cal_X3_sound q_X3_sound.2.2.2.1 bl_X3_sound pl_X3_sound = true := by decide +kernel
theorem nm_X3_sound : plainName q_X3_sound.1.cls = true ∧ zRX 3 = q_X3_sound.1.cls ∧ (false = true → q_X3_sound.1.name = "<init>") := ⟨by decide +kernel, rfl, fun h => by first | rfl | cases h⟩
set_option maxRecDepth 100000 in
theorem wd_X3_begin : zwd q_X3_begin := ⟨zw_in (p := (2, 110)) (by decide +kernel), zw_in (p := (1, 8)) (by decide +kernel), fun h => absurd h (by decide), fun _ => zw_in (p := (2, 108)) (by decide +kernel), fun _ => zw_in (p := (2, 109)) (by decide +kernel)⟩
def cal_X3_begin : List zCal := []
def b_X3_begin_54 : List zE := (54, .return_, []) :: []
def p_X3_begin_54 : List (List (Nat × Nat)) := [] :: []
def b_X3_begin_30 : List zE := (30, .iload 6, []) :: (32, .aload_n 0, []) :: (33, .getfield 9, [3, 6]) :: (36, .arraylength, []) :: (37, .if_icmp .ge 17, [54, 0]) :: (40, .aload_n 0, []) :: (41, .getfield 9, [3, 6]) :: (44, .iload 6, []) :: (46, .lconst 0, [0]) :: (47, .lastore, []) :: (48, .iinc 6 1, [1]) :: (51, .goto (-21), [30, 1]) :: []
def p_X3_begin_30 : List (List (Nat × Nat)) := [] :: [] :: [(1, 232)] :: [] :: [] :: [] :: [(1, 232)] :: [] :: [] :: [] :: [] :: [] :: []
def b_X3_begin_0 : List zE := (0, .aload_n 0, []) :: (1, .iload_n 1, []) :: (2, .putfield 15, [3, 1]) :: (5, .aload_n 0, []) :: (6, .iload_n 2, []) :: (7, .putfield 19, [3, 2]) :: (10, .aload_n 0, []) :: (11, .iload_n 3, []) :: (12, .putfield 22, [3, 3]) :: (15, .aload_n 0, []) :: (16, .iload 4, []) :: (18, .putfield 25, [3, 4]) :: (21, .aload_n 0, []) :: (22, .iload 5, []) :: (24, .putfield 28, [3, 5]) :: (27, .iconst 0, [0]) :: (28, .istore 6, []) :: (30, .nop, []) :: []
def p_X3_begin_0 : List (List (Nat × Nat)) := [] :: [] :: [(1, 211)] :: [] :: [] :: [(1, 216)] :: [] :: [] :: [(1, 223)] :: [] :: [] :: [(1, 226)] :: [] :: [] :: [(1, 229)] :: [] :: [] :: [] :: []
def bl_X3_begin : List (Nat × List zE) := [(0, b_X3_begin_0), (30, b_X3_begin_30), (54, b_X3_begin_54)]
def pl_X3_begin : List (List (List (Nat × Nat))) := [p_X3_begin_0, p_X3_begin_30, p_X3_begin_54]
theorem k_X3_begin_0 : zlk 0 bl_X3_begin = b_X3_begin_0 := rfl
theorem k_X3_begin_30 : zlk 30 bl_X3_begin = b_X3_begin_30 := rfl
theorem k_X3_begin_54 : zlk 54 bl_X3_begin = b_X3_begin_54 := rfl
set_option maxRecDepth 100000 in
theorem ck_X3_begin : zall q_X3_begin.2.2.2.2.1 q_X3_begin.2.1 3 false q_X3_begin.2.2.1 cal_X3_begin q_X3_begin.2.2.2.1 bl_X3_begin pl_X3_begin = true := by decide +kernel
theorem nm_X3_begin : plainName q_X3_begin.1.cls = true ∧ zRX 3 = q_X3_begin.1.cls ∧ (false = true → q_X3_begin.1.name = "<init>") := ⟨by decide +kernel, rfl, fun h => by first | rfl | cases h⟩
set_option maxRecDepth 100000 in
theorem wd_X3_hasPlace : zwd q_X3_hasPlace := ⟨zw_in (p := (2, 126)) (by decide +kernel), zw_in (p := (1, 8)) (by decide +kernel), fun h => absurd h (by decide), fun _ => zw_in (p := (2, 124)) (by decide +kernel), fun _ => zw_in (p := (2, 125)) (by decide +kernel)⟩
def cal_X3_hasPlace : List zCal := [q_X3_inside]
def b_X3_hasPlace_63 : List zE := (63, .ireturn, []) :: []
def p_X3_hasPlace_63 : List (List (Nat × Nat)) := [] :: []
def b_X3_hasPlace_62 : List zE := (62, .iconst 0, [0]) :: (63, .nop, [0]) :: []
def p_X3_hasPlace_62 : List (List (Nat × Nat)) := [] :: [] :: []
def b_X3_hasPlace_58 : List zE := (58, .iconst 1, [1]) :: (59, .goto 4, [63, 0]) :: []
def p_X3_hasPlace_58 : List (List (Nat × Nat)) := [] :: [] :: []
def b_X3_hasPlace_30 : List zE := (30, .aload_n 0, []) :: (31, .getfield 15, [3, 1]) :: (34, .iconst 2, [2]) :: (35, .if_icmp .ne 23, [58, 0]) :: (38, .iload_n 1, []) :: (39, .iload_n 2, []) :: (40, .isub, []) :: (41, .aload_n 0, []) :: (42, .getfield 25, [3, 4]) :: (45, .if_icmp .gt 17, [62, 0]) :: (48, .iload_n 2, []) :: (49, .iload_n 1, []) :: (50, .isub, []) :: (51, .aload_n 0, []) :: (52, .getfield 28, [3, 5]) :: (55, .if_icmp .gt 7, [62, 0]) :: (58, .nop, [0]) :: []
def p_X3_hasPlace_30 : List (List (Nat × Nat)) := [] :: [(1, 211)] :: [] :: [] :: [] :: [] :: [] :: [] :: [(1, 226)] :: [] :: [] :: [] :: [] :: [] :: [(1, 229)] :: [] :: [] :: []
def b_X3_hasPlace_29 : List zE := (29, .ireturn, []) :: []
def p_X3_hasPlace_29 : List (List (Nat × Nat)) := [] :: []
def b_X3_hasPlace_28 : List zE := (28, .iconst 0, [0]) :: (29, .nop, [0]) :: []
def p_X3_hasPlace_28 : List (List (Nat × Nat)) := [] :: [] :: []
def b_X3_hasPlace_11 : List zE := (11, .aload_n 0, []) :: (12, .getfield 15, [3, 1]) :: (15, .iconst 1, [1]) :: (16, .if_icmp .ne 14, [30, 0]) :: (19, .iload_n 2, []) :: (20, .iload_n 1, []) :: (21, .if_icmp .gt 7, [28, 0]) :: (24, .iconst 1, [1]) :: (25, .goto 4, [29, 0]) :: []
def p_X3_hasPlace_11 : List (List (Nat × Nat)) := [] :: [(1, 211)] :: [] :: [] :: [] :: [] :: [] :: [] :: [] :: []
def b_X3_hasPlace_0 : List zE := (0, .aload_n 0, []) :: (1, .iload_n 1, []) :: (2, .iload_n 2, []) :: (3, .invokevirtual 31, [0, 2, 3]) :: (6, .ifCond .ne 5, [11, 0]) :: (9, .iconst 0, [0]) :: (10, .ireturn, []) :: []
def p_X3_hasPlace_0 : List (List (Nat × Nat)) := [] :: [] :: [] :: [(2, 127)] :: [] :: [] :: [] :: []
def bl_X3_hasPlace : List (Nat × List zE) := [(0, b_X3_hasPlace_0), (11, b_X3_hasPlace_11), (28, b_X3_hasPlace_28), (29, b_X3_hasPlace_29), (30, b_X3_hasPlace_30), (58, b_X3_hasPlace_58), (62, b_X3_hasPlace_62), (63, b_X3_hasPlace_63)]
def pl_X3_hasPlace : List (List (List (Nat × Nat))) := [p_X3_hasPlace_0, p_X3_hasPlace_11, p_X3_hasPlace_28, p_X3_hasPlace_29, p_X3_hasPlace_30, p_X3_hasPlace_58, p_X3_hasPlace_62, p_X3_hasPlace_63]
theorem k_X3_hasPlace_0 : zlk 0 bl_X3_hasPlace = b_X3_hasPlace_0 := rfl
theorem k_X3_hasPlace_11 : zlk 11 bl_X3_hasPlace = b_X3_hasPlace_11 := rfl
theorem k_X3_hasPlace_28 : zlk 28 bl_X3_hasPlace = b_X3_hasPlace_28 := rfl
theorem k_X3_hasPlace_29 : zlk 29 bl_X3_hasPlace = b_X3_hasPlace_29 := rfl
theorem k_X3_hasPlace_30 : zlk 30 bl_X3_hasPlace = b_X3_hasPlace_30 := rfl
theorem k_X3_hasPlace_58 : zlk 58 bl_X3_hasPlace = b_X3_hasPlace_58 := rfl
theorem k_X3_hasPlace_62 : zlk 62 bl_X3_hasPlace = b_X3_hasPlace_62 := rfl
theorem k_X3_hasPlace_63 : zlk 63 bl_X3_hasPlace = b_X3_hasPlace_63 := rfl
set_option maxRecDepth 100000 in
theorem ck_X3_hasPlace : zall q_X3_hasPlace.2.2.2.2.1 q_X3_hasPlace.2.1 3 false q_X3_hasPlace.2.2.1 cal_X3_hasPlace q_X3_hasPlace.2.2.2.1 bl_X3_hasPlace pl_X3_hasPlace = true := by decide +kernel
theorem nm_X3_hasPlace : plainName q_X3_hasPlace.1.cls = true ∧ zRX 3 = q_X3_hasPlace.1.cls ∧ (false = true → q_X3_hasPlace.1.name = "<init>") := ⟨by decide +kernel, rfl, fun h => by first | rfl | cases h⟩
set_option maxRecDepth 100000 in
theorem wd_X3_store : zwd q_X3_store := ⟨zw_in (p := (2, 151)) (by decide +kernel), zw_in (p := (1, 8)) (by decide +kernel), fun h => absurd h (by decide), fun _ => zw_in (p := (2, 149)) (by decide +kernel), fun _ => zw_in (p := (2, 150)) (by decide +kernel)⟩
def cal_X3_store : List zCal := [q_X3_inside, q_X0_unsignedZero]
def b_X3_store_24 : List zE := (24, .return_, []) :: []
def p_X3_store_24 : List (List (Nat × Nat)) := [] :: []
def b_X3_store_0 : List zE := (0, .aload_n 0, []) :: (1, .iload_n 1, []) :: (2, .iload_n 2, []) :: (3, .invokevirtual 31, [0, 2, 3]) :: (6, .ifCond .eq 18, [24, 0]) :: (9, .aload_n 0, []) :: (10, .getfield 9, [3, 6]) :: (13, .iload_n 1, []) :: (14, .bipush 8, [8]) :: (16, .imul, []) :: (17, .iload_n 2, []) :: (18, .iadd, []) :: (19, .lload_n 3, []) :: (20, .invokestatic 35, [1, 1]) :: (23, .lastore, []) :: (24, .nop, [0]) :: []
def p_X3_store_0 : List (List (Nat × Nat)) := [] :: [] :: [] :: [(2, 127)] :: [] :: [] :: [(1, 232)] :: [] :: [] :: [] :: [] :: [] :: [] :: [(2, 152)] :: [] :: [] :: []
def bl_X3_store : List (Nat × List zE) := [(0, b_X3_store_0), (24, b_X3_store_24)]
def pl_X3_store : List (List (List (Nat × Nat))) := [p_X3_store_0, p_X3_store_24]
theorem k_X3_store_0 : zlk 0 bl_X3_store = b_X3_store_0 := rfl
theorem k_X3_store_24 : zlk 24 bl_X3_store = b_X3_store_24 := rfl
set_option maxRecDepth 100000 in
theorem ck_X3_store : zall q_X3_store.2.2.2.2.1 q_X3_store.2.1 3 false q_X3_store.2.2.1 cal_X3_store q_X3_store.2.2.2.1 bl_X3_store pl_X3_store = true := by decide +kernel
theorem nm_X3_store : plainName q_X3_store.1.cls = true ∧ zRX 3 = q_X3_store.1.cls ∧ (false = true → q_X3_store.1.name = "<init>") := ⟨by decide +kernel, rfl, fun h => by first | rfl | cases h⟩
set_option maxRecDepth 100000 in
theorem wd_X3_filled : zwd q_X3_filled := ⟨zw_in (p := (2, 146)) (by decide +kernel), zw_in (p := (1, 8)) (by decide +kernel), fun h => absurd h (by decide), fun _ => zw_in (p := (2, 144)) (by decide +kernel), fun _ => zw_in (p := (2, 145)) (by decide +kernel)⟩
def cal_X3_filled : List zCal := [q_X3_at]
def b_X3_filled_53 : List zE := (53, .iload_n 1, []) :: (54, .ireturn, []) :: []
def p_X3_filled_53 : List (List (Nat × Nat)) := [] :: [] :: []
def b_X3_filled_47 : List zE := (47, .iinc 2 1, [1]) :: (50, .goto (-46), [4, 1]) :: []
def p_X3_filled_47 : List (List (Nat × Nat)) := [] :: [] :: []
def b_X3_filled_39 : List zE := (39, .iadd, []) :: (40, .istore_n 1, []) :: (41, .iinc 3 1, [1]) :: (44, .goto (-30), [14, 1]) :: []
def p_X3_filled_39 : List (List (Nat × Nat)) := [] :: [] :: [] :: [] :: []
def b_X3_filled_38 : List zE := (38, .iconst 0, [0]) :: (39, .nop, [0]) :: []
def p_X3_filled_38 : List (List (Nat × Nat)) := [] :: [] :: []
def b_X3_filled_14 : List zE := (14, .iload_n 3, []) :: (15, .aload_n 0, []) :: (16, .getfield 22, [3, 3]) :: (19, .if_icmp .ge 28, [47, 0]) :: (22, .iload_n 1, []) :: (23, .aload_n 0, []) :: (24, .iload_n 2, []) :: (25, .iload_n 3, []) :: (26, .invokevirtual 41, [0, 2, 3]) :: (29, .lconst 0, [0]) :: (30, .lcmp, []) :: (31, .ifCond .eq 7, [38, 0]) :: (34, .iconst 1, [1]) :: (35, .goto 4, [39, 0]) :: []
def p_X3_filled_14 : List (List (Nat × Nat)) := [] :: [] :: [(1, 223)] :: [] :: [] :: [] :: [] :: [] :: [(2, 147)] :: [] :: [] :: [] :: [] :: [] :: []
def b_X3_filled_4 : List zE := (4, .iload_n 2, []) :: (5, .aload_n 0, []) :: (6, .getfield 19, [3, 2]) :: (9, .if_icmp .ge 44, [53, 0]) :: (12, .iconst 0, [0]) :: (13, .istore_n 3, []) :: (14, .nop, []) :: []
def p_X3_filled_4 : List (List (Nat × Nat)) := [] :: [] :: [(1, 216)] :: [] :: [] :: [] :: [] :: []
def b_X3_filled_0 : List zE := (0, .iconst 0, [0]) :: (1, .istore_n 1, []) :: (2, .iconst 0, [0]) :: (3, .istore_n 2, []) :: (4, .nop, []) :: []
def p_X3_filled_0 : List (List (Nat × Nat)) := [] :: [] :: [] :: [] :: [] :: []
def bl_X3_filled : List (Nat × List zE) := [(0, b_X3_filled_0), (4, b_X3_filled_4), (14, b_X3_filled_14), (38, b_X3_filled_38), (39, b_X3_filled_39), (47, b_X3_filled_47), (53, b_X3_filled_53)]
def pl_X3_filled : List (List (List (Nat × Nat))) := [p_X3_filled_0, p_X3_filled_4, p_X3_filled_14, p_X3_filled_38, p_X3_filled_39, p_X3_filled_47, p_X3_filled_53]
theorem k_X3_filled_0 : zlk 0 bl_X3_filled = b_X3_filled_0 := rfl
theorem k_X3_filled_4 : zlk 4 bl_X3_filled = b_X3_filled_4 := rfl
theorem k_X3_filled_14 : zlk 14 bl_X3_filled = b_X3_filled_14 := rfl
theorem k_X3_filled_38 : zlk 38 bl_X3_filled = b_X3_filled_38 := rfl
theorem k_X3_filled_39 : zlk 39 bl_X3_filled = b_X3_filled_39 := rfl
theorem k_X3_filled_47 : zlk 47 bl_X3_filled = b_X3_filled_47 := rfl
theorem k_X3_filled_53 : zlk 53 bl_X3_filled = b_X3_filled_53 := rfl
set_option maxRecDepth 100000 in
theorem ck_X3_filled : zall q_X3_filled.2.2.2.2.1 q_X3_filled.2.1 3 false q_X3_filled.2.2.1 cal_X3_filled q_X3_filled.2.2.2.1 bl_X3_filled pl_X3_filled = true := by decide +kernel
theorem nm_X3_filled : plainName q_X3_filled.1.cls = true ∧ zRX 3 = q_X3_filled.1.cls ∧ (false = true → q_X3_filled.1.name = "<init>") := ⟨by decide +kernel, rfl, fun h => by first | rfl | cases h⟩
set_option maxRecDepth 100000 in
theorem wd_X3_onLattice : zwd q_X3_onLattice := ⟨zw_in (p := (2, 169)) (by decide +kernel), zw_in (p := (1, 8)) (by decide +kernel), fun h => absurd h (by decide), fun _ => zw_in (p := (2, 167)) (by decide +kernel), fun _ => zw_in (p := (2, 168)) (by decide +kernel)⟩
def cal_X3_onLattice : List zCal := [q_X3_at, q_X0_isLatticeNumber]
def b_X3_onLattice_46 : List zE := (46, .iconst 1, [1]) :: (47, .ireturn, []) :: []
def p_X3_onLattice_46 : List (List (Nat × Nat)) := [] :: [] :: []
def b_X3_onLattice_40 : List zE := (40, .iinc 1 1, [1]) :: (43, .goto (-41), [2, 1]) :: []
def p_X3_onLattice_40 : List (List (Nat × Nat)) := [] :: [] :: []
def b_X3_onLattice_34 : List zE := (34, .iinc 2 1, [1]) :: (37, .goto (-25), [12, 1]) :: []
def p_X3_onLattice_34 : List (List (Nat × Nat)) := [] :: [] :: []
def b_X3_onLattice_12 : List zE := (12, .iload_n 2, []) :: (13, .aload_n 0, []) :: (14, .getfield 22, [3, 3]) :: (17, .if_icmp .ge 23, [40, 0]) :: (20, .aload_n 0, []) :: (21, .iload_n 1, []) :: (22, .iload_n 2, []) :: (23, .invokevirtual 41, [0, 2, 3]) :: (26, .invokestatic 45, [1, 1]) :: (29, .ifCond .ne 5, [34, 0]) :: (32, .iconst 0, [0]) :: (33, .ireturn, []) :: []
def p_X3_onLattice_12 : List (List (Nat × Nat)) := [] :: [] :: [(1, 223)] :: [] :: [] :: [] :: [] :: [(2, 147)] :: [(2, 170)] :: [] :: [] :: [] :: []
def b_X3_onLattice_2 : List zE := (2, .iload_n 1, []) :: (3, .aload_n 0, []) :: (4, .getfield 19, [3, 2]) :: (7, .if_icmp .ge 39, [46, 0]) :: (10, .iconst 0, [0]) :: (11, .istore_n 2, []) :: (12, .nop, []) :: []
def p_X3_onLattice_2 : List (List (Nat × Nat)) := [] :: [] :: [(1, 216)] :: [] :: [] :: [] :: [] :: []
def b_X3_onLattice_0 : List zE := (0, .iconst 0, [0]) :: (1, .istore_n 1, []) :: (2, .nop, []) :: []
def p_X3_onLattice_0 : List (List (Nat × Nat)) := [] :: [] :: [] :: []
def bl_X3_onLattice : List (Nat × List zE) := [(0, b_X3_onLattice_0), (2, b_X3_onLattice_2), (12, b_X3_onLattice_12), (34, b_X3_onLattice_34), (40, b_X3_onLattice_40), (46, b_X3_onLattice_46)]
def pl_X3_onLattice : List (List (List (Nat × Nat))) := [p_X3_onLattice_0, p_X3_onLattice_2, p_X3_onLattice_12, p_X3_onLattice_34, p_X3_onLattice_40, p_X3_onLattice_46]
theorem k_X3_onLattice_0 : zlk 0 bl_X3_onLattice = b_X3_onLattice_0 := rfl
theorem k_X3_onLattice_2 : zlk 2 bl_X3_onLattice = b_X3_onLattice_2 := rfl
theorem k_X3_onLattice_12 : zlk 12 bl_X3_onLattice = b_X3_onLattice_12 := rfl
theorem k_X3_onLattice_34 : zlk 34 bl_X3_onLattice = b_X3_onLattice_34 := rfl
theorem k_X3_onLattice_40 : zlk 40 bl_X3_onLattice = b_X3_onLattice_40 := rfl
theorem k_X3_onLattice_46 : zlk 46 bl_X3_onLattice = b_X3_onLattice_46 := rfl
set_option maxRecDepth 100000 in
theorem ck_X3_onLattice : zall q_X3_onLattice.2.2.2.2.1 q_X3_onLattice.2.1 3 false q_X3_onLattice.2.2.1 cal_X3_onLattice q_X3_onLattice.2.2.2.1 bl_X3_onLattice pl_X3_onLattice = true := by decide +kernel
theorem nm_X3_onLattice : plainName q_X3_onLattice.1.cls = true ∧ zRX 3 = q_X3_onLattice.1.cls ∧ (false = true → q_X3_onLattice.1.name = "<init>") := ⟨by decide +kernel, rfl, fun h => by first | rfl | cases h⟩
set_option maxRecDepth 100000 in
theorem wd_X3_width : zwd q_X3_width := ⟨zw_in (p := (2, 192)) (by decide +kernel), zw_in (p := (1, 8)) (by decide +kernel), fun h => absurd h (by decide), fun _ => zw_in (p := (2, 190)) (by decide +kernel), fun _ => zw_in (p := (2, 191)) (by decide +kernel)⟩
def cal_X3_width : List zCal := [q_X3_at]
def b_X3_width_56 : List zE := (56, .iload_n 1, []) :: (57, .ireturn, []) :: []
def p_X3_width_56 : List (List (Nat × Nat)) := [] :: [] :: []
def b_X3_width_50 : List zE := (50, .iinc 2 1, [1]) :: (53, .goto (-49), [4, 1]) :: []
def p_X3_width_50 : List (List (Nat × Nat)) := [] :: [] :: []
def b_X3_width_44 : List zE := (44, .iinc 3 1, [1]) :: (47, .goto (-33), [14, 1]) :: []
def p_X3_width_44 : List (List (Nat × Nat)) := [] :: [] :: []
def b_X3_width_14 : List zE := (14, .iload_n 3, []) :: (15, .aload_n 0, []) :: (16, .getfield 22, [3, 3]) :: (19, .if_icmp .ge 31, [50, 0]) :: (22, .aload_n 0, []) :: (23, .iload_n 2, []) :: (24, .iload_n 3, []) :: (25, .invokevirtual 41, [0, 2, 3]) :: (28, .lconst 0, [0]) :: (29, .lcmp, []) :: (30, .ifCond .eq 14, [44, 0]) :: (33, .iload_n 1, []) :: (34, .iload_n 2, []) :: (35, .iload_n 3, []) :: (36, .isub, []) :: (37, .invokestatic 49, [104]) :: (40, .invokestatic 55, [102]) :: (43, .istore_n 1, []) :: (44, .nop, [0]) :: []
def p_X3_width_14 : List (List (Nat × Nat)) := [] :: [] :: [(1, 223)] :: [] :: [] :: [] :: [] :: [(2, 147)] :: [] :: [] :: [] :: [] :: [] :: [] :: [] :: [(2, 193), (2, 194), (1, 14), (2, 195)] :: [(2, 196), (2, 197), (1, 14), (2, 198)] :: [] :: [] :: []
def b_X3_width_4 : List zE := (4, .iload_n 2, []) :: (5, .aload_n 0, []) :: (6, .getfield 19, [3, 2]) :: (9, .if_icmp .ge 47, [56, 0]) :: (12, .iconst 0, [0]) :: (13, .istore_n 3, []) :: (14, .nop, []) :: []
def p_X3_width_4 : List (List (Nat × Nat)) := [] :: [] :: [(1, 216)] :: [] :: [] :: [] :: [] :: []
def b_X3_width_0 : List zE := (0, .iconst 0, [0]) :: (1, .istore_n 1, []) :: (2, .iconst 0, [0]) :: (3, .istore_n 2, []) :: (4, .nop, []) :: []
def p_X3_width_0 : List (List (Nat × Nat)) := [] :: [] :: [] :: [] :: [] :: []
def bl_X3_width : List (Nat × List zE) := [(0, b_X3_width_0), (4, b_X3_width_4), (14, b_X3_width_14), (44, b_X3_width_44), (50, b_X3_width_50), (56, b_X3_width_56)]
def pl_X3_width : List (List (List (Nat × Nat))) := [p_X3_width_0, p_X3_width_4, p_X3_width_14, p_X3_width_44, p_X3_width_50, p_X3_width_56]
theorem k_X3_width_0 : zlk 0 bl_X3_width = b_X3_width_0 := rfl
theorem k_X3_width_4 : zlk 4 bl_X3_width = b_X3_width_4 := rfl
theorem k_X3_width_14 : zlk 14 bl_X3_width = b_X3_width_14 := rfl
theorem k_X3_width_44 : zlk 44 bl_X3_width = b_X3_width_44 := rfl
theorem k_X3_width_50 : zlk 50 bl_X3_width = b_X3_width_50 := rfl
theorem k_X3_width_56 : zlk 56 bl_X3_width = b_X3_width_56 := rfl
set_option maxRecDepth 100000 in
theorem ck_X3_width : zall q_X3_width.2.2.2.2.1 q_X3_width.2.1 3 false q_X3_width.2.2.1 cal_X3_width q_X3_width.2.2.2.1 bl_X3_width pl_X3_width = true := by decide +kernel
theorem nm_X3_width : plainName q_X3_width.1.cls = true ∧ zRX 3 = q_X3_width.1.cls ∧ (false = true → q_X3_width.1.name = "<init>") := ⟨by decide +kernel, rfl, fun h => by first | rfl | cases h⟩
set_option maxRecDepth 100000 in
theorem wd_X3_alike : zwd q_X3_alike := ⟨zw_in (p := (2, 206)) (by decide +kernel), zw_in (p := (1, 8)) (by decide +kernel), fun h => absurd h (by decide), fun _ => zw_in (p := (2, 204)) (by decide +kernel), fun _ => zw_in (p := (2, 205)) (by decide +kernel)⟩
def cal_X3_alike : List zCal := []
def b_X3_alike_27 : List zE := (27, .ireturn, []) :: []
def p_X3_alike_27 : List (List (Nat × Nat)) := [] :: []
def b_X3_alike_26 : List zE := (26, .iconst 0, [0]) :: (27, .nop, [0]) :: []
def p_X3_alike_26 : List (List (Nat × Nat)) := [] :: [] :: []
def b_X3_alike_0 : List zE := (0, .aload_n 0, []) :: (1, .getfield 19, [3, 2]) :: (4, .aload_n 1, []) :: (5, .getfield 19, [3, 2]) :: (8, .if_icmp .ne 18, [26, 0]) :: (11, .aload_n 0, []) :: (12, .getfield 22, [3, 3]) :: (15, .aload_n 1, []) :: (16, .getfield 22, [3, 3]) :: (19, .if_icmp .ne 7, [26, 0]) :: (22, .iconst 1, [1]) :: (23, .goto 4, [27, 0]) :: []
def p_X3_alike_0 : List (List (Nat × Nat)) := [] :: [(1, 216)] :: [] :: [(1, 216)] :: [] :: [] :: [(1, 223)] :: [] :: [(1, 223)] :: [] :: [] :: [] :: []
def bl_X3_alike : List (Nat × List zE) := [(0, b_X3_alike_0), (26, b_X3_alike_26), (27, b_X3_alike_27)]
def pl_X3_alike : List (List (List (Nat × Nat))) := [p_X3_alike_0, p_X3_alike_26, p_X3_alike_27]
theorem k_X3_alike_0 : zlk 0 bl_X3_alike = b_X3_alike_0 := rfl
theorem k_X3_alike_26 : zlk 26 bl_X3_alike = b_X3_alike_26 := rfl
theorem k_X3_alike_27 : zlk 27 bl_X3_alike = b_X3_alike_27 := rfl
set_option maxRecDepth 100000 in
theorem ck_X3_alike : zall q_X3_alike.2.2.2.2.1 q_X3_alike.2.1 3 false q_X3_alike.2.2.1 cal_X3_alike q_X3_alike.2.2.2.1 bl_X3_alike pl_X3_alike = true := by decide +kernel
theorem nm_X3_alike : plainName q_X3_alike.1.cls = true ∧ zRX 3 = q_X3_alike.1.cls ∧ (false = true → q_X3_alike.1.name = "<init>") := ⟨by decide +kernel, rfl, fun h => by first | rfl | cases h⟩
set_option maxRecDepth 100000 in
theorem wd_X3_equalNumbers : zwd q_X3_equalNumbers := ⟨zw_in (p := (3, 41)) (by decide +kernel), zw_in (p := (1, 8)) (by decide +kernel), fun h => absurd h (by decide), fun _ => zw_in (p := (3, 39)) (by decide +kernel), fun _ => zw_in (p := (3, 40)) (by decide +kernel)⟩
def cal_X3_equalNumbers : List zCal := [q_X3_at]
def b_X3_equalNumbers_50 : List zE := (50, .iconst 1, [1]) :: (51, .ireturn, []) :: []
def p_X3_equalNumbers_50 : List (List (Nat × Nat)) := [] :: [] :: []
def b_X3_equalNumbers_44 : List zE := (44, .iinc 2 1, [1]) :: (47, .goto (-45), [2, 1]) :: []
def p_X3_equalNumbers_44 : List (List (Nat × Nat)) := [] :: [] :: []
def b_X3_equalNumbers_38 : List zE := (38, .iinc 3 1, [1]) :: (41, .goto (-29), [12, 1]) :: []
def p_X3_equalNumbers_38 : List (List (Nat × Nat)) := [] :: [] :: []
def b_X3_equalNumbers_12 : List zE := (12, .iload_n 3, []) :: (13, .aload_n 0, []) :: (14, .getfield 22, [3, 3]) :: (17, .if_icmp .ge 27, [44, 0]) :: (20, .aload_n 0, []) :: (21, .iload_n 2, []) :: (22, .iload_n 3, []) :: (23, .invokevirtual 41, [0, 2, 3]) :: (26, .aload_n 1, []) :: (27, .iload_n 2, []) :: (28, .iload_n 3, []) :: (29, .invokevirtual 41, [0, 2, 3]) :: (32, .lcmp, []) :: (33, .ifCond .eq 5, [38, 0]) :: (36, .iconst 0, [0]) :: (37, .ireturn, []) :: []
def p_X3_equalNumbers_12 : List (List (Nat × Nat)) := [] :: [] :: [(1, 223)] :: [] :: [] :: [] :: [] :: [(2, 147)] :: [] :: [] :: [] :: [(2, 147)] :: [] :: [] :: [] :: [] :: []
def b_X3_equalNumbers_2 : List zE := (2, .iload_n 2, []) :: (3, .aload_n 0, []) :: (4, .getfield 19, [3, 2]) :: (7, .if_icmp .ge 43, [50, 0]) :: (10, .iconst 0, [0]) :: (11, .istore_n 3, []) :: (12, .nop, []) :: []
def p_X3_equalNumbers_2 : List (List (Nat × Nat)) := [] :: [] :: [(1, 216)] :: [] :: [] :: [] :: [] :: []
def b_X3_equalNumbers_0 : List zE := (0, .iconst 0, [0]) :: (1, .istore_n 2, []) :: (2, .nop, []) :: []
def p_X3_equalNumbers_0 : List (List (Nat × Nat)) := [] :: [] :: [] :: []
def bl_X3_equalNumbers : List (Nat × List zE) := [(0, b_X3_equalNumbers_0), (2, b_X3_equalNumbers_2), (12, b_X3_equalNumbers_12), (38, b_X3_equalNumbers_38), (44, b_X3_equalNumbers_44), (50, b_X3_equalNumbers_50)]
def pl_X3_equalNumbers : List (List (List (Nat × Nat))) := [p_X3_equalNumbers_0, p_X3_equalNumbers_2, p_X3_equalNumbers_12, p_X3_equalNumbers_38, p_X3_equalNumbers_44, p_X3_equalNumbers_50]
theorem k_X3_equalNumbers_0 : zlk 0 bl_X3_equalNumbers = b_X3_equalNumbers_0 := rfl
theorem k_X3_equalNumbers_2 : zlk 2 bl_X3_equalNumbers = b_X3_equalNumbers_2 := rfl
theorem k_X3_equalNumbers_12 : zlk 12 bl_X3_equalNumbers = b_X3_equalNumbers_12 := rfl
theorem k_X3_equalNumbers_38 : zlk 38 bl_X3_equalNumbers = b_X3_equalNumbers_38 := rfl
theorem k_X3_equalNumbers_44 : zlk 44 bl_X3_equalNumbers = b_X3_equalNumbers_44 := rfl
theorem k_X3_equalNumbers_50 : zlk 50 bl_X3_equalNumbers = b_X3_equalNumbers_50 := rfl
set_option maxRecDepth 100000 in
theorem ck_X3_equalNumbers : zall q_X3_equalNumbers.2.2.2.2.1 q_X3_equalNumbers.2.1 3 false q_X3_equalNumbers.2.2.1 cal_X3_equalNumbers q_X3_equalNumbers.2.2.2.1 bl_X3_equalNumbers pl_X3_equalNumbers = true := by decide +kernel
theorem nm_X3_equalNumbers : plainName q_X3_equalNumbers.1.cls = true ∧ zRX 3 = q_X3_equalNumbers.1.cls ∧ (false = true → q_X3_equalNumbers.1.name = "<init>") := ⟨by decide +kernel, rfl, fun h => by first | rfl | cases h⟩
set_option maxRecDepth 100000 in
theorem wd_X3_becomeSum : zwd q_X3_becomeSum := ⟨zw_in (p := (2, 210)) (by decide +kernel), zw_in (p := (1, 8)) (by decide +kernel), fun h => absurd h (by decide), fun _ => zw_in (p := (2, 208)) (by decide +kernel), fun _ => zw_in (p := (2, 209)) (by decide +kernel)⟩
def cal_X3_becomeSum : List zCal := [q_X3_at, q_X0_plus, q_X0_finite, q_X3_store]
def b_X3_becomeSum_72 : List zE := (72, .aload_n 0, []) :: (73, .iconst 1, [1]) :: (74, .putfield 75, [3, 0]) :: (77, .iconst 1, [1]) :: (78, .ireturn, []) :: []
def p_X3_becomeSum_72 : List (List (Nat × Nat)) := [] :: [] :: [(1, 210)] :: [] :: [] :: []
def b_X3_becomeSum_66 : List zE := (66, .iinc 3 1, [1]) :: (69, .goto (-67), [2, 1]) :: []
def p_X3_becomeSum_66 : List (List (Nat × Nat)) := [] :: [] :: []
def b_X3_becomeSum_51 : List zE := (51, .aload_n 0, []) :: (52, .iload_n 3, []) :: (53, .iload 4, []) :: (55, .lload 5, []) :: (57, .invokevirtual 71, [3, 3, 3]) :: (60, .iinc 4 1, [1]) :: (63, .goto (-50), [13, 1]) :: []
def p_X3_becomeSum_51 : List (List (Nat × Nat)) := [] :: [] :: [] :: [] :: [(2, 218)] :: [] :: [] :: []
def b_X3_becomeSum_13 : List zE := (13, .iload 4, []) :: (15, .aload_n 0, []) :: (16, .getfield 22, [3, 3]) :: (19, .if_icmp .ge 47, [66, 0]) :: (22, .aload_n 1, []) :: (23, .iload_n 3, []) :: (24, .iload 4, []) :: (26, .invokevirtual 41, [0, 2, 3]) :: (29, .aload_n 2, []) :: (30, .iload_n 3, []) :: (31, .iload 4, []) :: (33, .invokevirtual 41, [0, 2, 3]) :: (36, .invokestatic 65, [1, 2]) :: (39, .lstore 5, []) :: (41, .lload 5, []) :: (43, .invokestatic 68, [2, 1]) :: (46, .ifCond .ne 5, [51, 0]) :: (49, .iconst 0, [0]) :: (50, .ireturn, []) :: []
def p_X3_becomeSum_13 : List (List (Nat × Nat)) := [] :: [] :: [(1, 223)] :: [] :: [] :: [] :: [] :: [(2, 147)] :: [] :: [] :: [] :: [(2, 147)] :: [(2, 211)] :: [] :: [] :: [(2, 217)] :: [] :: [] :: [] :: []
def b_X3_becomeSum_2 : List zE := (2, .iload_n 3, []) :: (3, .aload_n 0, []) :: (4, .getfield 19, [3, 2]) :: (7, .if_icmp .ge 65, [72, 0]) :: (10, .iconst 0, [0]) :: (11, .istore 4, []) :: (13, .nop, []) :: []
def p_X3_becomeSum_2 : List (List (Nat × Nat)) := [] :: [] :: [(1, 216)] :: [] :: [] :: [] :: [] :: []
def b_X3_becomeSum_0 : List zE := (0, .iconst 0, [0]) :: (1, .istore_n 3, []) :: (2, .nop, []) :: []
def p_X3_becomeSum_0 : List (List (Nat × Nat)) := [] :: [] :: [] :: []
def bl_X3_becomeSum : List (Nat × List zE) := [(0, b_X3_becomeSum_0), (2, b_X3_becomeSum_2), (13, b_X3_becomeSum_13), (51, b_X3_becomeSum_51), (66, b_X3_becomeSum_66), (72, b_X3_becomeSum_72)]
def pl_X3_becomeSum : List (List (List (Nat × Nat))) := [p_X3_becomeSum_0, p_X3_becomeSum_2, p_X3_becomeSum_13, p_X3_becomeSum_51, p_X3_becomeSum_66, p_X3_becomeSum_72]
theorem k_X3_becomeSum_0 : zlk 0 bl_X3_becomeSum = b_X3_becomeSum_0 := rfl
theorem k_X3_becomeSum_2 : zlk 2 bl_X3_becomeSum = b_X3_becomeSum_2 := rfl
theorem k_X3_becomeSum_13 : zlk 13 bl_X3_becomeSum = b_X3_becomeSum_13 := rfl
theorem k_X3_becomeSum_51 : zlk 51 bl_X3_becomeSum = b_X3_becomeSum_51 := rfl
theorem k_X3_becomeSum_66 : zlk 66 bl_X3_becomeSum = b_X3_becomeSum_66 := rfl
theorem k_X3_becomeSum_72 : zlk 72 bl_X3_becomeSum = b_X3_becomeSum_72 := rfl
set_option maxRecDepth 100000 in
theorem ck_X3_becomeSum : zall q_X3_becomeSum.2.2.2.2.1 q_X3_becomeSum.2.1 3 false q_X3_becomeSum.2.2.1 cal_X3_becomeSum q_X3_becomeSum.2.2.2.1 bl_X3_becomeSum pl_X3_becomeSum = true := by decide +kernel
theorem nm_X3_becomeSum : plainName q_X3_becomeSum.1.cls = true ∧ zRX 3 = q_X3_becomeSum.1.cls ∧ (false = true → q_X3_becomeSum.1.name = "<init>") := ⟨by decide +kernel, rfl, fun h => by first | rfl | cases h⟩
set_option maxRecDepth 100000 in
theorem wd_X3_becomeProduct : zwd q_X3_becomeProduct := ⟨zw_in (p := (2, 226)) (by decide +kernel), zw_in (p := (1, 8)) (by decide +kernel), fun h => absurd h (by decide), fun _ => zw_in (p := (2, 224)) (by decide +kernel), fun _ => zw_in (p := (2, 225)) (by decide +kernel)⟩
def cal_X3_becomeProduct : List zCal := [q_X3_at, q_X0_less, q_X0_finite, q_X3_store]
def b_X3_becomeProduct_105 : List zE := (105, .aload_n 0, []) :: (106, .iconst 1, [1]) :: (107, .putfield 75, [3, 0]) :: (110, .iconst 1, [1]) :: (111, .ireturn, []) :: []
def p_X3_becomeProduct_105 : List (List (Nat × Nat)) := [] :: [] :: [(1, 210)] :: [] :: [] :: []
def b_X3_becomeProduct_99 : List zE := (99, .iinc 4 1, [1]) :: (102, .goto (-99), [3, 1]) :: []
def p_X3_becomeProduct_99 : List (List (Nat × Nat)) := [] :: [] :: []
def b_X3_becomeProduct_83 : List zE := (83, .aload_n 0, []) :: (84, .iload 4, []) :: (86, .iload 5, []) :: (88, .lload 6, []) :: (90, .invokevirtual 71, [3, 3, 3]) :: (93, .iinc 5 1, [1]) :: (96, .goto (-81), [15, 1]) :: []
def p_X3_becomeProduct_83 : List (List (Nat × Nat)) := [] :: [] :: [] :: [] :: [(2, 218)] :: [] :: [] :: []
def b_X3_becomeProduct_77 : List zE := (77, .iinc 8 1, [1]) :: (80, .goto (-50), [30, 1]) :: []
def p_X3_becomeProduct_77 : List (List (Nat × Nat)) := [] :: [] :: []
def b_X3_becomeProduct_30 : List zE := (30, .iload 8, []) :: (32, .aload_n 1, []) :: (33, .getfield 22, [3, 3]) :: (36, .if_icmp .ge 47, [83, 0]) :: (39, .lload 6, []) :: (41, .aload_n 1, []) :: (42, .iload 4, []) :: (44, .iload 8, []) :: (46, .invokevirtual 41, [0, 2, 3]) :: (49, .ldc2_w 79, [9223372036854775808]) :: (52, .lxor, []) :: (53, .aload_n 2, []) :: (54, .iload 8, []) :: (56, .iload 5, []) :: (58, .invokevirtual 41, [0, 2, 3]) :: (61, .iload_n 3, []) :: (62, .invokestatic 81, [1, 4]) :: (65, .lstore 6, []) :: (67, .lload 6, []) :: (69, .invokestatic 68, [2, 1]) :: (72, .ifCond .ne 5, [77, 0]) :: (75, .iconst 0, [0]) :: (76, .ireturn, []) :: []
def p_X3_becomeProduct_30 : List (List (Nat × Nat)) := [] :: [] :: [(1, 223)] :: [] :: [] :: [] :: [] :: [] :: [(2, 147)] :: [(2, 227)] :: [] :: [] :: [] :: [] :: [(2, 147)] :: [] :: [(2, 228)] :: [] :: [] :: [(2, 217)] :: [] :: [] :: [] :: []
def b_X3_becomeProduct_15 : List zE := (15, .iload 5, []) :: (17, .aload_n 0, []) :: (18, .getfield 22, [3, 3]) :: (21, .if_icmp .ge 78, [99, 0]) :: (24, .lconst 0, [0]) :: (25, .lstore 6, []) :: (27, .iconst 0, [0]) :: (28, .istore 8, []) :: (30, .nop, []) :: []
def p_X3_becomeProduct_15 : List (List (Nat × Nat)) := [] :: [] :: [(1, 223)] :: [] :: [] :: [] :: [] :: [] :: [] :: []
def b_X3_becomeProduct_3 : List zE := (3, .iload 4, []) :: (5, .aload_n 0, []) :: (6, .getfield 19, [3, 2]) :: (9, .if_icmp .ge 96, [105, 0]) :: (12, .iconst 0, [0]) :: (13, .istore 5, []) :: (15, .nop, []) :: []
def p_X3_becomeProduct_3 : List (List (Nat × Nat)) := [] :: [] :: [(1, 216)] :: [] :: [] :: [] :: [] :: []
def b_X3_becomeProduct_0 : List zE := (0, .iconst 0, [0]) :: (1, .istore 4, []) :: (3, .nop, []) :: []
def p_X3_becomeProduct_0 : List (List (Nat × Nat)) := [] :: [] :: [] :: []
def bl_X3_becomeProduct : List (Nat × List zE) := [(0, b_X3_becomeProduct_0), (3, b_X3_becomeProduct_3), (15, b_X3_becomeProduct_15), (30, b_X3_becomeProduct_30), (77, b_X3_becomeProduct_77), (83, b_X3_becomeProduct_83), (99, b_X3_becomeProduct_99), (105, b_X3_becomeProduct_105)]
def pl_X3_becomeProduct : List (List (List (Nat × Nat))) := [p_X3_becomeProduct_0, p_X3_becomeProduct_3, p_X3_becomeProduct_15, p_X3_becomeProduct_30, p_X3_becomeProduct_77, p_X3_becomeProduct_83, p_X3_becomeProduct_99, p_X3_becomeProduct_105]
theorem k_X3_becomeProduct_0 : zlk 0 bl_X3_becomeProduct = b_X3_becomeProduct_0 := rfl
theorem k_X3_becomeProduct_3 : zlk 3 bl_X3_becomeProduct = b_X3_becomeProduct_3 := rfl
theorem k_X3_becomeProduct_15 : zlk 15 bl_X3_becomeProduct = b_X3_becomeProduct_15 := rfl
theorem k_X3_becomeProduct_30 : zlk 30 bl_X3_becomeProduct = b_X3_becomeProduct_30 := rfl
theorem k_X3_becomeProduct_77 : zlk 77 bl_X3_becomeProduct = b_X3_becomeProduct_77 := rfl
theorem k_X3_becomeProduct_83 : zlk 83 bl_X3_becomeProduct = b_X3_becomeProduct_83 := rfl
theorem k_X3_becomeProduct_99 : zlk 99 bl_X3_becomeProduct = b_X3_becomeProduct_99 := rfl
theorem k_X3_becomeProduct_105 : zlk 105 bl_X3_becomeProduct = b_X3_becomeProduct_105 := rfl
set_option maxRecDepth 100000 in
theorem ck_X3_becomeProduct : zall q_X3_becomeProduct.2.2.2.2.1 q_X3_becomeProduct.2.1 3 false q_X3_becomeProduct.2.2.1 cal_X3_becomeProduct q_X3_becomeProduct.2.2.2.1 bl_X3_becomeProduct pl_X3_becomeProduct = true := by decide +kernel
theorem nm_X3_becomeProduct : plainName q_X3_becomeProduct.1.cls = true ∧ zRX 3 = q_X3_becomeProduct.1.cls ∧ (false = true → q_X3_becomeProduct.1.name = "<init>") := ⟨by decide +kernel, rfl, fun h => by first | rfl | cases h⟩
set_option maxRecDepth 100000 in
theorem wd_X3_takeNumbers : zwd q_X3_takeNumbers := ⟨zw_in (p := (3, 27)) (by decide +kernel), zw_in (p := (1, 8)) (by decide +kernel), fun h => absurd h (by decide), fun _ => zw_in (p := (3, 25)) (by decide +kernel), fun _ => zw_in (p := (3, 26)) (by decide +kernel)⟩
def cal_X3_takeNumbers : List zCal := [q_X3_filled, q_X3_at, q_X3_hasPlace, q_X3_store]
def b_X3_takeNumbers_85 : List zE := (85, .aload_n 0, []) :: (86, .iconst 1, [1]) :: (87, .putfield 75, [3, 0]) :: (90, .iconst 1, [1]) :: (91, .ireturn, []) :: []
def p_X3_takeNumbers_85 : List (List (Nat × Nat)) := [] :: [] :: [(1, 210)] :: [] :: [] :: []
def b_X3_takeNumbers_79 : List zE := (79, .iinc 2 1, [1]) :: (82, .goto (-61), [21, 1]) :: []
def p_X3_takeNumbers_79 : List (List (Nat × Nat)) := [] :: [] :: []
def b_X3_takeNumbers_61 : List zE := (61, .aload_n 0, []) :: (62, .iload_n 2, []) :: (63, .iload_n 3, []) :: (64, .aload_n 1, []) :: (65, .iload_n 2, []) :: (66, .iload_n 3, []) :: (67, .invokevirtual 41, [1, 2, 3]) :: (70, .invokevirtual 71, [3, 3, 3]) :: (73, .iinc 3 1, [1]) :: (76, .goto (-45), [31, 1]) :: []
def p_X3_takeNumbers_61 : List (List (Nat × Nat)) := [] :: [] :: [] :: [] :: [] :: [] :: [(2, 147)] :: [(2, 218)] :: [] :: [] :: []
def b_X3_takeNumbers_31 : List zE := (31, .iload_n 3, []) :: (32, .aload_n 0, []) :: (33, .getfield 22, [3, 3]) :: (36, .if_icmp .ge 43, [79, 0]) :: (39, .aload_n 1, []) :: (40, .iload_n 2, []) :: (41, .iload_n 3, []) :: (42, .invokevirtual 41, [1, 2, 3]) :: (45, .lconst 0, [0]) :: (46, .lcmp, []) :: (47, .ifCond .eq 14, [61, 0]) :: (50, .aload_n 0, []) :: (51, .iload_n 2, []) :: (52, .iload_n 3, []) :: (53, .invokevirtual 89, [2, 2, 3]) :: (56, .ifCond .ne 5, [61, 0]) :: (59, .iconst 0, [0]) :: (60, .ireturn, []) :: []
def p_X3_takeNumbers_31 : List (List (Nat × Nat)) := [] :: [] :: [(1, 223)] :: [] :: [] :: [] :: [] :: [(2, 147)] :: [] :: [] :: [] :: [] :: [] :: [] :: [(3, 29)] :: [] :: [] :: [] :: []
def b_X3_takeNumbers_21 : List zE := (21, .iload_n 2, []) :: (22, .aload_n 0, []) :: (23, .getfield 19, [3, 2]) :: (26, .if_icmp .ge 59, [85, 0]) :: (29, .iconst 0, [0]) :: (30, .istore_n 3, []) :: (31, .nop, []) :: []
def p_X3_takeNumbers_21 : List (List (Nat × Nat)) := [] :: [] :: [(1, 216)] :: [] :: [] :: [] :: [] :: []
def b_X3_takeNumbers_19 : List zE := (19, .iconst 0, [0]) :: (20, .istore_n 2, []) :: (21, .nop, []) :: []
def p_X3_takeNumbers_19 : List (List (Nat × Nat)) := [] :: [] :: [] :: []
def b_X3_takeNumbers_0 : List zE := (0, .aload_n 0, []) :: (1, .getfield 15, [3, 1]) :: (4, .iconst 3, [3]) :: (5, .if_icmp .ne 14, [19, 0]) :: (8, .aload_n 1, []) :: (9, .invokevirtual 85, [0, 0, 3]) :: (12, .bipush 20, [20]) :: (14, .if_icmp .le 5, [19, 0]) :: (17, .iconst 0, [0]) :: (18, .ireturn, []) :: []
def p_X3_takeNumbers_0 : List (List (Nat × Nat)) := [] :: [(1, 211)] :: [] :: [] :: [] :: [(3, 28)] :: [] :: [] :: [] :: [] :: []
def bl_X3_takeNumbers : List (Nat × List zE) := [(0, b_X3_takeNumbers_0), (19, b_X3_takeNumbers_19), (21, b_X3_takeNumbers_21), (31, b_X3_takeNumbers_31), (61, b_X3_takeNumbers_61), (79, b_X3_takeNumbers_79), (85, b_X3_takeNumbers_85)]
def pl_X3_takeNumbers : List (List (List (Nat × Nat))) := [p_X3_takeNumbers_0, p_X3_takeNumbers_19, p_X3_takeNumbers_21, p_X3_takeNumbers_31, p_X3_takeNumbers_61, p_X3_takeNumbers_79, p_X3_takeNumbers_85]
theorem k_X3_takeNumbers_0 : zlk 0 bl_X3_takeNumbers = b_X3_takeNumbers_0 := rfl
theorem k_X3_takeNumbers_19 : zlk 19 bl_X3_takeNumbers = b_X3_takeNumbers_19 := rfl
theorem k_X3_takeNumbers_21 : zlk 21 bl_X3_takeNumbers = b_X3_takeNumbers_21 := rfl
theorem k_X3_takeNumbers_31 : zlk 31 bl_X3_takeNumbers = b_X3_takeNumbers_31 := rfl
theorem k_X3_takeNumbers_61 : zlk 61 bl_X3_takeNumbers = b_X3_takeNumbers_61 := rfl
theorem k_X3_takeNumbers_79 : zlk 79 bl_X3_takeNumbers = b_X3_takeNumbers_79 := rfl
theorem k_X3_takeNumbers_85 : zlk 85 bl_X3_takeNumbers = b_X3_takeNumbers_85 := rfl
set_option maxRecDepth 100000 in
theorem ck_X3_takeNumbers : zall q_X3_takeNumbers.2.2.2.2.1 q_X3_takeNumbers.2.1 3 false q_X3_takeNumbers.2.2.1 cal_X3_takeNumbers q_X3_takeNumbers.2.2.2.1 bl_X3_takeNumbers pl_X3_takeNumbers = true := by decide +kernel
theorem nm_X3_takeNumbers : plainName q_X3_takeNumbers.1.cls = true ∧ zRX 3 = q_X3_takeNumbers.1.cls ∧ (false = true → q_X3_takeNumbers.1.name = "<init>") := ⟨by decide +kernel, rfl, fun h => by first | rfl | cases h⟩
set_option maxRecDepth 100000 in
theorem wd_X4_init : zwd q_X4_init := ⟨zw_in (p := (1, 160)) (by decide +kernel), zw_in (p := (1, 6)) (by decide +kernel), fun h => absurd h (by decide), fun _ => zw_in (p := (1, 159)) (by decide +kernel), fun h => absurd h (by decide)⟩
def cal_X4_init : List zCal := []
def b_X4_init_0 : List zE := (0, .aload_n 0, []) :: (1, .invokespecial 3, []) :: (4, .aload_n 0, []) :: (5, .bipush 8, [8]) :: (7, .newarray .int, [20]) :: (9, .putfield 9, [4, 0]) :: (12, .aload_n 0, []) :: (13, .bipush 8, [8]) :: (15, .newarray .int, [20]) :: (17, .putfield 15, [4, 1]) :: (20, .aload_n 0, []) :: (21, .bipush 8, [8]) :: (23, .newarray .int, [20]) :: (25, .putfield 18, [4, 2]) :: (28, .aload_n 0, []) :: (29, .bipush 8, [8]) :: (31, .newarray .boolean, [21]) :: (33, .putfield 21, [4, 3]) :: (36, .return_, []) :: []
def p_X4_init_0 : List (List (Nat × Nat)) := [] :: [(1, 161), (1, 21), (1, 22)] :: [] :: [] :: [(1, 108)] :: [(1, 162)] :: [] :: [] :: [(1, 108)] :: [(1, 163)] :: [] :: [] :: [(1, 108)] :: [(1, 164)] :: [] :: [] :: [(1, 155)] :: [(1, 165)] :: [] :: []
def bl_X4_init : List (Nat × List zE) := [(0, b_X4_init_0)]
def pl_X4_init : List (List (List (Nat × Nat))) := [p_X4_init_0]
theorem k_X4_init_0 : zlk 0 bl_X4_init = b_X4_init_0 := rfl
set_option maxRecDepth 100000 in
theorem ck_X4_init : zall q_X4_init.2.2.2.2.1 q_X4_init.2.1 4 true q_X4_init.2.2.1 cal_X4_init q_X4_init.2.2.2.1 bl_X4_init pl_X4_init = true := by decide +kernel
theorem nm_X4_init : plainName q_X4_init.1.cls = true ∧ zRX 4 = q_X4_init.1.cls ∧ (true = true → q_X4_init.1.name = "<init>") := ⟨by decide +kernel, rfl, fun h => by first | rfl | cases h⟩
set_option maxRecDepth 100000 in
theorem wd_X4_rowAt : zwd q_X4_rowAt := ⟨zw_in (p := (5, 115)) (by decide +kernel), zw_in (p := (1, 6)) (by decide +kernel), fun h => absurd h (by decide), fun _ => zw_in (p := (5, 113)) (by decide +kernel), fun _ => zw_in (p := (5, 114)) (by decide +kernel)⟩
def cal_X4_rowAt : List zCal := []
def b_X4_rowAt_22 : List zE := (22, .ireturn, []) :: []
def p_X4_rowAt_22 : List (List (Nat × Nat)) := [] :: []
def b_X4_rowAt_21 : List zE := (21, .iconst (-1), [4294967295]) :: (22, .nop, [0]) :: []
def p_X4_rowAt_21 : List (List (Nat × Nat)) := [] :: [] :: []
def b_X4_rowAt_0 : List zE := (0, .iload_n 1, []) :: (1, .ifCond .lt 20, [21, 0]) :: (4, .iload_n 1, []) :: (5, .aload_n 0, []) :: (6, .getfield 25, [4, 4]) :: (9, .if_icmp .ge 12, [21, 0]) :: (12, .aload_n 0, []) :: (13, .getfield 9, [4, 0]) :: (16, .iload_n 1, []) :: (17, .iaload, []) :: (18, .goto 4, [22, 0]) :: []
def p_X4_rowAt_0 : List (List (Nat × Nat)) := [] :: [] :: [] :: [] :: [(1, 166)] :: [] :: [] :: [(1, 162)] :: [] :: [] :: [] :: []
def bl_X4_rowAt : List (Nat × List zE) := [(0, b_X4_rowAt_0), (21, b_X4_rowAt_21), (22, b_X4_rowAt_22)]
def pl_X4_rowAt : List (List (List (Nat × Nat))) := [p_X4_rowAt_0, p_X4_rowAt_21, p_X4_rowAt_22]
theorem k_X4_rowAt_0 : zlk 0 bl_X4_rowAt = b_X4_rowAt_0 := rfl
theorem k_X4_rowAt_21 : zlk 21 bl_X4_rowAt = b_X4_rowAt_21 := rfl
theorem k_X4_rowAt_22 : zlk 22 bl_X4_rowAt = b_X4_rowAt_22 := rfl
set_option maxRecDepth 100000 in
theorem ck_X4_rowAt : zall q_X4_rowAt.2.2.2.2.1 q_X4_rowAt.2.1 4 false q_X4_rowAt.2.2.1 cal_X4_rowAt q_X4_rowAt.2.2.2.1 bl_X4_rowAt pl_X4_rowAt = true := by decide +kernel
theorem nm_X4_rowAt : plainName q_X4_rowAt.1.cls = true ∧ zRX 4 = q_X4_rowAt.1.cls ∧ (false = true → q_X4_rowAt.1.name = "<init>") := ⟨by decide +kernel, rfl, fun h => by first | rfl | cases h⟩
set_option maxRecDepth 100000 in
theorem wd_X4_near : zwd q_X4_near := ⟨zw_in (p := (5, 91)) (by decide +kernel), zw_in (p := (1, 6)) (by decide +kernel), fun _ => zw_in (p := (5, 90)) (by decide +kernel), fun h => absurd rfl h, fun h => absurd h (by decide)⟩
def cal_X4_near : List zCal := [q_X3_at]
def b_X4_near_32 : List zE := (32, .ireturn, []) :: []
def p_X4_near_32 : List (List (Nat × Nat)) := [] :: []
def b_X4_near_31 : List zE := (31, .iconst 0, [0]) :: (32, .nop, [0]) :: []
def p_X4_near_31 : List (List (Nat × Nat)) := [] :: [] :: []
def b_X4_near_27 : List zE := (27, .iconst 1, [1]) :: (28, .goto 4, [32, 0]) :: []
def p_X4_near_27 : List (List (Nat × Nat)) := [] :: [] :: []
def b_X4_near_0 : List zE := (0, .iload_n 1, []) :: (1, .iload_n 2, []) :: (2, .if_icmp .eq 29, [31, 0]) :: (5, .aload_n 0, []) :: (6, .iload_n 1, []) :: (7, .iload_n 2, []) :: (8, .invokevirtual 61, [0, 2, 3]) :: (11, .lconst 0, [0]) :: (12, .lcmp, []) :: (13, .ifCond .ne 14, [27, 0]) :: (16, .aload_n 0, []) :: (17, .iload_n 2, []) :: (18, .iload_n 1, []) :: (19, .invokevirtual 61, [0, 2, 3]) :: (22, .lconst 0, [0]) :: (23, .lcmp, []) :: (24, .ifCond .eq 7, [31, 0]) :: (27, .nop, [0]) :: []
def p_X4_near_0 : List (List (Nat × Nat)) := [] :: [] :: [] :: [] :: [] :: [] :: [(5, 92)] :: [] :: [] :: [] :: [] :: [] :: [] :: [(5, 92)] :: [] :: [] :: [] :: [] :: []
def bl_X4_near : List (Nat × List zE) := [(0, b_X4_near_0), (27, b_X4_near_27), (31, b_X4_near_31), (32, b_X4_near_32)]
def pl_X4_near : List (List (List (Nat × Nat))) := [p_X4_near_0, p_X4_near_27, p_X4_near_31, p_X4_near_32]
theorem k_X4_near_0 : zlk 0 bl_X4_near = b_X4_near_0 := rfl
theorem k_X4_near_27 : zlk 27 bl_X4_near = b_X4_near_27 := rfl
theorem k_X4_near_31 : zlk 31 bl_X4_near = b_X4_near_31 := rfl
theorem k_X4_near_32 : zlk 32 bl_X4_near = b_X4_near_32 := rfl
set_option maxRecDepth 100000 in
theorem ck_X4_near : zall q_X4_near.2.2.2.2.1 q_X4_near.2.1 4 false q_X4_near.2.2.1 cal_X4_near q_X4_near.2.2.2.1 bl_X4_near pl_X4_near = true := by decide +kernel
theorem nm_X4_near : plainName q_X4_near.1.cls = true ∧ zRX 4 = q_X4_near.1.cls ∧ (false = true → q_X4_near.1.name = "<init>") := ⟨by decide +kernel, rfl, fun h => by first | rfl | cases h⟩
set_option maxRecDepth 100000 in
theorem wd_X4_countNeighbours : zwd q_X4_countNeighbours := ⟨zw_in (p := (5, 88)) (by decide +kernel), zw_in (p := (1, 6)) (by decide +kernel), fun h => absurd h (by decide), fun _ => zw_in (p := (5, 87)) (by decide +kernel), fun _ => zw_in (p := (0, 40)) (by decide +kernel)⟩
def cal_X4_countNeighbours : List zCal := [q_X4_near]
def b_X4_countNeighbours_69 : List zE := (69, .return_, []) :: []
def p_X4_countNeighbours_69 : List (List (Nat × Nat)) := [] :: []
def b_X4_countNeighbours_63 : List zE := (63, .iinc 2 1, [1]) :: (66, .goto (-64), [2, 1]) :: []
def p_X4_countNeighbours_63 : List (List (Nat × Nat)) := [] :: [] :: []
def b_X4_countNeighbours_55 : List zE := (55, .iadd, []) :: (56, .iastore, []) :: (57, .iinc 3 1, [1]) :: (60, .goto (-34), [26, 1]) :: []
def p_X4_countNeighbours_55 : List (List (Nat × Nat)) := [] :: [] :: [] :: [] :: []
def b_X4_countNeighbours_54 : List zE := (54, .iconst 0, [0]) :: (55, .nop, [0]) :: []
def p_X4_countNeighbours_54 : List (List (Nat × Nat)) := [] :: [] :: []
def b_X4_countNeighbours_26 : List zE := (26, .iload_n 3, []) :: (27, .aload_n 0, []) :: (28, .getfield 25, [4, 4]) :: (31, .if_icmp .ge 32, [63, 0]) :: (34, .aload_n 0, []) :: (35, .getfield 18, [4, 2]) :: (38, .iload_n 2, []) :: (39, .dup2, []) :: (40, .iaload, []) :: (41, .aload_n 1, []) :: (42, .iload_n 2, []) :: (43, .iload_n 3, []) :: (44, .invokestatic 65, [0, 3]) :: (47, .ifCond .eq 7, [54, 0]) :: (50, .iconst 1, [1]) :: (51, .goto 4, [55, 0]) :: []
def p_X4_countNeighbours_26 : List (List (Nat × Nat)) := [] :: [] :: [(1, 166)] :: [] :: [] :: [(1, 164)] :: [] :: [] :: [] :: [] :: [] :: [] :: [(5, 89)] :: [] :: [] :: [] :: []
def b_X4_countNeighbours_2 : List zE := (2, .iload_n 2, []) :: (3, .aload_n 0, []) :: (4, .getfield 25, [4, 4]) :: (7, .if_icmp .ge 62, [69, 0]) :: (10, .aload_n 0, []) :: (11, .getfield 21, [4, 3]) :: (14, .iload_n 2, []) :: (15, .iconst 0, [0]) :: (16, .bastore, []) :: (17, .aload_n 0, []) :: (18, .getfield 18, [4, 2]) :: (21, .iload_n 2, []) :: (22, .iconst 0, [0]) :: (23, .iastore, []) :: (24, .iconst 0, [0]) :: (25, .istore_n 3, []) :: (26, .nop, []) :: []
def p_X4_countNeighbours_2 : List (List (Nat × Nat)) := [] :: [] :: [(1, 166)] :: [] :: [] :: [(1, 165)] :: [] :: [] :: [] :: [] :: [(1, 164)] :: [] :: [] :: [] :: [] :: [] :: [] :: []
def b_X4_countNeighbours_0 : List zE := (0, .iconst 0, [0]) :: (1, .istore_n 2, []) :: (2, .nop, []) :: []
def p_X4_countNeighbours_0 : List (List (Nat × Nat)) := [] :: [] :: [] :: []
def bl_X4_countNeighbours : List (Nat × List zE) := [(0, b_X4_countNeighbours_0), (2, b_X4_countNeighbours_2), (26, b_X4_countNeighbours_26), (54, b_X4_countNeighbours_54), (55, b_X4_countNeighbours_55), (63, b_X4_countNeighbours_63), (69, b_X4_countNeighbours_69)]
def pl_X4_countNeighbours : List (List (List (Nat × Nat))) := [p_X4_countNeighbours_0, p_X4_countNeighbours_2, p_X4_countNeighbours_26, p_X4_countNeighbours_54, p_X4_countNeighbours_55, p_X4_countNeighbours_63, p_X4_countNeighbours_69]
theorem k_X4_countNeighbours_0 : zlk 0 bl_X4_countNeighbours = b_X4_countNeighbours_0 := rfl
theorem k_X4_countNeighbours_2 : zlk 2 bl_X4_countNeighbours = b_X4_countNeighbours_2 := rfl
theorem k_X4_countNeighbours_26 : zlk 26 bl_X4_countNeighbours = b_X4_countNeighbours_26 := rfl
theorem k_X4_countNeighbours_54 : zlk 54 bl_X4_countNeighbours = b_X4_countNeighbours_54 := rfl
theorem k_X4_countNeighbours_55 : zlk 55 bl_X4_countNeighbours = b_X4_countNeighbours_55 := rfl
theorem k_X4_countNeighbours_63 : zlk 63 bl_X4_countNeighbours = b_X4_countNeighbours_63 := rfl
theorem k_X4_countNeighbours_69 : zlk 69 bl_X4_countNeighbours = b_X4_countNeighbours_69 := rfl
set_option maxRecDepth 100000 in
theorem ck_X4_countNeighbours : zall q_X4_countNeighbours.2.2.2.2.1 q_X4_countNeighbours.2.1 4 false q_X4_countNeighbours.2.2.1 cal_X4_countNeighbours q_X4_countNeighbours.2.2.2.1 bl_X4_countNeighbours pl_X4_countNeighbours = true := by decide +kernel
theorem nm_X4_countNeighbours : plainName q_X4_countNeighbours.1.cls = true ∧ zRX 4 = q_X4_countNeighbours.1.cls ∧ (false = true → q_X4_countNeighbours.1.name = "<init>") := ⟨by decide +kernel, rfl, fun h => by first | rfl | cases h⟩
set_option maxRecDepth 100000 in
theorem wd_X4_fewest : zwd q_X4_fewest := ⟨zw_in (p := (5, 96)) (by decide +kernel), zw_in (p := (1, 6)) (by decide +kernel), fun h => absurd h (by decide), fun _ => zw_in (p := (5, 95)) (by decide +kernel), fun _ => zw_in (p := (0, 41)) (by decide +kernel)⟩
def cal_X4_fewest : List zCal := [q_X4_near]
def b_X4_fewest_72 : List zE := (72, .iload_n 3, []) :: (73, .ireturn, []) :: []
def p_X4_fewest_72 : List (List (Nat × Nat)) := [] :: [] :: []
def b_X4_fewest_66 : List zE := (66, .iinc 4 1, [1]) :: (69, .goto (-64), [5, 1]) :: []
def p_X4_fewest_66 : List (List (Nat × Nat)) := [] :: [] :: []
def b_X4_fewest_63 : List zE := (63, .iload 4, []) :: (65, .istore_n 3, []) :: (66, .nop, [0]) :: []
def p_X4_fewest_63 : List (List (Nat × Nat)) := [] :: [] :: [] :: []
def b_X4_fewest_42 : List zE := (42, .iload_n 3, []) :: (43, .iconst (-1), [4294967295]) :: (44, .if_icmp .eq 19, [63, 0]) :: (47, .aload_n 0, []) :: (48, .getfield 18, [4, 2]) :: (51, .iload 4, []) :: (53, .iaload, []) :: (54, .aload_n 0, []) :: (55, .getfield 18, [4, 2]) :: (58, .iload_n 3, []) :: (59, .iaload, []) :: (60, .if_icmp .ge 6, [66, 0]) :: (63, .nop, [0]) :: []
def p_X4_fewest_42 : List (List (Nat × Nat)) := [] :: [] :: [] :: [] :: [(1, 164)] :: [] :: [] :: [] :: [(1, 164)] :: [] :: [] :: [] :: [] :: []
def b_X4_fewest_5 : List zE := (5, .iload 4, []) :: (7, .aload_n 0, []) :: (8, .getfield 25, [4, 4]) :: (11, .if_icmp .ge 61, [72, 0]) :: (14, .aload_n 0, []) :: (15, .getfield 21, [4, 3]) :: (18, .iload 4, []) :: (20, .baload, []) :: (21, .ifCond .ne 45, [66, 0]) :: (24, .iload_n 2, []) :: (25, .iconst (-1), [4294967295]) :: (26, .if_icmp .eq 16, [42, 0]) :: (29, .aload_n 1, []) :: (30, .iload_n 2, []) :: (31, .iload 4, []) :: (33, .invokestatic 65, [0, 3]) :: (36, .ifCond .ne 6, [42, 0]) :: (39, .goto 27, [66, 0]) :: []
def p_X4_fewest_5 : List (List (Nat × Nat)) := [] :: [] :: [(1, 166)] :: [] :: [] :: [(1, 165)] :: [] :: [] :: [] :: [] :: [] :: [] :: [] :: [] :: [] :: [(5, 89)] :: [] :: [] :: []
def b_X4_fewest_0 : List zE := (0, .iconst (-1), [4294967295]) :: (1, .istore_n 3, []) :: (2, .iconst 0, [0]) :: (3, .istore 4, []) :: (5, .nop, []) :: []
def p_X4_fewest_0 : List (List (Nat × Nat)) := [] :: [] :: [] :: [] :: [] :: []
def bl_X4_fewest : List (Nat × List zE) := [(0, b_X4_fewest_0), (5, b_X4_fewest_5), (42, b_X4_fewest_42), (63, b_X4_fewest_63), (66, b_X4_fewest_66), (72, b_X4_fewest_72)]
def pl_X4_fewest : List (List (List (Nat × Nat))) := [p_X4_fewest_0, p_X4_fewest_5, p_X4_fewest_42, p_X4_fewest_63, p_X4_fewest_66, p_X4_fewest_72]
theorem k_X4_fewest_0 : zlk 0 bl_X4_fewest = b_X4_fewest_0 := rfl
theorem k_X4_fewest_5 : zlk 5 bl_X4_fewest = b_X4_fewest_5 := rfl
theorem k_X4_fewest_42 : zlk 42 bl_X4_fewest = b_X4_fewest_42 := rfl
theorem k_X4_fewest_63 : zlk 63 bl_X4_fewest = b_X4_fewest_63 := rfl
theorem k_X4_fewest_66 : zlk 66 bl_X4_fewest = b_X4_fewest_66 := rfl
theorem k_X4_fewest_72 : zlk 72 bl_X4_fewest = b_X4_fewest_72 := rfl
set_option maxRecDepth 100000 in
theorem ck_X4_fewest : zall q_X4_fewest.2.2.2.2.1 q_X4_fewest.2.1 4 false q_X4_fewest.2.2.1 cal_X4_fewest q_X4_fewest.2.2.2.1 bl_X4_fewest pl_X4_fewest = true := by decide +kernel
theorem nm_X4_fewest : plainName q_X4_fewest.1.cls = true ∧ zRX 4 = q_X4_fewest.1.cls ∧ (false = true → q_X4_fewest.1.name = "<init>") := ⟨by decide +kernel, rfl, fun h => by first | rfl | cases h⟩
set_option maxRecDepth 100000 in
theorem wd_X4_append : zwd q_X4_append := ⟨zw_in (p := (5, 100)) (by decide +kernel), zw_in (p := (1, 6)) (by decide +kernel), fun h => absurd h (by decide), fun _ => zw_in (p := (5, 99)) (by decide +kernel), fun _ => zw_in (p := (0, 42)) (by decide +kernel)⟩
def cal_X4_append : List zCal := []
def b_X4_append_50 : List zE := (50, .return_, []) :: []
def p_X4_append_50 : List (List (Nat × Nat)) := [] :: []
def b_X4_append_0 : List zE := (0, .iload_n 1, []) :: (1, .ifCond .lt 49, [50, 0]) :: (4, .iload_n 1, []) :: (5, .aload_n 0, []) :: (6, .getfield 25, [4, 4]) :: (9, .if_icmp .ge 41, [50, 0]) :: (12, .aload_n 0, []) :: (13, .getfield 34, [4, 5]) :: (16, .aload_n 0, []) :: (17, .getfield 25, [4, 4]) :: (20, .if_icmp .ge 30, [50, 0]) :: (23, .aload_n 0, []) :: (24, .getfield 21, [4, 3]) :: (27, .iload_n 1, []) :: (28, .iconst 1, [1]) :: (29, .bastore, []) :: (30, .aload_n 0, []) :: (31, .getfield 15, [4, 1]) :: (34, .aload_n 0, []) :: (35, .getfield 34, [4, 5]) :: (38, .iload_n 1, []) :: (39, .iastore, []) :: (40, .aload_n 0, []) :: (41, .dup, []) :: (42, .getfield 34, [4, 5]) :: (45, .iconst 1, [1]) :: (46, .iadd, []) :: (47, .putfield 34, [4, 5]) :: (50, .nop, [0]) :: []
def p_X4_append_0 : List (List (Nat × Nat)) := [] :: [] :: [] :: [] :: [(1, 166)] :: [] :: [] :: [(1, 167)] :: [] :: [(1, 166)] :: [] :: [] :: [(1, 165)] :: [] :: [] :: [] :: [] :: [(1, 163)] :: [] :: [(1, 167)] :: [] :: [] :: [] :: [] :: [(1, 167)] :: [] :: [] :: [(1, 167)] :: [] :: []
def bl_X4_append : List (Nat × List zE) := [(0, b_X4_append_0), (50, b_X4_append_50)]
def pl_X4_append : List (List (List (Nat × Nat))) := [p_X4_append_0, p_X4_append_50]
theorem k_X4_append_0 : zlk 0 bl_X4_append = b_X4_append_0 := rfl
theorem k_X4_append_50 : zlk 50 bl_X4_append = b_X4_append_50 := rfl
set_option maxRecDepth 100000 in
theorem ck_X4_append : zall q_X4_append.2.2.2.2.1 q_X4_append.2.1 4 false q_X4_append.2.2.1 cal_X4_append q_X4_append.2.2.2.1 bl_X4_append pl_X4_append = true := by decide +kernel
theorem nm_X4_append : plainName q_X4_append.1.cls = true ∧ zRX 4 = q_X4_append.1.cls ∧ (false = true → q_X4_append.1.name = "<init>") := ⟨by decide +kernel, rfl, fun h => by first | rfl | cases h⟩
set_option maxRecDepth 100000 in
theorem wd_X4_appendNeighbours : zwd q_X4_appendNeighbours := ⟨zw_in (p := (5, 104)) (by decide +kernel), zw_in (p := (1, 6)) (by decide +kernel), fun h => absurd h (by decide), fun _ => zw_in (p := (5, 103)) (by decide +kernel), fun _ => zw_in (p := (0, 43)) (by decide +kernel)⟩
def cal_X4_appendNeighbours : List zCal := [q_X4_fewest, q_X4_append]
def b_X4_appendNeighbours_26 : List zE := (26, .return_, []) :: []
def p_X4_appendNeighbours_26 : List (List (Nat × Nat)) := [] :: []
def b_X4_appendNeighbours_2 : List zE := (2, .iload_n 3, []) :: (3, .aload_n 0, []) :: (4, .getfield 25, [4, 4]) :: (7, .if_icmp .ge 19, [26, 0]) :: (10, .aload_n 0, []) :: (11, .aload_n 0, []) :: (12, .aload_n 1, []) :: (13, .iload_n 2, []) :: (14, .invokevirtual 41, [0, 2, 4]) :: (17, .invokevirtual 45, [1, 1, 4]) :: (20, .iinc 3 1, [1]) :: (23, .goto (-21), [2, 1]) :: []
def p_X4_appendNeighbours_2 : List (List (Nat × Nat)) := [] :: [] :: [(1, 166)] :: [] :: [] :: [] :: [] :: [] :: [(5, 93)] :: [(5, 97)] :: [] :: [] :: []
def b_X4_appendNeighbours_0 : List zE := (0, .iconst 0, [0]) :: (1, .istore_n 3, []) :: (2, .nop, []) :: []
def p_X4_appendNeighbours_0 : List (List (Nat × Nat)) := [] :: [] :: [] :: []
def bl_X4_appendNeighbours : List (Nat × List zE) := [(0, b_X4_appendNeighbours_0), (2, b_X4_appendNeighbours_2), (26, b_X4_appendNeighbours_26)]
def pl_X4_appendNeighbours : List (List (List (Nat × Nat))) := [p_X4_appendNeighbours_0, p_X4_appendNeighbours_2, p_X4_appendNeighbours_26]
theorem k_X4_appendNeighbours_0 : zlk 0 bl_X4_appendNeighbours = b_X4_appendNeighbours_0 := rfl
theorem k_X4_appendNeighbours_2 : zlk 2 bl_X4_appendNeighbours = b_X4_appendNeighbours_2 := rfl
theorem k_X4_appendNeighbours_26 : zlk 26 bl_X4_appendNeighbours = b_X4_appendNeighbours_26 := rfl
set_option maxRecDepth 100000 in
theorem ck_X4_appendNeighbours : zall q_X4_appendNeighbours.2.2.2.2.1 q_X4_appendNeighbours.2.1 4 false q_X4_appendNeighbours.2.2.1 cal_X4_appendNeighbours q_X4_appendNeighbours.2.2.2.1 bl_X4_appendNeighbours pl_X4_appendNeighbours = true := by decide +kernel
theorem nm_X4_appendNeighbours : plainName q_X4_appendNeighbours.1.cls = true ∧ zRX 4 = q_X4_appendNeighbours.1.cls ∧ (false = true → q_X4_appendNeighbours.1.name = "<init>") := ⟨by decide +kernel, rfl, fun h => by first | rfl | cases h⟩
set_option maxRecDepth 100000 in
theorem wd_X4_widthSo : zwd q_X4_widthSo := ⟨zw_in (p := (5, 108)) (by decide +kernel), zw_in (p := (1, 6)) (by decide +kernel), fun h => absurd h (by decide), fun _ => zw_in (p := (5, 107)) (by decide +kernel), fun _ => zw_in (p := (0, 44)) (by decide +kernel)⟩
def cal_X4_widthSo : List zCal := [q_X3_at]
def b_X4_widthSo_70 : List zE := (70, .iload_n 2, []) :: (71, .ireturn, []) :: []
def p_X4_widthSo_70 : List (List (Nat × Nat)) := [] :: [] :: []
def b_X4_widthSo_64 : List zE := (64, .iinc 3 1, [1]) :: (67, .goto (-63), [4, 1]) :: []
def p_X4_widthSo_64 : List (List (Nat × Nat)) := [] :: [] :: []
def b_X4_widthSo_58 : List zE := (58, .iinc 4 1, [1]) :: (61, .goto (-46), [15, 1]) :: []
def p_X4_widthSo_58 : List (List (Nat × Nat)) := [] :: [] :: []
def b_X4_widthSo_15 : List zE := (15, .iload 4, []) :: (17, .aload_n 0, []) :: (18, .getfield 25, [4, 4]) :: (21, .if_icmp .ge 43, [64, 0]) :: (24, .aload_n 1, []) :: (25, .aload_n 0, []) :: (26, .getfield 9, [4, 0]) :: (29, .iload_n 3, []) :: (30, .iaload, []) :: (31, .aload_n 0, []) :: (32, .getfield 9, [4, 0]) :: (35, .iload 4, []) :: (37, .iaload, []) :: (38, .invokevirtual 61, [0, 2, 3]) :: (41, .lconst 0, [0]) :: (42, .lcmp, []) :: (43, .ifCond .eq 15, [58, 0]) :: (46, .iload_n 2, []) :: (47, .iload_n 3, []) :: (48, .iload 4, []) :: (50, .isub, []) :: (51, .invokestatic 69, [104]) :: (54, .invokestatic 75, [102]) :: (57, .istore_n 2, []) :: (58, .nop, [0]) :: []
def p_X4_widthSo_15 : List (List (Nat × Nat)) := [] :: [] :: [(1, 166)] :: [] :: [] :: [] :: [(1, 162)] :: [] :: [] :: [] :: [(1, 162)] :: [] :: [] :: [(5, 92)] :: [] :: [] :: [] :: [] :: [] :: [] :: [] :: [(5, 109), (2, 194), (1, 14), (2, 195)] :: [(5, 110), (2, 197), (1, 14), (2, 198)] :: [] :: [] :: []
def b_X4_widthSo_4 : List zE := (4, .iload_n 3, []) :: (5, .aload_n 0, []) :: (6, .getfield 25, [4, 4]) :: (9, .if_icmp .ge 61, [70, 0]) :: (12, .iconst 0, [0]) :: (13, .istore 4, []) :: (15, .nop, []) :: []
def p_X4_widthSo_4 : List (List (Nat × Nat)) := [] :: [] :: [(1, 166)] :: [] :: [] :: [] :: [] :: []
def b_X4_widthSo_0 : List zE := (0, .iconst 0, [0]) :: (1, .istore_n 2, []) :: (2, .iconst 0, [0]) :: (3, .istore_n 3, []) :: (4, .nop, []) :: []
def p_X4_widthSo_0 : List (List (Nat × Nat)) := [] :: [] :: [] :: [] :: [] :: []
def bl_X4_widthSo : List (Nat × List zE) := [(0, b_X4_widthSo_0), (4, b_X4_widthSo_4), (15, b_X4_widthSo_15), (58, b_X4_widthSo_58), (64, b_X4_widthSo_64), (70, b_X4_widthSo_70)]
def pl_X4_widthSo : List (List (List (Nat × Nat))) := [p_X4_widthSo_0, p_X4_widthSo_4, p_X4_widthSo_15, p_X4_widthSo_58, p_X4_widthSo_64, p_X4_widthSo_70]
theorem k_X4_widthSo_0 : zlk 0 bl_X4_widthSo = b_X4_widthSo_0 := rfl
theorem k_X4_widthSo_4 : zlk 4 bl_X4_widthSo = b_X4_widthSo_4 := rfl
theorem k_X4_widthSo_15 : zlk 15 bl_X4_widthSo = b_X4_widthSo_15 := rfl
theorem k_X4_widthSo_58 : zlk 58 bl_X4_widthSo = b_X4_widthSo_58 := rfl
theorem k_X4_widthSo_64 : zlk 64 bl_X4_widthSo = b_X4_widthSo_64 := rfl
theorem k_X4_widthSo_70 : zlk 70 bl_X4_widthSo = b_X4_widthSo_70 := rfl
set_option maxRecDepth 100000 in
theorem ck_X4_widthSo : zall q_X4_widthSo.2.2.2.2.1 q_X4_widthSo.2.1 4 false q_X4_widthSo.2.2.1 cal_X4_widthSo q_X4_widthSo.2.2.2.1 bl_X4_widthSo pl_X4_widthSo = true := by decide +kernel
theorem nm_X4_widthSo : plainName q_X4_widthSo.1.cls = true ∧ zRX 4 = q_X4_widthSo.1.cls ∧ (false = true → q_X4_widthSo.1.name = "<init>") := ⟨by decide +kernel, rfl, fun h => by first | rfl | cases h⟩
set_option maxRecDepth 100000 in
theorem wd_X4_arrange : zwd q_X4_arrange := ⟨zw_in (p := (5, 84)) (by decide +kernel), zw_in (p := (1, 6)) (by decide +kernel), fun h => absurd h (by decide), fun _ => zw_in (p := (5, 82)) (by decide +kernel), fun _ => zw_in (p := (5, 83)) (by decide +kernel)⟩
def cal_X4_arrange : List zCal := [q_X4_countNeighbours, q_X4_fewest, q_X4_append, q_X4_appendNeighbours, q_X4_widthSo, q_X3_width]
def b_X4_arrange_160 : List zE := (160, .return_, []) :: []
def p_X4_arrange_160 : List (List (Nat × Nat)) := [] :: []
def b_X4_arrange_139 : List zE := (139, .iload_n 3, []) :: (140, .aload_n 0, []) :: (141, .getfield 25, [4, 4]) :: (144, .if_icmp .ge 16, [160, 0]) :: (147, .aload_n 0, []) :: (148, .getfield 9, [4, 0]) :: (151, .iload_n 3, []) :: (152, .iload_n 3, []) :: (153, .iastore, []) :: (154, .iinc 3 1, [1]) :: (157, .goto (-18), [139, 1]) :: []
def p_X4_arrange_139 : List (List (Nat × Nat)) := [] :: [] :: [(1, 166)] :: [] :: [] :: [(1, 162)] :: [] :: [] :: [] :: [] :: [] :: []
def b_X4_arrange_125 : List zE := (125, .aload_n 0, []) :: (126, .aload_n 1, []) :: (127, .invokevirtual 53, [4, 1, 4]) :: (130, .aload_n 1, []) :: (131, .invokevirtual 57, [5, 0, 3]) :: (134, .if_icmp .le 26, [160, 0]) :: (137, .iconst 0, [0]) :: (138, .istore_n 3, []) :: (139, .nop, []) :: []
def p_X4_arrange_125 : List (List (Nat × Nat)) := [] :: [] :: [(5, 105)] :: [] :: [(5, 111)] :: [] :: [] :: [] :: [] :: []
def b_X4_arrange_92 : List zE := (92, .iload_n 3, []) :: (93, .aload_n 0, []) :: (94, .getfield 25, [4, 4]) :: (97, .if_icmp .ge 28, [125, 0]) :: (100, .aload_n 0, []) :: (101, .getfield 9, [4, 0]) :: (104, .iload_n 3, []) :: (105, .aload_n 0, []) :: (106, .getfield 15, [4, 1]) :: (109, .aload_n 0, []) :: (110, .getfield 25, [4, 4]) :: (113, .iconst 1, [1]) :: (114, .isub, []) :: (115, .iload_n 3, []) :: (116, .isub, []) :: (117, .iaload, []) :: (118, .iastore, []) :: (119, .iinc 3 1, [1]) :: (122, .goto (-30), [92, 1]) :: []
def p_X4_arrange_92 : List (List (Nat × Nat)) := [] :: [] :: [(1, 166)] :: [] :: [] :: [(1, 162)] :: [] :: [] :: [(1, 163)] :: [] :: [(1, 166)] :: [] :: [] :: [] :: [] :: [] :: [] :: [] :: [] :: []
def b_X4_arrange_90 : List zE := (90, .iconst 0, [0]) :: (91, .istore_n 3, []) :: (92, .nop, []) :: []
def p_X4_arrange_90 : List (List (Nat × Nat)) := [] :: [] :: [] :: []
def b_X4_arrange_84 : List zE := (84, .iinc 3 1, [1]) :: (87, .goto (-65), [22, 1]) :: []
def p_X4_arrange_84 : List (List (Nat × Nat)) := [] :: [] :: []
def b_X4_arrange_51 : List zE := (51, .iload_n 2, []) :: (52, .aload_n 0, []) :: (53, .getfield 34, [4, 5]) :: (56, .if_icmp .ge 28, [84, 0]) :: (59, .iload_n 2, []) :: (60, .aload_n 0, []) :: (61, .getfield 25, [4, 4]) :: (64, .if_icmp .ge 20, [84, 0]) :: (67, .aload_n 0, []) :: (68, .aload_n 1, []) :: (69, .aload_n 0, []) :: (70, .getfield 15, [4, 1]) :: (73, .iload_n 2, []) :: (74, .iaload, []) :: (75, .invokevirtual 49, [3, 2, 4]) :: (78, .iinc 2 1, [1]) :: (81, .goto (-30), [51, 1]) :: []
def p_X4_arrange_51 : List (List (Nat × Nat)) := [] :: [] :: [(1, 167)] :: [] :: [] :: [] :: [(1, 166)] :: [] :: [] :: [] :: [] :: [(1, 163)] :: [] :: [] :: [(5, 101)] :: [] :: [] :: []
def b_X4_arrange_22 : List zE := (22, .iload_n 3, []) :: (23, .aload_n 0, []) :: (24, .getfield 25, [4, 4]) :: (27, .if_icmp .ge 63, [90, 0]) :: (30, .aload_n 0, []) :: (31, .getfield 34, [4, 5]) :: (34, .aload_n 0, []) :: (35, .getfield 25, [4, 4]) :: (38, .if_icmp .ge 52, [90, 0]) :: (41, .aload_n 0, []) :: (42, .aload_n 0, []) :: (43, .aload_n 1, []) :: (44, .iconst (-1), [4294967295]) :: (45, .invokevirtual 41, [1, 2, 4]) :: (48, .invokevirtual 45, [2, 1, 4]) :: (51, .nop, []) :: []
def p_X4_arrange_22 : List (List (Nat × Nat)) := [] :: [] :: [(1, 166)] :: [] :: [] :: [(1, 167)] :: [] :: [(1, 166)] :: [] :: [] :: [] :: [] :: [] :: [(5, 93)] :: [(5, 97)] :: [] :: []
def b_X4_arrange_0 : List zE := (0, .aload_n 0, []) :: (1, .aload_n 1, []) :: (2, .getfield 29, [3, 2]) :: (5, .putfield 25, [4, 4]) :: (8, .aload_n 0, []) :: (9, .iconst 0, [0]) :: (10, .putfield 34, [4, 5]) :: (13, .aload_n 0, []) :: (14, .aload_n 1, []) :: (15, .invokevirtual 37, [0, 1, 4]) :: (18, .iconst 0, [0]) :: (19, .istore_n 2, []) :: (20, .iconst 0, [0]) :: (21, .istore_n 3, []) :: (22, .nop, []) :: []
def p_X4_arrange_0 : List (List (Nat × Nat)) := [] :: [] :: [(1, 215)] :: [(1, 166)] :: [] :: [] :: [(1, 167)] :: [] :: [] :: [(5, 85)] :: [] :: [] :: [] :: [] :: [] :: []
def bl_X4_arrange : List (Nat × List zE) := [(0, b_X4_arrange_0), (22, b_X4_arrange_22), (51, b_X4_arrange_51), (84, b_X4_arrange_84), (90, b_X4_arrange_90), (92, b_X4_arrange_92), (125, b_X4_arrange_125), (139, b_X4_arrange_139), (160, b_X4_arrange_160)]
def pl_X4_arrange : List (List (List (Nat × Nat))) := [p_X4_arrange_0, p_X4_arrange_22, p_X4_arrange_51, p_X4_arrange_84, p_X4_arrange_90, p_X4_arrange_92, p_X4_arrange_125, p_X4_arrange_139, p_X4_arrange_160]
theorem k_X4_arrange_0 : zlk 0 bl_X4_arrange = b_X4_arrange_0 := rfl
theorem k_X4_arrange_22 : zlk 22 bl_X4_arrange = b_X4_arrange_22 := rfl
theorem k_X4_arrange_51 : zlk 51 bl_X4_arrange = b_X4_arrange_51 := rfl
theorem k_X4_arrange_84 : zlk 84 bl_X4_arrange = b_X4_arrange_84 := rfl
theorem k_X4_arrange_90 : zlk 90 bl_X4_arrange = b_X4_arrange_90 := rfl
theorem k_X4_arrange_92 : zlk 92 bl_X4_arrange = b_X4_arrange_92 := rfl
theorem k_X4_arrange_125 : zlk 125 bl_X4_arrange = b_X4_arrange_125 := rfl
theorem k_X4_arrange_139 : zlk 139 bl_X4_arrange = b_X4_arrange_139 := rfl
theorem k_X4_arrange_160 : zlk 160 bl_X4_arrange = b_X4_arrange_160 := rfl
set_option maxRecDepth 100000 in
theorem ck_X4_arrange : zall q_X4_arrange.2.2.2.2.1 q_X4_arrange.2.1 4 false q_X4_arrange.2.2.1 cal_X4_arrange q_X4_arrange.2.2.2.1 bl_X4_arrange pl_X4_arrange = true := by decide +kernel
theorem nm_X4_arrange : plainName q_X4_arrange.1.cls = true ∧ zRX 4 = q_X4_arrange.1.cls ∧ (false = true → q_X4_arrange.1.name = "<init>") := ⟨by decide +kernel, rfl, fun h => by first | rfl | cases h⟩
set_option maxRecDepth 100000 in
theorem wd_X7_init : zwd q_X7_init := ⟨zw_in (p := (1, 39)) (by decide +kernel), zw_in (p := (1, 3)) (by decide +kernel), fun h => absurd h (by decide), fun _ => zw_in (p := (1, 38)) (by decide +kernel), fun h => absurd h (by decide)⟩
def cal_X7_init : List zCal := []
def b_X7_init_0 : List zE := (0, .aload_n 0, []) :: (1, .invokespecial 1, []) :: (4, .aload_n 0, []) :: (5, .sipush 136, [136]) :: (8, .newarray .long, [22]) :: (10, .putfield 9, [7, 0]) :: (13, .aload_n 0, []) :: (14, .sipush 136, [136]) :: (17, .putfield 13, [7, 1]) :: (20, .aload_n 0, []) :: (21, .iconst (-1), [4294967295]) :: (22, .putfield 17, [7, 2]) :: (25, .return_, []) :: []
def p_X7_init_0 : List (List (Nat × Nat)) := [] :: [(1, 40), (1, 21), (1, 22)] :: [] :: [] :: [(1, 54)] :: [(1, 41)] :: [] :: [] :: [(1, 42)] :: [] :: [] :: [(1, 43)] :: [] :: []
def bl_X7_init : List (Nat × List zE) := [(0, b_X7_init_0)]
def pl_X7_init : List (List (List (Nat × Nat))) := [p_X7_init_0]
theorem k_X7_init_0 : zlk 0 bl_X7_init = b_X7_init_0 := rfl
set_option maxRecDepth 100000 in
theorem ck_X7_init : zall q_X7_init.2.2.2.2.1 q_X7_init.2.1 7 true q_X7_init.2.2.1 cal_X7_init q_X7_init.2.2.2.1 bl_X7_init pl_X7_init = true := by decide +kernel
theorem nm_X7_init : plainName q_X7_init.1.cls = true ∧ zRX 7 = q_X7_init.1.cls ∧ (true = true → q_X7_init.1.name = "<init>") := ⟨by decide +kernel, rfl, fun h => by first | rfl | cases h⟩
set_option maxRecDepth 100000 in
theorem wd_X5_init : zwd q_X5_init := ⟨zw_in (p := (1, 33)) (by decide +kernel), zw_in (p := (1, 2)) (by decide +kernel), fun h => absurd h (by decide), fun _ => zw_in (p := (1, 32)) (by decide +kernel), fun h => absurd h (by decide)⟩
def cal_X5_init : List zCal := [q_X7_init]
def b_X5_init_0 : List zE := (0, .aload_n 0, []) :: (1, .invokespecial 3, []) :: (4, .aload_n 0, []) :: (5, .new 9, [7]) :: (8, .dup, []) :: (9, .invokespecial 11, [0, 0]) :: (12, .putfield 12, [5, 0]) :: (15, .aload_n 0, []) :: (16, .new 9, [7]) :: (19, .dup, []) :: (20, .invokespecial 11, [0, 0]) :: (23, .putfield 18, [5, 1]) :: (26, .aload_n 0, []) :: (27, .new 9, [7]) :: (30, .dup, []) :: (31, .invokespecial 11, [0, 0]) :: (34, .putfield 21, [5, 2]) :: (37, .aload_n 0, []) :: (38, .new 9, [7]) :: (41, .dup, []) :: (42, .invokespecial 11, [0, 0]) :: (45, .putfield 24, [5, 3]) :: (48, .aload_n 0, []) :: (49, .bipush 8, [8]) :: (51, .newarray .long, [22]) :: (53, .putfield 27, [5, 4]) :: (56, .aload_n 0, []) :: (57, .bipush 8, [8]) :: (59, .newarray .long, [22]) :: (61, .putfield 31, [5, 5]) :: (64, .aload_n 0, []) :: (65, .bipush 8, [8]) :: (67, .newarray .long, [22]) :: (69, .putfield 34, [5, 6]) :: (72, .aload_n 0, []) :: (73, .bipush 8, [8]) :: (75, .newarray .long, [22]) :: (77, .putfield 37, [5, 7]) :: (80, .aload_n 0, []) :: (81, .bipush 8, [8]) :: (83, .newarray .long, [22]) :: (85, .putfield 40, [5, 8]) :: (88, .return_, []) :: []
def p_X5_init_0 : List (List (Nat × Nat)) := [] :: [(1, 34), (1, 21), (1, 22)] :: [] :: [(1, 35), (1, 36), (1, 3)] :: [] :: [] :: [(1, 55)] :: [] :: [(1, 35), (1, 36), (1, 3)] :: [] :: [] :: [(1, 56)] :: [] :: [(1, 35), (1, 36), (1, 3)] :: [] :: [] :: [(1, 57)] :: [] :: [(1, 35), (1, 36), (1, 3)] :: [] :: [] :: [(1, 58)] :: [] :: [] :: [(1, 54)] :: [(1, 59)] :: [] :: [] :: [(1, 54)] :: [(1, 60)] :: [] :: [] :: [(1, 54)] :: [(1, 61)] :: [] :: [] :: [(1, 54)] :: [(1, 62)] :: [] :: [] :: [(1, 54)] :: [(1, 63)] :: [] :: []
def bl_X5_init : List (Nat × List zE) := [(0, b_X5_init_0)]
def pl_X5_init : List (List (List (Nat × Nat))) := [p_X5_init_0]
theorem k_X5_init_0 : zlk 0 bl_X5_init = b_X5_init_0 := rfl
set_option maxRecDepth 100000 in
theorem ck_X5_init : zall q_X5_init.2.2.2.2.1 q_X5_init.2.1 5 true q_X5_init.2.2.1 cal_X5_init q_X5_init.2.2.2.1 bl_X5_init pl_X5_init = true := by decide +kernel
theorem nm_X5_init : plainName q_X5_init.1.cls = true ∧ zRX 5 = q_X5_init.1.cls ∧ (true = true → q_X5_init.1.name = "<init>") := ⟨by decide +kernel, rfl, fun h => by first | rfl | cases h⟩
set_option maxRecDepth 100000 in
theorem wd_X7_clear : zwd q_X7_clear := ⟨zw_in (p := (3, 227)) (by decide +kernel), zw_in (p := (1, 3)) (by decide +kernel), fun h => absurd h (by decide), fun _ => zw_in (p := (3, 225)) (by decide +kernel), fun _ => zw_in (p := (3, 226)) (by decide +kernel)⟩
def cal_X7_clear : List zCal := []
def b_X7_clear_26 : List zE := (26, .aload_n 0, []) :: (27, .sipush 136, [136]) :: (30, .putfield 13, [7, 1]) :: (33, .aload_n 0, []) :: (34, .iconst (-1), [4294967295]) :: (35, .putfield 17, [7, 2]) :: (38, .aload_n 0, []) :: (39, .iconst 0, [0]) :: (40, .putfield 20, [7, 3]) :: (43, .return_, []) :: []
def p_X7_clear_26 : List (List (Nat × Nat)) := [] :: [] :: [(1, 42)] :: [] :: [] :: [(1, 43)] :: [] :: [] :: [(1, 44)] :: [] :: []
def b_X7_clear_5 : List zE := (5, .iload_n 1, []) :: (6, .aload_n 0, []) :: (7, .getfield 17, [7, 2]) :: (10, .if_icmp .gt 16, [26, 0]) :: (13, .aload_n 0, []) :: (14, .getfield 9, [7, 0]) :: (17, .iload_n 1, []) :: (18, .lconst 0, [0]) :: (19, .lastore, []) :: (20, .iinc 1 1, [1]) :: (23, .goto (-18), [5, 1]) :: []
def p_X7_clear_5 : List (List (Nat × Nat)) := [] :: [] :: [(1, 43)] :: [] :: [] :: [(1, 41)] :: [] :: [] :: [] :: [] :: [] :: []
def b_X7_clear_0 : List zE := (0, .aload_n 0, []) :: (1, .getfield 13, [7, 1]) :: (4, .istore_n 1, []) :: (5, .nop, []) :: []
def p_X7_clear_0 : List (List (Nat × Nat)) := [] :: [(1, 42)] :: [] :: [] :: []
def bl_X7_clear : List (Nat × List zE) := [(0, b_X7_clear_0), (5, b_X7_clear_5), (26, b_X7_clear_26)]
def pl_X7_clear : List (List (List (Nat × Nat))) := [p_X7_clear_0, p_X7_clear_5, p_X7_clear_26]
theorem k_X7_clear_0 : zlk 0 bl_X7_clear = b_X7_clear_0 := rfl
theorem k_X7_clear_5 : zlk 5 bl_X7_clear = b_X7_clear_5 := rfl
theorem k_X7_clear_26 : zlk 26 bl_X7_clear = b_X7_clear_26 := rfl
set_option maxRecDepth 100000 in
theorem ck_X7_clear : zall q_X7_clear.2.2.2.2.1 q_X7_clear.2.1 7 false q_X7_clear.2.2.1 cal_X7_clear q_X7_clear.2.2.2.1 bl_X7_clear pl_X7_clear = true := by decide +kernel
theorem nm_X7_clear : plainName q_X7_clear.1.cls = true ∧ zRX 7 = q_X7_clear.1.cls ∧ (false = true → q_X7_clear.1.name = "<init>") := ⟨by decide +kernel, rfl, fun h => by first | rfl | cases h⟩
set_option maxRecDepth 100000 in
theorem wd_X7_addPiece : zwd q_X7_addPiece := ⟨zw_in (p := (3, 237)) (by decide +kernel), zw_in (p := (1, 3)) (by decide +kernel), fun h => absurd h (by decide), fun _ => zw_in (p := (3, 236)) (by decide +kernel), fun _ => zw_in (p := (0, 19)) (by decide +kernel)⟩
def cal_X7_addPiece : List zCal := []
def b_X7_addPiece_73 : List zE := (73, .lstore 12, []) :: (75, .aload_n 0, []) :: (76, .getfield 9, [7, 0]) :: (79, .iload 6, []) :: (81, .dup2, []) :: (82, .laload, []) :: (83, .lload 12, []) :: (85, .lload 8, []) :: (87, .ldc2_w 26, [4294967295]) :: (90, .land, []) :: (91, .lmul, []) :: (92, .ladd, []) :: (93, .lastore, []) :: (94, .aload_n 0, []) :: (95, .getfield 9, [7, 0]) :: (98, .iload 6, []) :: (100, .iconst 1, [1]) :: (101, .iadd, []) :: (102, .dup2, []) :: (103, .laload, []) :: (104, .lload 12, []) :: (106, .lload 8, []) :: (108, .bipush 32, [32]) :: (110, .lushr, []) :: (111, .lload 10, []) :: (113, .ldc2_w 26, [4294967295]) :: (116, .land, []) :: (117, .ladd, []) :: (118, .lmul, []) :: (119, .ladd, []) :: (120, .lastore, []) :: (121, .aload_n 0, []) :: (122, .getfield 9, [7, 0]) :: (125, .iload 6, []) :: (127, .iconst 2, [2]) :: (128, .iadd, []) :: (129, .dup2, []) :: (130, .laload, []) :: (131, .lload 12, []) :: (133, .lload 10, []) :: (135, .bipush 32, [32]) :: (137, .lushr, []) :: (138, .lmul, []) :: (139, .ladd, []) :: (140, .lastore, []) :: (141, .aload_n 0, []) :: (142, .aload_n 0, []) :: (143, .getfield 13, [7, 1]) :: (146, .iload 6, []) :: (148, .invokestatic 30, [103]) :: (151, .putfield 13, [7, 1]) :: (154, .aload_n 0, []) :: (155, .aload_n 0, []) :: (156, .getfield 17, [7, 2]) :: (159, .iload 6, []) :: (161, .iconst 2, [2]) :: (162, .iadd, []) :: (163, .invokestatic 36, [102]) :: (166, .putfield 17, [7, 2]) :: (169, .return_, []) :: []
def p_X7_addPiece_73 : List (List (Nat × Nat)) := [] :: [] :: [(1, 41)] :: [] :: [] :: [] :: [] :: [] :: [(3, 238)] :: [] :: [] :: [] :: [] :: [] :: [(1, 41)] :: [] :: [] :: [] :: [] :: [] :: [] :: [] :: [] :: [] :: [] :: [(3, 238)] :: [] :: [] :: [] :: [] :: [] :: [] :: [(1, 41)] :: [] :: [] :: [] :: [] :: [] :: [] :: [] :: [] :: [] :: [] :: [] :: [] :: [] :: [] :: [(1, 42)] :: [] :: [(4, 0), (4, 1), (1, 14), (4, 2)] :: [(1, 42)] :: [] :: [] :: [(1, 43)] :: [] :: [] :: [] :: [(4, 3), (2, 197), (1, 14), (2, 198)] :: [(1, 43)] :: [] :: []
def b_X7_addPiece_72 : List zE := (72, .lconst 1, [1]) :: (73, .nop, [0]) :: []
def p_X7_addPiece_72 : List (List (Nat × Nat)) := [] :: [] :: []
def b_X7_addPiece_35 : List zE := (35, .iload 5, []) :: (37, .bipush 31, [31]) :: (39, .iand, []) :: (40, .istore 7, []) :: (42, .lload_n 1, []) :: (43, .ldc2_w 26, [4294967295]) :: (46, .land, []) :: (47, .iload 7, []) :: (49, .lshl, []) :: (50, .lstore 8, []) :: (52, .lload_n 1, []) :: (53, .bipush 32, [32]) :: (55, .lushr, []) :: (56, .iload 7, []) :: (58, .lshl, []) :: (59, .lstore 10, []) :: (61, .iload 4, []) :: (63, .ifCond .eq 9, [72, 0]) :: (66, .ldc2_w 28, [18446744073709551615]) :: (69, .goto 4, [73, 0]) :: []
def p_X7_addPiece_35 : List (List (Nat × Nat)) := [] :: [] :: [] :: [] :: [] :: [(3, 238)] :: [] :: [] :: [] :: [] :: [] :: [] :: [] :: [] :: [] :: [] :: [] :: [] :: [(3, 239)] :: [] :: []
def b_X7_addPiece_34 : List zE := (34, .return_, []) :: []
def p_X7_addPiece_34 : List (List (Nat × Nat)) := [] :: []
def b_X7_addPiece_0 : List zE := (0, .iload_n 3, []) :: (1, .sipush (-2176), [4294965120]) :: (4, .isub, []) :: (5, .istore 5, []) :: (7, .iload 5, []) :: (9, .iconst 5, [5]) :: (10, .ishr, []) :: (11, .istore 6, []) :: (13, .lload_n 1, []) :: (14, .lconst 0, [0]) :: (15, .lcmp, []) :: (16, .ifCond .eq 18, [34, 0]) :: (19, .iload 6, []) :: (21, .ifCond .lt 13, [34, 0]) :: (24, .iload 6, []) :: (26, .iconst 2, [2]) :: (27, .iadd, []) :: (28, .sipush 136, [136]) :: (31, .if_icmp .lt 4, [35, 0]) :: (34, .nop, [0]) :: []
def p_X7_addPiece_0 : List (List (Nat × Nat)) := [] :: [] :: [] :: [] :: [] :: [] :: [] :: [] :: [] :: [] :: [] :: [] :: [] :: [] :: [] :: [] :: [] :: [] :: [] :: [] :: []
def bl_X7_addPiece : List (Nat × List zE) := [(0, b_X7_addPiece_0), (34, b_X7_addPiece_34), (35, b_X7_addPiece_35), (72, b_X7_addPiece_72), (73, b_X7_addPiece_73)]
def pl_X7_addPiece : List (List (List (Nat × Nat))) := [p_X7_addPiece_0, p_X7_addPiece_34, p_X7_addPiece_35, p_X7_addPiece_72, p_X7_addPiece_73]
theorem k_X7_addPiece_0 : zlk 0 bl_X7_addPiece = b_X7_addPiece_0 := rfl
theorem k_X7_addPiece_34 : zlk 34 bl_X7_addPiece = b_X7_addPiece_34 := rfl
theorem k_X7_addPiece_35 : zlk 35 bl_X7_addPiece = b_X7_addPiece_35 := rfl
theorem k_X7_addPiece_72 : zlk 72 bl_X7_addPiece = b_X7_addPiece_72 := rfl
theorem k_X7_addPiece_73 : zlk 73 bl_X7_addPiece = b_X7_addPiece_73 := rfl
set_option maxRecDepth 100000 in
theorem ck_X7_addPiece : zall q_X7_addPiece.2.2.2.2.1 q_X7_addPiece.2.1 7 false q_X7_addPiece.2.2.1 cal_X7_addPiece q_X7_addPiece.2.2.2.1 bl_X7_addPiece pl_X7_addPiece = true := by decide +kernel
theorem nm_X7_addPiece : plainName q_X7_addPiece.1.cls = true ∧ zRX 7 = q_X7_addPiece.1.cls ∧ (false = true → q_X7_addPiece.1.name = "<init>") := ⟨by decide +kernel, rfl, fun h => by first | rfl | cases h⟩
set_option maxRecDepth 100000 in
theorem wd_X7_addNumber : zwd q_X7_addNumber := ⟨zw_in (p := (3, 231)) (by decide +kernel), zw_in (p := (1, 3)) (by decide +kernel), fun h => absurd h (by decide), fun _ => zw_in (p := (3, 229)) (by decide +kernel), fun _ => zw_in (p := (3, 230)) (by decide +kernel)⟩
def cal_X7_addNumber : List zCal := [q_X0_mantissa, q_X0_scale, q_X7_addPiece]
def b_X7_addNumber_29 : List zE := (29, .invokevirtual 47, [2, 3, 7]) :: (32, .return_, []) :: []
def p_X7_addNumber_29 : List (List (Nat × Nat)) := [(3, 234)] :: [] :: []
def b_X7_addNumber_28 : List zE := (28, .iconst 0, [0]) :: (29, .nop, [0]) :: []
def p_X7_addNumber_28 : List (List (Nat × Nat)) := [] :: [] :: []
def b_X7_addNumber_20 : List zE := (20, .iload_n 3, []) :: (21, .if_icmp .eq 7, [28, 0]) :: (24, .iconst 1, [1]) :: (25, .goto 4, [29, 0]) :: []
def p_X7_addNumber_20 : List (List (Nat × Nat)) := [] :: [] :: [] :: [] :: []
def b_X7_addNumber_19 : List zE := (19, .iconst 0, [0]) :: (20, .nop, [0]) :: []
def p_X7_addNumber_19 : List (List (Nat × Nat)) := [] :: [] :: []
def b_X7_addNumber_0 : List zE := (0, .aload_n 0, []) :: (1, .lload_n 1, []) :: (2, .invokestatic 39, [0, 1]) :: (5, .lload_n 1, []) :: (6, .invokestatic 43, [1, 1]) :: (9, .lload_n 1, []) :: (10, .lconst 0, [0]) :: (11, .lcmp, []) :: (12, .ifCond .ge 7, [19, 0]) :: (15, .iconst 1, [1]) :: (16, .goto 4, [20, 0]) :: []
def p_X7_addNumber_0 : List (List (Nat × Nat)) := [] :: [] :: [(3, 232)] :: [] :: [(3, 233)] :: [] :: [] :: [] :: [] :: [] :: [] :: []
def bl_X7_addNumber : List (Nat × List zE) := [(0, b_X7_addNumber_0), (19, b_X7_addNumber_19), (20, b_X7_addNumber_20), (28, b_X7_addNumber_28), (29, b_X7_addNumber_29)]
def pl_X7_addNumber : List (List (List (Nat × Nat))) := [p_X7_addNumber_0, p_X7_addNumber_19, p_X7_addNumber_20, p_X7_addNumber_28, p_X7_addNumber_29]
theorem k_X7_addNumber_0 : zlk 0 bl_X7_addNumber = b_X7_addNumber_0 := rfl
theorem k_X7_addNumber_19 : zlk 19 bl_X7_addNumber = b_X7_addNumber_19 := rfl
theorem k_X7_addNumber_20 : zlk 20 bl_X7_addNumber = b_X7_addNumber_20 := rfl
theorem k_X7_addNumber_28 : zlk 28 bl_X7_addNumber = b_X7_addNumber_28 := rfl
theorem k_X7_addNumber_29 : zlk 29 bl_X7_addNumber = b_X7_addNumber_29 := rfl
set_option maxRecDepth 100000 in
theorem ck_X7_addNumber : zall q_X7_addNumber.2.2.2.2.1 q_X7_addNumber.2.1 7 false q_X7_addNumber.2.2.1 cal_X7_addNumber q_X7_addNumber.2.2.2.1 bl_X7_addNumber pl_X7_addNumber = true := by decide +kernel
theorem nm_X7_addNumber : plainName q_X7_addNumber.1.cls = true ∧ zRX 7 = q_X7_addNumber.1.cls ∧ (false = true → q_X7_addNumber.1.name = "<init>") := ⟨by decide +kernel, rfl, fun h => by first | rfl | cases h⟩
set_option maxRecDepth 100000 in
theorem wd_X7_addProduct : zwd q_X7_addProduct := ⟨zw_in (p := (4, 8)) (by decide +kernel), zw_in (p := (1, 3)) (by decide +kernel), fun h => absurd h (by decide), fun _ => zw_in (p := (4, 6)) (by decide +kernel), fun _ => zw_in (p := (4, 7)) (by decide +kernel)⟩
def cal_X7_addProduct : List zCal := [q_X0_mantissa, q_X0_high, q_X0_scale, q_X7_addPiece]
def b_X7_addProduct_71 : List zE := (71, .istore 15, []) :: (73, .aload_n 0, []) :: (74, .lload 10, []) :: (76, .ldc2_w 54, [18014398509481983]) :: (79, .land, []) :: (80, .iload 14, []) :: (82, .iload 15, []) :: (84, .invokevirtual 47, [3, 3, 7]) :: (87, .aload_n 0, []) :: (88, .lload 12, []) :: (90, .iload 14, []) :: (92, .bipush 54, [54]) :: (94, .iadd, []) :: (95, .iload 15, []) :: (97, .invokevirtual 47, [3, 3, 7]) :: (100, .return_, []) :: []
def p_X7_addProduct_71 : List (List (Nat × Nat)) := [] :: [] :: [] :: [(4, 10)] :: [] :: [] :: [] :: [(3, 234)] :: [] :: [] :: [] :: [] :: [] :: [] :: [(3, 234)] :: [] :: []
def b_X7_addProduct_70 : List zE := (70, .iconst 0, [0]) :: (71, .nop, [0]) :: []
def p_X7_addProduct_70 : List (List (Nat × Nat)) := [] :: [] :: []
def b_X7_addProduct_61 : List zE := (61, .iload 5, []) :: (63, .if_icmp .eq 7, [70, 0]) :: (66, .iconst 1, [1]) :: (67, .goto 4, [71, 0]) :: []
def p_X7_addProduct_61 : List (List (Nat × Nat)) := [] :: [] :: [] :: [] :: []
def b_X7_addProduct_60 : List zE := (60, .iconst 0, [0]) :: (61, .nop, [0]) :: []
def p_X7_addProduct_60 : List (List (Nat × Nat)) := [] :: [] :: []
def b_X7_addProduct_0 : List zE := (0, .lload_n 1, []) :: (1, .invokestatic 39, [0, 1]) :: (4, .lstore 6, []) :: (6, .lload_n 3, []) :: (7, .invokestatic 39, [0, 1]) :: (10, .lstore 8, []) :: (12, .lload 6, []) :: (14, .lload 8, []) :: (16, .lmul, []) :: (17, .lstore 10, []) :: (19, .lload 6, []) :: (21, .lload 8, []) :: (23, .invokestatic 51, [1, 2]) :: (26, .bipush 10, [10]) :: (28, .lshl, []) :: (29, .lload 10, []) :: (31, .bipush 54, [54]) :: (33, .lushr, []) :: (34, .lor, []) :: (35, .lstore 12, []) :: (37, .lload_n 1, []) :: (38, .invokestatic 43, [2, 1]) :: (41, .lload_n 3, []) :: (42, .invokestatic 43, [2, 1]) :: (45, .iadd, []) :: (46, .istore 14, []) :: (48, .lload_n 1, []) :: (49, .lload_n 3, []) :: (50, .lxor, []) :: (51, .lconst 0, [0]) :: (52, .lcmp, []) :: (53, .ifCond .ge 7, [60, 0]) :: (56, .iconst 1, [1]) :: (57, .goto 4, [61, 0]) :: []
def p_X7_addProduct_0 : List (List (Nat × Nat)) := [] :: [(3, 232)] :: [] :: [] :: [(3, 232)] :: [] :: [] :: [] :: [] :: [] :: [] :: [] :: [(4, 9)] :: [] :: [] :: [] :: [] :: [] :: [] :: [] :: [] :: [(3, 233)] :: [] :: [(3, 233)] :: [] :: [] :: [] :: [] :: [] :: [] :: [] :: [] :: [] :: [] :: []
def bl_X7_addProduct : List (Nat × List zE) := [(0, b_X7_addProduct_0), (60, b_X7_addProduct_60), (61, b_X7_addProduct_61), (70, b_X7_addProduct_70), (71, b_X7_addProduct_71)]
def pl_X7_addProduct : List (List (List (Nat × Nat))) := [p_X7_addProduct_0, p_X7_addProduct_60, p_X7_addProduct_61, p_X7_addProduct_70, p_X7_addProduct_71]
theorem k_X7_addProduct_0 : zlk 0 bl_X7_addProduct = b_X7_addProduct_0 := rfl
theorem k_X7_addProduct_60 : zlk 60 bl_X7_addProduct = b_X7_addProduct_60 := rfl
theorem k_X7_addProduct_61 : zlk 61 bl_X7_addProduct = b_X7_addProduct_61 := rfl
theorem k_X7_addProduct_70 : zlk 70 bl_X7_addProduct = b_X7_addProduct_70 := rfl
theorem k_X7_addProduct_71 : zlk 71 bl_X7_addProduct = b_X7_addProduct_71 := rfl
set_option maxRecDepth 100000 in
theorem ck_X7_addProduct : zall q_X7_addProduct.2.2.2.2.1 q_X7_addProduct.2.1 7 false q_X7_addProduct.2.2.1 cal_X7_addProduct q_X7_addProduct.2.2.2.1 bl_X7_addProduct pl_X7_addProduct = true := by decide +kernel
theorem nm_X7_addProduct : plainName q_X7_addProduct.1.cls = true ∧ zRX 7 = q_X7_addProduct.1.cls ∧ (false = true → q_X7_addProduct.1.name = "<init>") := ⟨by decide +kernel, rfl, fun h => by first | rfl | cases h⟩
set_option maxRecDepth 100000 in
theorem wd_X7_carry : zwd q_X7_carry := ⟨zw_in (p := (4, 18)) (by decide +kernel), zw_in (p := (1, 3)) (by decide +kernel), fun h => absurd h (by decide), fun _ => zw_in (p := (4, 17)) (by decide +kernel), fun _ => zw_in (p := (0, 20)) (by decide +kernel)⟩
def cal_X7_carry : List zCal := []
def b_X7_carry_56 : List zE := (56, .lload_n 2, []) :: (57, .lreturn, []) :: []
def p_X7_carry_56 : List (List (Nat × Nat)) := [] :: [] :: []
def b_X7_carry_8 : List zE := (8, .iload 4, []) :: (10, .aload_n 0, []) :: (11, .getfield 17, [7, 2]) :: (14, .if_icmp .gt 42, [56, 0]) :: (17, .iload_n 1, []) :: (18, .i2l, []) :: (19, .aload_n 0, []) :: (20, .getfield 9, [7, 0]) :: (23, .iload 4, []) :: (25, .laload, []) :: (26, .lmul, []) :: (27, .lload_n 2, []) :: (28, .ladd, []) :: (29, .lstore 5, []) :: (31, .aload_n 0, []) :: (32, .getfield 9, [7, 0]) :: (35, .iload 4, []) :: (37, .lload 5, []) :: (39, .ldc2_w 26, [4294967295]) :: (42, .land, []) :: (43, .lastore, []) :: (44, .lload 5, []) :: (46, .bipush 32, [32]) :: (48, .lshr, []) :: (49, .lstore_n 2, []) :: (50, .iinc 4 1, [1]) :: (53, .goto (-45), [8, 1]) :: []
def p_X7_carry_8 : List (List (Nat × Nat)) := [] :: [] :: [(1, 43)] :: [] :: [] :: [] :: [] :: [(1, 41)] :: [] :: [] :: [] :: [] :: [] :: [] :: [] :: [(1, 41)] :: [] :: [] :: [(3, 238)] :: [] :: [] :: [] :: [] :: [] :: [] :: [] :: [] :: []
def b_X7_carry_0 : List zE := (0, .lconst 0, [0]) :: (1, .lstore_n 2, []) :: (2, .aload_n 0, []) :: (3, .getfield 13, [7, 1]) :: (6, .istore 4, []) :: (8, .nop, []) :: []
def p_X7_carry_0 : List (List (Nat × Nat)) := [] :: [] :: [] :: [(1, 42)] :: [] :: [] :: []
def bl_X7_carry : List (Nat × List zE) := [(0, b_X7_carry_0), (8, b_X7_carry_8), (56, b_X7_carry_56)]
def pl_X7_carry : List (List (List (Nat × Nat))) := [p_X7_carry_0, p_X7_carry_8, p_X7_carry_56]
theorem k_X7_carry_0 : zlk 0 bl_X7_carry = b_X7_carry_0 := rfl
theorem k_X7_carry_8 : zlk 8 bl_X7_carry = b_X7_carry_8 := rfl
theorem k_X7_carry_56 : zlk 56 bl_X7_carry = b_X7_carry_56 := rfl
set_option maxRecDepth 100000 in
theorem ck_X7_carry : zall q_X7_carry.2.2.2.2.1 q_X7_carry.2.1 7 false q_X7_carry.2.2.1 cal_X7_carry q_X7_carry.2.2.2.1 bl_X7_carry pl_X7_carry = true := by decide +kernel
theorem nm_X7_carry : plainName q_X7_carry.1.cls = true ∧ zRX 7 = q_X7_carry.1.cls ∧ (false = true → q_X7_carry.1.name = "<init>") := ⟨by decide +kernel, rfl, fun h => by first | rfl | cases h⟩
set_option maxRecDepth 100000 in
theorem wd_X7_settle : zwd q_X7_settle := ⟨zw_in (p := (4, 14)) (by decide +kernel), zw_in (p := (1, 3)) (by decide +kernel), fun h => absurd h (by decide), fun _ => zw_in (p := (4, 12)) (by decide +kernel), fun _ => zw_in (p := (4, 13)) (by decide +kernel)⟩
def cal_X7_settle : List zCal := [q_X7_carry]
def b_X7_settle_56 : List zE := (56, .return_, []) :: []
def p_X7_settle_56 : List (List (Nat × Nat)) := [] :: []
def b_X7_settle_40 : List zE := (40, .putfield 20, [7, 3]) :: (43, .aload_n 0, []) :: (44, .getfield 20, [7, 3]) :: (47, .ifCond .eq 9, [56, 0]) :: (50, .aload_n 0, []) :: (51, .iconst (-1), [4294967295]) :: (52, .invokevirtual 56, [0, 1, 7]) :: (55, .pop2, []) :: (56, .nop, [0]) :: []
def p_X7_settle_40 : List (List (Nat × Nat)) := [(1, 44)] :: [] :: [(1, 44)] :: [] :: [] :: [] :: [(4, 15)] :: [] :: [] :: []
def b_X7_settle_39 : List zE := (39, .iconst 0, [0]) :: (40, .nop, [0]) :: []
def p_X7_settle_39 : List (List (Nat × Nat)) := [] :: [] :: []
def b_X7_settle_8 : List zE := (8, .aload_n 0, []) :: (9, .aload_n 0, []) :: (10, .getfield 17, [7, 2]) :: (13, .iconst 2, [2]) :: (14, .iadd, []) :: (15, .sipush 135, [135]) :: (18, .invokestatic 30, [103]) :: (21, .putfield 17, [7, 2]) :: (24, .aload_n 0, []) :: (25, .aload_n 0, []) :: (26, .iconst 1, [1]) :: (27, .invokevirtual 56, [0, 1, 7]) :: (30, .lconst 0, [0]) :: (31, .lcmp, []) :: (32, .ifCond .ge 7, [39, 0]) :: (35, .iconst 1, [1]) :: (36, .goto 4, [40, 0]) :: []
def p_X7_settle_8 : List (List (Nat × Nat)) := [] :: [] :: [(1, 43)] :: [] :: [] :: [] :: [(4, 0), (4, 1), (1, 14), (4, 2)] :: [(1, 43)] :: [] :: [] :: [] :: [(4, 15)] :: [] :: [] :: [] :: [] :: [] :: []
def b_X7_settle_0 : List zE := (0, .aload_n 0, []) :: (1, .getfield 17, [7, 2]) :: (4, .ifCond .ge 4, [8, 0]) :: (7, .return_, []) :: []
def p_X7_settle_0 : List (List (Nat × Nat)) := [] :: [(1, 43)] :: [] :: [] :: []
def bl_X7_settle : List (Nat × List zE) := [(0, b_X7_settle_0), (8, b_X7_settle_8), (39, b_X7_settle_39), (40, b_X7_settle_40), (56, b_X7_settle_56)]
def pl_X7_settle : List (List (List (Nat × Nat))) := [p_X7_settle_0, p_X7_settle_8, p_X7_settle_39, p_X7_settle_40, p_X7_settle_56]
theorem k_X7_settle_0 : zlk 0 bl_X7_settle = b_X7_settle_0 := rfl
theorem k_X7_settle_8 : zlk 8 bl_X7_settle = b_X7_settle_8 := rfl
theorem k_X7_settle_39 : zlk 39 bl_X7_settle = b_X7_settle_39 := rfl
theorem k_X7_settle_40 : zlk 40 bl_X7_settle = b_X7_settle_40 := rfl
theorem k_X7_settle_56 : zlk 56 bl_X7_settle = b_X7_settle_56 := rfl
set_option maxRecDepth 100000 in
theorem ck_X7_settle : zall q_X7_settle.2.2.2.2.1 q_X7_settle.2.1 7 false q_X7_settle.2.2.1 cal_X7_settle q_X7_settle.2.2.2.1 bl_X7_settle pl_X7_settle = true := by decide +kernel
theorem nm_X7_settle : plainName q_X7_settle.1.cls = true ∧ zRX 7 = q_X7_settle.1.cls ∧ (false = true → q_X7_settle.1.name = "<init>") := ⟨by decide +kernel, rfl, fun h => by first | rfl | cases h⟩
set_option maxRecDepth 100000 in
theorem wd_X5_exact : zwd q_X5_exact := ⟨zw_in (p := (3, 223)) (by decide +kernel), zw_in (p := (1, 2)) (by decide +kernel), fun h => absurd h (by decide), fun _ => zw_in (p := (3, 222)) (by decide +kernel), fun _ => zw_in (p := (0, 18)) (by decide +kernel)⟩
def cal_X5_exact : List zCal := [q_X7_clear, q_X7_addNumber, q_X3_at, q_X7_addProduct, q_X7_settle]
def b_X5_exact_57 : List zE := (57, .aload_n 0, []) :: (58, .getfield 12, [5, 0]) :: (61, .invokevirtual 64, [4, 0, 7]) :: (64, .return_, []) :: []
def p_X5_exact_57 : List (List (Nat × Nat)) := [] :: [(1, 55)] :: [(4, 11)] :: [] :: []
def b_X5_exact_22 : List zE := (22, .iload 5, []) :: (24, .aload_n 1, []) :: (25, .getfield 50, [3, 3]) :: (28, .if_icmp .ge 29, [57, 0]) :: (31, .aload_n 0, []) :: (32, .getfield 12, [5, 0]) :: (35, .aload_n 1, []) :: (36, .iload 4, []) :: (38, .iload 5, []) :: (40, .invokevirtual 56, [2, 2, 3]) :: (43, .aload_n 2, []) :: (44, .iload 5, []) :: (46, .laload, []) :: (47, .iconst 1, [1]) :: (48, .invokevirtual 60, [3, 3, 7]) :: (51, .iinc 5 1, [1]) :: (54, .goto (-32), [22, 1]) :: []
def p_X5_exact_22 : List (List (Nat × Nat)) := [] :: [] :: [(1, 221)] :: [] :: [] :: [(1, 55)] :: [] :: [] :: [] :: [(4, 4)] :: [] :: [] :: [] :: [] :: [(4, 5)] :: [] :: [] :: []
def b_X5_exact_0 : List zE := (0, .aload_n 0, []) :: (1, .getfield 12, [5, 0]) :: (4, .invokevirtual 43, [0, 0, 7]) :: (7, .aload_n 0, []) :: (8, .getfield 12, [5, 0]) :: (11, .aload_n 3, []) :: (12, .iload 4, []) :: (14, .laload, []) :: (15, .iconst 0, [0]) :: (16, .invokevirtual 46, [1, 2, 7]) :: (19, .iconst 0, [0]) :: (20, .istore 5, []) :: (22, .nop, []) :: []
def p_X5_exact_0 : List (List (Nat × Nat)) := [] :: [(1, 55)] :: [(3, 224)] :: [] :: [(1, 55)] :: [] :: [] :: [] :: [] :: [(3, 228)] :: [] :: [] :: [] :: []
def bl_X5_exact : List (Nat × List zE) := [(0, b_X5_exact_0), (22, b_X5_exact_22), (57, b_X5_exact_57)]
def pl_X5_exact : List (List (List (Nat × Nat))) := [p_X5_exact_0, p_X5_exact_22, p_X5_exact_57]
theorem k_X5_exact_0 : zlk 0 bl_X5_exact = b_X5_exact_0 := rfl
theorem k_X5_exact_22 : zlk 22 bl_X5_exact = b_X5_exact_22 := rfl
theorem k_X5_exact_57 : zlk 57 bl_X5_exact = b_X5_exact_57 := rfl
set_option maxRecDepth 100000 in
theorem ck_X5_exact : zall q_X5_exact.2.2.2.2.1 q_X5_exact.2.1 5 false q_X5_exact.2.2.1 cal_X5_exact q_X5_exact.2.2.2.1 bl_X5_exact pl_X5_exact = true := by decide +kernel
theorem nm_X5_exact : plainName q_X5_exact.1.cls = true ∧ zRX 5 = q_X5_exact.1.cls ∧ (false = true → q_X5_exact.1.name = "<init>") := ⟨by decide +kernel, rfl, fun h => by first | rfl | cases h⟩
set_option maxRecDepth 100000 in
theorem wd_X7_toDouble : zwd q_X7_toDouble := ⟨zw_in (p := (4, 22)) (by decide +kernel), zw_in (p := (1, 3)) (by decide +kernel), fun h => absurd h (by decide), fun _ => zw_in (p := (4, 20)) (by decide +kernel), fun _ => zw_in (p := (4, 21)) (by decide +kernel)⟩
def cal_X7_toDouble : List zCal := [q_X0_bitLength, q_X0_rounded]
def b_X7_toDouble_236 : List zE := (236, .lload 10, []) :: (238, .iload 12, []) :: (240, .bipush 32, [32]) :: (242, .iload_n 2, []) :: (243, .imul, []) :: (244, .iload_n 3, []) :: (245, .iadd, []) :: (246, .bipush 62, [62]) :: (248, .isub, []) :: (249, .sipush (-2176), [4294965120]) :: (252, .iadd, []) :: (253, .iload_n 1, []) :: (254, .invokestatic 66, [1, 5]) :: (257, .lreturn, []) :: []
def p_X7_toDouble_236 : List (List (Nat × Nat)) := [] :: [] :: [] :: [] :: [] :: [] :: [] :: [] :: [] :: [] :: [] :: [] :: [(4, 24)] :: [] :: []
def b_X7_toDouble_235 : List zE := (235, .iconst 0, [0]) :: (236, .nop, []) :: []
def p_X7_toDouble_235 : List (List (Nat × Nat)) := [] :: [] :: []
def b_X7_toDouble_220 : List zE := (220, .aload_n 0, []) :: (221, .getfield 20, [7, 3]) :: (224, .ifCond .eq 11, [235, 0]) :: (227, .iload_n 1, []) :: (228, .ifCond .ne 7, [235, 0]) :: (231, .iconst 1, [1]) :: (232, .goto 4, [236, 1]) :: []
def p_X7_toDouble_220 : List (List (Nat × Nat)) := [] :: [(1, 44)] :: [] :: [] :: [] :: [] :: [] :: []
def b_X7_toDouble_212 : List zE := (212, .istore 12, []) :: (214, .iinc 13 (-1), [4294967295]) :: (217, .goto (-36), [181, 1]) :: []
def p_X7_toDouble_212 : List (List (Nat × Nat)) := [] :: [] :: [] :: []
def b_X7_toDouble_211 : List zE := (211, .iconst 0, [0]) :: (212, .nop, []) :: []
def p_X7_toDouble_211 : List (List (Nat × Nat)) := [] :: [] :: []
def b_X7_toDouble_181 : List zE := (181, .iload 13, []) :: (183, .aload_n 0, []) :: (184, .getfield 13, [7, 1]) :: (187, .if_icmp .lt 33, [220, 0]) :: (190, .iload 12, []) :: (192, .ifCond .ne 28, [220, 0]) :: (195, .aload_n 0, []) :: (196, .getfield 9, [7, 0]) :: (199, .iload 13, []) :: (201, .laload, []) :: (202, .lconst 0, [0]) :: (203, .lcmp, []) :: (204, .ifCond .eq 7, [211, 0]) :: (207, .iconst 1, [1]) :: (208, .goto 4, [212, 1]) :: []
def p_X7_toDouble_181 : List (List (Nat × Nat)) := [] :: [] :: [(1, 42)] :: [] :: [] :: [] :: [] :: [(1, 41)] :: [] :: [] :: [] :: [] :: [] :: [] :: [] :: []
def b_X7_toDouble_176 : List zE := (176, .iload_n 2, []) :: (177, .iconst 3, [3]) :: (178, .isub, []) :: (179, .istore 13, []) :: (181, .nop, []) :: []
def p_X7_toDouble_176 : List (List (Nat × Nat)) := [] :: [] :: [] :: [] :: [] :: []
def b_X7_toDouble_174 : List zE := (174, .istore 12, []) :: (176, .nop, []) :: []
def p_X7_toDouble_174 : List (List (Nat × Nat)) := [] :: [] :: []
def b_X7_toDouble_173 : List zE := (173, .iconst 0, [0]) :: (174, .nop, [0]) :: []
def p_X7_toDouble_173 : List (List (Nat × Nat)) := [] :: [] :: []
def b_X7_toDouble_138 : List zE := (138, .lload 8, []) :: (140, .bipush 30, [30]) :: (142, .iload_n 3, []) :: (143, .isub, []) :: (144, .lshl, []) :: (145, .lload 6, []) :: (147, .iload_n 3, []) :: (148, .iconst 2, [2]) :: (149, .iadd, []) :: (150, .lushr, []) :: (151, .lor, []) :: (152, .lstore 10, []) :: (154, .lload 6, []) :: (156, .lconst 1, [1]) :: (157, .iload_n 3, []) :: (158, .iconst 2, [2]) :: (159, .iadd, []) :: (160, .lshl, []) :: (161, .lconst 1, [1]) :: (162, .lsub, []) :: (163, .land, []) :: (164, .lconst 0, [0]) :: (165, .lcmp, []) :: (166, .ifCond .eq 7, [173, 0]) :: (169, .iconst 1, [1]) :: (170, .goto 4, [174, 0]) :: []
def p_X7_toDouble_138 : List (List (Nat × Nat)) := [] :: [] :: [] :: [] :: [] :: [] :: [] :: [] :: [] :: [] :: [] :: [] :: [] :: [] :: [] :: [] :: [] :: [] :: [] :: [] :: [] :: [] :: [] :: [] :: [] :: [] :: []
def b_X7_toDouble_133 : List zE := (133, .istore 12, []) :: (135, .goto 41, [176, 1]) :: []
def p_X7_toDouble_133 : List (List (Nat × Nat)) := [] :: [] :: []
def b_X7_toDouble_132 : List zE := (132, .iconst 0, [0]) :: (133, .nop, []) :: []
def p_X7_toDouble_132 : List (List (Nat × Nat)) := [] :: [] :: []
def b_X7_toDouble_128 : List zE := (128, .iconst 1, [1]) :: (129, .goto 4, [133, 1]) :: []
def p_X7_toDouble_128 : List (List (Nat × Nat)) := [] :: [] :: []
def b_X7_toDouble_77 : List zE := (77, .lstore 6, []) :: (79, .aload_n 0, []) :: (80, .getfield 9, [7, 0]) :: (83, .iload_n 2, []) :: (84, .laload, []) :: (85, .bipush 32, [32]) :: (87, .lshl, []) :: (88, .lload 4, []) :: (90, .lor, []) :: (91, .lstore 8, []) :: (93, .iload_n 3, []) :: (94, .bipush 30, [30]) :: (96, .if_icmp .le 42, [138, 0]) :: (99, .lload 8, []) :: (101, .iload_n 3, []) :: (102, .bipush 30, [30]) :: (104, .isub, []) :: (105, .lushr, []) :: (106, .lstore 10, []) :: (108, .lload 10, []) :: (110, .iload_n 3, []) :: (111, .bipush 30, [30]) :: (113, .isub, []) :: (114, .lshl, []) :: (115, .lload 8, []) :: (117, .lcmp, []) :: (118, .ifCond .ne 10, [128, 0]) :: (121, .lload 6, []) :: (123, .lconst 0, [0]) :: (124, .lcmp, []) :: (125, .ifCond .eq 7, [132, 0]) :: (128, .nop, [0]) :: []
def p_X7_toDouble_77 : List (List (Nat × Nat)) := [] :: [] :: [(1, 41)] :: [] :: [] :: [] :: [] :: [] :: [] :: [] :: [] :: [] :: [] :: [] :: [] :: [] :: [] :: [] :: [] :: [] :: [] :: [] :: [] :: [] :: [] :: [] :: [] :: [] :: [] :: [] :: [] :: [] :: []
def b_X7_toDouble_76 : List zE := (76, .lconst 0, [0]) :: (77, .nop, []) :: []
def p_X7_toDouble_76 : List (List (Nat × Nat)) := [] :: [] :: []
def b_X7_toDouble_58 : List zE := (58, .lstore 4, []) :: (60, .iload_n 2, []) :: (61, .iconst 1, [1]) :: (62, .if_icmp .le 14, [76, 0]) :: (65, .aload_n 0, []) :: (66, .getfield 9, [7, 0]) :: (69, .iload_n 2, []) :: (70, .iconst 2, [2]) :: (71, .isub, []) :: (72, .laload, []) :: (73, .goto 4, [77, 1]) :: []
def p_X7_toDouble_58 : List (List (Nat × Nat)) := [] :: [] :: [] :: [] :: [] :: [(1, 41)] :: [] :: [] :: [] :: [] :: [] :: []
def b_X7_toDouble_57 : List zE := (57, .lconst 0, [0]) :: (58, .nop, []) :: []
def p_X7_toDouble_57 : List (List (Nat × Nat)) := [] :: [] :: []
def b_X7_toDouble_32 : List zE := (32, .aload_n 0, []) :: (33, .getfield 9, [7, 0]) :: (36, .iload_n 2, []) :: (37, .laload, []) :: (38, .invokestatic 63, [0, 1]) :: (41, .istore_n 3, []) :: (42, .iload_n 2, []) :: (43, .ifCond .le 14, [57, 0]) :: (46, .aload_n 0, []) :: (47, .getfield 9, [7, 0]) :: (50, .iload_n 2, []) :: (51, .iconst 1, [1]) :: (52, .isub, []) :: (53, .laload, []) :: (54, .goto 4, [58, 1]) :: []
def p_X7_toDouble_32 : List (List (Nat × Nat)) := [] :: [(1, 41)] :: [] :: [] :: [(4, 23)] :: [] :: [] :: [] :: [] :: [(1, 41)] :: [] :: [] :: [] :: [] :: [] :: []
def b_X7_toDouble_26 : List zE := (26, .iload_n 2, []) :: (27, .ifCond .ge 5, [32, 0]) :: (30, .lconst 0, [0]) :: (31, .lreturn, []) :: []
def p_X7_toDouble_26 : List (List (Nat × Nat)) := [] :: [] :: [] :: [] :: []
def b_X7_toDouble_5 : List zE := (5, .iload_n 2, []) :: (6, .ifCond .lt 20, [26, 0]) :: (9, .aload_n 0, []) :: (10, .getfield 9, [7, 0]) :: (13, .iload_n 2, []) :: (14, .laload, []) :: (15, .lconst 0, [0]) :: (16, .lcmp, []) :: (17, .ifCond .ne 9, [26, 0]) :: (20, .iinc 2 (-1), [4294967295]) :: (23, .goto (-18), [5, 1]) :: []
def p_X7_toDouble_5 : List (List (Nat × Nat)) := [] :: [] :: [] :: [(1, 41)] :: [] :: [] :: [] :: [] :: [] :: [] :: [] :: []
def b_X7_toDouble_0 : List zE := (0, .aload_n 0, []) :: (1, .getfield 17, [7, 2]) :: (4, .istore_n 2, []) :: (5, .nop, []) :: []
def p_X7_toDouble_0 : List (List (Nat × Nat)) := [] :: [(1, 43)] :: [] :: [] :: []
def bl_X7_toDouble : List (Nat × List zE) := [(0, b_X7_toDouble_0), (5, b_X7_toDouble_5), (26, b_X7_toDouble_26), (32, b_X7_toDouble_32), (57, b_X7_toDouble_57), (58, b_X7_toDouble_58), (76, b_X7_toDouble_76), (77, b_X7_toDouble_77), (128, b_X7_toDouble_128), (132, b_X7_toDouble_132), (133, b_X7_toDouble_133), (138, b_X7_toDouble_138), (173, b_X7_toDouble_173), (174, b_X7_toDouble_174), (176, b_X7_toDouble_176), (181, b_X7_toDouble_181), (211, b_X7_toDouble_211), (212, b_X7_toDouble_212), (220, b_X7_toDouble_220), (235, b_X7_toDouble_235), (236, b_X7_toDouble_236)]
def pl_X7_toDouble : List (List (List (Nat × Nat))) := [p_X7_toDouble_0, p_X7_toDouble_5, p_X7_toDouble_26, p_X7_toDouble_32, p_X7_toDouble_57, p_X7_toDouble_58, p_X7_toDouble_76, p_X7_toDouble_77, p_X7_toDouble_128, p_X7_toDouble_132, p_X7_toDouble_133, p_X7_toDouble_138, p_X7_toDouble_173, p_X7_toDouble_174, p_X7_toDouble_176, p_X7_toDouble_181, p_X7_toDouble_211, p_X7_toDouble_212, p_X7_toDouble_220, p_X7_toDouble_235, p_X7_toDouble_236]
theorem k_X7_toDouble_0 : zlk 0 bl_X7_toDouble = b_X7_toDouble_0 := rfl
theorem k_X7_toDouble_5 : zlk 5 bl_X7_toDouble = b_X7_toDouble_5 := rfl
theorem k_X7_toDouble_26 : zlk 26 bl_X7_toDouble = b_X7_toDouble_26 := rfl
theorem k_X7_toDouble_32 : zlk 32 bl_X7_toDouble = b_X7_toDouble_32 := rfl
theorem k_X7_toDouble_57 : zlk 57 bl_X7_toDouble = b_X7_toDouble_57 := rfl
theorem k_X7_toDouble_58 : zlk 58 bl_X7_toDouble = b_X7_toDouble_58 := rfl
theorem k_X7_toDouble_76 : zlk 76 bl_X7_toDouble = b_X7_toDouble_76 := rfl
theorem k_X7_toDouble_77 : zlk 77 bl_X7_toDouble = b_X7_toDouble_77 := rfl
theorem k_X7_toDouble_128 : zlk 128 bl_X7_toDouble = b_X7_toDouble_128 := rfl
theorem k_X7_toDouble_132 : zlk 132 bl_X7_toDouble = b_X7_toDouble_132 := rfl
theorem k_X7_toDouble_133 : zlk 133 bl_X7_toDouble = b_X7_toDouble_133 := rfl
theorem k_X7_toDouble_138 : zlk 138 bl_X7_toDouble = b_X7_toDouble_138 := rfl
theorem k_X7_toDouble_173 : zlk 173 bl_X7_toDouble = b_X7_toDouble_173 := rfl
theorem k_X7_toDouble_174 : zlk 174 bl_X7_toDouble = b_X7_toDouble_174 := rfl
theorem k_X7_toDouble_176 : zlk 176 bl_X7_toDouble = b_X7_toDouble_176 := rfl
theorem k_X7_toDouble_181 : zlk 181 bl_X7_toDouble = b_X7_toDouble_181 := rfl
theorem k_X7_toDouble_211 : zlk 211 bl_X7_toDouble = b_X7_toDouble_211 := rfl
theorem k_X7_toDouble_212 : zlk 212 bl_X7_toDouble = b_X7_toDouble_212 := rfl
theorem k_X7_toDouble_220 : zlk 220 bl_X7_toDouble = b_X7_toDouble_220 := rfl
theorem k_X7_toDouble_235 : zlk 235 bl_X7_toDouble = b_X7_toDouble_235 := rfl
theorem k_X7_toDouble_236 : zlk 236 bl_X7_toDouble = b_X7_toDouble_236 := rfl
set_option maxRecDepth 100000 in
theorem ck_X7_toDouble : zall q_X7_toDouble.2.2.2.2.1 q_X7_toDouble.2.1 7 false q_X7_toDouble.2.2.1 cal_X7_toDouble q_X7_toDouble.2.2.2.1 bl_X7_toDouble pl_X7_toDouble = true := by decide +kernel
theorem nm_X7_toDouble : plainName q_X7_toDouble.1.cls = true ∧ zRX 7 = q_X7_toDouble.1.cls ∧ (false = true → q_X7_toDouble.1.name = "<init>") := ⟨by decide +kernel, rfl, fun h => by first | rfl | cases h⟩
set_option maxRecDepth 100000 in
theorem wd_X5_roundedAt : zwd q_X5_roundedAt := ⟨zw_in (p := (3, 218)) (by decide +kernel), zw_in (p := (1, 2)) (by decide +kernel), fun h => absurd h (by decide), fun _ => zw_in (p := (3, 216)) (by decide +kernel), fun _ => zw_in (p := (3, 217)) (by decide +kernel)⟩
def cal_X5_roundedAt : List zCal := [q_X5_exact, q_X7_toDouble, q_X0_finite, q_X0_unsignedZero]
def b_X5_roundedAt_54 : List zE := (54, .lreturn, []) :: []
def p_X5_roundedAt_54 : List (List (Nat × Nat)) := [] :: []
def b_X5_roundedAt_51 : List zE := (51, .ldc2_w 67, [18446744073709551615]) :: (54, .nop, [0]) :: []
def p_X5_roundedAt_51 : List (List (Nat × Nat)) := [(3, 219)] :: [] :: []
def b_X5_roundedAt_16 : List zE := (16, .aload_n 0, []) :: (17, .aload_n 1, []) :: (18, .aload_n 2, []) :: (19, .aload_n 3, []) :: (20, .iload 4, []) :: (22, .invokevirtual 69, [0, 4, 5]) :: (25, .aload_n 0, []) :: (26, .getfield 12, [5, 0]) :: (29, .iconst 0, [0]) :: (30, .invokevirtual 73, [1, 1, 7]) :: (33, .lstore 5, []) :: (35, .lload 5, []) :: (37, .invokestatic 77, [2, 1]) :: (40, .ifCond .eq 11, [51, 0]) :: (43, .lload 5, []) :: (45, .invokestatic 83, [3, 1]) :: (48, .goto 6, [54, 0]) :: []
def p_X5_roundedAt_16 : List (List (Nat × Nat)) := [] :: [] :: [] :: [] :: [] :: [(3, 220)] :: [] :: [(1, 55)] :: [] :: [(4, 19)] :: [] :: [] :: [(4, 25)] :: [] :: [] :: [(4, 26)] :: [] :: []
def b_X5_roundedAt_12 : List zE := (12, .ldc2_w 67, [18446744073709551615]) :: (15, .lreturn, []) :: []
def p_X5_roundedAt_12 : List (List (Nat × Nat)) := [(3, 219)] :: [] :: []
def b_X5_roundedAt_0 : List zE := (0, .iload 4, []) :: (2, .ifCond .lt 10, [12, 0]) :: (5, .iload 4, []) :: (7, .aload_n 3, []) :: (8, .arraylength, []) :: (9, .if_icmp .lt 7, [16, 0]) :: (12, .nop, [0]) :: []
def p_X5_roundedAt_0 : List (List (Nat × Nat)) := [] :: [] :: [] :: [] :: [] :: [] :: [] :: []
def bl_X5_roundedAt : List (Nat × List zE) := [(0, b_X5_roundedAt_0), (12, b_X5_roundedAt_12), (16, b_X5_roundedAt_16), (51, b_X5_roundedAt_51), (54, b_X5_roundedAt_54)]
def pl_X5_roundedAt : List (List (List (Nat × Nat))) := [p_X5_roundedAt_0, p_X5_roundedAt_12, p_X5_roundedAt_16, p_X5_roundedAt_51, p_X5_roundedAt_54]
theorem k_X5_roundedAt_0 : zlk 0 bl_X5_roundedAt = b_X5_roundedAt_0 := rfl
theorem k_X5_roundedAt_12 : zlk 12 bl_X5_roundedAt = b_X5_roundedAt_12 := rfl
theorem k_X5_roundedAt_16 : zlk 16 bl_X5_roundedAt = b_X5_roundedAt_16 := rfl
theorem k_X5_roundedAt_51 : zlk 51 bl_X5_roundedAt = b_X5_roundedAt_51 := rfl
theorem k_X5_roundedAt_54 : zlk 54 bl_X5_roundedAt = b_X5_roundedAt_54 := rfl
set_option maxRecDepth 100000 in
theorem ck_X5_roundedAt : zall q_X5_roundedAt.2.2.2.2.1 q_X5_roundedAt.2.1 5 false q_X5_roundedAt.2.2.1 cal_X5_roundedAt q_X5_roundedAt.2.2.2.1 bl_X5_roundedAt pl_X5_roundedAt = true := by decide +kernel
theorem nm_X5_roundedAt : plainName q_X5_roundedAt.1.cls = true ∧ zRX 5 = q_X5_roundedAt.1.cls ∧ (false = true → q_X5_roundedAt.1.name = "<init>") := ⟨by decide +kernel, rfl, fun h => by first | rfl | cases h⟩
set_option maxRecDepth 100000 in
theorem wd_X7_exceeds : zwd q_X7_exceeds := ⟨zw_in (p := (4, 42)) (by decide +kernel), zw_in (p := (1, 3)) (by decide +kernel), fun h => absurd h (by decide), fun _ => zw_in (p := (4, 40)) (by decide +kernel), fun _ => zw_in (p := (4, 41)) (by decide +kernel)⟩
def cal_X7_exceeds : List zCal := []
def b_X7_exceeds_73 : List zE := (73, .iconst 0, [0]) :: (74, .ireturn, []) :: []
def p_X7_exceeds_73 : List (List (Nat × Nat)) := [] :: [] :: []
def b_X7_exceeds_67 : List zE := (67, .iinc 3 (-1), [4294967295]) :: (70, .goto (-46), [24, 1]) :: []
def p_X7_exceeds_67 : List (List (Nat × Nat)) := [] :: [] :: []
def b_X7_exceeds_66 : List zE := (66, .ireturn, []) :: []
def p_X7_exceeds_66 : List (List (Nat × Nat)) := [] :: []
def b_X7_exceeds_65 : List zE := (65, .iconst 0, [0]) :: (66, .nop, [0]) :: []
def p_X7_exceeds_65 : List (List (Nat × Nat)) := [] :: [] :: []
def b_X7_exceeds_24 : List zE := (24, .iload_n 3, []) :: (25, .iload_n 2, []) :: (26, .if_icmp .lt 47, [73, 0]) :: (29, .aload_n 0, []) :: (30, .getfield 9, [7, 0]) :: (33, .iload_n 3, []) :: (34, .laload, []) :: (35, .aload_n 1, []) :: (36, .getfield 9, [7, 0]) :: (39, .iload_n 3, []) :: (40, .laload, []) :: (41, .lcmp, []) :: (42, .ifCond .eq 25, [67, 0]) :: (45, .aload_n 0, []) :: (46, .getfield 9, [7, 0]) :: (49, .iload_n 3, []) :: (50, .laload, []) :: (51, .aload_n 1, []) :: (52, .getfield 9, [7, 0]) :: (55, .iload_n 3, []) :: (56, .laload, []) :: (57, .lcmp, []) :: (58, .ifCond .le 7, [65, 0]) :: (61, .iconst 1, [1]) :: (62, .goto 4, [66, 0]) :: []
def p_X7_exceeds_24 : List (List (Nat × Nat)) := [] :: [] :: [] :: [] :: [(1, 41)] :: [] :: [] :: [] :: [(1, 41)] :: [] :: [] :: [] :: [] :: [] :: [(1, 41)] :: [] :: [] :: [] :: [(1, 41)] :: [] :: [] :: [] :: [] :: [] :: [] :: []
def b_X7_exceeds_0 : List zE := (0, .aload_n 0, []) :: (1, .getfield 13, [7, 1]) :: (4, .aload_n 1, []) :: (5, .getfield 13, [7, 1]) :: (8, .invokestatic 30, [103]) :: (11, .istore_n 2, []) :: (12, .aload_n 0, []) :: (13, .getfield 17, [7, 2]) :: (16, .aload_n 1, []) :: (17, .getfield 17, [7, 2]) :: (20, .invokestatic 36, [102]) :: (23, .istore_n 3, []) :: (24, .nop, []) :: []
def p_X7_exceeds_0 : List (List (Nat × Nat)) := [] :: [(1, 42)] :: [] :: [(1, 42)] :: [(4, 0), (4, 1), (1, 14), (4, 2)] :: [] :: [] :: [(1, 43)] :: [] :: [(1, 43)] :: [(4, 3), (2, 197), (1, 14), (2, 198)] :: [] :: [] :: []
def bl_X7_exceeds : List (Nat × List zE) := [(0, b_X7_exceeds_0), (24, b_X7_exceeds_24), (65, b_X7_exceeds_65), (66, b_X7_exceeds_66), (67, b_X7_exceeds_67), (73, b_X7_exceeds_73)]
def pl_X7_exceeds : List (List (List (Nat × Nat))) := [p_X7_exceeds_0, p_X7_exceeds_24, p_X7_exceeds_65, p_X7_exceeds_66, p_X7_exceeds_67, p_X7_exceeds_73]
theorem k_X7_exceeds_0 : zlk 0 bl_X7_exceeds = b_X7_exceeds_0 := rfl
theorem k_X7_exceeds_24 : zlk 24 bl_X7_exceeds = b_X7_exceeds_24 := rfl
theorem k_X7_exceeds_65 : zlk 65 bl_X7_exceeds = b_X7_exceeds_65 := rfl
theorem k_X7_exceeds_66 : zlk 66 bl_X7_exceeds = b_X7_exceeds_66 := rfl
theorem k_X7_exceeds_67 : zlk 67 bl_X7_exceeds = b_X7_exceeds_67 := rfl
theorem k_X7_exceeds_73 : zlk 73 bl_X7_exceeds = b_X7_exceeds_73 := rfl
set_option maxRecDepth 100000 in
theorem ck_X7_exceeds : zall q_X7_exceeds.2.2.2.2.1 q_X7_exceeds.2.1 7 false q_X7_exceeds.2.2.1 cal_X7_exceeds q_X7_exceeds.2.2.2.1 bl_X7_exceeds pl_X7_exceeds = true := by decide +kernel
theorem nm_X7_exceeds : plainName q_X7_exceeds.1.cls = true ∧ zRX 7 = q_X7_exceeds.1.cls ∧ (false = true → q_X7_exceeds.1.name = "<init>") := ⟨by decide +kernel, rfl, fun h => by first | rfl | cases h⟩
set_option maxRecDepth 100000 in
theorem wd_X7_copy : zwd q_X7_copy := ⟨zw_in (p := (4, 46)) (by decide +kernel), zw_in (p := (1, 3)) (by decide +kernel), fun h => absurd h (by decide), fun _ => zw_in (p := (4, 44)) (by decide +kernel), fun _ => zw_in (p := (4, 45)) (by decide +kernel)⟩
def cal_X7_copy : List zCal := [q_X7_clear]
def b_X7_copy_35 : List zE := (35, .aload_n 0, []) :: (36, .aload_n 1, []) :: (37, .getfield 13, [7, 1]) :: (40, .putfield 13, [7, 1]) :: (43, .aload_n 0, []) :: (44, .aload_n 1, []) :: (45, .getfield 17, [7, 2]) :: (48, .putfield 17, [7, 2]) :: (51, .aload_n 0, []) :: (52, .aload_n 1, []) :: (53, .getfield 20, [7, 3]) :: (56, .putfield 20, [7, 3]) :: (59, .return_, []) :: []
def p_X7_copy_35 : List (List (Nat × Nat)) := [] :: [] :: [(1, 42)] :: [(1, 42)] :: [] :: [] :: [(1, 43)] :: [(1, 43)] :: [] :: [] :: [(1, 44)] :: [(1, 44)] :: [] :: []
def b_X7_copy_9 : List zE := (9, .iload_n 2, []) :: (10, .aload_n 1, []) :: (11, .getfield 17, [7, 2]) :: (14, .if_icmp .gt 21, [35, 0]) :: (17, .aload_n 0, []) :: (18, .getfield 9, [7, 0]) :: (21, .iload_n 2, []) :: (22, .aload_n 1, []) :: (23, .getfield 9, [7, 0]) :: (26, .iload_n 2, []) :: (27, .laload, []) :: (28, .lastore, []) :: (29, .iinc 2 1, [1]) :: (32, .goto (-23), [9, 1]) :: []
def p_X7_copy_9 : List (List (Nat × Nat)) := [] :: [] :: [(1, 43)] :: [] :: [] :: [(1, 41)] :: [] :: [] :: [(1, 41)] :: [] :: [] :: [] :: [] :: [] :: []
def b_X7_copy_0 : List zE := (0, .aload_n 0, []) :: (1, .invokevirtual 60, [0, 0, 7]) :: (4, .aload_n 1, []) :: (5, .getfield 13, [7, 1]) :: (8, .istore_n 2, []) :: (9, .nop, []) :: []
def p_X7_copy_0 : List (List (Nat × Nat)) := [] :: [(4, 47)] :: [] :: [(1, 42)] :: [] :: [] :: []
def bl_X7_copy : List (Nat × List zE) := [(0, b_X7_copy_0), (9, b_X7_copy_9), (35, b_X7_copy_35)]
def pl_X7_copy : List (List (List (Nat × Nat))) := [p_X7_copy_0, p_X7_copy_9, p_X7_copy_35]
theorem k_X7_copy_0 : zlk 0 bl_X7_copy = b_X7_copy_0 := rfl
theorem k_X7_copy_9 : zlk 9 bl_X7_copy = b_X7_copy_9 := rfl
theorem k_X7_copy_35 : zlk 35 bl_X7_copy = b_X7_copy_35 := rfl
set_option maxRecDepth 100000 in
theorem ck_X7_copy : zall q_X7_copy.2.2.2.2.1 q_X7_copy.2.1 7 false q_X7_copy.2.2.1 cal_X7_copy q_X7_copy.2.2.2.1 bl_X7_copy pl_X7_copy = true := by decide +kernel
theorem nm_X7_copy : plainName q_X7_copy.1.cls = true ∧ zRX 7 = q_X7_copy.1.cls ∧ (false = true → q_X7_copy.1.name = "<init>") := ⟨by decide +kernel, rfl, fun h => by first | rfl | cases h⟩
set_option maxRecDepth 100000 in
theorem wd_X5_measure : zwd q_X5_measure := ⟨zw_in (p := (4, 38)) (by decide +kernel), zw_in (p := (1, 2)) (by decide +kernel), fun h => absurd h (by decide), fun _ => zw_in (p := (4, 37)) (by decide +kernel), fun _ => zw_in (p := (0, 21)) (by decide +kernel)⟩
def cal_X5_measure : List zCal := [q_X7_clear, q_X5_exact, q_X7_toDouble, q_X0_unsignedZero, q_X7_exceeds, q_X7_copy]
def b_X5_measure_69 : List zE := (69, .return_, []) :: []
def p_X5_measure_69 : List (List (Nat × Nat)) := [] :: []
def b_X5_measure_63 : List zE := (63, .iinc 6 1, [1]) :: (66, .goto (-58), [8, 1]) :: []
def p_X5_measure_63 : List (List (Nat × Nat)) := [] :: [] :: []
def b_X5_measure_8 : List zE := (8, .iload 6, []) :: (10, .aload_n 1, []) :: (11, .getfield 87, [3, 2]) :: (14, .if_icmp .ge 55, [69, 0]) :: (17, .aload_n 0, []) :: (18, .aload_n 1, []) :: (19, .aload_n 2, []) :: (20, .aload_n 3, []) :: (21, .iload 6, []) :: (23, .invokevirtual 69, [1, 4, 5]) :: (26, .aload 4, []) :: (28, .iload 6, []) :: (30, .aload_n 0, []) :: (31, .getfield 12, [5, 0]) :: (34, .iconst 0, [0]) :: (35, .invokevirtual 73, [2, 1, 7]) :: (38, .invokestatic 83, [3, 1]) :: (41, .lastore, []) :: (42, .aload_n 0, []) :: (43, .getfield 12, [5, 0]) :: (46, .aload 5, []) :: (48, .invokevirtual 90, [4, 1, 7]) :: (51, .ifCond .eq 12, [63, 0]) :: (54, .aload 5, []) :: (56, .aload_n 0, []) :: (57, .getfield 12, [5, 0]) :: (60, .invokevirtual 94, [5, 1, 7]) :: (63, .nop, [0]) :: []
def p_X5_measure_8 : List (List (Nat × Nat)) := [] :: [] :: [(1, 218)] :: [] :: [] :: [] :: [] :: [] :: [] :: [(3, 220)] :: [] :: [] :: [] :: [(1, 55)] :: [] :: [(4, 19)] :: [(4, 26)] :: [] :: [] :: [(1, 55)] :: [] :: [(4, 39)] :: [] :: [] :: [] :: [(1, 55)] :: [(4, 43)] :: [] :: []
def b_X5_measure_0 : List zE := (0, .aload 5, []) :: (2, .invokevirtual 43, [0, 0, 7]) :: (5, .iconst 0, [0]) :: (6, .istore 6, []) :: (8, .nop, []) :: []
def p_X5_measure_0 : List (List (Nat × Nat)) := [] :: [(3, 224)] :: [] :: [] :: [] :: []
def bl_X5_measure : List (Nat × List zE) := [(0, b_X5_measure_0), (8, b_X5_measure_8), (63, b_X5_measure_63), (69, b_X5_measure_69)]
def pl_X5_measure : List (List (List (Nat × Nat))) := [p_X5_measure_0, p_X5_measure_8, p_X5_measure_63, p_X5_measure_69]
theorem k_X5_measure_0 : zlk 0 bl_X5_measure = b_X5_measure_0 := rfl
theorem k_X5_measure_8 : zlk 8 bl_X5_measure = b_X5_measure_8 := rfl
theorem k_X5_measure_63 : zlk 63 bl_X5_measure = b_X5_measure_63 := rfl
theorem k_X5_measure_69 : zlk 69 bl_X5_measure = b_X5_measure_69 := rfl
set_option maxRecDepth 100000 in
theorem ck_X5_measure : zall q_X5_measure.2.2.2.2.1 q_X5_measure.2.1 5 false q_X5_measure.2.2.1 cal_X5_measure q_X5_measure.2.2.2.1 bl_X5_measure pl_X5_measure = true := by decide +kernel
theorem nm_X5_measure : plainName q_X5_measure.1.cls = true ∧ zRX 5 = q_X5_measure.1.cls ∧ (false = true → q_X5_measure.1.name = "<init>") := ⟨by decide +kernel, rfl, fun h => by first | rfl | cases h⟩
set_option maxRecDepth 100000 in
theorem wd_X5_greatestUp : zwd q_X5_greatestUp := ⟨zw_in (p := (4, 34)) (by decide +kernel), zw_in (p := (1, 2)) (by decide +kernel), fun h => absurd h (by decide), fun _ => zw_in (p := (4, 32)) (by decide +kernel), fun _ => zw_in (p := (4, 33)) (by decide +kernel)⟩
def cal_X5_greatestUp : List zCal := [q_X5_measure, q_X7_toDouble]
def b_X5_greatestUp_0 : List zE := (0, .aload_n 0, []) :: (1, .aload_n 1, []) :: (2, .aload_n 2, []) :: (3, .aload_n 3, []) :: (4, .aload_n 0, []) :: (5, .getfield 27, [5, 4]) :: (8, .aload_n 0, []) :: (9, .getfield 21, [5, 2]) :: (12, .invokevirtual 98, [0, 5, 5]) :: (15, .aload_n 0, []) :: (16, .getfield 21, [5, 2]) :: (19, .iconst 1, [1]) :: (20, .invokevirtual 73, [1, 1, 7]) :: (23, .lreturn, []) :: []
def p_X5_greatestUp_0 : List (List (Nat × Nat)) := [] :: [] :: [] :: [] :: [] :: [(1, 59)] :: [] :: [(1, 57)] :: [(4, 35)] :: [] :: [(1, 57)] :: [] :: [(4, 19)] :: [] :: []
def bl_X5_greatestUp : List (Nat × List zE) := [(0, b_X5_greatestUp_0)]
def pl_X5_greatestUp : List (List (List (Nat × Nat))) := [p_X5_greatestUp_0]
theorem k_X5_greatestUp_0 : zlk 0 bl_X5_greatestUp = b_X5_greatestUp_0 := rfl
set_option maxRecDepth 100000 in
theorem ck_X5_greatestUp : zall q_X5_greatestUp.2.2.2.2.1 q_X5_greatestUp.2.1 5 false q_X5_greatestUp.2.2.1 cal_X5_greatestUp q_X5_greatestUp.2.2.2.1 bl_X5_greatestUp pl_X5_greatestUp = true := by decide +kernel
theorem nm_X5_greatestUp : plainName q_X5_greatestUp.1.cls = true ∧ zRX 5 = q_X5_greatestUp.1.cls ∧ (false = true → q_X5_greatestUp.1.name = "<init>") := ⟨by decide +kernel, rfl, fun h => by first | rfl | cases h⟩
set_option maxRecDepth 100000 in
theorem wd_X5_start : zwd q_X5_start := ⟨zw_in (p := (4, 55)) (by decide +kernel), zw_in (p := (1, 2)) (by decide +kernel), fun h => absurd h (by decide), fun _ => zw_in (p := (4, 53)) (by decide +kernel), fun _ => zw_in (p := (4, 54)) (by decide +kernel)⟩
def cal_X5_start : List zCal := [q_X5_measure]
def b_X5_start_29 : List zE := (29, .aload_n 0, []) :: (30, .aload_n 1, []) :: (31, .aload_n 0, []) :: (32, .getfield 40, [5, 8]) :: (35, .aload_n 3, []) :: (36, .aload_n 0, []) :: (37, .getfield 27, [5, 4]) :: (40, .aload_n 0, []) :: (41, .getfield 21, [5, 2]) :: (44, .invokevirtual 98, [0, 5, 5]) :: (47, .return_, []) :: []
def p_X5_start_29 : List (List (Nat × Nat)) := [] :: [] :: [] :: [(1, 63)] :: [] :: [] :: [(1, 59)] :: [] :: [(1, 57)] :: [(4, 35)] :: [] :: []
def b_X5_start_3 : List zE := (3, .iload 4, []) :: (5, .aload_n 1, []) :: (6, .getfield 50, [3, 3]) :: (9, .if_icmp .ge 20, [29, 0]) :: (12, .aload_n 0, []) :: (13, .getfield 40, [5, 8]) :: (16, .iload 4, []) :: (18, .aload_n 2, []) :: (19, .iload 4, []) :: (21, .laload, []) :: (22, .lastore, []) :: (23, .iinc 4 1, [1]) :: (26, .goto (-23), [3, 1]) :: []
def p_X5_start_3 : List (List (Nat × Nat)) := [] :: [] :: [(1, 221)] :: [] :: [] :: [(1, 63)] :: [] :: [] :: [] :: [] :: [] :: [] :: [] :: []
def b_X5_start_0 : List zE := (0, .iconst 0, [0]) :: (1, .istore 4, []) :: (3, .nop, []) :: []
def p_X5_start_0 : List (List (Nat × Nat)) := [] :: [] :: [] :: []
def bl_X5_start : List (Nat × List zE) := [(0, b_X5_start_0), (3, b_X5_start_3), (29, b_X5_start_29)]
def pl_X5_start : List (List (List (Nat × Nat))) := [p_X5_start_0, p_X5_start_3, p_X5_start_29]
theorem k_X5_start_0 : zlk 0 bl_X5_start = b_X5_start_0 := rfl
theorem k_X5_start_3 : zlk 3 bl_X5_start = b_X5_start_3 := rfl
theorem k_X5_start_29 : zlk 29 bl_X5_start = b_X5_start_29 := rfl
set_option maxRecDepth 100000 in
theorem ck_X5_start : zall q_X5_start.2.2.2.2.1 q_X5_start.2.1 5 false q_X5_start.2.2.1 cal_X5_start q_X5_start.2.2.2.1 bl_X5_start pl_X5_start = true := by decide +kernel
theorem nm_X5_start : plainName q_X5_start.1.cls = true ∧ zRX 5 = q_X5_start.1.cls ∧ (false = true → q_X5_start.1.name = "<init>") := ⟨by decide +kernel, rfl, fun h => by first | rfl | cases h⟩
set_option maxRecDepth 100000 in
theorem wd_X5_finish : zwd q_X5_finish := ⟨zw_in (p := (4, 65)) (by decide +kernel), zw_in (p := (1, 2)) (by decide +kernel), fun h => absurd h (by decide), fun _ => zw_in (p := (4, 63)) (by decide +kernel), fun _ => zw_in (p := (4, 64)) (by decide +kernel)⟩
def cal_X5_finish : List zCal := []
def b_X5_finish_25 : List zE := (25, .return_, []) :: []
def p_X5_finish_25 : List (List (Nat × Nat)) := [] :: []
def b_X5_finish_2 : List zE := (2, .iload_n 3, []) :: (3, .aload_n 1, []) :: (4, .getfield 50, [3, 3]) :: (7, .if_icmp .ge 18, [25, 0]) :: (10, .aload_n 2, []) :: (11, .iload_n 3, []) :: (12, .aload_n 0, []) :: (13, .getfield 40, [5, 8]) :: (16, .iload_n 3, []) :: (17, .laload, []) :: (18, .lastore, []) :: (19, .iinc 3 1, [1]) :: (22, .goto (-20), [2, 1]) :: []
def p_X5_finish_2 : List (List (Nat × Nat)) := [] :: [] :: [(1, 221)] :: [] :: [] :: [] :: [] :: [(1, 63)] :: [] :: [] :: [] :: [] :: [] :: []
def b_X5_finish_0 : List zE := (0, .iconst 0, [0]) :: (1, .istore_n 3, []) :: (2, .nop, []) :: []
def p_X5_finish_0 : List (List (Nat × Nat)) := [] :: [] :: [] :: []
def bl_X5_finish : List (Nat × List zE) := [(0, b_X5_finish_0), (2, b_X5_finish_2), (25, b_X5_finish_25)]
def pl_X5_finish : List (List (List (Nat × Nat))) := [p_X5_finish_0, p_X5_finish_2, p_X5_finish_25]
theorem k_X5_finish_0 : zlk 0 bl_X5_finish = b_X5_finish_0 := rfl
theorem k_X5_finish_2 : zlk 2 bl_X5_finish = b_X5_finish_2 := rfl
theorem k_X5_finish_25 : zlk 25 bl_X5_finish = b_X5_finish_25 := rfl
set_option maxRecDepth 100000 in
theorem ck_X5_finish : zall q_X5_finish.2.2.2.2.1 q_X5_finish.2.1 5 false q_X5_finish.2.2.1 cal_X5_finish q_X5_finish.2.2.2.1 bl_X5_finish pl_X5_finish = true := by decide +kernel
theorem nm_X5_finish : plainName q_X5_finish.1.cls = true ∧ zRX 5 = q_X5_finish.1.cls ∧ (false = true → q_X5_finish.1.name = "<init>") := ⟨by decide +kernel, rfl, fun h => by first | rfl | cases h⟩
