-- ===== PART A: goes FIRST, ahead of the names: the tables' words, and 'selects' of the private methods out of them =====
/-- a private method of a class that the tables say can be made, by its rows of tables_1 -/
def lw_okq (q : MethodName × Nat) : Prop := (q.1.cls ≠ "java/lang/invoke/MethodHandle" ∧ q.1.cls ≠ "java/lang/invoke/VarHandle") ∧ Cond.instantiable q.1.cls q.2 ∈ tables_1 ∧ Cond.privateMethod q.1 ∈ tables_1 ∧ Cond.instanceMethod q.1 ∈ tables_1
theorem lw_p0 : lw_okq (⟨"SystemLab", "freeMatrix", "()I"⟩, 9) := ⟨⟨by decide +kernel, by decide +kernel⟩, List.mem_of_getElem? (i := 16) (by decide +kernel), List.mem_of_getElem? (i := 341) (by decide +kernel), List.mem_of_getElem? (i := 342) (by decide +kernel)⟩
theorem lw_p1 : lw_okq (⟨"SystemLab", "matrixAt", "(I)LSystemLab$Matrix;"⟩, 9) := ⟨⟨by decide +kernel, by decide +kernel⟩, List.mem_of_getElem? (i := 16) (by decide +kernel), List.mem_of_getElem? (i := 356) (by decide +kernel), List.mem_of_getElem? (i := 357) (by decide +kernel)⟩
theorem lw_p2 : lw_okq (⟨"SystemLab", "freeFactor", "()I"⟩, 9) := ⟨⟨by decide +kernel, by decide +kernel⟩, List.mem_of_getElem? (i := 16) (by decide +kernel), List.mem_of_getElem? (i := 527) (by decide +kernel), List.mem_of_getElem? (i := 528) (by decide +kernel)⟩
theorem lw_p3 : lw_okq (⟨"SystemLab$Factor", "store", "(IIJ)V"⟩, 11) := ⟨⟨by decide +kernel, by decide +kernel⟩, List.mem_of_getElem? (i := 248) (by decide +kernel), List.mem_of_getElem? (i := 544) (by decide +kernel), List.mem_of_getElem? (i := 545) (by decide +kernel)⟩
theorem lw_p4 : lw_okq (⟨"SystemLab$Factor", "makeByRoots", "()I"⟩, 11) := ⟨⟨by decide +kernel, by decide +kernel⟩, List.mem_of_getElem? (i := 248) (by decide +kernel), List.mem_of_getElem? (i := 548) (by decide +kernel), List.mem_of_getElem? (i := 549) (by decide +kernel)⟩
theorem lw_p5 : lw_okq (⟨"SystemLab$Factor", "rootStep", "(II)Z"⟩, 11) := ⟨⟨by decide +kernel, by decide +kernel⟩, List.mem_of_getElem? (i := 248) (by decide +kernel), List.mem_of_getElem? (i := 552) (by decide +kernel), List.mem_of_getElem? (i := 553) (by decide +kernel)⟩
theorem lw_p6 : lw_okq (⟨"SystemLab$Factor", "makeByPivots", "()I"⟩, 11) := ⟨⟨by decide +kernel, by decide +kernel⟩, List.mem_of_getElem? (i := 248) (by decide +kernel), List.mem_of_getElem? (i := 570) (by decide +kernel), List.mem_of_getElem? (i := 571) (by decide +kernel)⟩
theorem lw_p7 : lw_okq (⟨"SystemLab$Factor", "exchange", "(I)V"⟩, 11) := ⟨⟨by decide +kernel, by decide +kernel⟩, List.mem_of_getElem? (i := 248) (by decide +kernel), List.mem_of_getElem? (i := 574) (by decide +kernel), List.mem_of_getElem? (i := 575) (by decide +kernel)⟩
theorem lw_p8 : lw_okq (⟨"SystemLab$Factor", "exchangeRows", "(II)V"⟩, 11) := ⟨⟨by decide +kernel, by decide +kernel⟩, List.mem_of_getElem? (i := 248) (by decide +kernel), List.mem_of_getElem? (i := 579) (by decide +kernel), List.mem_of_getElem? (i := 580) (by decide +kernel)⟩
theorem lw_p9 : lw_okq (⟨"SystemLab$Factor", "exchangeColumns", "(II)V"⟩, 11) := ⟨⟨by decide +kernel, by decide +kernel⟩, List.mem_of_getElem? (i := 248) (by decide +kernel), List.mem_of_getElem? (i := 583) (by decide +kernel), List.mem_of_getElem? (i := 584) (by decide +kernel)⟩
theorem lw_p10 : lw_okq (⟨"SystemLab$Factor", "workRow", "(II)Z"⟩, 11) := ⟨⟨by decide +kernel, by decide +kernel⟩, List.mem_of_getElem? (i := 248) (by decide +kernel), List.mem_of_getElem? (i := 587) (by decide +kernel), List.mem_of_getElem? (i := 588) (by decide +kernel)⟩
theorem lw_p11 : lw_okq (⟨"SystemLab", "factorAt", "(I)LSystemLab$Factor;"⟩, 9) := ⟨⟨by decide +kernel, by decide +kernel⟩, List.mem_of_getElem? (i := 16) (by decide +kernel), List.mem_of_getElem? (i := 595) (by decide +kernel), List.mem_of_getElem? (i := 596) (by decide +kernel)⟩
theorem lw_p12 : lw_okq (⟨"SystemLab", "freeVector", "()I"⟩, 9) := ⟨⟨by decide +kernel, by decide +kernel⟩, List.mem_of_getElem? (i := 16) (by decide +kernel), List.mem_of_getElem? (i := 638) (by decide +kernel), List.mem_of_getElem? (i := 639) (by decide +kernel)⟩
theorem lw_p13 : lw_okq (⟨"SystemLab", "vectorAt", "(I)LSystemLab$Vector;"⟩, 9) := ⟨⟨by decide +kernel, by decide +kernel⟩, List.mem_of_getElem? (i := 16) (by decide +kernel), List.mem_of_getElem? (i := 650) (by decide +kernel), List.mem_of_getElem? (i := 651) (by decide +kernel)⟩
theorem lw_p14 : lw_okq (⟨"SystemLab$Factor", "forward", "(IJ)Z"⟩, 11) := ⟨⟨by decide +kernel, by decide +kernel⟩, List.mem_of_getElem? (i := 248) (by decide +kernel), List.mem_of_getElem? (i := 675) (by decide +kernel), List.mem_of_getElem? (i := 676) (by decide +kernel)⟩
theorem lw_p15 : lw_okq (⟨"SystemLab$Factor", "backward", "(I)Z"⟩, 11) := ⟨⟨by decide +kernel, by decide +kernel⟩, List.mem_of_getElem? (i := 248) (by decide +kernel), List.mem_of_getElem? (i := 679) (by decide +kernel), List.mem_of_getElem? (i := 680) (by decide +kernel)⟩
def lw_privs_1 : List (MethodName × Nat) := [(⟨"SystemLab", "freeMatrix", "()I"⟩, 9), (⟨"SystemLab", "matrixAt", "(I)LSystemLab$Matrix;"⟩, 9), (⟨"SystemLab", "freeFactor", "()I"⟩, 9), (⟨"SystemLab$Factor", "store", "(IIJ)V"⟩, 11), (⟨"SystemLab$Factor", "makeByRoots", "()I"⟩, 11), (⟨"SystemLab$Factor", "rootStep", "(II)Z"⟩, 11), (⟨"SystemLab$Factor", "makeByPivots", "()I"⟩, 11), (⟨"SystemLab$Factor", "exchange", "(I)V"⟩, 11), (⟨"SystemLab$Factor", "exchangeRows", "(II)V"⟩, 11), (⟨"SystemLab$Factor", "exchangeColumns", "(II)V"⟩, 11), (⟨"SystemLab$Factor", "workRow", "(II)Z"⟩, 11), (⟨"SystemLab", "factorAt", "(I)LSystemLab$Factor;"⟩, 9), (⟨"SystemLab", "freeVector", "()I"⟩, 9), (⟨"SystemLab", "vectorAt", "(I)LSystemLab$Vector;"⟩, 9), (⟨"SystemLab$Factor", "forward", "(IJ)Z"⟩, 11), (⟨"SystemLab$Factor", "backward", "(I)Z"⟩, 11)]
theorem lw_r1 : ∀ q ∈ lw_privs_1, lw_okq q := List.forall_mem_cons.mpr ⟨lw_p0, List.forall_mem_cons.mpr ⟨lw_p1, List.forall_mem_cons.mpr ⟨lw_p2, List.forall_mem_cons.mpr ⟨lw_p3, List.forall_mem_cons.mpr ⟨lw_p4, List.forall_mem_cons.mpr ⟨lw_p5, List.forall_mem_cons.mpr ⟨lw_p6, List.forall_mem_cons.mpr ⟨lw_p7, List.forall_mem_cons.mpr ⟨lw_p8, List.forall_mem_cons.mpr ⟨lw_p9, List.forall_mem_cons.mpr ⟨lw_p10, List.forall_mem_cons.mpr ⟨lw_p11, List.forall_mem_cons.mpr ⟨lw_p12, List.forall_mem_cons.mpr ⟨lw_p13, List.forall_mem_cons.mpr ⟨lw_p14, List.forall_mem_cons.mpr ⟨lw_p15, fun _ h => absurd h List.not_mem_nil⟩⟩⟩⟩⟩⟩⟩⟩⟩⟩⟩⟩⟩⟩⟩⟩
theorem lw_p16 : lw_okq (⟨"SystemLab", "newVector", "(II)I"⟩, 9) := ⟨⟨by decide +kernel, by decide +kernel⟩, List.mem_of_getElem? (i := 16) (by decide +kernel), List.mem_of_getElem? (i := 684) (by decide +kernel), List.mem_of_getElem? (i := 685) (by decide +kernel)⟩
theorem lw_p17 : lw_okq (⟨"SystemLab", "fits", "(LSystemLab$Matrix;II)Z"⟩, 9) := ⟨⟨by decide +kernel, by decide +kernel⟩, List.mem_of_getElem? (i := 16) (by decide +kernel), List.mem_of_getElem? (i := 692) (by decide +kernel), List.mem_of_getElem? (i := 693) (by decide +kernel)⟩
theorem lw_p18 : lw_okq (⟨"SystemLab$Residuals", "exact", "(LSystemLab$Matrix;[J[JI)V"⟩, 9) := ⟨⟨by decide +kernel, by decide +kernel⟩, List.mem_of_getElem? (i := 30) (by decide +kernel), List.mem_of_getElem? (i := 701) (by decide +kernel), List.mem_of_getElem? (i := 702) (by decide +kernel)⟩
theorem lw_p19 : lw_okq (⟨"SystemLab$Total", "addPiece", "(JIZ)V"⟩, 4) := ⟨⟨by decide +kernel, by decide +kernel⟩, List.mem_of_getElem? (i := 36) (by decide +kernel), List.mem_of_getElem? (i := 715) (by decide +kernel), List.mem_of_getElem? (i := 716) (by decide +kernel)⟩
theorem lw_p20 : lw_okq (⟨"SystemLab$Total", "carry", "(I)J"⟩, 4) := ⟨⟨by decide +kernel, by decide +kernel⟩, List.mem_of_getElem? (i := 36) (by decide +kernel), List.mem_of_getElem? (i := 736) (by decide +kernel), List.mem_of_getElem? (i := 737) (by decide +kernel)⟩
theorem lw_p21 : lw_okq (⟨"SystemLab$Residuals", "measure", "(LSystemLab$Matrix;[J[J[JLSystemLab$Total;)V"⟩, 9) := ⟨⟨by decide +kernel, by decide +kernel⟩, List.mem_of_getElem? (i := 30) (by decide +kernel), List.mem_of_getElem? (i := 756) (by decide +kernel), List.mem_of_getElem? (i := 757) (by decide +kernel)⟩
theorem lw_p22 : lw_okq (⟨"SystemLab$Elimination", "prepare", "(LSystemLab$Matrix;[J)V"⟩, 15) := ⟨⟨by decide +kernel, by decide +kernel⟩, List.mem_of_getElem? (i := 84) (by decide +kernel), List.mem_of_getElem? (i := 805) (by decide +kernel), List.mem_of_getElem? (i := 806) (by decide +kernel)⟩
theorem lw_p23 : lw_okq (⟨"SystemLab$Elimination", "lowerUnit", "(J)V"⟩, 15) := ⟨⟨by decide +kernel, by decide +kernel⟩, List.mem_of_getElem? (i := 84) (by decide +kernel), List.mem_of_getElem? (i := 810) (by decide +kernel), List.mem_of_getElem? (i := 811) (by decide +kernel)⟩
theorem lw_p24 : lw_okq (⟨"SystemLab$Elimination", "at", "(II)LSystemLab$Whole;"⟩, 15) := ⟨⟨by decide +kernel, by decide +kernel⟩, List.mem_of_getElem? (i := 84) (by decide +kernel), List.mem_of_getElem? (i := 818) (by decide +kernel), List.mem_of_getElem? (i := 819) (by decide +kernel)⟩
theorem lw_p25 : lw_okq (⟨"SystemLab$Elimination", "loadNumber", "(LSystemLab$Whole;J)V"⟩, 15) := ⟨⟨by decide +kernel, by decide +kernel⟩, List.mem_of_getElem? (i := 84) (by decide +kernel), List.mem_of_getElem? (i := 822) (by decide +kernel), List.mem_of_getElem? (i := 823) (by decide +kernel)⟩
theorem lw_p26 : lw_okq (⟨"SystemLab$Whole", "trim", "()V"⟩, 3) := ⟨⟨by decide +kernel, by decide +kernel⟩, List.mem_of_getElem? (i := 91) (by decide +kernel), List.mem_of_getElem? (i := 835) (by decide +kernel), List.mem_of_getElem? (i := 836) (by decide +kernel)⟩
theorem lw_p27 : lw_okq (⟨"SystemLab$Elimination", "eliminate", "(Z)V"⟩, 15) := ⟨⟨by decide +kernel, by decide +kernel⟩, List.mem_of_getElem? (i := 84) (by decide +kernel), List.mem_of_getElem? (i := 844) (by decide +kernel), List.mem_of_getElem? (i := 845) (by decide +kernel)⟩
theorem lw_p28 : lw_okq (⟨"SystemLab$Elimination", "prepareDivisor", "()V"⟩, 15) := ⟨⟨by decide +kernel, by decide +kernel⟩, List.mem_of_getElem? (i := 84) (by decide +kernel), List.mem_of_getElem? (i := 848) (by decide +kernel), List.mem_of_getElem? (i := 849) (by decide +kernel)⟩
theorem lw_p29 : lw_okq (⟨"SystemLab$Elimination", "rowWithPivot", "(I)I"⟩, 15) := ⟨⟨by decide +kernel, by decide +kernel⟩, List.mem_of_getElem? (i := 84) (by decide +kernel), List.mem_of_getElem? (i := 866) (by decide +kernel), List.mem_of_getElem? (i := 867) (by decide +kernel)⟩
theorem lw_p30 : lw_okq (⟨"SystemLab$Elimination", "exchangeRows", "(II)V"⟩, 15) := ⟨⟨by decide +kernel, by decide +kernel⟩, List.mem_of_getElem? (i := 84) (by decide +kernel), List.mem_of_getElem? (i := 870) (by decide +kernel), List.mem_of_getElem? (i := 871) (by decide +kernel)⟩
theorem lw_p31 : lw_okq (⟨"SystemLab$Elimination", "workRow", "(II)V"⟩, 15) := ⟨⟨by decide +kernel, by decide +kernel⟩, List.mem_of_getElem? (i := 84) (by decide +kernel), List.mem_of_getElem? (i := 874) (by decide +kernel), List.mem_of_getElem? (i := 875) (by decide +kernel)⟩
def lw_privs_2 : List (MethodName × Nat) := [(⟨"SystemLab", "newVector", "(II)I"⟩, 9), (⟨"SystemLab", "fits", "(LSystemLab$Matrix;II)Z"⟩, 9), (⟨"SystemLab$Residuals", "exact", "(LSystemLab$Matrix;[J[JI)V"⟩, 9), (⟨"SystemLab$Total", "addPiece", "(JIZ)V"⟩, 4), (⟨"SystemLab$Total", "carry", "(I)J"⟩, 4), (⟨"SystemLab$Residuals", "measure", "(LSystemLab$Matrix;[J[J[JLSystemLab$Total;)V"⟩, 9), (⟨"SystemLab$Elimination", "prepare", "(LSystemLab$Matrix;[J)V"⟩, 15), (⟨"SystemLab$Elimination", "lowerUnit", "(J)V"⟩, 15), (⟨"SystemLab$Elimination", "at", "(II)LSystemLab$Whole;"⟩, 15), (⟨"SystemLab$Elimination", "loadNumber", "(LSystemLab$Whole;J)V"⟩, 15), (⟨"SystemLab$Whole", "trim", "()V"⟩, 3), (⟨"SystemLab$Elimination", "eliminate", "(Z)V"⟩, 15), (⟨"SystemLab$Elimination", "prepareDivisor", "()V"⟩, 15), (⟨"SystemLab$Elimination", "rowWithPivot", "(I)I"⟩, 15), (⟨"SystemLab$Elimination", "exchangeRows", "(II)V"⟩, 15), (⟨"SystemLab$Elimination", "workRow", "(II)V"⟩, 15)]
theorem lw_r2 : ∀ q ∈ lw_privs_2, lw_okq q := List.forall_mem_cons.mpr ⟨lw_p16, List.forall_mem_cons.mpr ⟨lw_p17, List.forall_mem_cons.mpr ⟨lw_p18, List.forall_mem_cons.mpr ⟨lw_p19, List.forall_mem_cons.mpr ⟨lw_p20, List.forall_mem_cons.mpr ⟨lw_p21, List.forall_mem_cons.mpr ⟨lw_p22, List.forall_mem_cons.mpr ⟨lw_p23, List.forall_mem_cons.mpr ⟨lw_p24, List.forall_mem_cons.mpr ⟨lw_p25, List.forall_mem_cons.mpr ⟨lw_p26, List.forall_mem_cons.mpr ⟨lw_p27, List.forall_mem_cons.mpr ⟨lw_p28, List.forall_mem_cons.mpr ⟨lw_p29, List.forall_mem_cons.mpr ⟨lw_p30, List.forall_mem_cons.mpr ⟨lw_p31, fun _ h => absurd h List.not_mem_nil⟩⟩⟩⟩⟩⟩⟩⟩⟩⟩⟩⟩⟩⟩⟩⟩
theorem lw_p32 : lw_okq (⟨"SystemLab$Whole", "takeMultiple", "(LSystemLab$Whole;JII)V"⟩, 3) := ⟨⟨by decide +kernel, by decide +kernel⟩, List.mem_of_getElem? (i := 91) (by decide +kernel), List.mem_of_getElem? (i := 907) (by decide +kernel), List.mem_of_getElem? (i := 908) (by decide +kernel)⟩
theorem lw_p33 : lw_okq (⟨"SystemLab$Elimination", "quotient", "(LSystemLab$Whole;LSystemLab$Whole;Z)J"⟩, 15) := ⟨⟨by decide +kernel, by decide +kernel⟩, List.mem_of_getElem? (i := 84) (by decide +kernel), List.mem_of_getElem? (i := 916) (by decide +kernel), List.mem_of_getElem? (i := 917) (by decide +kernel)⟩
theorem lw_p34 : lw_okq (⟨"SystemLab$Elimination", "ratio", "(IZ)J"⟩, 15) := ⟨⟨by decide +kernel, by decide +kernel⟩, List.mem_of_getElem? (i := 84) (by decide +kernel), List.mem_of_getElem? (i := 920) (by decide +kernel), List.mem_of_getElem? (i := 921) (by decide +kernel)⟩
theorem lw_p35 : lw_okq (⟨"SystemLab$Elimination", "freeColumn", "(I)I"⟩, 15) := ⟨⟨by decide +kernel, by decide +kernel⟩, List.mem_of_getElem? (i := 84) (by decide +kernel), List.mem_of_getElem? (i := 949) (by decide +kernel), List.mem_of_getElem? (i := 950) (by decide +kernel)⟩
theorem lw_p36 : lw_okq (⟨"SystemLab$Elimination", "determinantToLeft", "(LSystemLab$Matrix;)V"⟩, 15) := ⟨⟨by decide +kernel, by decide +kernel⟩, List.mem_of_getElem? (i := 84) (by decide +kernel), List.mem_of_getElem? (i := 965) (by decide +kernel), List.mem_of_getElem? (i := 966) (by decide +kernel)⟩
theorem lw_p37 : lw_okq (⟨"SystemLab$Elimination", "appendUnits", "()V"⟩, 15) := ⟨⟨by decide +kernel, by decide +kernel⟩, List.mem_of_getElem? (i := 84) (by decide +kernel), List.mem_of_getElem? (i := 989) (by decide +kernel), List.mem_of_getElem? (i := 990) (by decide +kernel)⟩
theorem lw_p38 : lw_okq (⟨"SystemLab$Elimination", "greatestRowSum", "(I)V"⟩, 15) := ⟨⟨by decide +kernel, by decide +kernel⟩, List.mem_of_getElem? (i := 84) (by decide +kernel), List.mem_of_getElem? (i := 993) (by decide +kernel), List.mem_of_getElem? (i := 994) (by decide +kernel)⟩
theorem lw_p39 : lw_okq (⟨"SystemLab$Residuals", "lack", "(LSystemLab$Matrix;LSystemLab$Matrix;II)V"⟩, 9) := ⟨⟨by decide +kernel, by decide +kernel⟩, List.mem_of_getElem? (i := 30) (by decide +kernel), List.mem_of_getElem? (i := 1007) (by decide +kernel), List.mem_of_getElem? (i := 1008) (by decide +kernel)⟩
theorem lw_p40 : lw_okq (⟨"SystemLab$Ordering", "countNeighbours", "(LSystemLab$Matrix;)V"⟩, 6) := ⟨⟨by decide +kernel, by decide +kernel⟩, List.mem_of_getElem? (i := 157) (by decide +kernel), List.mem_of_getElem? (i := 1046) (by decide +kernel), List.mem_of_getElem? (i := 1047) (by decide +kernel)⟩
theorem lw_p41 : lw_okq (⟨"SystemLab$Ordering", "fewest", "(LSystemLab$Matrix;I)I"⟩, 6) := ⟨⟨by decide +kernel, by decide +kernel⟩, List.mem_of_getElem? (i := 157) (by decide +kernel), List.mem_of_getElem? (i := 1054) (by decide +kernel), List.mem_of_getElem? (i := 1055) (by decide +kernel)⟩
theorem lw_p42 : lw_okq (⟨"SystemLab$Ordering", "append", "(I)V"⟩, 6) := ⟨⟨by decide +kernel, by decide +kernel⟩, List.mem_of_getElem? (i := 157) (by decide +kernel), List.mem_of_getElem? (i := 1058) (by decide +kernel), List.mem_of_getElem? (i := 1059) (by decide +kernel)⟩
theorem lw_p43 : lw_okq (⟨"SystemLab$Ordering", "appendNeighbours", "(LSystemLab$Matrix;I)V"⟩, 6) := ⟨⟨by decide +kernel, by decide +kernel⟩, List.mem_of_getElem? (i := 157) (by decide +kernel), List.mem_of_getElem? (i := 1062) (by decide +kernel), List.mem_of_getElem? (i := 1063) (by decide +kernel)⟩
theorem lw_p44 : lw_okq (⟨"SystemLab$Ordering", "widthSo", "(LSystemLab$Matrix;)I"⟩, 6) := ⟨⟨by decide +kernel, by decide +kernel⟩, List.mem_of_getElem? (i := 157) (by decide +kernel), List.mem_of_getElem? (i := 1066) (by decide +kernel), List.mem_of_getElem? (i := 1067) (by decide +kernel)⟩
theorem lw_p45 : lw_okq (⟨"SystemLab$Tape", "write", "(I)V"⟩, 5) := ⟨⟨by decide +kernel, by decide +kernel⟩, List.mem_of_getElem? (i := 182) (by decide +kernel), List.mem_of_getElem? (i := 1089) (by decide +kernel), List.mem_of_getElem? (i := 1090) (by decide +kernel)⟩
theorem lw_p46 : lw_okq (⟨"SystemLab$Tape", "writeNumber", "(J)V"⟩, 5) := ⟨⟨by decide +kernel, by decide +kernel⟩, List.mem_of_getElem? (i := 182) (by decide +kernel), List.mem_of_getElem? (i := 1095) (by decide +kernel), List.mem_of_getElem? (i := 1096) (by decide +kernel)⟩
theorem lw_p47 : lw_okq (⟨"SystemLab$Tape", "next", "()I"⟩, 5) := ⟨⟨by decide +kernel, by decide +kernel⟩, List.mem_of_getElem? (i := 182) (by decide +kernel), List.mem_of_getElem? (i := 1144) (by decide +kernel), List.mem_of_getElem? (i := 1145) (by decide +kernel)⟩
def lw_privs_3 : List (MethodName × Nat) := [(⟨"SystemLab$Whole", "takeMultiple", "(LSystemLab$Whole;JII)V"⟩, 3), (⟨"SystemLab$Elimination", "quotient", "(LSystemLab$Whole;LSystemLab$Whole;Z)J"⟩, 15), (⟨"SystemLab$Elimination", "ratio", "(IZ)J"⟩, 15), (⟨"SystemLab$Elimination", "freeColumn", "(I)I"⟩, 15), (⟨"SystemLab$Elimination", "determinantToLeft", "(LSystemLab$Matrix;)V"⟩, 15), (⟨"SystemLab$Elimination", "appendUnits", "()V"⟩, 15), (⟨"SystemLab$Elimination", "greatestRowSum", "(I)V"⟩, 15), (⟨"SystemLab$Residuals", "lack", "(LSystemLab$Matrix;LSystemLab$Matrix;II)V"⟩, 9), (⟨"SystemLab$Ordering", "countNeighbours", "(LSystemLab$Matrix;)V"⟩, 6), (⟨"SystemLab$Ordering", "fewest", "(LSystemLab$Matrix;I)I"⟩, 6), (⟨"SystemLab$Ordering", "append", "(I)V"⟩, 6), (⟨"SystemLab$Ordering", "appendNeighbours", "(LSystemLab$Matrix;I)V"⟩, 6), (⟨"SystemLab$Ordering", "widthSo", "(LSystemLab$Matrix;)I"⟩, 6), (⟨"SystemLab$Tape", "write", "(I)V"⟩, 5), (⟨"SystemLab$Tape", "writeNumber", "(J)V"⟩, 5), (⟨"SystemLab$Tape", "next", "()I"⟩, 5)]
theorem lw_r3 : ∀ q ∈ lw_privs_3, lw_okq q := List.forall_mem_cons.mpr ⟨lw_p32, List.forall_mem_cons.mpr ⟨lw_p33, List.forall_mem_cons.mpr ⟨lw_p34, List.forall_mem_cons.mpr ⟨lw_p35, List.forall_mem_cons.mpr ⟨lw_p36, List.forall_mem_cons.mpr ⟨lw_p37, List.forall_mem_cons.mpr ⟨lw_p38, List.forall_mem_cons.mpr ⟨lw_p39, List.forall_mem_cons.mpr ⟨lw_p40, List.forall_mem_cons.mpr ⟨lw_p41, List.forall_mem_cons.mpr ⟨lw_p42, List.forall_mem_cons.mpr ⟨lw_p43, List.forall_mem_cons.mpr ⟨lw_p44, List.forall_mem_cons.mpr ⟨lw_p45, List.forall_mem_cons.mpr ⟨lw_p46, List.forall_mem_cons.mpr ⟨lw_p47, fun _ h => absurd h List.not_mem_nil⟩⟩⟩⟩⟩⟩⟩⟩⟩⟩⟩⟩⟩⟩⟩⟩
theorem lw_p48 : lw_okq (⟨"SystemLab$Tape", "readSparse", "(LSystemLab$Matrix;)Z"⟩, 5) := ⟨⟨by decide +kernel, by decide +kernel⟩, List.mem_of_getElem? (i := 182) (by decide +kernel), List.mem_of_getElem? (i := 1150) (by decide +kernel), List.mem_of_getElem? (i := 1151) (by decide +kernel)⟩
theorem lw_p49 : lw_okq (⟨"SystemLab$Tape", "readNumber", "(LSystemLab$Matrix;II)Z"⟩, 5) := ⟨⟨by decide +kernel, by decide +kernel⟩, List.mem_of_getElem? (i := 182) (by decide +kernel), List.mem_of_getElem? (i := 1155) (by decide +kernel), List.mem_of_getElem? (i := 1156) (by decide +kernel)⟩
theorem lw_p50 : lw_okq (⟨"SystemLab$Tape", "nextNumber", "()J"⟩, 5) := ⟨⟨by decide +kernel, by decide +kernel⟩, List.mem_of_getElem? (i := 182) (by decide +kernel), List.mem_of_getElem? (i := 1159) (by decide +kernel), List.mem_of_getElem? (i := 1160) (by decide +kernel)⟩
theorem lw_p51 : lw_okq (⟨"SystemLab$Tape", "readPlaces", "(LSystemLab$Matrix;)Z"⟩, 5) := ⟨⟨by decide +kernel, by decide +kernel⟩, List.mem_of_getElem? (i := 182) (by decide +kernel), List.mem_of_getElem? (i := 1166) (by decide +kernel), List.mem_of_getElem? (i := 1167) (by decide +kernel)⟩
theorem lw_p52 : lw_okq (⟨"SystemLab", "countMatrices", "()I"⟩, 9) := ⟨⟨by decide +kernel, by decide +kernel⟩, List.mem_of_getElem? (i := 16) (by decide +kernel), List.mem_of_getElem? (i := 1174) (by decide +kernel), List.mem_of_getElem? (i := 1175) (by decide +kernel)⟩
theorem lw_p53 : lw_okq (⟨"SystemLab", "countFactors", "()I"⟩, 9) := ⟨⟨by decide +kernel, by decide +kernel⟩, List.mem_of_getElem? (i := 16) (by decide +kernel), List.mem_of_getElem? (i := 1178) (by decide +kernel), List.mem_of_getElem? (i := 1179) (by decide +kernel)⟩
theorem lw_p54 : lw_okq (⟨"SystemLab", "countVectors", "()I"⟩, 9) := ⟨⟨by decide +kernel, by decide +kernel⟩, List.mem_of_getElem? (i := 16) (by decide +kernel), List.mem_of_getElem? (i := 1182) (by decide +kernel), List.mem_of_getElem? (i := 1183) (by decide +kernel)⟩
theorem lw_p55 : lw_okq (⟨"SystemLabModel", "free", "()I"⟩, 58) := ⟨⟨by decide +kernel, by decide +kernel⟩, List.mem_of_getElem? (i := 1186) (by decide +kernel), List.mem_of_getElem? (i := 1372) (by decide +kernel), List.mem_of_getElem? (i := 1373) (by decide +kernel)⟩
theorem lw_p56 : lw_okq (⟨"SystemLabModel", "made", "(IIIIII)I"⟩, 58) := ⟨⟨by decide +kernel, by decide +kernel⟩, List.mem_of_getElem? (i := 1186) (by decide +kernel), List.mem_of_getElem? (i := 1379) (by decide +kernel), List.mem_of_getElem? (i := 1380) (by decide +kernel)⟩
theorem lw_p57 : lw_okq (⟨"SystemLabModel", "isMatrix", "(I)Z"⟩, 58) := ⟨⟨by decide +kernel, by decide +kernel⟩, List.mem_of_getElem? (i := 1186) (by decide +kernel), List.mem_of_getElem? (i := 1387) (by decide +kernel), List.mem_of_getElem? (i := 1388) (by decide +kernel)⟩
theorem lw_p58 : lw_okq (⟨"SystemLabModel", "isIn", "(III)Z"⟩, 58) := ⟨⟨by decide +kernel, by decide +kernel⟩, List.mem_of_getElem? (i := 1186) (by decide +kernel), List.mem_of_getElem? (i := 1395) (by decide +kernel), List.mem_of_getElem? (i := 1396) (by decide +kernel)⟩
theorem lw_p59 : lw_okq (⟨"SystemLabModel", "at", "(III)I"⟩, 58) := ⟨⟨by decide +kernel, by decide +kernel⟩, List.mem_of_getElem? (i := 1186) (by decide +kernel), List.mem_of_getElem? (i := 1416) (by decide +kernel), List.mem_of_getElem? (i := 1417) (by decide +kernel)⟩
theorem lw_p60 : lw_okq (⟨"SystemLabModel", "filled", "(I)I"⟩, 58) := ⟨⟨by decide +kernel, by decide +kernel⟩, List.mem_of_getElem? (i := 1186) (by decide +kernel), List.mem_of_getElem? (i := 1420) (by decide +kernel), List.mem_of_getElem? (i := 1421) (by decide +kernel)⟩
theorem lw_p61 : lw_okq (⟨"SystemLabModel", "isLattice", "(I)Z"⟩, 58) := ⟨⟨by decide +kernel, by decide +kernel⟩, List.mem_of_getElem? (i := 1186) (by decide +kernel), List.mem_of_getElem? (i := 1446) (by decide +kernel), List.mem_of_getElem? (i := 1447) (by decide +kernel)⟩
theorem lw_p62 : lw_okq (⟨"SystemLabModel", "widthOf", "(I)I"⟩, 58) := ⟨⟨by decide +kernel, by decide +kernel⟩, List.mem_of_getElem? (i := 1186) (by decide +kernel), List.mem_of_getElem? (i := 1465) (by decide +kernel), List.mem_of_getElem? (i := 1466) (by decide +kernel)⟩
theorem lw_p63 : lw_okq (⟨"SystemLabModel", "worked", "(II)I"⟩, 58) := ⟨⟨by decide +kernel, by decide +kernel⟩, List.mem_of_getElem? (i := 1186) (by decide +kernel), List.mem_of_getElem? (i := 1473) (by decide +kernel), List.mem_of_getElem? (i := 1474) (by decide +kernel)⟩
def lw_privs_4 : List (MethodName × Nat) := [(⟨"SystemLab$Tape", "readSparse", "(LSystemLab$Matrix;)Z"⟩, 5), (⟨"SystemLab$Tape", "readNumber", "(LSystemLab$Matrix;II)Z"⟩, 5), (⟨"SystemLab$Tape", "nextNumber", "()J"⟩, 5), (⟨"SystemLab$Tape", "readPlaces", "(LSystemLab$Matrix;)Z"⟩, 5), (⟨"SystemLab", "countMatrices", "()I"⟩, 9), (⟨"SystemLab", "countFactors", "()I"⟩, 9), (⟨"SystemLab", "countVectors", "()I"⟩, 9), (⟨"SystemLabModel", "free", "()I"⟩, 58), (⟨"SystemLabModel", "made", "(IIIIII)I"⟩, 58), (⟨"SystemLabModel", "isMatrix", "(I)Z"⟩, 58), (⟨"SystemLabModel", "isIn", "(III)Z"⟩, 58), (⟨"SystemLabModel", "at", "(III)I"⟩, 58), (⟨"SystemLabModel", "filled", "(I)I"⟩, 58), (⟨"SystemLabModel", "isLattice", "(I)Z"⟩, 58), (⟨"SystemLabModel", "widthOf", "(I)I"⟩, 58), (⟨"SystemLabModel", "worked", "(II)I"⟩, 58)]
theorem lw_r4 : ∀ q ∈ lw_privs_4, lw_okq q := List.forall_mem_cons.mpr ⟨lw_p48, List.forall_mem_cons.mpr ⟨lw_p49, List.forall_mem_cons.mpr ⟨lw_p50, List.forall_mem_cons.mpr ⟨lw_p51, List.forall_mem_cons.mpr ⟨lw_p52, List.forall_mem_cons.mpr ⟨lw_p53, List.forall_mem_cons.mpr ⟨lw_p54, List.forall_mem_cons.mpr ⟨lw_p55, List.forall_mem_cons.mpr ⟨lw_p56, List.forall_mem_cons.mpr ⟨lw_p57, List.forall_mem_cons.mpr ⟨lw_p58, List.forall_mem_cons.mpr ⟨lw_p59, List.forall_mem_cons.mpr ⟨lw_p60, List.forall_mem_cons.mpr ⟨lw_p61, List.forall_mem_cons.mpr ⟨lw_p62, List.forall_mem_cons.mpr ⟨lw_p63, fun _ h => absurd h List.not_mem_nil⟩⟩⟩⟩⟩⟩⟩⟩⟩⟩⟩⟩⟩⟩⟩⟩
theorem lw_p64 : lw_okq (⟨"SystemLabModel", "fused", "(DDD)D"⟩, 58) := ⟨⟨by decide +kernel, by decide +kernel⟩, List.mem_of_getElem? (i := 1186) (by decide +kernel), List.mem_of_getElem? (i := 1484) (by decide +kernel), List.mem_of_getElem? (i := 1485) (by decide +kernel)⟩
theorem lw_p65 : lw_okq (⟨"SystemLabModel", "none", "()V"⟩, 58) := ⟨⟨by decide +kernel, by decide +kernel⟩, List.mem_of_getElem? (i := 1186) (by decide +kernel), List.mem_of_getElem? (i := 1489) (by decide +kernel), List.mem_of_getElem? (i := 1490) (by decide +kernel)⟩
theorem lw_p66 : lw_okq (⟨"SystemLabModel", "add", "(DDZ)V"⟩, 58) := ⟨⟨by decide +kernel, by decide +kernel⟩, List.mem_of_getElem? (i := 1186) (by decide +kernel), List.mem_of_getElem? (i := 1493) (by decide +kernel), List.mem_of_getElem? (i := 1494) (by decide +kernel)⟩
theorem lw_p67 : lw_okq (⟨"SystemLabModel", "roundedSum", "()D"⟩, 58) := ⟨⟨by decide +kernel, by decide +kernel⟩, List.mem_of_getElem? (i := 1186) (by decide +kernel), List.mem_of_getElem? (i := 1502) (by decide +kernel), List.mem_of_getElem? (i := 1503) (by decide +kernel)⟩
theorem lw_p68 : lw_okq (⟨"SystemLabModel", "sums", "()V"⟩, 58) := ⟨⟨by decide +kernel, by decide +kernel⟩, List.mem_of_getElem? (i := 1186) (by decide +kernel), List.mem_of_getElem? (i := 1506) (by decide +kernel), List.mem_of_getElem? (i := 1507) (by decide +kernel)⟩
theorem lw_p69 : lw_okq (⟨"SystemLabModel", "rootRow", "(II)Z"⟩, 58) := ⟨⟨by decide +kernel, by decide +kernel⟩, List.mem_of_getElem? (i := 1186) (by decide +kernel), List.mem_of_getElem? (i := 1545) (by decide +kernel), List.mem_of_getElem? (i := 1546) (by decide +kernel)⟩
theorem lw_p70 : lw_okq (⟨"SystemLabModel", "step", "(II)Z"⟩, 58) := ⟨⟨by decide +kernel, by decide +kernel⟩, List.mem_of_getElem? (i := 1186) (by decide +kernel), List.mem_of_getElem? (i := 1554) (by decide +kernel), List.mem_of_getElem? (i := 1555) (by decide +kernel)⟩
theorem lw_p71 : lw_okq (⟨"SystemLabModel", "swapRows", "(III)V"⟩, 58) := ⟨⟨by decide +kernel, by decide +kernel⟩, List.mem_of_getElem? (i := 1186) (by decide +kernel), List.mem_of_getElem? (i := 1558) (by decide +kernel), List.mem_of_getElem? (i := 1559) (by decide +kernel)⟩
theorem lw_p72 : lw_okq (⟨"SystemLabModel", "swapColumns", "(III)V"⟩, 58) := ⟨⟨by decide +kernel, by decide +kernel⟩, List.mem_of_getElem? (i := 1186) (by decide +kernel), List.mem_of_getElem? (i := 1562) (by decide +kernel), List.mem_of_getElem? (i := 1563) (by decide +kernel)⟩
theorem lw_p73 : lw_okq (⟨"SystemLabModel", "isFactor", "(I)Z"⟩, 58) := ⟨⟨by decide +kernel, by decide +kernel⟩, List.mem_of_getElem? (i := 1186) (by decide +kernel), List.mem_of_getElem? (i := 1570) (by decide +kernel), List.mem_of_getElem? (i := 1571) (by decide +kernel)⟩
theorem lw_p74 : lw_okq (⟨"SystemLabModel", "isOfFactor", "(II)Z"⟩, 58) := ⟨⟨by decide +kernel, by decide +kernel⟩, List.mem_of_getElem? (i := 1186) (by decide +kernel), List.mem_of_getElem? (i := 1578) (by decide +kernel), List.mem_of_getElem? (i := 1579) (by decide +kernel)⟩
theorem lw_p75 : lw_okq (⟨"SystemLabModel", "multiplies", "(DJ)V"⟩, 58) := ⟨⟨by decide +kernel, by decide +kernel⟩, List.mem_of_getElem? (i := 1186) (by decide +kernel), List.mem_of_getElem? (i := 1595) (by decide +kernel), List.mem_of_getElem? (i := 1596) (by decide +kernel)⟩
theorem lw_p76 : lw_okq (⟨"SystemLabModel", "freeVector", "()I"⟩, 58) := ⟨⟨by decide +kernel, by decide +kernel⟩, List.mem_of_getElem? (i := 1186) (by decide +kernel), List.mem_of_getElem? (i := 1605) (by decide +kernel), List.mem_of_getElem? (i := 1606) (by decide +kernel)⟩
theorem lw_p77 : lw_okq (⟨"SystemLabModel", "isVector", "(I)Z"⟩, 58) := ⟨⟨by decide +kernel, by decide +kernel⟩, List.mem_of_getElem? (i := 1186) (by decide +kernel), List.mem_of_getElem? (i := 1613) (by decide +kernel), List.mem_of_getElem? (i := 1614) (by decide +kernel)⟩
theorem lw_p78 : lw_okq (⟨"SystemLabModel", "solves", "(I)Z"⟩, 58) := ⟨⟨by decide +kernel, by decide +kernel⟩, List.mem_of_getElem? (i := 1186) (by decide +kernel), List.mem_of_getElem? (i := 1633) (by decide +kernel), List.mem_of_getElem? (i := 1634) (by decide +kernel)⟩
theorem lw_p79 : lw_okq (⟨"SystemLabModel", "less", "(IDDD)D"⟩, 58) := ⟨⟨by decide +kernel, by decide +kernel⟩, List.mem_of_getElem? (i := 1186) (by decide +kernel), List.mem_of_getElem? (i := 1637) (by decide +kernel), List.mem_of_getElem? (i := 1638) (by decide +kernel)⟩
def lw_privs_5 : List (MethodName × Nat) := [(⟨"SystemLabModel", "fused", "(DDD)D"⟩, 58), (⟨"SystemLabModel", "none", "()V"⟩, 58), (⟨"SystemLabModel", "add", "(DDZ)V"⟩, 58), (⟨"SystemLabModel", "roundedSum", "()D"⟩, 58), (⟨"SystemLabModel", "sums", "()V"⟩, 58), (⟨"SystemLabModel", "rootRow", "(II)Z"⟩, 58), (⟨"SystemLabModel", "step", "(II)Z"⟩, 58), (⟨"SystemLabModel", "swapRows", "(III)V"⟩, 58), (⟨"SystemLabModel", "swapColumns", "(III)V"⟩, 58), (⟨"SystemLabModel", "isFactor", "(I)Z"⟩, 58), (⟨"SystemLabModel", "isOfFactor", "(II)Z"⟩, 58), (⟨"SystemLabModel", "multiplies", "(DJ)V"⟩, 58), (⟨"SystemLabModel", "freeVector", "()I"⟩, 58), (⟨"SystemLabModel", "isVector", "(I)Z"⟩, 58), (⟨"SystemLabModel", "solves", "(I)Z"⟩, 58), (⟨"SystemLabModel", "less", "(IDDD)D"⟩, 58)]
theorem lw_r5 : ∀ q ∈ lw_privs_5, lw_okq q := List.forall_mem_cons.mpr ⟨lw_p64, List.forall_mem_cons.mpr ⟨lw_p65, List.forall_mem_cons.mpr ⟨lw_p66, List.forall_mem_cons.mpr ⟨lw_p67, List.forall_mem_cons.mpr ⟨lw_p68, List.forall_mem_cons.mpr ⟨lw_p69, List.forall_mem_cons.mpr ⟨lw_p70, List.forall_mem_cons.mpr ⟨lw_p71, List.forall_mem_cons.mpr ⟨lw_p72, List.forall_mem_cons.mpr ⟨lw_p73, List.forall_mem_cons.mpr ⟨lw_p74, List.forall_mem_cons.mpr ⟨lw_p75, List.forall_mem_cons.mpr ⟨lw_p76, List.forall_mem_cons.mpr ⟨lw_p77, List.forall_mem_cons.mpr ⟨lw_p78, List.forall_mem_cons.mpr ⟨lw_p79, fun _ h => absurd h List.not_mem_nil⟩⟩⟩⟩⟩⟩⟩⟩⟩⟩⟩⟩⟩⟩⟩⟩
theorem lw_p80 : lw_okq (⟨"SystemLabModel", "fits", "(III)Z"⟩, 58) := ⟨⟨by decide +kernel, by decide +kernel⟩, List.mem_of_getElem? (i := 1186) (by decide +kernel), List.mem_of_getElem? (i := 1646) (by decide +kernel), List.mem_of_getElem? (i := 1647) (by decide +kernel)⟩
theorem lw_p81 : lw_okq (⟨"SystemLabModel", "tries", "(I)V"⟩, 58) := ⟨⟨by decide +kernel, by decide +kernel⟩, List.mem_of_getElem? (i := 1186) (by decide +kernel), List.mem_of_getElem? (i := 1650) (by decide +kernel), List.mem_of_getElem? (i := 1651) (by decide +kernel)⟩
theorem lw_p82 : lw_okq (⟨"SystemLabModel", "residualOf", "(III)V"⟩, 58) := ⟨⟨by decide +kernel, by decide +kernel⟩, List.mem_of_getElem? (i := 1186) (by decide +kernel), List.mem_of_getElem? (i := 1654) (by decide +kernel), List.mem_of_getElem? (i := 1655) (by decide +kernel)⟩
theorem lw_p83 : lw_okq (⟨"SystemLabModel", "greatestOf", "(II)V"⟩, 58) := ⟨⟨by decide +kernel, by decide +kernel⟩, List.mem_of_getElem? (i := 1186) (by decide +kernel), List.mem_of_getElem? (i := 1662) (by decide +kernel), List.mem_of_getElem? (i := 1663) (by decide +kernel)⟩
theorem lw_p84 : lw_okq (⟨"SystemLabModel", "isLatticeVector", "(I)Z"⟩, 58) := ⟨⟨by decide +kernel, by decide +kernel⟩, List.mem_of_getElem? (i := 1186) (by decide +kernel), List.mem_of_getElem? (i := 1678) (by decide +kernel), List.mem_of_getElem? (i := 1679) (by decide +kernel)⟩
theorem lw_p85 : lw_okq (⟨"SystemLabModel", "loads", "(II)V"⟩, 58) := ⟨⟨by decide +kernel, by decide +kernel⟩, List.mem_of_getElem? (i := 1186) (by decide +kernel), List.mem_of_getElem? (i := 1682) (by decide +kernel), List.mem_of_getElem? (i := 1683) (by decide +kernel)⟩
theorem lw_p86 : lw_okq (⟨"SystemLabModel", "cellAt", "(II)I"⟩, 58) := ⟨⟨by decide +kernel, by decide +kernel⟩, List.mem_of_getElem? (i := 1186) (by decide +kernel), List.mem_of_getElem? (i := 1686) (by decide +kernel), List.mem_of_getElem? (i := 1687) (by decide +kernel)⟩
theorem lw_p87 : lw_okq (⟨"SystemLabModel", "becomes", "(ID)V"⟩, 58) := ⟨⟨by decide +kernel, by decide +kernel⟩, List.mem_of_getElem? (i := 1186) (by decide +kernel), List.mem_of_getElem? (i := 1690) (by decide +kernel), List.mem_of_getElem? (i := 1691) (by decide +kernel)⟩
theorem lw_p88 : lw_okq (⟨"SystemLabModel", "reduces", "(I)V"⟩, 58) := ⟨⟨by decide +kernel, by decide +kernel⟩, List.mem_of_getElem? (i := 1186) (by decide +kernel), List.mem_of_getElem? (i := 1694) (by decide +kernel), List.mem_of_getElem? (i := 1695) (by decide +kernel)⟩
theorem lw_p89 : lw_okq (⟨"SystemLabModel", "swapBig", "(II)V"⟩, 58) := ⟨⟨by decide +kernel, by decide +kernel⟩, List.mem_of_getElem? (i := 1186) (by decide +kernel), List.mem_of_getElem? (i := 1698) (by decide +kernel), List.mem_of_getElem? (i := 1699) (by decide +kernel)⟩
theorem lw_p90 : lw_okq (⟨"SystemLabModel", "times", "(II[J)I"⟩, 58) := ⟨⟨by decide +kernel, by decide +kernel⟩, List.mem_of_getElem? (i := 1186) (by decide +kernel), List.mem_of_getElem? (i := 1702) (by decide +kernel), List.mem_of_getElem? (i := 1703) (by decide +kernel)⟩
theorem lw_p91 : lw_okq (⟨"SystemLabModel", "lessOther", "(II)I"⟩, 58) := ⟨⟨by decide +kernel, by decide +kernel⟩, List.mem_of_getElem? (i := 1186) (by decide +kernel), List.mem_of_getElem? (i := 1707) (by decide +kernel), List.mem_of_getElem? (i := 1708) (by decide +kernel)⟩
theorem lw_p92 : lw_okq (⟨"SystemLabModel", "divided", "(II)V"⟩, 58) := ⟨⟨by decide +kernel, by decide +kernel⟩, List.mem_of_getElem? (i := 1186) (by decide +kernel), List.mem_of_getElem? (i := 1714) (by decide +kernel), List.mem_of_getElem? (i := 1715) (by decide +kernel)⟩
theorem lw_p93 : lw_okq (⟨"SystemLabModel", "reduced", "(I)D"⟩, 58) := ⟨⟨by decide +kernel, by decide +kernel⟩, List.mem_of_getElem? (i := 1186) (by decide +kernel), List.mem_of_getElem? (i := 1721) (by decide +kernel), List.mem_of_getElem? (i := 1722) (by decide +kernel)⟩
theorem lw_p94 : lw_okq (⟨"SystemLabModel", "takesCell", "([JI)V"⟩, 58) := ⟨⟨by decide +kernel, by decide +kernel⟩, List.mem_of_getElem? (i := 1186) (by decide +kernel), List.mem_of_getElem? (i := 1725) (by decide +kernel), List.mem_of_getElem? (i := 1726) (by decide +kernel)⟩
theorem lw_p95 : lw_okq (⟨"SystemLabModel", "quotient", "(IZ)D"⟩, 58) := ⟨⟨by decide +kernel, by decide +kernel⟩, List.mem_of_getElem? (i := 1186) (by decide +kernel), List.mem_of_getElem? (i := 1729) (by decide +kernel), List.mem_of_getElem? (i := 1730) (by decide +kernel)⟩
def lw_privs_6 : List (MethodName × Nat) := [(⟨"SystemLabModel", "fits", "(III)Z"⟩, 58), (⟨"SystemLabModel", "tries", "(I)V"⟩, 58), (⟨"SystemLabModel", "residualOf", "(III)V"⟩, 58), (⟨"SystemLabModel", "greatestOf", "(II)V"⟩, 58), (⟨"SystemLabModel", "isLatticeVector", "(I)Z"⟩, 58), (⟨"SystemLabModel", "loads", "(II)V"⟩, 58), (⟨"SystemLabModel", "cellAt", "(II)I"⟩, 58), (⟨"SystemLabModel", "becomes", "(ID)V"⟩, 58), (⟨"SystemLabModel", "reduces", "(I)V"⟩, 58), (⟨"SystemLabModel", "swapBig", "(II)V"⟩, 58), (⟨"SystemLabModel", "times", "(II[J)I"⟩, 58), (⟨"SystemLabModel", "lessOther", "(II)I"⟩, 58), (⟨"SystemLabModel", "divided", "(II)V"⟩, 58), (⟨"SystemLabModel", "reduced", "(I)D"⟩, 58), (⟨"SystemLabModel", "takesCell", "([JI)V"⟩, 58), (⟨"SystemLabModel", "quotient", "(IZ)D"⟩, 58)]
theorem lw_r6 : ∀ q ∈ lw_privs_6, lw_okq q := List.forall_mem_cons.mpr ⟨lw_p80, List.forall_mem_cons.mpr ⟨lw_p81, List.forall_mem_cons.mpr ⟨lw_p82, List.forall_mem_cons.mpr ⟨lw_p83, List.forall_mem_cons.mpr ⟨lw_p84, List.forall_mem_cons.mpr ⟨lw_p85, List.forall_mem_cons.mpr ⟨lw_p86, List.forall_mem_cons.mpr ⟨lw_p87, List.forall_mem_cons.mpr ⟨lw_p88, List.forall_mem_cons.mpr ⟨lw_p89, List.forall_mem_cons.mpr ⟨lw_p90, List.forall_mem_cons.mpr ⟨lw_p91, List.forall_mem_cons.mpr ⟨lw_p92, List.forall_mem_cons.mpr ⟨lw_p93, List.forall_mem_cons.mpr ⟨lw_p94, List.forall_mem_cons.mpr ⟨lw_p95, fun _ h => absurd h List.not_mem_nil⟩⟩⟩⟩⟩⟩⟩⟩⟩⟩⟩⟩⟩⟩⟩⟩
theorem lw_p96 : lw_okq (⟨"SystemLabModel", "isNotBelow", "(I)Z"⟩, 58) := ⟨⟨by decide +kernel, by decide +kernel⟩, List.mem_of_getElem? (i := 1186) (by decide +kernel), List.mem_of_getElem? (i := 1736) (by decide +kernel), List.mem_of_getElem? (i := 1737) (by decide +kernel)⟩
theorem lw_p97 : lw_okq (⟨"SystemLabModel", "takesOther", "(I)V"⟩, 58) := ⟨⟨by decide +kernel, by decide +kernel⟩, List.mem_of_getElem? (i := 1186) (by decide +kernel), List.mem_of_getElem? (i := 1740) (by decide +kernel), List.mem_of_getElem? (i := 1741) (by decide +kernel)⟩
theorem lw_p98 : lw_okq (⟨"SystemLabModel", "isExact", "(I)Z"⟩, 58) := ⟨⟨by decide +kernel, by decide +kernel⟩, List.mem_of_getElem? (i := 1186) (by decide +kernel), List.mem_of_getElem? (i := 1756) (by decide +kernel), List.mem_of_getElem? (i := 1757) (by decide +kernel)⟩
theorem lw_p99 : lw_okq (⟨"SystemLabModel", "determinantOf", "(I)I"⟩, 58) := ⟨⟨by decide +kernel, by decide +kernel⟩, List.mem_of_getElem? (i := 1186) (by decide +kernel), List.mem_of_getElem? (i := 1760) (by decide +kernel), List.mem_of_getElem? (i := 1761) (by decide +kernel)⟩
theorem lw_p100 : lw_okq (⟨"SystemLabModel", "greatestSum", "(II)V"⟩, 58) := ⟨⟨by decide +kernel, by decide +kernel⟩, List.mem_of_getElem? (i := 1186) (by decide +kernel), List.mem_of_getElem? (i := 1772) (by decide +kernel), List.mem_of_getElem? (i := 1773) (by decide +kernel)⟩
theorem lw_p101 : lw_okq (⟨"SystemLabModel", "gaps", "(II)Z"⟩, 58) := ⟨⟨by decide +kernel, by decide +kernel⟩, List.mem_of_getElem? (i := 1186) (by decide +kernel), List.mem_of_getElem? (i := 1780) (by decide +kernel), List.mem_of_getElem? (i := 1781) (by decide +kernel)⟩
theorem lw_p102 : lw_okq (⟨"SystemLabModel", "fewest", "(II)I"⟩, 58) := ⟨⟨by decide +kernel, by decide +kernel⟩, List.mem_of_getElem? (i := 1186) (by decide +kernel), List.mem_of_getElem? (i := 1802) (by decide +kernel), List.mem_of_getElem? (i := 1803) (by decide +kernel)⟩
theorem lw_p103 : lw_okq (⟨"SystemLabModel", "neighbours", "(II)I"⟩, 58) := ⟨⟨by decide +kernel, by decide +kernel⟩, List.mem_of_getElem? (i := 1186) (by decide +kernel), List.mem_of_getElem? (i := 1806) (by decide +kernel), List.mem_of_getElem? (i := 1807) (by decide +kernel)⟩
theorem lw_p104 : lw_okq (⟨"SystemLabModel", "pack0", "(I)V"⟩, 58) := ⟨⟨by decide +kernel, by decide +kernel⟩, List.mem_of_getElem? (i := 1186) (by decide +kernel), List.mem_of_getElem? (i := 1818) (by decide +kernel), List.mem_of_getElem? (i := 1819) (by decide +kernel)⟩
theorem lw_p105 : lw_okq (⟨"SystemLabModel", "packNumber", "(D)V"⟩, 58) := ⟨⟨by decide +kernel, by decide +kernel⟩, List.mem_of_getElem? (i := 1186) (by decide +kernel), List.mem_of_getElem? (i := 1822) (by decide +kernel), List.mem_of_getElem? (i := 1823) (by decide +kernel)⟩
theorem lw_p106 : lw_okq (⟨"SystemLabModel", "unpackSparse", "(IIII)I"⟩, 58) := ⟨⟨by decide +kernel, by decide +kernel⟩, List.mem_of_getElem? (i := 1186) (by decide +kernel), List.mem_of_getElem? (i := 1850) (by decide +kernel), List.mem_of_getElem? (i := 1851) (by decide +kernel)⟩
theorem lw_p107 : lw_okq (⟨"SystemLabModel", "numberHere", "()J"⟩, 58) := ⟨⟨by decide +kernel, by decide +kernel⟩, List.mem_of_getElem? (i := 1186) (by decide +kernel), List.mem_of_getElem? (i := 1854) (by decide +kernel), List.mem_of_getElem? (i := 1855) (by decide +kernel)⟩
theorem lw_p108 : lw_okq (⟨"SystemLabModel", "unpacked", "(IIIIII)I"⟩, 58) := ⟨⟨by decide +kernel, by decide +kernel⟩, List.mem_of_getElem? (i := 1186) (by decide +kernel), List.mem_of_getElem? (i := 1862) (by decide +kernel), List.mem_of_getElem? (i := 1863) (by decide +kernel)⟩
theorem lw_p109 : lw_okq (⟨"SystemLabModel", "unpackPlaces", "(IIII)I"⟩, 58) := ⟨⟨by decide +kernel, by decide +kernel⟩, List.mem_of_getElem? (i := 1186) (by decide +kernel), List.mem_of_getElem? (i := 1866) (by decide +kernel), List.mem_of_getElem? (i := 1867) (by decide +kernel)⟩
def lw_privs_7 : List (MethodName × Nat) := [(⟨"SystemLabModel", "isNotBelow", "(I)Z"⟩, 58), (⟨"SystemLabModel", "takesOther", "(I)V"⟩, 58), (⟨"SystemLabModel", "isExact", "(I)Z"⟩, 58), (⟨"SystemLabModel", "determinantOf", "(I)I"⟩, 58), (⟨"SystemLabModel", "greatestSum", "(II)V"⟩, 58), (⟨"SystemLabModel", "gaps", "(II)Z"⟩, 58), (⟨"SystemLabModel", "fewest", "(II)I"⟩, 58), (⟨"SystemLabModel", "neighbours", "(II)I"⟩, 58), (⟨"SystemLabModel", "pack0", "(I)V"⟩, 58), (⟨"SystemLabModel", "packNumber", "(D)V"⟩, 58), (⟨"SystemLabModel", "unpackSparse", "(IIII)I"⟩, 58), (⟨"SystemLabModel", "numberHere", "()J"⟩, 58), (⟨"SystemLabModel", "unpacked", "(IIIIII)I"⟩, 58), (⟨"SystemLabModel", "unpackPlaces", "(IIII)I"⟩, 58)]
theorem lw_r7 : ∀ q ∈ lw_privs_7, lw_okq q := List.forall_mem_cons.mpr ⟨lw_p96, List.forall_mem_cons.mpr ⟨lw_p97, List.forall_mem_cons.mpr ⟨lw_p98, List.forall_mem_cons.mpr ⟨lw_p99, List.forall_mem_cons.mpr ⟨lw_p100, List.forall_mem_cons.mpr ⟨lw_p101, List.forall_mem_cons.mpr ⟨lw_p102, List.forall_mem_cons.mpr ⟨lw_p103, List.forall_mem_cons.mpr ⟨lw_p104, List.forall_mem_cons.mpr ⟨lw_p105, List.forall_mem_cons.mpr ⟨lw_p106, List.forall_mem_cons.mpr ⟨lw_p107, List.forall_mem_cons.mpr ⟨lw_p108, List.forall_mem_cons.mpr ⟨lw_p109, fun _ h => absurd h List.not_mem_nil⟩⟩⟩⟩⟩⟩⟩⟩⟩⟩⟩⟩⟩⟩
def lw_privs : List (MethodName × Nat) := lw_privs_1 ++ (lw_privs_2 ++ (lw_privs_3 ++ (lw_privs_4 ++ (lw_privs_5 ++ (lw_privs_6 ++ (lw_privs_7))))))
def lw_tbl : List Cond := k2_sels lw_privs ++ tables_1
theorem lw_privs_ok : ∀ q ∈ lw_privs, lw_okq q := by
  show ∀ q ∈ lw_privs_1 ++ (lw_privs_2 ++ (lw_privs_3 ++ (lw_privs_4 ++ (lw_privs_5 ++ (lw_privs_6 ++ (lw_privs_7)))))), lw_okq q
  exact List.forall_mem_append.mpr ⟨lw_r1, List.forall_mem_append.mpr ⟨lw_r2, List.forall_mem_append.mpr ⟨lw_r3, List.forall_mem_append.mpr ⟨lw_r4, List.forall_mem_append.mpr ⟨lw_r5, List.forall_mem_append.mpr ⟨lw_r6, lw_r7⟩⟩⟩⟩⟩⟩
/-- the streams that the claim lets the run draw from -/
abbrev lw_cs : List Choice := [Jvm.Choice.named "NaN.bits", Jvm.Choice.named "NaN.copy"]
theorem lw_bits : nanBits ∈ lw_cs := by first | decide | exact List.mem_cons_self | simp [lw_cs, nanBits]

def RX0 : String := "SystemLab$Doubles"
def TX0 : u_T := fun k => match k with
  | _ => ("", "", "", false)
def tyX0 : Nat → FieldType := fun k => match k with
  | _ => .int
abbrev wsX00 : List Cond := u_ws RX0 TX0 0
theorem nmX0 : ∀ a, a < 0 → ∀ b, b < 0 → a ≠ b → (TX0 a).2.1 ≠ (TX0 b).2.1 := by decide +kernel
theorem tyX0_ok : ∀ k, k < 0 → parseFieldDescriptor (TX0 k).2.2.1 = some (tyX0 k) := by decide +kernel
abbrev cX0_finite : ByteArray := prog_2_method_2_code
def yX0_finite : MethodName := ⟨RX0, "finite", "(J)Z"⟩
abbrev cX0_magnitude : ByteArray := prog_2_method_3_code
def yX0_magnitude : MethodName := ⟨RX0, "magnitude", "(J)J"⟩
abbrev cX0_unsignedZero : ByteArray := prog_2_method_4_code
def yX0_unsignedZero : MethodName := ⟨RX0, "unsignedZero", "(J)J"⟩
abbrev cX0_bitLength : ByteArray := prog_2_method_5_code
def yX0_bitLength : MethodName := ⟨RX0, "bitLength", "(J)I"⟩
abbrev cX0_lowestBit : ByteArray := prog_2_method_6_code
def yX0_lowestBit : MethodName := ⟨RX0, "lowestBit", "(J)I"⟩
abbrev cX0_mantissa : ByteArray := prog_2_method_7_code
def yX0_mantissa : MethodName := ⟨RX0, "mantissa", "(J)J"⟩
abbrev cX0_scale : ByteArray := prog_2_method_8_code
def yX0_scale : MethodName := ⟨RX0, "scale", "(J)I"⟩
abbrev cX0_fullMantissa : ByteArray := prog_2_method_9_code
def yX0_fullMantissa : MethodName := ⟨RX0, "fullMantissa", "(J)J"⟩
abbrev cX0_fullScale : ByteArray := prog_2_method_10_code
def yX0_fullScale : MethodName := ⟨RX0, "fullScale", "(J)I"⟩
abbrev cX0_isLatticeNumber : ByteArray := prog_2_method_11_code
def yX0_isLatticeNumber : MethodName := ⟨RX0, "isLatticeNumber", "(J)Z"⟩
abbrev cX0_above : ByteArray := prog_2_method_12_code
def yX0_above : MethodName := ⟨RX0, "above", "(J)J"⟩
abbrev cX0_rounded : ByteArray := prog_2_method_13_code
def yX0_rounded : MethodName := ⟨RX0, "rounded", "(ZJZIZ)J"⟩
abbrev cX0_plus : ByteArray := prog_2_method_14_code
def yX0_plus : MethodName := ⟨RX0, "plus", "(JJ)J"⟩
abbrev cX0_high : ByteArray := prog_2_method_15_code
def yX0_high : MethodName := ⟨RX0, "high", "(JJ)J"⟩
abbrev cX0_times : ByteArray := prog_2_method_16_code
def yX0_times : MethodName := ⟨RX0, "times", "(JJ)J"⟩
abbrev cX0_over : ByteArray := prog_2_method_17_code
def yX0_over : MethodName := ⟨RX0, "over", "(JJ)J"⟩
abbrev cX0_root : ByteArray := prog_2_method_18_code
def yX0_root : MethodName := ⟨RX0, "root", "(J)J"⟩
abbrev cX0_fused : ByteArray := prog_2_method_19_code
def yX0_fused : MethodName := ⟨RX0, "fused", "(JJJ)J"⟩
abbrev cX0_below : ByteArray := prog_2_method_20_code
def yX0_below : MethodName := ⟨RX0, "below", "(JJ)Z"⟩
abbrev cX0_lowerPart : ByteArray := prog_2_method_21_code
def yX0_lowerPart : MethodName := ⟨RX0, "lowerPart", "(JJI)J"⟩
abbrev cX0_less : ByteArray := prog_2_method_22_code
def yX0_less : MethodName := ⟨RX0, "less", "(JJJZ)J"⟩
def RX1 : String := "SystemLab$Elimination"
def TX1 : u_T := fun k => match k with
  | 0 => ("SystemLab$Elimination", "table", "[LSystemLab$Whole;", true)
  | 1 => ("SystemLab$Elimination", "left", "LSystemLab$Whole;", true)
  | 2 => ("SystemLab$Elimination", "right", "LSystemLab$Whole;", true)
  | 3 => ("SystemLab$Elimination", "norm", "LSystemLab$Whole;", true)
  | 4 => ("SystemLab$Elimination", "divisor", "LSystemLab$Whole;", true)
  | 5 => ("SystemLab$Elimination", "pivotColumn", "[I", true)
  | 6 => ("SystemLab$Elimination", "isFree", "[Z", true)
  | 7 => ("SystemLab$Elimination", "rows", "I", false)
  | 8 => ("SystemLab$Elimination", "columns", "I", false)
  | 9 => ("SystemLab$Elimination", "all", "I", false)
  | 10 => ("SystemLab$Elimination", "unit", "I", false)
  | 11 => ("SystemLab$Elimination", "rank", "I", false)
  | 12 => ("SystemLab$Elimination", "turned", "Z", false)
  | 13 => ("SystemLab$Elimination", "divisorShift", "I", false)
  | _ => ("SystemLab$Elimination", "divisorInverse", "I", false)
def tyX1 : Nat → FieldType := fun k => match k with
  | 0 => .array (.object "SystemLab$Whole")
  | 1 => .object "SystemLab$Whole"
  | 2 => .object "SystemLab$Whole"
  | 3 => .object "SystemLab$Whole"
  | 4 => .object "SystemLab$Whole"
  | 5 => .array .int
  | 6 => .array .boolean
  | 7 => .int
  | 8 => .int
  | 9 => .int
  | 10 => .int
  | 11 => .int
  | 12 => .boolean
  | 13 => .int
  | _ => .int
abbrev wsX10 : List Cond := u_ws RX1 TX1 15
theorem nmX1 : ∀ a, a < 15 → ∀ b, b < 15 → a ≠ b → (TX1 a).2.1 ≠ (TX1 b).2.1 := by decide +kernel
theorem tyX1_ok : ∀ k, k < 15 → parseFieldDescriptor (TX1 k).2.2.1 = some (tyX1 k) := by decide +kernel
abbrev cX1_init : ByteArray := prog_3_method_1_code
def yX1_init : MethodName := ⟨RX1, "<init>", "()V"⟩
abbrev cX1_at : ByteArray := prog_3_method_2_code
def yX1_at : MethodName := ⟨RX1, "at", "(II)LSystemLab$Whole;"⟩
abbrev cX1_prepare : ByteArray := prog_3_method_3_code
def yX1_prepare : MethodName := ⟨RX1, "prepare", "(LSystemLab$Matrix;[J)V"⟩
abbrev cX1_lowerUnit : ByteArray := prog_3_method_4_code
def yX1_lowerUnit : MethodName := ⟨RX1, "lowerUnit", "(J)V"⟩
abbrev cX1_loadNumber : ByteArray := prog_3_method_5_code
def yX1_loadNumber : MethodName := ⟨RX1, "loadNumber", "(LSystemLab$Whole;J)V"⟩
abbrev cX1_appendUnits : ByteArray := prog_3_method_6_code
def yX1_appendUnits : MethodName := ⟨RX1, "appendUnits", "()V"⟩
abbrev cX1_eliminate : ByteArray := prog_3_method_7_code
def yX1_eliminate : MethodName := ⟨RX1, "eliminate", "(Z)V"⟩
abbrev cX1_rowWithPivot : ByteArray := prog_3_method_8_code
def yX1_rowWithPivot : MethodName := ⟨RX1, "rowWithPivot", "(I)I"⟩
abbrev cX1_exchangeRows : ByteArray := prog_3_method_9_code
def yX1_exchangeRows : MethodName := ⟨RX1, "exchangeRows", "(II)V"⟩
abbrev cX1_prepareDivisor : ByteArray := prog_3_method_10_code
def yX1_prepareDivisor : MethodName := ⟨RX1, "prepareDivisor", "()V"⟩
abbrev cX1_workRow : ByteArray := prog_3_method_11_code
def yX1_workRow : MethodName := ⟨RX1, "workRow", "(II)V"⟩
abbrev cX1_rankOf : ByteArray := prog_3_method_12_code
def yX1_rankOf : MethodName := ⟨RX1, "rankOf", "(LSystemLab$Matrix;)I"⟩
abbrev cX1_solutions : ByteArray := prog_3_method_13_code
def yX1_solutions : MethodName := ⟨RX1, "solutions", "(LSystemLab$Matrix;[J)I"⟩
abbrev cX1_writeSolution : ByteArray := prog_3_method_14_code
def yX1_writeSolution : MethodName := ⟨RX1, "writeSolution", "([J)V"⟩
abbrev cX1_writeNullVector : ByteArray := prog_3_method_15_code
def yX1_writeNullVector : MethodName := ⟨RX1, "writeNullVector", "(LSystemLab$Matrix;I[J)Z"⟩
abbrev cX1_freeColumn : ByteArray := prog_3_method_16_code
def yX1_freeColumn : MethodName := ⟨RX1, "freeColumn", "(I)I"⟩
abbrev cX1_quotient : ByteArray := prog_3_method_17_code
def yX1_quotient : MethodName := ⟨RX1, "quotient", "(LSystemLab$Whole;LSystemLab$Whole;Z)J"⟩
abbrev cX1_ratio : ByteArray := prog_3_method_18_code
def yX1_ratio : MethodName := ⟨RX1, "ratio", "(IZ)J"⟩
abbrev cX1_determinantToLeft : ByteArray := prog_3_method_19_code
def yX1_determinantToLeft : MethodName := ⟨RX1, "determinantToLeft", "(LSystemLab$Matrix;)V"⟩
abbrev cX1_determinantOf : ByteArray := prog_3_method_20_code
def yX1_determinantOf : MethodName := ⟨RX1, "determinantOf", "(LSystemLab$Matrix;)J"⟩
abbrev cX1_determinantDigits : ByteArray := prog_3_method_21_code
def yX1_determinantDigits : MethodName := ⟨RX1, "determinantDigits", "(LSystemLab$Matrix;I)I"⟩
abbrev cX1_conditionOf : ByteArray := prog_3_method_22_code
def yX1_conditionOf : MethodName := ⟨RX1, "conditionOf", "(LSystemLab$Matrix;)J"⟩
abbrev cX1_greatestRowSum : ByteArray := prog_3_method_23_code
def yX1_greatestRowSum : MethodName := ⟨RX1, "greatestRowSum", "(I)V"⟩
def RX2 : String := "SystemLab$Factor"
def TX2 : u_T := fun k => match k with
  | 0 => ("SystemLab$Factor", "there", "Z", false)
  | 1 => ("SystemLab$Factor", "n", "I", false)
  | 2 => ("SystemLab$Factor", "method", "I", false)
  | 3 => ("SystemLab$Factor", "fused", "Z", false)
  | 4 => ("SystemLab$Factor", "turned", "Z", false)
  | 5 => ("SystemLab$Factor", "before", "J", false)
  | 6 => ("SystemLab$Factor", "w", "[J", true)
  | 7 => ("SystemLab$Factor", "rowOrder", "[I", true)
  | 8 => ("SystemLab$Factor", "columnOrder", "[I", true)
  | 9 => ("SystemLab$Factor", "y", "[J", true)
  | _ => ("SystemLab$Factor", "z", "[J", true)
def tyX2 : Nat → FieldType := fun k => match k with
  | 0 => .boolean
  | 1 => .int
  | 2 => .int
  | 3 => .boolean
  | 4 => .boolean
  | 5 => .long
  | 6 => .array .long
  | 7 => .array .int
  | 8 => .array .int
  | 9 => .array .long
  | _ => .array .long
abbrev wsX20 : List Cond := u_ws RX2 TX2 11
theorem nmX2 : ∀ a, a < 11 → ∀ b, b < 11 → a ≠ b → (TX2 a).2.1 ≠ (TX2 b).2.1 := by decide +kernel
theorem tyX2_ok : ∀ k, k < 11 → parseFieldDescriptor (TX2 k).2.2.1 = some (tyX2 k) := by decide +kernel
abbrev cX2_init : ByteArray := prog_4_method_1_code
def yX2_init : MethodName := ⟨RX2, "<init>", "()V"⟩
abbrev cX2_at : ByteArray := prog_4_method_2_code
def yX2_at : MethodName := ⟨RX2, "at", "(II)J"⟩
abbrev cX2_store : ByteArray := prog_4_method_3_code
def yX2_store : MethodName := ⟨RX2, "store", "(IIJ)V"⟩
abbrev cX2_make : ByteArray := prog_4_method_4_code
def yX2_make : MethodName := ⟨RX2, "make", "(LSystemLab$Matrix;IZ)I"⟩
abbrev cX2_makeByPivots : ByteArray := prog_4_method_5_code
def yX2_makeByPivots : MethodName := ⟨RX2, "makeByPivots", "()I"⟩
abbrev cX2_workRow : ByteArray := prog_4_method_6_code
def yX2_workRow : MethodName := ⟨RX2, "workRow", "(II)Z"⟩
abbrev cX2_exchange : ByteArray := prog_4_method_7_code
def yX2_exchange : MethodName := ⟨RX2, "exchange", "(I)V"⟩
abbrev cX2_exchangeRows : ByteArray := prog_4_method_8_code
def yX2_exchangeRows : MethodName := ⟨RX2, "exchangeRows", "(II)V"⟩
abbrev cX2_exchangeColumns : ByteArray := prog_4_method_9_code
def yX2_exchangeColumns : MethodName := ⟨RX2, "exchangeColumns", "(II)V"⟩
abbrev cX2_makeByRoots : ByteArray := prog_4_method_10_code
def yX2_makeByRoots : MethodName := ⟨RX2, "makeByRoots", "()I"⟩
abbrev cX2_rootStep : ByteArray := prog_4_method_11_code
def yX2_rootStep : MethodName := ⟨RX2, "rootStep", "(II)Z"⟩
abbrev cX2_answer : ByteArray := prog_4_method_12_code
def yX2_answer : MethodName := ⟨RX2, "answer", "([J[J)Z"⟩
abbrev cX2_forward : ByteArray := prog_4_method_13_code
def yX2_forward : MethodName := ⟨RX2, "forward", "(IJ)Z"⟩
abbrev cX2_backward : ByteArray := prog_4_method_14_code
def yX2_backward : MethodName := ⟨RX2, "backward", "(I)Z"⟩
abbrev cX2_grown : ByteArray := prog_4_method_15_code
def yX2_grown : MethodName := ⟨RX2, "grown", "()J"⟩
abbrev cX2_pivotProduct : ByteArray := prog_4_method_16_code
def yX2_pivotProduct : MethodName := ⟨RX2, "pivotProduct", "(Z)J"⟩
def RX3 : String := "SystemLab$Matrix"
def TX3 : u_T := fun k => match k with
  | 0 => ("SystemLab$Matrix", "there", "Z", false)
  | 1 => ("SystemLab$Matrix", "form", "I", false)
  | 2 => ("SystemLab$Matrix", "rows", "I", false)
  | 3 => ("SystemLab$Matrix", "columns", "I", false)
  | 4 => ("SystemLab$Matrix", "a", "I", false)
  | 5 => ("SystemLab$Matrix", "b", "I", false)
  | _ => ("SystemLab$Matrix", "bits", "[J", true)
def tyX3 : Nat → FieldType := fun k => match k with
  | 0 => .boolean
  | 1 => .int
  | 2 => .int
  | 3 => .int
  | 4 => .int
  | 5 => .int
  | _ => .array .long
abbrev wsX30 : List Cond := u_ws RX3 TX3 7
theorem nmX3 : ∀ a, a < 7 → ∀ b, b < 7 → a ≠ b → (TX3 a).2.1 ≠ (TX3 b).2.1 := by decide +kernel
theorem tyX3_ok : ∀ k, k < 7 → parseFieldDescriptor (TX3 k).2.2.1 = some (tyX3 k) := by decide +kernel
abbrev cX3_init : ByteArray := prog_5_method_1_code
def yX3_init : MethodName := ⟨RX3, "<init>", "()V"⟩
abbrev cX3_sound : ByteArray := prog_5_method_2_code
def yX3_sound : MethodName := ⟨RX3, "sound", "(IIIII)Z"⟩
abbrev cX3_begin : ByteArray := prog_5_method_3_code
def yX3_begin : MethodName := ⟨RX3, "begin", "(IIIII)V"⟩
abbrev cX3_inside : ByteArray := prog_5_method_4_code
def yX3_inside : MethodName := ⟨RX3, "inside", "(II)Z"⟩
abbrev cX3_hasPlace : ByteArray := prog_5_method_5_code
def yX3_hasPlace : MethodName := ⟨RX3, "hasPlace", "(II)Z"⟩
abbrev cX3_at : ByteArray := prog_5_method_6_code
def yX3_at : MethodName := ⟨RX3, "at", "(II)J"⟩
abbrev cX3_store : ByteArray := prog_5_method_7_code
def yX3_store : MethodName := ⟨RX3, "store", "(IIJ)V"⟩
abbrev cX3_filled : ByteArray := prog_5_method_8_code
def yX3_filled : MethodName := ⟨RX3, "filled", "()I"⟩
abbrev cX3_onLattice : ByteArray := prog_5_method_9_code
def yX3_onLattice : MethodName := ⟨RX3, "onLattice", "()Z"⟩
abbrev cX3_width : ByteArray := prog_5_method_10_code
def yX3_width : MethodName := ⟨RX3, "width", "()I"⟩
abbrev cX3_greatestSize : ByteArray := prog_5_method_11_code
def yX3_greatestSize : MethodName := ⟨RX3, "greatestSize", "()J"⟩
abbrev cX3_alike : ByteArray := prog_5_method_12_code
def yX3_alike : MethodName := ⟨RX3, "alike", "(LSystemLab$Matrix;)Z"⟩
abbrev cX3_equalNumbers : ByteArray := prog_5_method_13_code
def yX3_equalNumbers : MethodName := ⟨RX3, "equalNumbers", "(LSystemLab$Matrix;)Z"⟩
abbrev cX3_becomeSum : ByteArray := prog_5_method_14_code
def yX3_becomeSum : MethodName := ⟨RX3, "becomeSum", "(LSystemLab$Matrix;LSystemLab$Matrix;)Z"⟩
abbrev cX3_becomeProduct : ByteArray := prog_5_method_15_code
def yX3_becomeProduct : MethodName := ⟨RX3, "becomeProduct", "(LSystemLab$Matrix;LSystemLab$Matrix;Z)Z"⟩
abbrev cX3_takeNumbers : ByteArray := prog_5_method_16_code
def yX3_takeNumbers : MethodName := ⟨RX3, "takeNumbers", "(LSystemLab$Matrix;)Z"⟩
def RX4 : String := "SystemLab$Ordering"
def TX4 : u_T := fun k => match k with
  | 0 => ("SystemLab$Ordering", "order", "[I", true)
  | 1 => ("SystemLab$Ordering", "row", "[I", true)
  | 2 => ("SystemLab$Ordering", "neighbours", "[I", true)
  | 3 => ("SystemLab$Ordering", "taken", "[Z", true)
  | 4 => ("SystemLab$Ordering", "n", "I", false)
  | _ => ("SystemLab$Ordering", "filled", "I", false)
def tyX4 : Nat → FieldType := fun k => match k with
  | 0 => .array .int
  | 1 => .array .int
  | 2 => .array .int
  | 3 => .array .boolean
  | 4 => .int
  | _ => .int
abbrev wsX40 : List Cond := u_ws RX4 TX4 6
theorem nmX4 : ∀ a, a < 6 → ∀ b, b < 6 → a ≠ b → (TX4 a).2.1 ≠ (TX4 b).2.1 := by decide +kernel
theorem tyX4_ok : ∀ k, k < 6 → parseFieldDescriptor (TX4 k).2.2.1 = some (tyX4 k) := by decide +kernel
abbrev cX4_init : ByteArray := prog_6_method_1_code
def yX4_init : MethodName := ⟨RX4, "<init>", "()V"⟩
abbrev cX4_rowAt : ByteArray := prog_6_method_2_code
def yX4_rowAt : MethodName := ⟨RX4, "rowAt", "(I)I"⟩
abbrev cX4_arrange : ByteArray := prog_6_method_3_code
def yX4_arrange : MethodName := ⟨RX4, "arrange", "(LSystemLab$Matrix;)V"⟩
abbrev cX4_near : ByteArray := prog_6_method_4_code
def yX4_near : MethodName := ⟨RX4, "near", "(LSystemLab$Matrix;II)Z"⟩
abbrev cX4_countNeighbours : ByteArray := prog_6_method_5_code
def yX4_countNeighbours : MethodName := ⟨RX4, "countNeighbours", "(LSystemLab$Matrix;)V"⟩
abbrev cX4_fewest : ByteArray := prog_6_method_6_code
def yX4_fewest : MethodName := ⟨RX4, "fewest", "(LSystemLab$Matrix;I)I"⟩
abbrev cX4_append : ByteArray := prog_6_method_7_code
def yX4_append : MethodName := ⟨RX4, "append", "(I)V"⟩
abbrev cX4_appendNeighbours : ByteArray := prog_6_method_8_code
def yX4_appendNeighbours : MethodName := ⟨RX4, "appendNeighbours", "(LSystemLab$Matrix;I)V"⟩
abbrev cX4_widthSo : ByteArray := prog_6_method_9_code
def yX4_widthSo : MethodName := ⟨RX4, "widthSo", "(LSystemLab$Matrix;)I"⟩
def RX5 : String := "SystemLab$Residuals"
def TX5 : u_T := fun k => match k with
  | 0 => ("SystemLab$Residuals", "work", "LSystemLab$Total;", true)
  | 1 => ("SystemLab$Residuals", "row", "LSystemLab$Total;", true)
  | 2 => ("SystemLab$Residuals", "best", "LSystemLab$Total;", true)
  | 3 => ("SystemLab$Residuals", "other", "LSystemLab$Total;", true)
  | 4 => ("SystemLab$Residuals", "numbers", "[J", true)
  | 5 => ("SystemLab$Residuals", "nextNumbers", "[J", true)
  | 6 => ("SystemLab$Residuals", "change", "[J", true)
  | 7 => ("SystemLab$Residuals", "next", "[J", true)
  | _ => ("SystemLab$Residuals", "current", "[J", true)
def tyX5 : Nat → FieldType := fun k => match k with
  | 0 => .object "SystemLab$Total"
  | 1 => .object "SystemLab$Total"
  | 2 => .object "SystemLab$Total"
  | 3 => .object "SystemLab$Total"
  | 4 => .array .long
  | 5 => .array .long
  | 6 => .array .long
  | 7 => .array .long
  | _ => .array .long
abbrev wsX50 : List Cond := u_ws RX5 TX5 9
theorem nmX5 : ∀ a, a < 9 → ∀ b, b < 9 → a ≠ b → (TX5 a).2.1 ≠ (TX5 b).2.1 := by decide +kernel
theorem tyX5_ok : ∀ k, k < 9 → parseFieldDescriptor (TX5 k).2.2.1 = some (tyX5 k) := by decide +kernel
abbrev cX5_init : ByteArray := prog_7_method_1_code
def yX5_init : MethodName := ⟨RX5, "<init>", "()V"⟩
abbrev cX5_exact : ByteArray := prog_7_method_2_code
def yX5_exact : MethodName := ⟨RX5, "exact", "(LSystemLab$Matrix;[J[JI)V"⟩
abbrev cX5_roundedAt : ByteArray := prog_7_method_3_code
def yX5_roundedAt : MethodName := ⟨RX5, "roundedAt", "(LSystemLab$Matrix;[J[JI)J"⟩
abbrev cX5_measure : ByteArray := prog_7_method_4_code
def yX5_measure : MethodName := ⟨RX5, "measure", "(LSystemLab$Matrix;[J[J[JLSystemLab$Total;)V"⟩
abbrev cX5_greatestUp : ByteArray := prog_7_method_5_code
def yX5_greatestUp : MethodName := ⟨RX5, "greatestUp", "(LSystemLab$Matrix;[J[J)J"⟩
abbrev cX5_start : ByteArray := prog_7_method_6_code
def yX5_start : MethodName := ⟨RX5, "start", "(LSystemLab$Matrix;[J[J)V"⟩
abbrev cX5_finish : ByteArray := prog_7_method_7_code
def yX5_finish : MethodName := ⟨RX5, "finish", "(LSystemLab$Matrix;[J)V"⟩
abbrev cX5_round : ByteArray := prog_7_method_8_code
def yX5_round : MethodName := ⟨RX5, "round", "(LSystemLab$Matrix;LSystemLab$Factor;[J)Z"⟩
abbrev cX5_gapOf : ByteArray := prog_7_method_9_code
def yX5_gapOf : MethodName := ⟨RX5, "gapOf", "(LSystemLab$Matrix;LSystemLab$Matrix;)J"⟩
abbrev cX5_lack : ByteArray := prog_7_method_10_code
def yX5_lack : MethodName := ⟨RX5, "lack", "(LSystemLab$Matrix;LSystemLab$Matrix;II)V"⟩
abbrev cX5_sumAbove : ByteArray := prog_7_method_11_code
def yX5_sumAbove : MethodName := ⟨RX5, "sumAbove", "(LSystemLab$Matrix;)J"⟩
abbrev cX5_boundOf : ByteArray := prog_7_method_12_code
def yX5_boundOf : MethodName := ⟨RX5, "boundOf", "(LSystemLab$Matrix;LSystemLab$Matrix;[J[J)J"⟩
def RX6 : String := "SystemLab$Tape"
def TX6 : u_T := fun k => match k with
  | 0 => ("SystemLab$Tape", "length", "I", false)
  | 1 => ("SystemLab$Tape", "packedLength", "I", false)
  | 2 => ("SystemLab$Tape", "position", "I", false)
  | 3 => ("SystemLab$Tape", "bytes", "[I", true)
  | _ => ("SystemLab$Tape", "packed", "[I", true)
def tyX6 : Nat → FieldType := fun k => match k with
  | 0 => .int
  | 1 => .int
  | 2 => .int
  | 3 => .array .int
  | _ => .array .int
abbrev wsX60 : List Cond := u_ws RX6 TX6 5
theorem nmX6 : ∀ a, a < 5 → ∀ b, b < 5 → a ≠ b → (TX6 a).2.1 ≠ (TX6 b).2.1 := by decide +kernel
theorem tyX6_ok : ∀ k, k < 5 → parseFieldDescriptor (TX6 k).2.2.1 = some (tyX6 k) := by decide +kernel
abbrev cX6_init : ByteArray := prog_8_method_1_code
def yX6_init : MethodName := ⟨RX6, "<init>", "()V"⟩
abbrev cX6_hasRoom : ByteArray := prog_8_method_2_code
def yX6_hasRoom : MethodName := ⟨RX6, "hasRoom", "(I)Z"⟩
abbrev cX6_append : ByteArray := prog_8_method_3_code
def yX6_append : MethodName := ⟨RX6, "append", "(I)V"⟩
abbrev cX6_packedAt : ByteArray := prog_8_method_4_code
def yX6_packedAt : MethodName := ⟨RX6, "packedAt", "(I)I"⟩
abbrev cX6_takePacked : ByteArray := prog_8_method_5_code
def yX6_takePacked : MethodName := ⟨RX6, "takePacked", "()I"⟩
abbrev cX6_write : ByteArray := prog_8_method_6_code
def yX6_write : MethodName := ⟨RX6, "write", "(I)V"⟩
abbrev cX6_writeNumber : ByteArray := prog_8_method_7_code
def yX6_writeNumber : MethodName := ⟨RX6, "writeNumber", "(J)V"⟩
abbrev cX6_writeMatrix : ByteArray := prog_8_method_8_code
def yX6_writeMatrix : MethodName := ⟨RX6, "writeMatrix", "(LSystemLab$Matrix;)I"⟩
abbrev cX6_checkOf : ByteArray := prog_8_method_9_code
def yX6_checkOf : MethodName := ⟨RX6, "checkOf", "([II)I"⟩
abbrev cX6_next : ByteArray := prog_8_method_10_code
def yX6_next : MethodName := ⟨RX6, "next", "()I"⟩
abbrev cX6_nextNumber : ByteArray := prog_8_method_11_code
def yX6_nextNumber : MethodName := ⟨RX6, "nextNumber", "()J"⟩
abbrev cX6_read : ByteArray := prog_8_method_12_code
def yX6_read : MethodName := ⟨RX6, "read", "(LSystemLab$Matrix;)Z"⟩
abbrev cX6_readPlaces : ByteArray := prog_8_method_13_code
def yX6_readPlaces : MethodName := ⟨RX6, "readPlaces", "(LSystemLab$Matrix;)Z"⟩
abbrev cX6_readNumber : ByteArray := prog_8_method_14_code
def yX6_readNumber : MethodName := ⟨RX6, "readNumber", "(LSystemLab$Matrix;II)Z"⟩
abbrev cX6_readSparse : ByteArray := prog_8_method_15_code
def yX6_readSparse : MethodName := ⟨RX6, "readSparse", "(LSystemLab$Matrix;)Z"⟩
def RX7 : String := "SystemLab$Total"
def TX7 : u_T := fun k => match k with
  | 0 => ("SystemLab$Total", "digit", "[J", true)
  | 1 => ("SystemLab$Total", "low", "I", false)
  | 2 => ("SystemLab$Total", "high", "I", false)
  | _ => ("SystemLab$Total", "negative", "Z", false)
def tyX7 : Nat → FieldType := fun k => match k with
  | 0 => .array .long
  | 1 => .int
  | 2 => .int
  | _ => .boolean
abbrev wsX70 : List Cond := u_ws RX7 TX7 4
theorem nmX7 : ∀ a, a < 4 → ∀ b, b < 4 → a ≠ b → (TX7 a).2.1 ≠ (TX7 b).2.1 := by decide +kernel
theorem tyX7_ok : ∀ k, k < 4 → parseFieldDescriptor (TX7 k).2.2.1 = some (tyX7 k) := by decide +kernel
abbrev cX7_init : ByteArray := prog_9_method_1_code
def yX7_init : MethodName := ⟨RX7, "<init>", "()V"⟩
abbrev cX7_clear : ByteArray := prog_9_method_2_code
def yX7_clear : MethodName := ⟨RX7, "clear", "()V"⟩
abbrev cX7_addPiece : ByteArray := prog_9_method_3_code
def yX7_addPiece : MethodName := ⟨RX7, "addPiece", "(JIZ)V"⟩
abbrev cX7_addNumber : ByteArray := prog_9_method_4_code
def yX7_addNumber : MethodName := ⟨RX7, "addNumber", "(JZ)V"⟩
abbrev cX7_addProduct : ByteArray := prog_9_method_5_code
def yX7_addProduct : MethodName := ⟨RX7, "addProduct", "(JJZ)V"⟩
abbrev cX7_addSize : ByteArray := prog_9_method_6_code
def yX7_addSize : MethodName := ⟨RX7, "addSize", "(LSystemLab$Total;)V"⟩
abbrev cX7_settle : ByteArray := prog_9_method_7_code
def yX7_settle : MethodName := ⟨RX7, "settle", "()V"⟩
abbrev cX7_carry : ByteArray := prog_9_method_8_code
def yX7_carry : MethodName := ⟨RX7, "carry", "(I)J"⟩
abbrev cX7_copy : ByteArray := prog_9_method_9_code
def yX7_copy : MethodName := ⟨RX7, "copy", "(LSystemLab$Total;)V"⟩
abbrev cX7_exceeds : ByteArray := prog_9_method_10_code
def yX7_exceeds : MethodName := ⟨RX7, "exceeds", "(LSystemLab$Total;)Z"⟩
abbrev cX7_toDouble : ByteArray := prog_9_method_11_code
def yX7_toDouble : MethodName := ⟨RX7, "toDouble", "(Z)J"⟩
def RX8 : String := "SystemLab$Vector"
def TX8 : u_T := fun k => match k with
  | 0 => ("SystemLab$Vector", "there", "Z", false)
  | 1 => ("SystemLab$Vector", "n", "I", false)
  | _ => ("SystemLab$Vector", "bits", "[J", true)
def tyX8 : Nat → FieldType := fun k => match k with
  | 0 => .boolean
  | 1 => .int
  | _ => .array .long
abbrev wsX80 : List Cond := u_ws RX8 TX8 3
theorem nmX8 : ∀ a, a < 3 → ∀ b, b < 3 → a ≠ b → (TX8 a).2.1 ≠ (TX8 b).2.1 := by decide +kernel
theorem tyX8_ok : ∀ k, k < 3 → parseFieldDescriptor (TX8 k).2.2.1 = some (tyX8 k) := by decide +kernel
abbrev cX8_init : ByteArray := prog_10_method_1_code
def yX8_init : MethodName := ⟨RX8, "<init>", "()V"⟩
abbrev cX8_begin : ByteArray := prog_10_method_2_code
def yX8_begin : MethodName := ⟨RX8, "begin", "(I)V"⟩
abbrev cX8_onLattice : ByteArray := prog_10_method_3_code
def yX8_onLattice : MethodName := ⟨RX8, "onLattice", "()Z"⟩
def RX9 : String := "SystemLab$Whole"
def TX9 : u_T := fun k => match k with
  | 0 => ("SystemLab$Whole", "limb", "[I", true)
  | 1 => ("SystemLab$Whole", "length", "I", false)
  | _ => ("SystemLab$Whole", "sign", "I", false)
def tyX9 : Nat → FieldType := fun k => match k with
  | 0 => .array .int
  | 1 => .int
  | _ => .int
abbrev wsX90 : List Cond := u_ws RX9 TX9 3
theorem nmX9 : ∀ a, a < 3 → ∀ b, b < 3 → a ≠ b → (TX9 a).2.1 ≠ (TX9 b).2.1 := by decide +kernel
theorem tyX9_ok : ∀ k, k < 3 → parseFieldDescriptor (TX9 k).2.2.1 = some (tyX9 k) := by decide +kernel
abbrev cX9_init : ByteArray := prog_11_method_1_code
def yX9_init : MethodName := ⟨RX9, "<init>", "(Z)V"⟩
abbrev cX9_zero : ByteArray := prog_11_method_2_code
def yX9_zero : MethodName := ⟨RX9, "zero", "()V"⟩
abbrev cX9_become : ByteArray := prog_11_method_3_code
def yX9_become : MethodName := ⟨RX9, "become", "(JII)V"⟩
abbrev cX9_copy : ByteArray := prog_11_method_4_code
def yX9_copy : MethodName := ⟨RX9, "copy", "(LSystemLab$Whole;)V"⟩
abbrev cX9_trim : ByteArray := prog_11_method_5_code
def yX9_trim : MethodName := ⟨RX9, "trim", "()V"⟩
abbrev cX9_countBits : ByteArray := prog_11_method_6_code
def yX9_countBits : MethodName := ⟨RX9, "countBits", "()I"⟩
abbrev cX9_trailingZeros : ByteArray := prog_11_method_7_code
def yX9_trailingZeros : MethodName := ⟨RX9, "trailingZeros", "()I"⟩
abbrev cX9_shiftUp : ByteArray := prog_11_method_8_code
def yX9_shiftUp : MethodName := ⟨RX9, "shiftUp", "(I)V"⟩
abbrev cX9_shiftDown : ByteArray := prog_11_method_9_code
def yX9_shiftDown : MethodName := ⟨RX9, "shiftDown", "(I)V"⟩
abbrev cX9_becomeProduct : ByteArray := prog_11_method_10_code
def yX9_becomeProduct : MethodName := ⟨RX9, "becomeProduct", "(LSystemLab$Whole;LSystemLab$Whole;)V"⟩
abbrev cX9_compareSize : ByteArray := prog_11_method_11_code
def yX9_compareSize : MethodName := ⟨RX9, "compareSize", "(LSystemLab$Whole;)I"⟩
abbrev cX9_subtract : ByteArray := prog_11_method_12_code
def yX9_subtract : MethodName := ⟨RX9, "subtract", "(LSystemLab$Whole;)V"⟩
abbrev cX9_addSize : ByteArray := prog_11_method_13_code
def yX9_addSize : MethodName := ⟨RX9, "addSize", "(LSystemLab$Whole;)V"⟩
abbrev cX9_lessSize : ByteArray := prog_11_method_14_code
def yX9_lessSize : MethodName := ⟨RX9, "lessSize", "(LSystemLab$Whole;Z)V"⟩
abbrev cX9_becomeQuotient : ByteArray := prog_11_method_15_code
def yX9_becomeQuotient : MethodName := ⟨RX9, "becomeQuotient", "(LSystemLab$Whole;LSystemLab$Whole;I)V"⟩
abbrev cX9_takeMultiple : ByteArray := prog_11_method_16_code
def yX9_takeMultiple : MethodName := ⟨RX9, "takeMultiple", "(LSystemLab$Whole;JII)V"⟩
abbrev cX9_inverseOfLowest : ByteArray := prog_11_method_17_code
def yX9_inverseOfLowest : MethodName := ⟨RX9, "inverseOfLowest", "()I"⟩
abbrev cX9_digit : ByteArray := prog_11_method_18_code
def yX9_digit : MethodName := ⟨RX9, "digit", "(I)I"⟩
def RX10 : String := "SystemLab"
def TX10 : u_T := fun k => match k with
  | 0 => ("SystemLab", "matrices", "[LSystemLab$Matrix;", true)
  | 1 => ("SystemLab", "factors", "[LSystemLab$Factor;", true)
  | 2 => ("SystemLab", "vectors", "[LSystemLab$Vector;", true)
  | 3 => ("SystemLab", "residuals", "LSystemLab$Residuals;", true)
  | 4 => ("SystemLab", "elimination", "LSystemLab$Elimination;", true)
  | 5 => ("SystemLab", "ordering", "LSystemLab$Ordering;", true)
  | 6 => ("SystemLab", "tape", "LSystemLab$Tape;", true)
  | 7 => ("SystemLab", "unit", "[J", true)
  | _ => ("SystemLab", "answer", "[J", true)
def tyX10 : Nat → FieldType := fun k => match k with
  | 0 => .array (.object "SystemLab$Matrix")
  | 1 => .array (.object "SystemLab$Factor")
  | 2 => .array (.object "SystemLab$Vector")
  | 3 => .object "SystemLab$Residuals"
  | 4 => .object "SystemLab$Elimination"
  | 5 => .object "SystemLab$Ordering"
  | 6 => .object "SystemLab$Tape"
  | 7 => .array .long
  | _ => .array .long
abbrev wsX100 : List Cond := u_ws RX10 TX10 9
theorem nmX10 : ∀ a, a < 9 → ∀ b, b < 9 → a ≠ b → (TX10 a).2.1 ≠ (TX10 b).2.1 := by decide +kernel
theorem tyX10_ok : ∀ k, k < 9 → parseFieldDescriptor (TX10 k).2.2.1 = some (tyX10 k) := by decide +kernel
abbrev cX10_init : ByteArray := prog_1_method_1_code
def yX10_init : MethodName := ⟨RX10, "<init>", "()V"⟩
abbrev cX10_matrix : ByteArray := prog_1_method_2_code
def yX10_matrix : MethodName := ⟨RX10, "matrix", "(IIIII)I"⟩
abbrev cX10_drop : ByteArray := prog_1_method_3_code
def yX10_drop : MethodName := ⟨RX10, "drop", "(I)Z"⟩
abbrev cX10_put : ByteArray := prog_1_method_4_code
def yX10_put : MethodName := ⟨RX10, "put", "(IIIJ)Z"⟩
abbrev cX10_get : ByteArray := prog_1_method_5_code
def yX10_get : MethodName := ⟨RX10, "get", "(III)J"⟩
abbrev cX10_shape : ByteArray := prog_1_method_6_code
def yX10_shape : MethodName := ⟨RX10, "shape", "(II)I"⟩
abbrev cX10_sum : ByteArray := prog_1_method_7_code
def yX10_sum : MethodName := ⟨RX10, "sum", "(II)I"⟩
abbrev cX10_product : ByteArray := prog_1_method_8_code
def yX10_product : MethodName := ⟨RX10, "product", "(IIZ)I"⟩
abbrev cX10_transpose : ByteArray := prog_1_method_9_code
def yX10_transpose : MethodName := ⟨RX10, "transpose", "(I)I"⟩
abbrev cX10_formed : ByteArray := prog_1_method_10_code
def yX10_formed : MethodName := ⟨RX10, "formed", "(IIII)I"⟩
abbrev cX10_block : ByteArray := prog_1_method_11_code
def yX10_block : MethodName := ⟨RX10, "block", "(IIIII)I"⟩
abbrev cX10_same : ByteArray := prog_1_method_12_code
def yX10_same : MethodName := ⟨RX10, "same", "(II)I"⟩
abbrev cX10_factor : ByteArray := prog_1_method_13_code
def yX10_factor : MethodName := ⟨RX10, "factor", "(IIZ)I"⟩
abbrev cX10_release : ByteArray := prog_1_method_14_code
def yX10_release : MethodName := ⟨RX10, "release", "(I)Z"⟩
abbrev cX10_part : ByteArray := prog_1_method_15_code
def yX10_part : MethodName := ⟨RX10, "part", "(III)J"⟩
abbrev cX10_order : ByteArray := prog_1_method_16_code
def yX10_order : MethodName := ⟨RX10, "order", "(III)I"⟩
abbrev cX10_growth : ByteArray := prog_1_method_17_code
def yX10_growth : MethodName := ⟨RX10, "growth", "(I)J"⟩
abbrev cX10_pivots : ByteArray := prog_1_method_18_code
def yX10_pivots : MethodName := ⟨RX10, "pivots", "(II)J"⟩
abbrev cX10_vector : ByteArray := prog_1_method_19_code
def yX10_vector : MethodName := ⟨RX10, "vector", "(I)I"⟩
abbrev cX10_forget : ByteArray := prog_1_method_20_code
def yX10_forget : MethodName := ⟨RX10, "forget", "(I)Z"⟩
abbrev cX10_set : ByteArray := prog_1_method_21_code
def yX10_set : MethodName := ⟨RX10, "set", "(IIJ)Z"⟩
abbrev cX10_value : ByteArray := prog_1_method_22_code
def yX10_value : MethodName := ⟨RX10, "value", "(II)J"⟩
abbrev cX10_size : ByteArray := prog_1_method_23_code
def yX10_size : MethodName := ⟨RX10, "size", "(I)I"⟩
abbrev cX10_solve : ByteArray := prog_1_method_24_code
def yX10_solve : MethodName := ⟨RX10, "solve", "(II)I"⟩
abbrev cX10_residual : ByteArray := prog_1_method_25_code
def yX10_residual : MethodName := ⟨RX10, "residual", "(IIII)J"⟩
abbrev cX10_greatest : ByteArray := prog_1_method_26_code
def yX10_greatest : MethodName := ⟨RX10, "greatest", "(III)J"⟩
abbrev cX10_refine : ByteArray := prog_1_method_27_code
def yX10_refine : MethodName := ⟨RX10, "refine", "(IIIII)I"⟩
abbrev cX10_inverse : ByteArray := prog_1_method_28_code
def yX10_inverse : MethodName := ⟨RX10, "inverse", "(I)I"⟩
abbrev cX10_exactly : ByteArray := prog_1_method_29_code
def yX10_exactly : MethodName := ⟨RX10, "exactly", "(II)I"⟩
abbrev cX10_rank : ByteArray := prog_1_method_30_code
def yX10_rank : MethodName := ⟨RX10, "rank", "(I)I"⟩
abbrev cX10_nullVector : ByteArray := prog_1_method_31_code
def yX10_nullVector : MethodName := ⟨RX10, "nullVector", "(II)I"⟩
abbrev cX10_determinant : ByteArray := prog_1_method_32_code
def yX10_determinant : MethodName := ⟨RX10, "determinant", "(I)J"⟩
abbrev cX10_digits : ByteArray := prog_1_method_33_code
def yX10_digits : MethodName := ⟨RX10, "digits", "(II)I"⟩
abbrev cX10_condition : ByteArray := prog_1_method_34_code
def yX10_condition : MethodName := ⟨RX10, "condition", "(I)J"⟩
abbrev cX10_gap : ByteArray := prog_1_method_35_code
def yX10_gap : MethodName := ⟨RX10, "gap", "(II)J"⟩
abbrev cX10_bound : ByteArray := prog_1_method_36_code
def yX10_bound : MethodName := ⟨RX10, "bound", "(IIII)J"⟩
abbrev cX10_reorder : ByteArray := prog_1_method_37_code
def yX10_reorder : MethodName := ⟨RX10, "reorder", "(I)I"⟩
abbrev cX10_place : ByteArray := prog_1_method_38_code
def yX10_place : MethodName := ⟨RX10, "place", "(I)I"⟩
abbrev cX10_pack : ByteArray := prog_1_method_39_code
def yX10_pack : MethodName := ⟨RX10, "pack", "(I)I"⟩
abbrev cX10_octet : ByteArray := prog_1_method_40_code
def yX10_octet : MethodName := ⟨RX10, "octet", "(I)I"⟩
abbrev cX10_feed : ByteArray := prog_1_method_41_code
def yX10_feed : MethodName := ⟨RX10, "feed", "(IIIII)I"⟩
abbrev cX10_end : ByteArray := prog_1_method_42_code
def yX10_end : MethodName := ⟨RX10, "end", "(I)Z"⟩
abbrev cX10_take : ByteArray := prog_1_method_43_code
def yX10_take : MethodName := ⟨RX10, "take", "()I"⟩
abbrev cX10_unpack : ByteArray := prog_1_method_44_code
def yX10_unpack : MethodName := ⟨RX10, "unpack", "()I"⟩
abbrev cX10_count : ByteArray := prog_1_method_45_code
def yX10_count : MethodName := ⟨RX10, "count", "(I)I"⟩
abbrev cX10_matrixAt : ByteArray := prog_1_method_46_code
def yX10_matrixAt : MethodName := ⟨RX10, "matrixAt", "(I)LSystemLab$Matrix;"⟩
abbrev cX10_factorAt : ByteArray := prog_1_method_47_code
def yX10_factorAt : MethodName := ⟨RX10, "factorAt", "(I)LSystemLab$Factor;"⟩
abbrev cX10_vectorAt : ByteArray := prog_1_method_48_code
def yX10_vectorAt : MethodName := ⟨RX10, "vectorAt", "(I)LSystemLab$Vector;"⟩
abbrev cX10_freeMatrix : ByteArray := prog_1_method_49_code
def yX10_freeMatrix : MethodName := ⟨RX10, "freeMatrix", "()I"⟩
abbrev cX10_freeFactor : ByteArray := prog_1_method_50_code
def yX10_freeFactor : MethodName := ⟨RX10, "freeFactor", "()I"⟩
abbrev cX10_freeVector : ByteArray := prog_1_method_51_code
def yX10_freeVector : MethodName := ⟨RX10, "freeVector", "()I"⟩
abbrev cX10_countMatrices : ByteArray := prog_1_method_52_code
def yX10_countMatrices : MethodName := ⟨RX10, "countMatrices", "()I"⟩
abbrev cX10_countFactors : ByteArray := prog_1_method_53_code
def yX10_countFactors : MethodName := ⟨RX10, "countFactors", "()I"⟩
abbrev cX10_countVectors : ByteArray := prog_1_method_54_code
def yX10_countVectors : MethodName := ⟨RX10, "countVectors", "()I"⟩
abbrev cX10_newVector : ByteArray := prog_1_method_55_code
def yX10_newVector : MethodName := ⟨RX10, "newVector", "(II)I"⟩
abbrev cX10_fits : ByteArray := prog_1_method_56_code
def yX10_fits : MethodName := ⟨RX10, "fits", "(LSystemLab$Matrix;II)Z"⟩
abbrev cX10_exactSquare : ByteArray := prog_1_method_57_code
def yX10_exactSquare : MethodName := ⟨RX10, "exactSquare", "(LSystemLab$Matrix;)Z"⟩
def RX11 : String := "SystemLabModel"
def TX11 : u_T := fun k => match k with
  | 0 => ("SystemLabModel", "plus", "[J", true)
  | 1 => ("SystemLabModel", "minus", "[J", true)
  | 2 => ("SystemLabModel", "far", "[J", true)
  | 3 => ("SystemLabModel", "isBelow", "Z", false)
  | 4 => ("SystemLabModel", "number", "[D", true)
  | 5 => ("SystemLabModel", "has", "[Z", true)
  | 6 => ("SystemLabModel", "form", "[I", true)
  | 7 => ("SystemLabModel", "rows", "[I", true)
  | 8 => ("SystemLabModel", "columns", "[I", true)
  | 9 => ("SystemLabModel", "formA", "[I", true)
  | 10 => ("SystemLabModel", "formB", "[I", true)
  | 11 => ("SystemLabModel", "work", "[D", true)
  | 12 => ("SystemLabModel", "part", "[D", true)
  | 13 => ("SystemLabModel", "hasFactor", "[Z", true)
  | 14 => ("SystemLabModel", "method", "[I", true)
  | 15 => ("SystemLabModel", "isFusedFactor", "[Z", true)
  | 16 => ("SystemLabModel", "many", "[I", true)
  | 17 => ("SystemLabModel", "rowOrder", "[I", true)
  | 18 => ("SystemLabModel", "columnOrder", "[I", true)
  | 19 => ("SystemLabModel", "swaps", "[I", true)
  | 20 => ("SystemLabModel", "greatestOf", "[D", true)
  | 21 => ("SystemLabModel", "pivot", "D", false)
  | 22 => ("SystemLabModel", "pivotPower", "J", false)
  | 23 => ("SystemLabModel", "entry", "[D", true)
  | 24 => ("SystemLabModel", "length", "[I", true)
  | 25 => ("SystemLabModel", "right", "[D", true)
  | 26 => ("SystemLabModel", "half", "[D", true)
  | 27 => ("SystemLabModel", "solved", "[D", true)
  | 28 => ("SystemLabModel", "tried", "[D", true)
  | 29 => ("SystemLabModel", "greatest", "[J", true)
  | 30 => ("SystemLabModel", "before", "[J", true)
  | 31 => ("SystemLabModel", "candidate", "[D", true)
  | 32 => ("SystemLabModel", "big", "[J", true)
  | 33 => ("SystemLabModel", "sign", "[I", true)
  | 34 => ("SystemLabModel", "one", "[J", true)
  | 35 => ("SystemLabModel", "other", "[J", true)
  | 36 => ("SystemLabModel", "divisor", "[J", true)
  | 37 => ("SystemLabModel", "divisorSign", "I", false)
  | 38 => ("SystemLabModel", "bigRows", "I", false)
  | 39 => ("SystemLabModel", "bigColumns", "I", false)
  | 40 => ("SystemLabModel", "rank", "I", false)
  | 41 => ("SystemLabModel", "rowOf", "[I", true)
  | 42 => ("SystemLabModel", "isTurned", "Z", false)
  | 43 => ("SystemLabModel", "left", "[J", true)
  | 44 => ("SystemLabModel", "rowSum", "[J", true)
  | 45 => ("SystemLabModel", "greatSum", "[J", true)
  | 46 => ("SystemLabModel", "keptSum", "[J", true)
  | 47 => ("SystemLabModel", "gapFound", "D", false)
  | 48 => ("SystemLabModel", "line", "[I", true)
  | 49 => ("SystemLabModel", "placed", "[I", true)
  | 50 => ("SystemLabModel", "placedMany", "I", false)
  | 51 => ("SystemLabModel", "isIn", "[Z", true)
  | 52 => ("SystemLabModel", "near", "[Z", true)
  | 53 => ("SystemLabModel", "packed", "[I", true)
  | 54 => ("SystemLabModel", "packedMany", "I", false)
  | 55 => ("SystemLabModel", "tape", "[I", true)
  | 56 => ("SystemLabModel", "taped", "I", false)
  | _ => ("SystemLabModel", "readAt", "I", false)
def tyX11 : Nat → FieldType := fun k => match k with
  | 0 => .array .long
  | 1 => .array .long
  | 2 => .array .long
  | 3 => .boolean
  | 4 => .array .double
  | 5 => .array .boolean
  | 6 => .array .int
  | 7 => .array .int
  | 8 => .array .int
  | 9 => .array .int
  | 10 => .array .int
  | 11 => .array .double
  | 12 => .array .double
  | 13 => .array .boolean
  | 14 => .array .int
  | 15 => .array .boolean
  | 16 => .array .int
  | 17 => .array .int
  | 18 => .array .int
  | 19 => .array .int
  | 20 => .array .double
  | 21 => .double
  | 22 => .long
  | 23 => .array .double
  | 24 => .array .int
  | 25 => .array .double
  | 26 => .array .double
  | 27 => .array .double
  | 28 => .array .double
  | 29 => .array .long
  | 30 => .array .long
  | 31 => .array .double
  | 32 => .array .long
  | 33 => .array .int
  | 34 => .array .long
  | 35 => .array .long
  | 36 => .array .long
  | 37 => .int
  | 38 => .int
  | 39 => .int
  | 40 => .int
  | 41 => .array .int
  | 42 => .boolean
  | 43 => .array .long
  | 44 => .array .long
  | 45 => .array .long
  | 46 => .array .long
  | 47 => .double
  | 48 => .array .int
  | 49 => .array .int
  | 50 => .int
  | 51 => .array .boolean
  | 52 => .array .boolean
  | 53 => .array .int
  | 54 => .int
  | 55 => .array .int
  | 56 => .int
  | _ => .int
abbrev wsX110 : List Cond := u_ws RX11 TX11 58
theorem nmX11 : ∀ a, a < 58 → ∀ b, b < 58 → a ≠ b → (TX11 a).2.1 ≠ (TX11 b).2.1 := by decide +kernel
theorem tyX11_ok : ∀ k, k < 58 → parseFieldDescriptor (TX11 k).2.2.1 = some (tyX11 k) := by decide +kernel
abbrev cX11_init : ByteArray := prog_13_method_1_code
def yX11_init : MethodName := ⟨RX11, "<init>", "()V"⟩
abbrev cX11_bits : ByteArray := prog_13_method_2_code
def yX11_bits : MethodName := ⟨RX11, "bits", "(D)J"⟩
abbrev cX11_real : ByteArray := prog_13_method_3_code
def yX11_real : MethodName := ⟨RX11, "real", "(J)D"⟩
abbrev cX11_isFinite : ByteArray := prog_13_method_4_code
def yX11_isFinite : MethodName := ⟨RX11, "isFinite", "(D)Z"⟩
abbrev cX11_isGood : ByteArray := prog_13_method_5_code
def yX11_isGood : MethodName := ⟨RX11, "isGood", "(J)Z"⟩
abbrev cX11_size : ByteArray := prog_13_method_6_code
def yX11_size : MethodName := ⟨RX11, "size", "(D)D"⟩
abbrev cX11_plain : ByteArray := prog_13_method_7_code
def yX11_plain : MethodName := ⟨RX11, "plain", "(D)D"⟩
abbrev cX11_whole : ByteArray := prog_13_method_8_code
def yX11_whole : MethodName := ⟨RX11, "whole", "(D)J"⟩
abbrev cX11_power : ByteArray := prog_13_method_9_code
def yX11_power : MethodName := ⟨RX11, "power", "(D)I"⟩
abbrev cX11_composed : ByteArray := prog_13_method_10_code
def yX11_composed : MethodName := ⟨RX11, "composed", "(JI)D"⟩
abbrev cX11_above : ByteArray := prog_13_method_11_code
def yX11_above : MethodName := ⟨RX11, "above", "(D)D"⟩
abbrev cX11_below : ByteArray := prog_13_method_12_code
def yX11_below : MethodName := ⟨RX11, "below", "(D)D"⟩
abbrev cX11_root : ByteArray := prog_13_method_13_code
def yX11_root : MethodName := ⟨RX11, "root", "(D)D"⟩
abbrev cX11_none : ByteArray := prog_13_method_14_code
def yX11_none : MethodName := ⟨RX11, "none", "()V"⟩
abbrev cX11_lay : ByteArray := prog_13_method_15_code
def yX11_lay : MethodName := ⟨RX11, "lay", "([JJI)V"⟩
abbrev cX11_add : ByteArray := prog_13_method_16_code
def yX11_add : MethodName := ⟨RX11, "add", "(DDZ)V"⟩
abbrev cX11_carry : ByteArray := prog_13_method_17_code
def yX11_carry : MethodName := ⟨RX11, "carry", "([J)V"⟩
abbrev cX11_order : ByteArray := prog_13_method_18_code
def yX11_order : MethodName := ⟨RX11, "order", "([J[J)I"⟩
abbrev cX11_sums : ByteArray := prog_13_method_19_code
def yX11_sums : MethodName := ⟨RX11, "sums", "()V"⟩
abbrev cX11_bitAt : ByteArray := prog_13_method_20_code
def yX11_bitAt : MethodName := ⟨RX11, "bitAt", "([JI)Z"⟩
abbrev cX11_rounded : ByteArray := prog_13_method_21_code
def yX11_rounded : MethodName := ⟨RX11, "rounded", "([JZ)D"⟩
abbrev cX11_roundedSum : ByteArray := prog_13_method_22_code
def yX11_roundedSum : MethodName := ⟨RX11, "roundedSum", "()D"⟩
abbrev cX11_fused : ByteArray := prog_13_method_23_code
def yX11_fused : MethodName := ⟨RX11, "fused", "(DDD)D"⟩
abbrev cX11_isMatrix : ByteArray := prog_13_method_24_code
def yX11_isMatrix : MethodName := ⟨RX11, "isMatrix", "(I)Z"⟩
abbrev cX11_at : ByteArray := prog_13_method_25_code
def yX11_at : MethodName := ⟨RX11, "at", "(III)I"⟩
abbrev cX11_isForm : ByteArray := prog_13_method_26_code
def yX11_isForm : MethodName := ⟨RX11, "isForm", "(IIIII)Z"⟩
abbrev cX11_isPlace : ByteArray := prog_13_method_27_code
def yX11_isPlace : MethodName := ⟨RX11, "isPlace", "(IIIII)Z"⟩
abbrev cX11_free : ByteArray := prog_13_method_28_code
def yX11_free : MethodName := ⟨RX11, "free", "()I"⟩
abbrev cX11_made : ByteArray := prog_13_method_29_code
def yX11_made : MethodName := ⟨RX11, "made", "(IIIIII)I"⟩
abbrev cX11_matrix : ByteArray := prog_13_method_30_code
def yX11_matrix : MethodName := ⟨RX11, "matrix", "(IIIII)I"⟩
abbrev cX11_drop : ByteArray := prog_13_method_31_code
def yX11_drop : MethodName := ⟨RX11, "drop", "(I)Z"⟩
abbrev cX11_filled : ByteArray := prog_13_method_32_code
def yX11_filled : MethodName := ⟨RX11, "filled", "(I)I"⟩
abbrev cX11_isIn : ByteArray := prog_13_method_33_code
def yX11_isIn : MethodName := ⟨RX11, "isIn", "(III)Z"⟩
abbrev cX11_put : ByteArray := prog_13_method_34_code
def yX11_put : MethodName := ⟨RX11, "put", "(IIIJ)Z"⟩
abbrev cX11_get : ByteArray := prog_13_method_35_code
def yX11_get : MethodName := ⟨RX11, "get", "(III)J"⟩
abbrev cX11_widthOf : ByteArray := prog_13_method_36_code
def yX11_widthOf : MethodName := ⟨RX11, "widthOf", "(I)I"⟩
abbrev cX11_shape : ByteArray := prog_13_method_37_code
def yX11_shape : MethodName := ⟨RX11, "shape", "(II)I"⟩
abbrev cX11_worked : ByteArray := prog_13_method_38_code
def yX11_worked : MethodName := ⟨RX11, "worked", "(II)I"⟩
abbrev cX11_sum : ByteArray := prog_13_method_39_code
def yX11_sum : MethodName := ⟨RX11, "sum", "(II)I"⟩
abbrev cX11_product : ByteArray := prog_13_method_40_code
def yX11_product : MethodName := ⟨RX11, "product", "(IIZ)I"⟩
abbrev cX11_transpose : ByteArray := prog_13_method_41_code
def yX11_transpose : MethodName := ⟨RX11, "transpose", "(I)I"⟩
abbrev cX11_formed : ByteArray := prog_13_method_42_code
def yX11_formed : MethodName := ⟨RX11, "formed", "(IIII)I"⟩
abbrev cX11_block : ByteArray := prog_13_method_43_code
def yX11_block : MethodName := ⟨RX11, "block", "(IIIII)I"⟩
abbrev cX11_same : ByteArray := prog_13_method_44_code
def yX11_same : MethodName := ⟨RX11, "same", "(II)I"⟩
abbrev cX11_isFactor : ByteArray := prog_13_method_45_code
def yX11_isFactor : MethodName := ⟨RX11, "isFactor", "(I)Z"⟩
abbrev cX11_swapRows : ByteArray := prog_13_method_46_code
def yX11_swapRows : MethodName := ⟨RX11, "swapRows", "(III)V"⟩
abbrev cX11_swapColumns : ByteArray := prog_13_method_47_code
def yX11_swapColumns : MethodName := ⟨RX11, "swapColumns", "(III)V"⟩
abbrev cX11_step : ByteArray := prog_13_method_48_code
def yX11_step : MethodName := ⟨RX11, "step", "(II)Z"⟩
abbrev cX11_rootRow : ByteArray := prog_13_method_49_code
def yX11_rootRow : MethodName := ⟨RX11, "rootRow", "(II)Z"⟩
abbrev cX11_factor : ByteArray := prog_13_method_50_code
def yX11_factor : MethodName := ⟨RX11, "factor", "(IIZ)I"⟩
abbrev cX11_release : ByteArray := prog_13_method_51_code
def yX11_release : MethodName := ⟨RX11, "release", "(I)Z"⟩
abbrev cX11_isOfFactor : ByteArray := prog_13_method_52_code
def yX11_isOfFactor : MethodName := ⟨RX11, "isOfFactor", "(II)Z"⟩
abbrev cX11_part : ByteArray := prog_13_method_53_code
def yX11_part : MethodName := ⟨RX11, "part", "(III)J"⟩
abbrev cX11_order_ : ByteArray := prog_13_method_54_code
def yX11_order_ : MethodName := ⟨RX11, "order", "(III)I"⟩
abbrev cX11_growth : ByteArray := prog_13_method_55_code
def yX11_growth : MethodName := ⟨RX11, "growth", "(I)J"⟩
abbrev cX11_multiplies : ByteArray := prog_13_method_56_code
def yX11_multiplies : MethodName := ⟨RX11, "multiplies", "(DJ)V"⟩
abbrev cX11_pivots : ByteArray := prog_13_method_57_code
def yX11_pivots : MethodName := ⟨RX11, "pivots", "(II)J"⟩
abbrev cX11_isVector : ByteArray := prog_13_method_58_code
def yX11_isVector : MethodName := ⟨RX11, "isVector", "(I)Z"⟩
abbrev cX11_freeVector : ByteArray := prog_13_method_59_code
def yX11_freeVector : MethodName := ⟨RX11, "freeVector", "()I"⟩
abbrev cX11_vector : ByteArray := prog_13_method_60_code
def yX11_vector : MethodName := ⟨RX11, "vector", "(I)I"⟩
abbrev cX11_forget : ByteArray := prog_13_method_61_code
def yX11_forget : MethodName := ⟨RX11, "forget", "(I)Z"⟩
abbrev cX11_set : ByteArray := prog_13_method_62_code
def yX11_set : MethodName := ⟨RX11, "set", "(IIJ)Z"⟩
abbrev cX11_value : ByteArray := prog_13_method_63_code
def yX11_value : MethodName := ⟨RX11, "value", "(II)J"⟩
abbrev cX11_size_ : ByteArray := prog_13_method_64_code
def yX11_size_ : MethodName := ⟨RX11, "size", "(I)I"⟩
abbrev cX11_less : ByteArray := prog_13_method_65_code
def yX11_less : MethodName := ⟨RX11, "less", "(IDDD)D"⟩
abbrev cX11_solves : ByteArray := prog_13_method_66_code
def yX11_solves : MethodName := ⟨RX11, "solves", "(I)Z"⟩
abbrev cX11_solve : ByteArray := prog_13_method_67_code
def yX11_solve : MethodName := ⟨RX11, "solve", "(II)I"⟩
abbrev cX11_residualOf : ByteArray := prog_13_method_68_code
def yX11_residualOf : MethodName := ⟨RX11, "residualOf", "(III)V"⟩
abbrev cX11_fits : ByteArray := prog_13_method_69_code
def yX11_fits : MethodName := ⟨RX11, "fits", "(III)Z"⟩
abbrev cX11_tries : ByteArray := prog_13_method_70_code
def yX11_tries : MethodName := ⟨RX11, "tries", "(I)V"⟩
abbrev cX11_residual : ByteArray := prog_13_method_71_code
def yX11_residual : MethodName := ⟨RX11, "residual", "(IIII)J"⟩
abbrev cX11_greatestOf : ByteArray := prog_13_method_72_code
def yX11_greatestOf : MethodName := ⟨RX11, "greatestOf", "(II)V"⟩
abbrev cX11_greatest : ByteArray := prog_13_method_73_code
def yX11_greatest : MethodName := ⟨RX11, "greatest", "(III)J"⟩
abbrev cX11_refine : ByteArray := prog_13_method_74_code
def yX11_refine : MethodName := ⟨RX11, "refine", "(IIIII)I"⟩
abbrev cX11_inverse : ByteArray := prog_13_method_75_code
def yX11_inverse : MethodName := ⟨RX11, "inverse", "(I)I"⟩
abbrev cX11_onLattice : ByteArray := prog_13_method_76_code
def yX11_onLattice : MethodName := ⟨RX11, "onLattice", "(D)Z"⟩
abbrev cX11_isLattice : ByteArray := prog_13_method_77_code
def yX11_isLattice : MethodName := ⟨RX11, "isLattice", "(I)Z"⟩
abbrev cX11_isLatticeVector : ByteArray := prog_13_method_78_code
def yX11_isLatticeVector : MethodName := ⟨RX11, "isLatticeVector", "(I)Z"⟩
abbrev cX11_cellAt : ByteArray := prog_13_method_79_code
def yX11_cellAt : MethodName := ⟨RX11, "cellAt", "(II)I"⟩
abbrev cX11_becomes : ByteArray := prog_13_method_80_code
def yX11_becomes : MethodName := ⟨RX11, "becomes", "(ID)V"⟩
abbrev cX11_loads : ByteArray := prog_13_method_81_code
def yX11_loads : MethodName := ⟨RX11, "loads", "(II)V"⟩
abbrev cX11_times : ByteArray := prog_13_method_82_code
def yX11_times : MethodName := ⟨RX11, "times", "(II[J)I"⟩
abbrev cX11_order72 : ByteArray := prog_13_method_83_code
def yX11_order72 : MethodName := ⟨RX11, "order72", "([J[J)I"⟩
abbrev cX11_lessOther : ByteArray := prog_13_method_84_code
def yX11_lessOther : MethodName := ⟨RX11, "lessOther", "(II)I"⟩
abbrev cX11_divided : ByteArray := prog_13_method_85_code
def yX11_divided : MethodName := ⟨RX11, "divided", "(II)V"⟩
abbrev cX11_shifted : ByteArray := prog_13_method_86_code
def yX11_shifted : MethodName := ⟨RX11, "shifted", "([JI)V"⟩
abbrev cX11_swapBig : ByteArray := prog_13_method_87_code
def yX11_swapBig : MethodName := ⟨RX11, "swapBig", "(II)V"⟩
abbrev cX11_reduces : ByteArray := prog_13_method_88_code
def yX11_reduces : MethodName := ⟨RX11, "reduces", "(I)V"⟩
abbrev cX11_topOf : ByteArray := prog_13_method_89_code
def yX11_topOf : MethodName := ⟨RX11, "topOf", "([JI)I"⟩
abbrev cX11_quotient : ByteArray := prog_13_method_90_code
def yX11_quotient : MethodName := ⟨RX11, "quotient", "(IZ)D"⟩
abbrev cX11_isNotBelow : ByteArray := prog_13_method_91_code
def yX11_isNotBelow : MethodName := ⟨RX11, "isNotBelow", "(I)Z"⟩
abbrev cX11_takesOther : ByteArray := prog_13_method_92_code
def yX11_takesOther : MethodName := ⟨RX11, "takesOther", "(I)V"⟩
abbrev cX11_takesCell : ByteArray := prog_13_method_93_code
def yX11_takesCell : MethodName := ⟨RX11, "takesCell", "([JI)V"⟩
abbrev cX11_reduced : ByteArray := prog_13_method_94_code
def yX11_reduced : MethodName := ⟨RX11, "reduced", "(I)D"⟩
abbrev cX11_exactly : ByteArray := prog_13_method_95_code
def yX11_exactly : MethodName := ⟨RX11, "exactly", "(II)I"⟩
abbrev cX11_rank : ByteArray := prog_13_method_96_code
def yX11_rank : MethodName := ⟨RX11, "rank", "(I)I"⟩
abbrev cX11_nullVector : ByteArray := prog_13_method_97_code
def yX11_nullVector : MethodName := ⟨RX11, "nullVector", "(II)I"⟩
abbrev cX11_determinantOf : ByteArray := prog_13_method_98_code
def yX11_determinantOf : MethodName := ⟨RX11, "determinantOf", "(I)I"⟩
abbrev cX11_isExact : ByteArray := prog_13_method_99_code
def yX11_isExact : MethodName := ⟨RX11, "isExact", "(I)Z"⟩
abbrev cX11_determinant : ByteArray := prog_13_method_100_code
def yX11_determinant : MethodName := ⟨RX11, "determinant", "(I)J"⟩
abbrev cX11_digits : ByteArray := prog_13_method_101_code
def yX11_digits : MethodName := ⟨RX11, "digits", "(II)I"⟩
abbrev cX11_greatestSum : ByteArray := prog_13_method_102_code
def yX11_greatestSum : MethodName := ⟨RX11, "greatestSum", "(II)V"⟩
abbrev cX11_condition : ByteArray := prog_13_method_103_code
def yX11_condition : MethodName := ⟨RX11, "condition", "(I)J"⟩
abbrev cX11_gaps : ByteArray := prog_13_method_104_code
def yX11_gaps : MethodName := ⟨RX11, "gaps", "(II)Z"⟩
abbrev cX11_gap : ByteArray := prog_13_method_105_code
def yX11_gap : MethodName := ⟨RX11, "gap", "(II)J"⟩
abbrev cX11_bound : ByteArray := prog_13_method_106_code
def yX11_bound : MethodName := ⟨RX11, "bound", "(IIII)J"⟩
abbrev cX11_next : ByteArray := prog_13_method_107_code
def yX11_next : MethodName := ⟨RX11, "next", "(D)D"⟩
abbrev cX11_neighbours : ByteArray := prog_13_method_108_code
def yX11_neighbours : MethodName := ⟨RX11, "neighbours", "(II)I"⟩
abbrev cX11_fewest : ByteArray := prog_13_method_109_code
def yX11_fewest : MethodName := ⟨RX11, "fewest", "(II)I"⟩
abbrev cX11_reorder : ByteArray := prog_13_method_110_code
def yX11_reorder : MethodName := ⟨RX11, "reorder", "(I)I"⟩
abbrev cX11_place : ByteArray := prog_13_method_111_code
def yX11_place : MethodName := ⟨RX11, "place", "(I)I"⟩
abbrev cX11_pack0 : ByteArray := prog_13_method_112_code
def yX11_pack0 : MethodName := ⟨RX11, "pack0", "(I)V"⟩
abbrev cX11_check : ByteArray := prog_13_method_113_code
def yX11_check : MethodName := ⟨RX11, "check", "([II)I"⟩
abbrev cX11_packNumber : ByteArray := prog_13_method_114_code
def yX11_packNumber : MethodName := ⟨RX11, "packNumber", "(D)V"⟩
abbrev cX11_pack : ByteArray := prog_13_method_115_code
def yX11_pack : MethodName := ⟨RX11, "pack", "(I)I"⟩
abbrev cX11_octet : ByteArray := prog_13_method_116_code
def yX11_octet : MethodName := ⟨RX11, "octet", "(I)I"⟩
abbrev cX11_feed : ByteArray := prog_13_method_117_code
def yX11_feed : MethodName := ⟨RX11, "feed", "(IIIII)I"⟩
abbrev cX11_end : ByteArray := prog_13_method_118_code
def yX11_end : MethodName := ⟨RX11, "end", "(I)Z"⟩
abbrev cX11_take : ByteArray := prog_13_method_119_code
def yX11_take : MethodName := ⟨RX11, "take", "()I"⟩
abbrev cX11_numberHere : ByteArray := prog_13_method_120_code
def yX11_numberHere : MethodName := ⟨RX11, "numberHere", "()J"⟩
abbrev cX11_mayBe : ByteArray := prog_13_method_121_code
def yX11_mayBe : MethodName := ⟨RX11, "mayBe", "(J)Z"⟩
abbrev cX11_unpack : ByteArray := prog_13_method_122_code
def yX11_unpack : MethodName := ⟨RX11, "unpack", "()I"⟩
abbrev cX11_unpackSparse : ByteArray := prog_13_method_123_code
def yX11_unpackSparse : MethodName := ⟨RX11, "unpackSparse", "(IIII)I"⟩
abbrev cX11_unpackPlaces : ByteArray := prog_13_method_124_code
def yX11_unpackPlaces : MethodName := ⟨RX11, "unpackPlaces", "(IIII)I"⟩
abbrev cX11_unpacked : ByteArray := prog_13_method_125_code
def yX11_unpacked : MethodName := ⟨RX11, "unpacked", "(IIIIII)I"⟩
abbrev cX11_count : ByteArray := prog_13_method_126_code
def yX11_count : MethodName := ⟨RX11, "count", "(I)I"⟩
def RJxe99ae : String := "java/lang/Double"
def TJxe99ae : u_T := fun k => match k with
  | _ => ("", "", "", false)
def tyJxe99ae : Nat → FieldType := fun k => match k with
  | _ => .int
abbrev wsJxe99ae0 : List Cond := u_ws RJxe99ae TJxe99ae 0
theorem nmJxe99ae : ∀ a, a < 0 → ∀ b, b < 0 → a ≠ b → (TJxe99ae a).2.1 ≠ (TJxe99ae b).2.1 := by decide +kernel
theorem tyJxe99ae_ok : ∀ k, k < 0 → parseFieldDescriptor (TJxe99ae k).2.2.1 = some (tyJxe99ae k) := by decide +kernel
abbrev cJxe99ae_isNaN_b9ae7 : ByteArray := prog_14_method_6_code
def yJxe99ae_isNaN_b9ae7 : MethodName := ⟨RJxe99ae, "isNaN", "(D)Z"⟩
abbrev cJxe99ae_doubleToLongBits_ccdee : ByteArray := prog_14_method_23_code
def yJxe99ae_doubleToLongBits_ccdee : MethodName := ⟨RJxe99ae, "doubleToLongBits", "(D)J"⟩
def RJ9 : String := "java/lang/Math"
def TJ9 : u_T := fun k => match k with
  | _ => ("", "", "", false)
def tyJ9 : Nat → FieldType := fun k => match k with
  | _ => .int
abbrev wsJ90 : List Cond := u_ws RJ9 TJ9 0
theorem nmJ9 : ∀ a, a < 0 → ∀ b, b < 0 → a ≠ b → (TJ9 a).2.1 ≠ (TJ9 b).2.1 := by decide +kernel
theorem tyJ9_ok : ∀ k, k < 0 → parseFieldDescriptor (TJ9 k).2.2.1 = some (tyJ9 k) := by decide +kernel
abbrev cJ9_abs_0f7a4 : ByteArray := prog_15_method_59_code
def yJ9_abs_0f7a4 : MethodName := ⟨RJ9, "abs", "(I)I"⟩
abbrev cJ9_max_7cf53 : ByteArray := prog_15_method_65_code
def yJ9_max_7cf53 : MethodName := ⟨RJ9, "max", "(II)I"⟩
abbrev cJ9_max_f86c9 : ByteArray := prog_15_method_66_code
def yJ9_max_f86c9 : MethodName := ⟨RJ9, "max", "(JJ)J"⟩
abbrev cJ9_min_7cf53 : ByteArray := prog_15_method_69_code
def yJ9_min_7cf53 : MethodName := ⟨RJ9, "min", "(II)I"⟩
def RL : String := "SystemLabLaw"
abbrev cL_law : ByteArray := code
def yL_law : MethodName := ⟨RL, "law", "([I)Z"⟩
abbrev vwCl : List vw_C := [(RX1, TX1, 15), (RX2, TX2, 11), (RX3, TX3, 7), (RX4, TX4, 6), (RX5, TX5, 9), (RX6, TX6, 5), (RX7, TX7, 4), (RX8, TX8, 3), (RX9, TX9, 3), (RX10, TX10, 9), (RX11, TX11, 58)]
