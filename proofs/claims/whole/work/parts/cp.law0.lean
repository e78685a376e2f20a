/-! the law: its code is what the data says (written by wip/whole/gen/lawc.py) -/
section ZLAW
theorem ck_L_law_0 : zchn room_1 code 12 false 4 cal_L_law (some .boolean) 0 b_L_law_0 p_L_law_0 = true := by decide +kernel
theorem ck_L_law_18 : zchn room_1 code 12 false 4 cal_L_law (some .boolean) 18 b_L_law_18 p_L_law_18 = true := by decide +kernel
theorem ck_L_law_224 : zchn room_1 code 12 false 4 cal_L_law (some .boolean) 224 b_L_law_224 p_L_law_224 = true := by decide +kernel
theorem ck_L_law_287 : zchn room_1 code 12 false 4 cal_L_law (some .boolean) 287 b_L_law_287 p_L_law_287 = true := by decide +kernel
theorem ck_L_law_310 : zchn room_1 code 12 false 4 cal_L_law (some .boolean) 310 b_L_law_310 p_L_law_310 = true := by decide +kernel
theorem ck_L_law_393 : zchn room_1 code 12 false 4 cal_L_law (some .boolean) 393 b_L_law_393 p_L_law_393 = true := by decide +kernel
theorem ck_L_law_437 : zchn room_1 code 12 false 4 cal_L_law (some .boolean) 437 b_L_law_437 p_L_law_437 = true := by decide +kernel
theorem ck_L_law_470 : zchn room_1 code 12 false 4 cal_L_law (some .boolean) 470 b_L_law_470 p_L_law_470 = true := by decide +kernel
theorem ck_L_law_503 : zchn room_1 code 12 false 4 cal_L_law (some .boolean) 503 b_L_law_503 p_L_law_503 = true := by decide +kernel
theorem ck_L_law_526 : zchn room_1 code 12 false 4 cal_L_law (some .boolean) 526 b_L_law_526 p_L_law_526 = true := by decide +kernel
theorem ck_L_law_527 : zchn room_1 code 12 false 4 cal_L_law (some .boolean) 527 b_L_law_527 p_L_law_527 = true := by decide +kernel
theorem ck_L_law_553 : zchn room_1 code 12 false 4 cal_L_law (some .boolean) 553 b_L_law_553 p_L_law_553 = true := by decide +kernel
theorem ck_L_law_554 : zchn room_1 code 12 false 4 cal_L_law (some .boolean) 554 b_L_law_554 p_L_law_554 = true := by decide +kernel
theorem ck_L_law_562 : zchn room_1 code 12 false 4 cal_L_law (some .boolean) 562 b_L_law_562 p_L_law_562 = true := by decide +kernel
theorem ck_L_law_585 : zchn room_1 code 12 false 4 cal_L_law (some .boolean) 585 b_L_law_585 p_L_law_585 = true := by decide +kernel
theorem ck_L_law_638 : zchn room_1 code 12 false 4 cal_L_law (some .boolean) 638 b_L_law_638 p_L_law_638 = true := by decide +kernel
theorem ck_L_law_701 : zchn room_1 code 12 false 4 cal_L_law (some .boolean) 701 b_L_law_701 p_L_law_701 = true := by decide +kernel
theorem ck_L_law_734 : zchn room_1 code 12 false 4 cal_L_law (some .boolean) 734 b_L_law_734 p_L_law_734 = true := by decide +kernel
theorem ck_L_law_757 : zchn room_1 code 12 false 4 cal_L_law (some .boolean) 757 b_L_law_757 p_L_law_757 = true := by decide +kernel
theorem ck_L_law_758 : zchn room_1 code 12 false 4 cal_L_law (some .boolean) 758 b_L_law_758 p_L_law_758 = true := by decide +kernel
theorem ck_L_law_784 : zchn room_1 code 12 false 4 cal_L_law (some .boolean) 784 b_L_law_784 p_L_law_784 = true := by decide +kernel
theorem ck_L_law_785 : zchn room_1 code 12 false 4 cal_L_law (some .boolean) 785 b_L_law_785 p_L_law_785 = true := by decide +kernel
theorem ck_L_law_793 : zchn room_1 code 12 false 4 cal_L_law (some .boolean) 793 b_L_law_793 p_L_law_793 = true := by decide +kernel
theorem ck_L_law_816 : zchn room_1 code 12 false 4 cal_L_law (some .boolean) 816 b_L_law_816 p_L_law_816 = true := by decide +kernel
theorem ck_L_law_860 : zchn room_1 code 12 false 4 cal_L_law (some .boolean) 860 b_L_law_860 p_L_law_860 = true := by decide +kernel
theorem ck_L_law_903 : zchn room_1 code 12 false 4 cal_L_law (some .boolean) 903 b_L_law_903 p_L_law_903 = true := by decide +kernel
theorem ck_L_law_927 : zchn room_1 code 12 false 4 cal_L_law (some .boolean) 927 b_L_law_927 p_L_law_927 = true := by decide +kernel
theorem ck_L_law_961 : zchn room_1 code 12 false 4 cal_L_law (some .boolean) 961 b_L_law_961 p_L_law_961 = true := by decide +kernel
theorem ck_L_law_984 : zchn room_1 code 12 false 4 cal_L_law (some .boolean) 984 b_L_law_984 p_L_law_984 = true := by decide +kernel
theorem ck_L_law_1007 : zchn room_1 code 12 false 4 cal_L_law (some .boolean) 1007 b_L_law_1007 p_L_law_1007 = true := by decide +kernel
theorem ck_L_law_1080 : zchn room_1 code 12 false 4 cal_L_law (some .boolean) 1080 b_L_law_1080 p_L_law_1080 = true := by decide +kernel
theorem ck_L_law_1114 : zchn room_1 code 12 false 4 cal_L_law (some .boolean) 1114 b_L_law_1114 p_L_law_1114 = true := by decide +kernel
theorem ck_L_law_1137 : zchn room_1 code 12 false 4 cal_L_law (some .boolean) 1137 b_L_law_1137 p_L_law_1137 = true := by decide +kernel
theorem ck_L_law_1170 : zchn room_1 code 12 false 4 cal_L_law (some .boolean) 1170 b_L_law_1170 p_L_law_1170 = true := by decide +kernel
theorem ck_L_law_1224 : zchn room_1 code 12 false 4 cal_L_law (some .boolean) 1224 b_L_law_1224 p_L_law_1224 = true := by decide +kernel
theorem ck_L_law_1268 : zchn room_1 code 12 false 4 cal_L_law (some .boolean) 1268 b_L_law_1268 p_L_law_1268 = true := by decide +kernel
theorem ck_L_law_1331 : zchn room_1 code 12 false 4 cal_L_law (some .boolean) 1331 b_L_law_1331 p_L_law_1331 = true := by decide +kernel
theorem ck_L_law_1354 : zchn room_1 code 12 false 4 cal_L_law (some .boolean) 1354 b_L_law_1354 p_L_law_1354 = true := by decide +kernel
theorem ck_L_law_1387 : zchn room_1 code 12 false 4 cal_L_law (some .boolean) 1387 b_L_law_1387 p_L_law_1387 = true := by decide +kernel
theorem ck_L_law_1410 : zchn room_1 code 12 false 4 cal_L_law (some .boolean) 1410 b_L_law_1410 p_L_law_1410 = true := by decide +kernel
theorem ck_L_law_1443 : zchn room_1 code 12 false 4 cal_L_law (some .boolean) 1443 b_L_law_1443 p_L_law_1443 = true := by decide +kernel
theorem ck_L_law_1467 : zchn room_1 code 12 false 4 cal_L_law (some .boolean) 1467 b_L_law_1467 p_L_law_1467 = true := by decide +kernel
theorem ck_L_law_1500 : zchn room_1 code 12 false 4 cal_L_law (some .boolean) 1500 b_L_law_1500 p_L_law_1500 = true := by decide +kernel
theorem ck_L_law_1524 : zchn room_1 code 12 false 4 cal_L_law (some .boolean) 1524 b_L_law_1524 p_L_law_1524 = true := by decide +kernel
theorem ck_L_law_1558 : zchn room_1 code 12 false 4 cal_L_law (some .boolean) 1558 b_L_law_1558 p_L_law_1558 = true := by decide +kernel
theorem ck_L_law_1612 : zchn room_1 code 12 false 4 cal_L_law (some .boolean) 1612 b_L_law_1612 p_L_law_1612 = true := by decide +kernel
theorem ck_L_law_1635 : zchn room_1 code 12 false 4 cal_L_law (some .boolean) 1635 b_L_law_1635 p_L_law_1635 = true := by decide +kernel
theorem ck_L_law_1658 : zchn room_1 code 12 false 4 cal_L_law (some .boolean) 1658 b_L_law_1658 p_L_law_1658 = true := by decide +kernel
theorem ck_L_law_1681 : zchn room_1 code 12 false 4 cal_L_law (some .boolean) 1681 b_L_law_1681 p_L_law_1681 = true := by decide +kernel
theorem ck_L_law_1704 : zchn room_1 code 12 false 4 cal_L_law (some .boolean) 1704 b_L_law_1704 p_L_law_1704 = true := by decide +kernel
theorem ck_L_law_1767 : zchn room_1 code 12 false 4 cal_L_law (some .boolean) 1767 b_L_law_1767 p_L_law_1767 = true := by decide +kernel
theorem ck_L_law_1790 : zchn room_1 code 12 false 4 cal_L_law (some .boolean) 1790 b_L_law_1790 p_L_law_1790 = true := by decide +kernel
theorem ck_L_law_1803 : zchn room_1 code 12 false 4 cal_L_law (some .boolean) 1803 b_L_law_1803 p_L_law_1803 = true := by decide +kernel
theorem ck_L_law_1816 : zchn room_1 code 12 false 4 cal_L_law (some .boolean) 1816 b_L_law_1816 p_L_law_1816 = true := by decide +kernel
theorem ck_L_law_1839 : zchn room_1 code 12 false 4 cal_L_law (some .boolean) 1839 b_L_law_1839 p_L_law_1839 = true := by decide +kernel
theorem ck_L_law_1845 : zchn room_1 code 12 false 4 cal_L_law (some .boolean) 1845 b_L_law_1845 p_L_law_1845 = true := by decide +kernel
theorem zall_c {R : Room} {cc : ByteArray} {o : Nat} {ini : Bool} {nL : Nat} {cal : List zCal} {rt : Option FieldType} {t : Nat} {b : List zE} {l : List (Nat × List zE)} {p : List (List (Nat × Nat))} {ps : List (List (List (Nat × Nat)))} (h : zchn R cc o ini nL cal rt t b p = true) (h2 : zall R cc o ini nL cal rt l ps = true) : zall R cc o ini nL cal rt ((t, b) :: l) (p :: ps) = true := by
  simp only [zall, Bool.and_eq_true]; exact ⟨h, h2⟩
theorem ck_L_law : zall room_1 code 12 false 4 cal_L_law (some .boolean) bl_L_law pl_L_law = true := zall_c ck_L_law_0 (zall_c ck_L_law_18 (zall_c ck_L_law_224 (zall_c ck_L_law_287 (zall_c ck_L_law_310 (zall_c ck_L_law_393 (zall_c ck_L_law_437 (zall_c ck_L_law_470 (zall_c ck_L_law_503 (zall_c ck_L_law_526 (zall_c ck_L_law_527 (zall_c ck_L_law_553 (zall_c ck_L_law_554 (zall_c ck_L_law_562 (zall_c ck_L_law_585 (zall_c ck_L_law_638 (zall_c ck_L_law_701 (zall_c ck_L_law_734 (zall_c ck_L_law_757 (zall_c ck_L_law_758 (zall_c ck_L_law_784 (zall_c ck_L_law_785 (zall_c ck_L_law_793 (zall_c ck_L_law_816 (zall_c ck_L_law_860 (zall_c ck_L_law_903 (zall_c ck_L_law_927 (zall_c ck_L_law_961 (zall_c ck_L_law_984 (zall_c ck_L_law_1007 (zall_c ck_L_law_1080 (zall_c ck_L_law_1114 (zall_c ck_L_law_1137 (zall_c ck_L_law_1170 (zall_c ck_L_law_1224 (zall_c ck_L_law_1268 (zall_c ck_L_law_1331 (zall_c ck_L_law_1354 (zall_c ck_L_law_1387 (zall_c ck_L_law_1410 (zall_c ck_L_law_1443 (zall_c ck_L_law_1467 (zall_c ck_L_law_1500 (zall_c ck_L_law_1524 (zall_c ck_L_law_1558 (zall_c ck_L_law_1612 (zall_c ck_L_law_1635 (zall_c ck_L_law_1658 (zall_c ck_L_law_1681 (zall_c ck_L_law_1704 (zall_c ck_L_law_1767 (zall_c ck_L_law_1790 (zall_c ck_L_law_1803 (zall_c ck_L_law_1816 (zall_c ck_L_law_1839 (zall_c ck_L_law_1845 rfl)))))))))))))))))))))))))))))))))))))))))))))))))))))))
end ZLAW
