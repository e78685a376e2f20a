/-! constants below 0 (written by gen/pre.py) -/
theorem nIm_1 : nI 4294967295 = iZ (-1) := by decide
theorem nIm_2 : nI 4294967294 = iZ (-2) := by decide
theorem nIm_8 : nI 4294967288 = iZ (-8) := by decide
theorem nIm_52 : nI 4294967244 = iZ (-52) := by decide
theorem nIm_60 : nI 4294967236 = iZ (-60) := by decide
theorem nIm_1022 : nI 4294966274 = iZ (-1022) := by decide
theorem nIm_1074 : nI 4294966222 = iZ (-1074) := by decide
theorem nIm_2176 : nI 4294965120 = iZ (-2176) := by decide
