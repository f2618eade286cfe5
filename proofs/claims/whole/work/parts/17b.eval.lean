def pmA2 : pmH := (kdT0.take 112 ++ [(11, 47)], pmRow iniV 112 (pmDf 7))
def pmC2 : Option (Option Value × pmH) := pmFx 1000 80 101 [.ref 112] pmA2
theorem ck_C2k : ckK 154 pmC2 = true := by decide +kernel
theorem ck_C2a : ckV 0 56 pmC2 = true := by decide +kernel
theorem ck_C2b : ckV 56 56 pmC2 = true := by decide +kernel
theorem ck_C2c : ckV 112 12 pmC2 = true := by decide +kernel
theorem ck_C2d : ckV 124 1 pmC2 = true := by decide +kernel
theorem ck_C2e : ckV 125 1 pmC2 = true := by decide +kernel
theorem ck_C2f : ckV 126 28 pmC2 = true := by decide +kernel
