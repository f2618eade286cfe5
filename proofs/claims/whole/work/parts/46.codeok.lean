def ckM (j : Nat) : Bool := (List.range (16 * (cdT j).length)).all (fun pc => match codT j pc with
  | none => true
  | some (ins, len) => decide (decode (bytT j) pc = .ok (ins, len)) && (pmSz ins == 0 || pmSz ins == len))
theorem ck_0 : ckM 0 = true := by decide +kernel
theorem ck_1 : ckM 1 = true := by decide +kernel
theorem ck_2 : ckM 2 = true := by decide +kernel
theorem ck_3 : ckM 3 = true := by decide +kernel
theorem ck_4 : ckM 4 = true := by decide +kernel
theorem ck_5 : ckM 5 = true := by decide +kernel
theorem ck_6 : ckM 6 = true := by decide +kernel
theorem ck_7 : ckM 7 = true := by decide +kernel
theorem ck_8 : ckM 8 = true := by decide +kernel
theorem ck_9 : ckM 9 = true := by decide +kernel
theorem ck_10 : ckM 10 = true := by decide +kernel
theorem ck_11 : ckM 11 = true := by decide +kernel
theorem ck_12 : ckM 12 = true := by decide +kernel
theorem ck_13 : ckM 13 = true := by decide +kernel
theorem ck_14 : ckM 14 = true := by decide +kernel
theorem ck_15 : ckM 15 = true := by decide +kernel
theorem ck_16 : ckM 16 = true := by decide +kernel
theorem ck_17 : ckM 17 = true := by decide +kernel
theorem ck_18 : ckM 18 = true := by decide +kernel
theorem ck_19 : ckM 19 = true := by decide +kernel
theorem ck_20 : ckM 20 = true := by decide +kernel
theorem ck_21 : ckM 21 = true := by decide +kernel
theorem ck_22 : ckM 22 = true := by decide +kernel
theorem ck_23 : ckM 23 = true := by decide +kernel
theorem ck_24 : ckM 24 = true := by decide +kernel
theorem ck_25 : ckM 25 = true := by decide +kernel
theorem ck_26 : ckM 26 = true := by decide +kernel
theorem ck_27 : ckM 27 = true := by decide +kernel
theorem ck_28 : ckM 28 = true := by decide +kernel
theorem ck_29 : ckM 29 = true := by decide +kernel
theorem ck_30 : ckM 30 = true := by decide +kernel
theorem ck_31 : ckM 31 = true := by decide +kernel
theorem ck_32 : ckM 32 = true := by decide +kernel
theorem ck_33 : ckM 33 = true := by decide +kernel
theorem ck_34 : ckM 34 = true := by decide +kernel
theorem ck_35 : ckM 35 = true := by decide +kernel
theorem ck_36 : ckM 36 = true := by decide +kernel
theorem ck_37 : ckM 37 = true := by decide +kernel
theorem ck_38 : ckM 38 = true := by decide +kernel
theorem ck_39 : ckM 39 = true := by decide +kernel
theorem ck_40 : ckM 40 = true := by decide +kernel
theorem ck_41 : ckM 41 = true := by decide +kernel
theorem ck_42 : ckM 42 = true := by decide +kernel
theorem ck_43 : ckM 43 = true := by decide +kernel
theorem ck_44 : ckM 44 = true := by decide +kernel
theorem ck_45 : ckM 45 = true := by decide +kernel
theorem ck_46 : ckM 46 = true := by decide +kernel
theorem ck_47 : ckM 47 = true := by decide +kernel
theorem ck_48 : ckM 48 = true := by decide +kernel
theorem ck_49 : ckM 49 = true := by decide +kernel
theorem ck_50 : ckM 50 = true := by decide +kernel
theorem ck_51 : ckM 51 = true := by decide +kernel
theorem ck_52 : ckM 52 = true := by decide +kernel
theorem ck_53 : ckM 53 = true := by decide +kernel
theorem ck_54 : ckM 54 = true := by decide +kernel
theorem ck_55 : ckM 55 = true := by decide +kernel
theorem ck_56 : ckM 56 = true := by decide +kernel
theorem ck_57 : ckM 57 = true := by decide +kernel
theorem ck_58 : ckM 58 = true := by decide +kernel
theorem ck_59 : ckM 59 = true := by decide +kernel
theorem ck_60 : ckM 60 = true := by decide +kernel
theorem ck_61 : ckM 61 = true := by decide +kernel
theorem ck_62 : ckM 62 = true := by decide +kernel
theorem ck_63 : ckM 63 = true := by decide +kernel
theorem ck_64 : ckM 64 = true := by decide +kernel
theorem ck_65 : ckM 65 = true := by decide +kernel
theorem ck_66 : ckM 66 = true := by decide +kernel
theorem ck_67 : ckM 67 = true := by decide +kernel
theorem ck_68 : ckM 68 = true := by decide +kernel
theorem ck_69 : ckM 69 = true := by decide +kernel
theorem ck_70 : ckM 70 = true := by decide +kernel
theorem ck_71 : ckM 71 = true := by decide +kernel
theorem ck_72 : ckM 72 = true := by decide +kernel
theorem ck_73 : ckM 73 = true := by decide +kernel
theorem ck_74 : ckM 74 = true := by decide +kernel
theorem ck_75 : ckM 75 = true := by decide +kernel
theorem ck_76 : ckM 76 = true := by decide +kernel
theorem ck_77 : ckM 77 = true := by decide +kernel
theorem ck_78 : ckM 78 = true := by decide +kernel
theorem ck_79 : ckM 79 = true := by decide +kernel
theorem ck_80 : ckM 80 = true := by decide +kernel
theorem ck_81 : ckM 81 = true := by decide +kernel
theorem ck_82 : ckM 82 = true := by decide +kernel
theorem ck_83 : ckM 83 = true := by decide +kernel
theorem ck_84 : ckM 84 = true := by decide +kernel
theorem ck_85 : ckM 85 = true := by decide +kernel
theorem ck_86 : ckM 86 = true := by decide +kernel
theorem ck_87 : ckM 87 = true := by decide +kernel
theorem ck_88 : ckM 88 = true := by decide +kernel
theorem ck_89 : ckM 89 = true := by decide +kernel
theorem ck_90 : ckM 90 = true := by decide +kernel
theorem ck_91 : ckM 91 = true := by decide +kernel
theorem ck_92 : ckM 92 = true := by decide +kernel
theorem ck_93 : ckM 93 = true := by decide +kernel
theorem ck_94 : ckM 94 = true := by decide +kernel
theorem ck_95 : ckM 95 = true := by decide +kernel
theorem ck_96 : ckM 96 = true := by decide +kernel
theorem ck_97 : ckM 97 = true := by decide +kernel
theorem ck_98 : ckM 98 = true := by decide +kernel
theorem ck_99 : ckM 99 = true := by decide +kernel
theorem ck_100 : ckM 100 = true := by decide +kernel
theorem ck_101 : ckM 101 = true := by decide +kernel
theorem ck_102 : ckM 102 = true := by decide +kernel
theorem ck_103 : ckM 103 = true := by decide +kernel
theorem ck_104 : ckM 104 = true := by decide +kernel
theorem ck_105 : ckM 105 = true := by decide +kernel
theorem ck_106 : ckM 106 = true := by decide +kernel
theorem ck_107 : ckM 107 = true := by decide +kernel
theorem ck_108 : ckM 108 = true := by decide +kernel
theorem ck_109 : ckM 109 = true := by decide +kernel
theorem ck_110 : ckM 110 = true := by decide +kernel
theorem ck_111 : ckM 111 = true := by decide +kernel
theorem ck_112 : ckM 112 = true := by decide +kernel
theorem ck_113 : ckM 113 = true := by decide +kernel
theorem ck_114 : ckM 114 = true := by decide +kernel
theorem ck_115 : ckM 115 = true := by decide +kernel
theorem ck_116 : ckM 116 = true := by decide +kernel
theorem ck_117 : ckM 117 = true := by decide +kernel
theorem ck_118 : ckM 118 = true := by decide +kernel
theorem ck_119 : ckM 119 = true := by decide +kernel
theorem ck_120 : ckM 120 = true := by decide +kernel
theorem ck_121 : ckM 121 = true := by decide +kernel
theorem ck_122 : ckM 122 = true := by decide +kernel
theorem ck_123 : ckM 123 = true := by decide +kernel
theorem ck_124 : ckM 124 = true := by decide +kernel
theorem ck_125 : ckM 125 = true := by decide +kernel
theorem ck_126 : ckM 126 = true := by decide +kernel
theorem ck_127 : ckM 127 = true := by decide +kernel
theorem ck_128 : ckM 128 = true := by decide +kernel
theorem ck_129 : ckM 129 = true := by decide +kernel
theorem ck_130 : ckM 130 = true := by decide +kernel
theorem ck_131 : ckM 131 = true := by decide +kernel
theorem ck_132 : ckM 132 = true := by decide +kernel
theorem ck_133 : ckM 133 = true := by decide +kernel
theorem ck_134 : ckM 134 = true := by decide +kernel
theorem ck_135 : ckM 135 = true := by decide +kernel
theorem ck_136 : ckM 136 = true := by decide +kernel
theorem ck_137 : ckM 137 = true := by decide +kernel
theorem ck_138 : ckM 138 = true := by decide +kernel
theorem ck_139 : ckM 139 = true := by decide +kernel
theorem ck_140 : ckM 140 = true := by decide +kernel
theorem ck_141 : ckM 141 = true := by decide +kernel
theorem ck_142 : ckM 142 = true := by decide +kernel
theorem ck_143 : ckM 143 = true := by decide +kernel
theorem ck_144 : ckM 144 = true := by decide +kernel
theorem ck_145 : ckM 145 = true := by decide +kernel
theorem ck_146 : ckM 146 = true := by decide +kernel
theorem ck_147 : ckM 147 = true := by decide +kernel
theorem cw_1 : lw_tbl[pcT 1]? = some (Cond.code (ynT 1) (bytT 1) (mxlT 1) (rtyT 1)) := by rfl
theorem cw_2 : lw_tbl[pcT 2]? = some (Cond.code (ynT 2) (bytT 2) (mxlT 2) (rtyT 2)) := by rfl
theorem cw_3 : lw_tbl[pcT 3]? = some (Cond.code (ynT 3) (bytT 3) (mxlT 3) (rtyT 3)) := by rfl
theorem cw_4 : lw_tbl[pcT 4]? = some (Cond.code (ynT 4) (bytT 4) (mxlT 4) (rtyT 4)) := by rfl
theorem cw_5 : lw_tbl[pcT 5]? = some (Cond.code (ynT 5) (bytT 5) (mxlT 5) (rtyT 5)) := by rfl
theorem cw_6 : lw_tbl[pcT 6]? = some (Cond.code (ynT 6) (bytT 6) (mxlT 6) (rtyT 6)) := by rfl
theorem cw_7 : lw_tbl[pcT 7]? = some (Cond.code (ynT 7) (bytT 7) (mxlT 7) (rtyT 7)) := by rfl
theorem cw_8 : lw_tbl[pcT 8]? = some (Cond.code (ynT 8) (bytT 8) (mxlT 8) (rtyT 8)) := by rfl
theorem cw_9 : lw_tbl[pcT 9]? = some (Cond.code (ynT 9) (bytT 9) (mxlT 9) (rtyT 9)) := by rfl
theorem cw_10 : lw_tbl[pcT 10]? = some (Cond.code (ynT 10) (bytT 10) (mxlT 10) (rtyT 10)) := by rfl
theorem cw_11 : lw_tbl[pcT 11]? = some (Cond.code (ynT 11) (bytT 11) (mxlT 11) (rtyT 11)) := by rfl
theorem cw_12 : lw_tbl[pcT 12]? = some (Cond.code (ynT 12) (bytT 12) (mxlT 12) (rtyT 12)) := by rfl
theorem cw_13 : lw_tbl[pcT 13]? = some (Cond.code (ynT 13) (bytT 13) (mxlT 13) (rtyT 13)) := by rfl
theorem cw_14 : lw_tbl[pcT 14]? = some (Cond.code (ynT 14) (bytT 14) (mxlT 14) (rtyT 14)) := by rfl
theorem cw_15 : lw_tbl[pcT 15]? = some (Cond.code (ynT 15) (bytT 15) (mxlT 15) (rtyT 15)) := by rfl
theorem cw_16 : lw_tbl[pcT 16]? = some (Cond.code (ynT 16) (bytT 16) (mxlT 16) (rtyT 16)) := by rfl
theorem cw_17 : lw_tbl[pcT 17]? = some (Cond.code (ynT 17) (bytT 17) (mxlT 17) (rtyT 17)) := by rfl
theorem cw_18 : lw_tbl[pcT 18]? = some (Cond.code (ynT 18) (bytT 18) (mxlT 18) (rtyT 18)) := by rfl
theorem cw_19 : lw_tbl[pcT 19]? = some (Cond.code (ynT 19) (bytT 19) (mxlT 19) (rtyT 19)) := by rfl
theorem cw_20 : lw_tbl[pcT 20]? = some (Cond.code (ynT 20) (bytT 20) (mxlT 20) (rtyT 20)) := by rfl
theorem cw_21 : lw_tbl[pcT 21]? = some (Cond.code (ynT 21) (bytT 21) (mxlT 21) (rtyT 21)) := by rfl
theorem cw_22 : lw_tbl[pcT 22]? = some (Cond.code (ynT 22) (bytT 22) (mxlT 22) (rtyT 22)) := by rfl
theorem cw_23 : lw_tbl[pcT 23]? = some (Cond.code (ynT 23) (bytT 23) (mxlT 23) (rtyT 23)) := by rfl
theorem cw_24 : lw_tbl[pcT 24]? = some (Cond.code (ynT 24) (bytT 24) (mxlT 24) (rtyT 24)) := by rfl
theorem cw_25 : lw_tbl[pcT 25]? = some (Cond.code (ynT 25) (bytT 25) (mxlT 25) (rtyT 25)) := by rfl
theorem cw_26 : lw_tbl[pcT 26]? = some (Cond.code (ynT 26) (bytT 26) (mxlT 26) (rtyT 26)) := by rfl
theorem cw_27 : lw_tbl[pcT 27]? = some (Cond.code (ynT 27) (bytT 27) (mxlT 27) (rtyT 27)) := by rfl
theorem cw_28 : lw_tbl[pcT 28]? = some (Cond.code (ynT 28) (bytT 28) (mxlT 28) (rtyT 28)) := by rfl
theorem cw_29 : lw_tbl[pcT 29]? = some (Cond.code (ynT 29) (bytT 29) (mxlT 29) (rtyT 29)) := by rfl
theorem cw_30 : lw_tbl[pcT 30]? = some (Cond.code (ynT 30) (bytT 30) (mxlT 30) (rtyT 30)) := by rfl
theorem cw_31 : lw_tbl[pcT 31]? = some (Cond.code (ynT 31) (bytT 31) (mxlT 31) (rtyT 31)) := by rfl
theorem cw_32 : lw_tbl[pcT 32]? = some (Cond.code (ynT 32) (bytT 32) (mxlT 32) (rtyT 32)) := by rfl
theorem cw_33 : lw_tbl[pcT 33]? = some (Cond.code (ynT 33) (bytT 33) (mxlT 33) (rtyT 33)) := by rfl
theorem cw_34 : lw_tbl[pcT 34]? = some (Cond.code (ynT 34) (bytT 34) (mxlT 34) (rtyT 34)) := by rfl
theorem cw_35 : lw_tbl[pcT 35]? = some (Cond.code (ynT 35) (bytT 35) (mxlT 35) (rtyT 35)) := by rfl
theorem cw_36 : lw_tbl[pcT 36]? = some (Cond.code (ynT 36) (bytT 36) (mxlT 36) (rtyT 36)) := by rfl
theorem cw_37 : lw_tbl[pcT 37]? = some (Cond.code (ynT 37) (bytT 37) (mxlT 37) (rtyT 37)) := by rfl
theorem cw_38 : lw_tbl[pcT 38]? = some (Cond.code (ynT 38) (bytT 38) (mxlT 38) (rtyT 38)) := by rfl
theorem cw_39 : lw_tbl[pcT 39]? = some (Cond.code (ynT 39) (bytT 39) (mxlT 39) (rtyT 39)) := by rfl
theorem cw_40 : lw_tbl[pcT 40]? = some (Cond.code (ynT 40) (bytT 40) (mxlT 40) (rtyT 40)) := by rfl
theorem cw_41 : lw_tbl[pcT 41]? = some (Cond.code (ynT 41) (bytT 41) (mxlT 41) (rtyT 41)) := by rfl
theorem cw_42 : lw_tbl[pcT 42]? = some (Cond.code (ynT 42) (bytT 42) (mxlT 42) (rtyT 42)) := by rfl
theorem cw_43 : lw_tbl[pcT 43]? = some (Cond.code (ynT 43) (bytT 43) (mxlT 43) (rtyT 43)) := by rfl
theorem cw_44 : lw_tbl[pcT 44]? = some (Cond.code (ynT 44) (bytT 44) (mxlT 44) (rtyT 44)) := by rfl
theorem cw_45 : lw_tbl[pcT 45]? = some (Cond.code (ynT 45) (bytT 45) (mxlT 45) (rtyT 45)) := by rfl
theorem cw_46 : lw_tbl[pcT 46]? = some (Cond.code (ynT 46) (bytT 46) (mxlT 46) (rtyT 46)) := by rfl
theorem cw_47 : lw_tbl[pcT 47]? = some (Cond.code (ynT 47) (bytT 47) (mxlT 47) (rtyT 47)) := by rfl
theorem cw_48 : lw_tbl[pcT 48]? = some (Cond.code (ynT 48) (bytT 48) (mxlT 48) (rtyT 48)) := by rfl
theorem cw_49 : lw_tbl[pcT 49]? = some (Cond.code (ynT 49) (bytT 49) (mxlT 49) (rtyT 49)) := by rfl
theorem cw_50 : lw_tbl[pcT 50]? = some (Cond.code (ynT 50) (bytT 50) (mxlT 50) (rtyT 50)) := by rfl
theorem cw_51 : lw_tbl[pcT 51]? = some (Cond.code (ynT 51) (bytT 51) (mxlT 51) (rtyT 51)) := by rfl
theorem cw_52 : lw_tbl[pcT 52]? = some (Cond.code (ynT 52) (bytT 52) (mxlT 52) (rtyT 52)) := by rfl
theorem cw_53 : lw_tbl[pcT 53]? = some (Cond.code (ynT 53) (bytT 53) (mxlT 53) (rtyT 53)) := by rfl
theorem cw_54 : lw_tbl[pcT 54]? = some (Cond.code (ynT 54) (bytT 54) (mxlT 54) (rtyT 54)) := by rfl
theorem cw_55 : lw_tbl[pcT 55]? = some (Cond.code (ynT 55) (bytT 55) (mxlT 55) (rtyT 55)) := by rfl
theorem cw_56 : lw_tbl[pcT 56]? = some (Cond.code (ynT 56) (bytT 56) (mxlT 56) (rtyT 56)) := by rfl
theorem cw_57 : lw_tbl[pcT 57]? = some (Cond.code (ynT 57) (bytT 57) (mxlT 57) (rtyT 57)) := by rfl
theorem cw_58 : lw_tbl[pcT 58]? = some (Cond.code (ynT 58) (bytT 58) (mxlT 58) (rtyT 58)) := by rfl
theorem cw_59 : lw_tbl[pcT 59]? = some (Cond.code (ynT 59) (bytT 59) (mxlT 59) (rtyT 59)) := by rfl
theorem cw_60 : lw_tbl[pcT 60]? = some (Cond.code (ynT 60) (bytT 60) (mxlT 60) (rtyT 60)) := by rfl
theorem cw_61 : lw_tbl[pcT 61]? = some (Cond.code (ynT 61) (bytT 61) (mxlT 61) (rtyT 61)) := by rfl
theorem cw_62 : lw_tbl[pcT 62]? = some (Cond.code (ynT 62) (bytT 62) (mxlT 62) (rtyT 62)) := by rfl
theorem cw_63 : lw_tbl[pcT 63]? = some (Cond.code (ynT 63) (bytT 63) (mxlT 63) (rtyT 63)) := by rfl
theorem cw_64 : lw_tbl[pcT 64]? = some (Cond.code (ynT 64) (bytT 64) (mxlT 64) (rtyT 64)) := by rfl
theorem cw_65 : lw_tbl[pcT 65]? = some (Cond.code (ynT 65) (bytT 65) (mxlT 65) (rtyT 65)) := by rfl
theorem cw_66 : lw_tbl[pcT 66]? = some (Cond.code (ynT 66) (bytT 66) (mxlT 66) (rtyT 66)) := by rfl
theorem cw_67 : lw_tbl[pcT 67]? = some (Cond.code (ynT 67) (bytT 67) (mxlT 67) (rtyT 67)) := by rfl
theorem cw_68 : lw_tbl[pcT 68]? = some (Cond.code (ynT 68) (bytT 68) (mxlT 68) (rtyT 68)) := by rfl
theorem cw_69 : lw_tbl[pcT 69]? = some (Cond.code (ynT 69) (bytT 69) (mxlT 69) (rtyT 69)) := by rfl
theorem cw_70 : lw_tbl[pcT 70]? = some (Cond.code (ynT 70) (bytT 70) (mxlT 70) (rtyT 70)) := by rfl
theorem cw_71 : lw_tbl[pcT 71]? = some (Cond.code (ynT 71) (bytT 71) (mxlT 71) (rtyT 71)) := by rfl
theorem cw_72 : lw_tbl[pcT 72]? = some (Cond.code (ynT 72) (bytT 72) (mxlT 72) (rtyT 72)) := by rfl
theorem cw_73 : lw_tbl[pcT 73]? = some (Cond.code (ynT 73) (bytT 73) (mxlT 73) (rtyT 73)) := by rfl
theorem cw_74 : lw_tbl[pcT 74]? = some (Cond.code (ynT 74) (bytT 74) (mxlT 74) (rtyT 74)) := by rfl
theorem cw_75 : lw_tbl[pcT 75]? = some (Cond.code (ynT 75) (bytT 75) (mxlT 75) (rtyT 75)) := by rfl
theorem cw_76 : lw_tbl[pcT 76]? = some (Cond.code (ynT 76) (bytT 76) (mxlT 76) (rtyT 76)) := by rfl
theorem cw_77 : lw_tbl[pcT 77]? = some (Cond.code (ynT 77) (bytT 77) (mxlT 77) (rtyT 77)) := by rfl
theorem cw_78 : lw_tbl[pcT 78]? = some (Cond.code (ynT 78) (bytT 78) (mxlT 78) (rtyT 78)) := by rfl
theorem cw_79 : lw_tbl[pcT 79]? = some (Cond.code (ynT 79) (bytT 79) (mxlT 79) (rtyT 79)) := by rfl
theorem cw_80 : lw_tbl[pcT 80]? = some (Cond.code (ynT 80) (bytT 80) (mxlT 80) (rtyT 80)) := by rfl
theorem cw_81 : lw_tbl[pcT 81]? = some (Cond.code (ynT 81) (bytT 81) (mxlT 81) (rtyT 81)) := by rfl
theorem cw_82 : lw_tbl[pcT 82]? = some (Cond.code (ynT 82) (bytT 82) (mxlT 82) (rtyT 82)) := by rfl
theorem cw_83 : lw_tbl[pcT 83]? = some (Cond.code (ynT 83) (bytT 83) (mxlT 83) (rtyT 83)) := by rfl
theorem cw_84 : lw_tbl[pcT 84]? = some (Cond.code (ynT 84) (bytT 84) (mxlT 84) (rtyT 84)) := by rfl
theorem cw_85 : lw_tbl[pcT 85]? = some (Cond.code (ynT 85) (bytT 85) (mxlT 85) (rtyT 85)) := by rfl
theorem cw_86 : lw_tbl[pcT 86]? = some (Cond.code (ynT 86) (bytT 86) (mxlT 86) (rtyT 86)) := by rfl
theorem cw_87 : lw_tbl[pcT 87]? = some (Cond.code (ynT 87) (bytT 87) (mxlT 87) (rtyT 87)) := by rfl
theorem cw_88 : lw_tbl[pcT 88]? = some (Cond.code (ynT 88) (bytT 88) (mxlT 88) (rtyT 88)) := by rfl
theorem cw_89 : lw_tbl[pcT 89]? = some (Cond.code (ynT 89) (bytT 89) (mxlT 89) (rtyT 89)) := by rfl
theorem cw_90 : lw_tbl[pcT 90]? = some (Cond.code (ynT 90) (bytT 90) (mxlT 90) (rtyT 90)) := by rfl
theorem cw_91 : lw_tbl[pcT 91]? = some (Cond.code (ynT 91) (bytT 91) (mxlT 91) (rtyT 91)) := by rfl
theorem cw_92 : lw_tbl[pcT 92]? = some (Cond.code (ynT 92) (bytT 92) (mxlT 92) (rtyT 92)) := by rfl
theorem cw_93 : lw_tbl[pcT 93]? = some (Cond.code (ynT 93) (bytT 93) (mxlT 93) (rtyT 93)) := by rfl
theorem cw_94 : lw_tbl[pcT 94]? = some (Cond.code (ynT 94) (bytT 94) (mxlT 94) (rtyT 94)) := by rfl
theorem cw_95 : lw_tbl[pcT 95]? = some (Cond.code (ynT 95) (bytT 95) (mxlT 95) (rtyT 95)) := by rfl
theorem cw_96 : lw_tbl[pcT 96]? = some (Cond.code (ynT 96) (bytT 96) (mxlT 96) (rtyT 96)) := by rfl
theorem cw_97 : lw_tbl[pcT 97]? = some (Cond.code (ynT 97) (bytT 97) (mxlT 97) (rtyT 97)) := by rfl
theorem cw_98 : lw_tbl[pcT 98]? = some (Cond.code (ynT 98) (bytT 98) (mxlT 98) (rtyT 98)) := by rfl
theorem cw_99 : lw_tbl[pcT 99]? = some (Cond.code (ynT 99) (bytT 99) (mxlT 99) (rtyT 99)) := by rfl
theorem cw_100 : lw_tbl[pcT 100]? = some (Cond.code (ynT 100) (bytT 100) (mxlT 100) (rtyT 100)) := by rfl
theorem cw_101 : lw_tbl[pcT 101]? = some (Cond.code (ynT 101) (bytT 101) (mxlT 101) (rtyT 101)) := by rfl
theorem cw_102 : lw_tbl[pcT 102]? = some (Cond.code (ynT 102) (bytT 102) (mxlT 102) (rtyT 102)) := by rfl
theorem cw_103 : lw_tbl[pcT 103]? = some (Cond.code (ynT 103) (bytT 103) (mxlT 103) (rtyT 103)) := by rfl
theorem cw_104 : lw_tbl[pcT 104]? = some (Cond.code (ynT 104) (bytT 104) (mxlT 104) (rtyT 104)) := by rfl
theorem cw_105 : lw_tbl[pcT 105]? = some (Cond.code (ynT 105) (bytT 105) (mxlT 105) (rtyT 105)) := by rfl
theorem cw_106 : lw_tbl[pcT 106]? = some (Cond.code (ynT 106) (bytT 106) (mxlT 106) (rtyT 106)) := by rfl
theorem cw_107 : lw_tbl[pcT 107]? = some (Cond.code (ynT 107) (bytT 107) (mxlT 107) (rtyT 107)) := by rfl
theorem cw_108 : lw_tbl[pcT 108]? = some (Cond.code (ynT 108) (bytT 108) (mxlT 108) (rtyT 108)) := by rfl
theorem cw_109 : lw_tbl[pcT 109]? = some (Cond.code (ynT 109) (bytT 109) (mxlT 109) (rtyT 109)) := by rfl
theorem cw_110 : lw_tbl[pcT 110]? = some (Cond.code (ynT 110) (bytT 110) (mxlT 110) (rtyT 110)) := by rfl
theorem cw_111 : lw_tbl[pcT 111]? = some (Cond.code (ynT 111) (bytT 111) (mxlT 111) (rtyT 111)) := by rfl
theorem cw_112 : lw_tbl[pcT 112]? = some (Cond.code (ynT 112) (bytT 112) (mxlT 112) (rtyT 112)) := by rfl
theorem cw_113 : lw_tbl[pcT 113]? = some (Cond.code (ynT 113) (bytT 113) (mxlT 113) (rtyT 113)) := by rfl
theorem cw_114 : lw_tbl[pcT 114]? = some (Cond.code (ynT 114) (bytT 114) (mxlT 114) (rtyT 114)) := by rfl
theorem cw_115 : lw_tbl[pcT 115]? = some (Cond.code (ynT 115) (bytT 115) (mxlT 115) (rtyT 115)) := by rfl
theorem cw_116 : lw_tbl[pcT 116]? = some (Cond.code (ynT 116) (bytT 116) (mxlT 116) (rtyT 116)) := by rfl
theorem cw_117 : lw_tbl[pcT 117]? = some (Cond.code (ynT 117) (bytT 117) (mxlT 117) (rtyT 117)) := by rfl
theorem cw_118 : lw_tbl[pcT 118]? = some (Cond.code (ynT 118) (bytT 118) (mxlT 118) (rtyT 118)) := by rfl
theorem cw_119 : lw_tbl[pcT 119]? = some (Cond.code (ynT 119) (bytT 119) (mxlT 119) (rtyT 119)) := by rfl
theorem cw_120 : lw_tbl[pcT 120]? = some (Cond.code (ynT 120) (bytT 120) (mxlT 120) (rtyT 120)) := by rfl
theorem cw_121 : lw_tbl[pcT 121]? = some (Cond.code (ynT 121) (bytT 121) (mxlT 121) (rtyT 121)) := by rfl
theorem cw_122 : lw_tbl[pcT 122]? = some (Cond.code (ynT 122) (bytT 122) (mxlT 122) (rtyT 122)) := by rfl
theorem cw_123 : lw_tbl[pcT 123]? = some (Cond.code (ynT 123) (bytT 123) (mxlT 123) (rtyT 123)) := by rfl
theorem cw_124 : lw_tbl[pcT 124]? = some (Cond.code (ynT 124) (bytT 124) (mxlT 124) (rtyT 124)) := by rfl
theorem cw_125 : lw_tbl[pcT 125]? = some (Cond.code (ynT 125) (bytT 125) (mxlT 125) (rtyT 125)) := by rfl
theorem cw_126 : lw_tbl[pcT 126]? = some (Cond.code (ynT 126) (bytT 126) (mxlT 126) (rtyT 126)) := by rfl
theorem cw_127 : lw_tbl[pcT 127]? = some (Cond.code (ynT 127) (bytT 127) (mxlT 127) (rtyT 127)) := by rfl
theorem cw_128 : lw_tbl[pcT 128]? = some (Cond.code (ynT 128) (bytT 128) (mxlT 128) (rtyT 128)) := by rfl
theorem cw_129 : lw_tbl[pcT 129]? = some (Cond.code (ynT 129) (bytT 129) (mxlT 129) (rtyT 129)) := by rfl
theorem cw_130 : lw_tbl[pcT 130]? = some (Cond.code (ynT 130) (bytT 130) (mxlT 130) (rtyT 130)) := by rfl
theorem cw_131 : lw_tbl[pcT 131]? = some (Cond.code (ynT 131) (bytT 131) (mxlT 131) (rtyT 131)) := by rfl
theorem cw_132 : lw_tbl[pcT 132]? = some (Cond.code (ynT 132) (bytT 132) (mxlT 132) (rtyT 132)) := by rfl
theorem cw_133 : lw_tbl[pcT 133]? = some (Cond.code (ynT 133) (bytT 133) (mxlT 133) (rtyT 133)) := by rfl
theorem cw_134 : lw_tbl[pcT 134]? = some (Cond.code (ynT 134) (bytT 134) (mxlT 134) (rtyT 134)) := by rfl
theorem cw_135 : lw_tbl[pcT 135]? = some (Cond.code (ynT 135) (bytT 135) (mxlT 135) (rtyT 135)) := by rfl
theorem cw_136 : lw_tbl[pcT 136]? = some (Cond.code (ynT 136) (bytT 136) (mxlT 136) (rtyT 136)) := by rfl
theorem cw_137 : lw_tbl[pcT 137]? = some (Cond.code (ynT 137) (bytT 137) (mxlT 137) (rtyT 137)) := by rfl
theorem cw_138 : lw_tbl[pcT 138]? = some (Cond.code (ynT 138) (bytT 138) (mxlT 138) (rtyT 138)) := by rfl
theorem cw_139 : lw_tbl[pcT 139]? = some (Cond.code (ynT 139) (bytT 139) (mxlT 139) (rtyT 139)) := by rfl
theorem cw_140 : lw_tbl[pcT 140]? = some (Cond.code (ynT 140) (bytT 140) (mxlT 140) (rtyT 140)) := by rfl
theorem cw_141 : lw_tbl[pcT 141]? = some (Cond.code (ynT 141) (bytT 141) (mxlT 141) (rtyT 141)) := by rfl
theorem cw_142 : lw_tbl[pcT 142]? = some (Cond.code (ynT 142) (bytT 142) (mxlT 142) (rtyT 142)) := by rfl
theorem cw_143 : lw_tbl[pcT 143]? = some (Cond.code (ynT 143) (bytT 143) (mxlT 143) (rtyT 143)) := by rfl
theorem cw_144 : lw_tbl[pcT 144]? = some (Cond.code (ynT 144) (bytT 144) (mxlT 144) (rtyT 144)) := by rfl
theorem cw_145 : lw_tbl[pcT 145]? = some (Cond.code (ynT 145) (bytT 145) (mxlT 145) (rtyT 145)) := by rfl
theorem cw_146 : lw_tbl[pcT 146]? = some (Cond.code (ynT 146) (bytT 146) (mxlT 146) (rtyT 146)) := by rfl
theorem cw_147 : lw_tbl[pcT 147]? = some (Cond.code (ynT 147) (bytT 147) (mxlT 147) (rtyT 147)) := by rfl
theorem ckA_0_9 : ∀ j, 0 ≤ j → j < 9 → ckM j = true := by
  intro j h1 h2
  rcases (show j = 0 ∨ j = 1 ∨ j = 2 ∨ j = 3 ∨ j = 4 ∨ j = 5 ∨ j = 6 ∨ j = 7 ∨ j = 8 by omega) with rfl | rfl | rfl | rfl | rfl | rfl | rfl | rfl | rfl
  · exact ck_0
  · exact ck_1
  · exact ck_2
  · exact ck_3
  · exact ck_4
  · exact ck_5
  · exact ck_6
  · exact ck_7
  · exact ck_8
theorem ckA_9_18 : ∀ j, 9 ≤ j → j < 18 → ckM j = true := by
  intro j h1 h2
  rcases (show j = 9 ∨ j = 10 ∨ j = 11 ∨ j = 12 ∨ j = 13 ∨ j = 14 ∨ j = 15 ∨ j = 16 ∨ j = 17 by omega) with rfl | rfl | rfl | rfl | rfl | rfl | rfl | rfl | rfl
  · exact ck_9
  · exact ck_10
  · exact ck_11
  · exact ck_12
  · exact ck_13
  · exact ck_14
  · exact ck_15
  · exact ck_16
  · exact ck_17
theorem ckA_0_18 : ∀ j, 0 ≤ j → j < 18 → ckM j = true := fun j h1 h2 => by
  by_cases h : j < 9
  · exact ckA_0_9 j h1 h
  · exact ckA_9_18 j (Nat.le_of_not_lt h) h2
theorem ckA_18_27 : ∀ j, 18 ≤ j → j < 27 → ckM j = true := by
  intro j h1 h2
  rcases (show j = 18 ∨ j = 19 ∨ j = 20 ∨ j = 21 ∨ j = 22 ∨ j = 23 ∨ j = 24 ∨ j = 25 ∨ j = 26 by omega) with rfl | rfl | rfl | rfl | rfl | rfl | rfl | rfl | rfl
  · exact ck_18
  · exact ck_19
  · exact ck_20
  · exact ck_21
  · exact ck_22
  · exact ck_23
  · exact ck_24
  · exact ck_25
  · exact ck_26
theorem ckA_27_37 : ∀ j, 27 ≤ j → j < 37 → ckM j = true := by
  intro j h1 h2
  rcases (show j = 27 ∨ j = 28 ∨ j = 29 ∨ j = 30 ∨ j = 31 ∨ j = 32 ∨ j = 33 ∨ j = 34 ∨ j = 35 ∨ j = 36 by omega) with rfl | rfl | rfl | rfl | rfl | rfl | rfl | rfl | rfl | rfl
  · exact ck_27
  · exact ck_28
  · exact ck_29
  · exact ck_30
  · exact ck_31
  · exact ck_32
  · exact ck_33
  · exact ck_34
  · exact ck_35
  · exact ck_36
theorem ckA_18_37 : ∀ j, 18 ≤ j → j < 37 → ckM j = true := fun j h1 h2 => by
  by_cases h : j < 27
  · exact ckA_18_27 j h1 h
  · exact ckA_27_37 j (Nat.le_of_not_lt h) h2
theorem ckA_0_37 : ∀ j, 0 ≤ j → j < 37 → ckM j = true := fun j h1 h2 => by
  by_cases h : j < 18
  · exact ckA_0_18 j h1 h
  · exact ckA_18_37 j (Nat.le_of_not_lt h) h2
theorem ckA_37_46 : ∀ j, 37 ≤ j → j < 46 → ckM j = true := by
  intro j h1 h2
  rcases (show j = 37 ∨ j = 38 ∨ j = 39 ∨ j = 40 ∨ j = 41 ∨ j = 42 ∨ j = 43 ∨ j = 44 ∨ j = 45 by omega) with rfl | rfl | rfl | rfl | rfl | rfl | rfl | rfl | rfl
  · exact ck_37
  · exact ck_38
  · exact ck_39
  · exact ck_40
  · exact ck_41
  · exact ck_42
  · exact ck_43
  · exact ck_44
  · exact ck_45
theorem ckA_46_55 : ∀ j, 46 ≤ j → j < 55 → ckM j = true := by
  intro j h1 h2
  rcases (show j = 46 ∨ j = 47 ∨ j = 48 ∨ j = 49 ∨ j = 50 ∨ j = 51 ∨ j = 52 ∨ j = 53 ∨ j = 54 by omega) with rfl | rfl | rfl | rfl | rfl | rfl | rfl | rfl | rfl
  · exact ck_46
  · exact ck_47
  · exact ck_48
  · exact ck_49
  · exact ck_50
  · exact ck_51
  · exact ck_52
  · exact ck_53
  · exact ck_54
theorem ckA_37_55 : ∀ j, 37 ≤ j → j < 55 → ckM j = true := fun j h1 h2 => by
  by_cases h : j < 46
  · exact ckA_37_46 j h1 h
  · exact ckA_46_55 j (Nat.le_of_not_lt h) h2
theorem ckA_55_64 : ∀ j, 55 ≤ j → j < 64 → ckM j = true := by
  intro j h1 h2
  rcases (show j = 55 ∨ j = 56 ∨ j = 57 ∨ j = 58 ∨ j = 59 ∨ j = 60 ∨ j = 61 ∨ j = 62 ∨ j = 63 by omega) with rfl | rfl | rfl | rfl | rfl | rfl | rfl | rfl | rfl
  · exact ck_55
  · exact ck_56
  · exact ck_57
  · exact ck_58
  · exact ck_59
  · exact ck_60
  · exact ck_61
  · exact ck_62
  · exact ck_63
theorem ckA_64_74 : ∀ j, 64 ≤ j → j < 74 → ckM j = true := by
  intro j h1 h2
  rcases (show j = 64 ∨ j = 65 ∨ j = 66 ∨ j = 67 ∨ j = 68 ∨ j = 69 ∨ j = 70 ∨ j = 71 ∨ j = 72 ∨ j = 73 by omega) with rfl | rfl | rfl | rfl | rfl | rfl | rfl | rfl | rfl | rfl
  · exact ck_64
  · exact ck_65
  · exact ck_66
  · exact ck_67
  · exact ck_68
  · exact ck_69
  · exact ck_70
  · exact ck_71
  · exact ck_72
  · exact ck_73
theorem ckA_55_74 : ∀ j, 55 ≤ j → j < 74 → ckM j = true := fun j h1 h2 => by
  by_cases h : j < 64
  · exact ckA_55_64 j h1 h
  · exact ckA_64_74 j (Nat.le_of_not_lt h) h2
theorem ckA_37_74 : ∀ j, 37 ≤ j → j < 74 → ckM j = true := fun j h1 h2 => by
  by_cases h : j < 55
  · exact ckA_37_55 j h1 h
  · exact ckA_55_74 j (Nat.le_of_not_lt h) h2
theorem ckA_0_74 : ∀ j, 0 ≤ j → j < 74 → ckM j = true := fun j h1 h2 => by
  by_cases h : j < 37
  · exact ckA_0_37 j h1 h
  · exact ckA_37_74 j (Nat.le_of_not_lt h) h2
theorem ckA_74_83 : ∀ j, 74 ≤ j → j < 83 → ckM j = true := by
  intro j h1 h2
  rcases (show j = 74 ∨ j = 75 ∨ j = 76 ∨ j = 77 ∨ j = 78 ∨ j = 79 ∨ j = 80 ∨ j = 81 ∨ j = 82 by omega) with rfl | rfl | rfl | rfl | rfl | rfl | rfl | rfl | rfl
  · exact ck_74
  · exact ck_75
  · exact ck_76
  · exact ck_77
  · exact ck_78
  · exact ck_79
  · exact ck_80
  · exact ck_81
  · exact ck_82
theorem ckA_83_92 : ∀ j, 83 ≤ j → j < 92 → ckM j = true := by
  intro j h1 h2
  rcases (show j = 83 ∨ j = 84 ∨ j = 85 ∨ j = 86 ∨ j = 87 ∨ j = 88 ∨ j = 89 ∨ j = 90 ∨ j = 91 by omega) with rfl | rfl | rfl | rfl | rfl | rfl | rfl | rfl | rfl
  · exact ck_83
  · exact ck_84
  · exact ck_85
  · exact ck_86
  · exact ck_87
  · exact ck_88
  · exact ck_89
  · exact ck_90
  · exact ck_91
theorem ckA_74_92 : ∀ j, 74 ≤ j → j < 92 → ckM j = true := fun j h1 h2 => by
  by_cases h : j < 83
  · exact ckA_74_83 j h1 h
  · exact ckA_83_92 j (Nat.le_of_not_lt h) h2
theorem ckA_92_101 : ∀ j, 92 ≤ j → j < 101 → ckM j = true := by
  intro j h1 h2
  rcases (show j = 92 ∨ j = 93 ∨ j = 94 ∨ j = 95 ∨ j = 96 ∨ j = 97 ∨ j = 98 ∨ j = 99 ∨ j = 100 by omega) with rfl | rfl | rfl | rfl | rfl | rfl | rfl | rfl | rfl
  · exact ck_92
  · exact ck_93
  · exact ck_94
  · exact ck_95
  · exact ck_96
  · exact ck_97
  · exact ck_98
  · exact ck_99
  · exact ck_100
theorem ckA_101_111 : ∀ j, 101 ≤ j → j < 111 → ckM j = true := by
  intro j h1 h2
  rcases (show j = 101 ∨ j = 102 ∨ j = 103 ∨ j = 104 ∨ j = 105 ∨ j = 106 ∨ j = 107 ∨ j = 108 ∨ j = 109 ∨ j = 110 by omega) with rfl | rfl | rfl | rfl | rfl | rfl | rfl | rfl | rfl | rfl
  · exact ck_101
  · exact ck_102
  · exact ck_103
  · exact ck_104
  · exact ck_105
  · exact ck_106
  · exact ck_107
  · exact ck_108
  · exact ck_109
  · exact ck_110
theorem ckA_92_111 : ∀ j, 92 ≤ j → j < 111 → ckM j = true := fun j h1 h2 => by
  by_cases h : j < 101
  · exact ckA_92_101 j h1 h
  · exact ckA_101_111 j (Nat.le_of_not_lt h) h2
theorem ckA_74_111 : ∀ j, 74 ≤ j → j < 111 → ckM j = true := fun j h1 h2 => by
  by_cases h : j < 92
  · exact ckA_74_92 j h1 h
  · exact ckA_92_111 j (Nat.le_of_not_lt h) h2
theorem ckA_111_120 : ∀ j, 111 ≤ j → j < 120 → ckM j = true := by
  intro j h1 h2
  rcases (show j = 111 ∨ j = 112 ∨ j = 113 ∨ j = 114 ∨ j = 115 ∨ j = 116 ∨ j = 117 ∨ j = 118 ∨ j = 119 by omega) with rfl | rfl | rfl | rfl | rfl | rfl | rfl | rfl | rfl
  · exact ck_111
  · exact ck_112
  · exact ck_113
  · exact ck_114
  · exact ck_115
  · exact ck_116
  · exact ck_117
  · exact ck_118
  · exact ck_119
theorem ckA_120_129 : ∀ j, 120 ≤ j → j < 129 → ckM j = true := by
  intro j h1 h2
  rcases (show j = 120 ∨ j = 121 ∨ j = 122 ∨ j = 123 ∨ j = 124 ∨ j = 125 ∨ j = 126 ∨ j = 127 ∨ j = 128 by omega) with rfl | rfl | rfl | rfl | rfl | rfl | rfl | rfl | rfl
  · exact ck_120
  · exact ck_121
  · exact ck_122
  · exact ck_123
  · exact ck_124
  · exact ck_125
  · exact ck_126
  · exact ck_127
  · exact ck_128
theorem ckA_111_129 : ∀ j, 111 ≤ j → j < 129 → ckM j = true := fun j h1 h2 => by
  by_cases h : j < 120
  · exact ckA_111_120 j h1 h
  · exact ckA_120_129 j (Nat.le_of_not_lt h) h2
theorem ckA_129_138 : ∀ j, 129 ≤ j → j < 138 → ckM j = true := by
  intro j h1 h2
  rcases (show j = 129 ∨ j = 130 ∨ j = 131 ∨ j = 132 ∨ j = 133 ∨ j = 134 ∨ j = 135 ∨ j = 136 ∨ j = 137 by omega) with rfl | rfl | rfl | rfl | rfl | rfl | rfl | rfl | rfl
  · exact ck_129
  · exact ck_130
  · exact ck_131
  · exact ck_132
  · exact ck_133
  · exact ck_134
  · exact ck_135
  · exact ck_136
  · exact ck_137
theorem ckA_138_148 : ∀ j, 138 ≤ j → j < 148 → ckM j = true := by
  intro j h1 h2
  rcases (show j = 138 ∨ j = 139 ∨ j = 140 ∨ j = 141 ∨ j = 142 ∨ j = 143 ∨ j = 144 ∨ j = 145 ∨ j = 146 ∨ j = 147 by omega) with rfl | rfl | rfl | rfl | rfl | rfl | rfl | rfl | rfl | rfl
  · exact ck_138
  · exact ck_139
  · exact ck_140
  · exact ck_141
  · exact ck_142
  · exact ck_143
  · exact ck_144
  · exact ck_145
  · exact ck_146
  · exact ck_147
theorem ckA_129_148 : ∀ j, 129 ≤ j → j < 148 → ckM j = true := fun j h1 h2 => by
  by_cases h : j < 138
  · exact ckA_129_138 j h1 h
  · exact ckA_138_148 j (Nat.le_of_not_lt h) h2
theorem ckA_111_148 : ∀ j, 111 ≤ j → j < 148 → ckM j = true := fun j h1 h2 => by
  by_cases h : j < 129
  · exact ckA_111_129 j h1 h
  · exact ckA_129_148 j (Nat.le_of_not_lt h) h2
theorem ckA_74_148 : ∀ j, 74 ≤ j → j < 148 → ckM j = true := fun j h1 h2 => by
  by_cases h : j < 111
  · exact ckA_74_111 j h1 h
  · exact ckA_111_148 j (Nat.le_of_not_lt h) h2
theorem ckA_0_148 : ∀ j, 0 ≤ j → j < 148 → ckM j = true := fun j h1 h2 => by
  by_cases h : j < 74
  · exact ckA_0_74 j h1 h
  · exact ckA_74_148 j (Nat.le_of_not_lt h) h2
theorem cwA_1_10 : ∀ j, 1 ≤ j → j < 10 → lw_tbl[pcT j]? = some (Cond.code (ynT j) (bytT j) (mxlT j) (rtyT j)) := by
  intro j h1 h2
  rcases (show j = 1 ∨ j = 2 ∨ j = 3 ∨ j = 4 ∨ j = 5 ∨ j = 6 ∨ j = 7 ∨ j = 8 ∨ j = 9 by omega) with rfl | rfl | rfl | rfl | rfl | rfl | rfl | rfl | rfl
  · exact cw_1
  · exact cw_2
  · exact cw_3
  · exact cw_4
  · exact cw_5
  · exact cw_6
  · exact cw_7
  · exact cw_8
  · exact cw_9
theorem cwA_10_19 : ∀ j, 10 ≤ j → j < 19 → lw_tbl[pcT j]? = some (Cond.code (ynT j) (bytT j) (mxlT j) (rtyT j)) := by
  intro j h1 h2
  rcases (show j = 10 ∨ j = 11 ∨ j = 12 ∨ j = 13 ∨ j = 14 ∨ j = 15 ∨ j = 16 ∨ j = 17 ∨ j = 18 by omega) with rfl | rfl | rfl | rfl | rfl | rfl | rfl | rfl | rfl
  · exact cw_10
  · exact cw_11
  · exact cw_12
  · exact cw_13
  · exact cw_14
  · exact cw_15
  · exact cw_16
  · exact cw_17
  · exact cw_18
theorem cwA_1_19 : ∀ j, 1 ≤ j → j < 19 → lw_tbl[pcT j]? = some (Cond.code (ynT j) (bytT j) (mxlT j) (rtyT j)) := fun j h1 h2 => by
  by_cases h : j < 10
  · exact cwA_1_10 j h1 h
  · exact cwA_10_19 j (Nat.le_of_not_lt h) h2
theorem cwA_19_28 : ∀ j, 19 ≤ j → j < 28 → lw_tbl[pcT j]? = some (Cond.code (ynT j) (bytT j) (mxlT j) (rtyT j)) := by
  intro j h1 h2
  rcases (show j = 19 ∨ j = 20 ∨ j = 21 ∨ j = 22 ∨ j = 23 ∨ j = 24 ∨ j = 25 ∨ j = 26 ∨ j = 27 by omega) with rfl | rfl | rfl | rfl | rfl | rfl | rfl | rfl | rfl
  · exact cw_19
  · exact cw_20
  · exact cw_21
  · exact cw_22
  · exact cw_23
  · exact cw_24
  · exact cw_25
  · exact cw_26
  · exact cw_27
theorem cwA_28_37 : ∀ j, 28 ≤ j → j < 37 → lw_tbl[pcT j]? = some (Cond.code (ynT j) (bytT j) (mxlT j) (rtyT j)) := by
  intro j h1 h2
  rcases (show j = 28 ∨ j = 29 ∨ j = 30 ∨ j = 31 ∨ j = 32 ∨ j = 33 ∨ j = 34 ∨ j = 35 ∨ j = 36 by omega) with rfl | rfl | rfl | rfl | rfl | rfl | rfl | rfl | rfl
  · exact cw_28
  · exact cw_29
  · exact cw_30
  · exact cw_31
  · exact cw_32
  · exact cw_33
  · exact cw_34
  · exact cw_35
  · exact cw_36
theorem cwA_19_37 : ∀ j, 19 ≤ j → j < 37 → lw_tbl[pcT j]? = some (Cond.code (ynT j) (bytT j) (mxlT j) (rtyT j)) := fun j h1 h2 => by
  by_cases h : j < 28
  · exact cwA_19_28 j h1 h
  · exact cwA_28_37 j (Nat.le_of_not_lt h) h2
theorem cwA_1_37 : ∀ j, 1 ≤ j → j < 37 → lw_tbl[pcT j]? = some (Cond.code (ynT j) (bytT j) (mxlT j) (rtyT j)) := fun j h1 h2 => by
  by_cases h : j < 19
  · exact cwA_1_19 j h1 h
  · exact cwA_19_37 j (Nat.le_of_not_lt h) h2
theorem cwA_37_46 : ∀ j, 37 ≤ j → j < 46 → lw_tbl[pcT j]? = some (Cond.code (ynT j) (bytT j) (mxlT j) (rtyT j)) := by
  intro j h1 h2
  rcases (show j = 37 ∨ j = 38 ∨ j = 39 ∨ j = 40 ∨ j = 41 ∨ j = 42 ∨ j = 43 ∨ j = 44 ∨ j = 45 by omega) with rfl | rfl | rfl | rfl | rfl | rfl | rfl | rfl | rfl
  · exact cw_37
  · exact cw_38
  · exact cw_39
  · exact cw_40
  · exact cw_41
  · exact cw_42
  · exact cw_43
  · exact cw_44
  · exact cw_45
theorem cwA_46_55 : ∀ j, 46 ≤ j → j < 55 → lw_tbl[pcT j]? = some (Cond.code (ynT j) (bytT j) (mxlT j) (rtyT j)) := by
  intro j h1 h2
  rcases (show j = 46 ∨ j = 47 ∨ j = 48 ∨ j = 49 ∨ j = 50 ∨ j = 51 ∨ j = 52 ∨ j = 53 ∨ j = 54 by omega) with rfl | rfl | rfl | rfl | rfl | rfl | rfl | rfl | rfl
  · exact cw_46
  · exact cw_47
  · exact cw_48
  · exact cw_49
  · exact cw_50
  · exact cw_51
  · exact cw_52
  · exact cw_53
  · exact cw_54
theorem cwA_37_55 : ∀ j, 37 ≤ j → j < 55 → lw_tbl[pcT j]? = some (Cond.code (ynT j) (bytT j) (mxlT j) (rtyT j)) := fun j h1 h2 => by
  by_cases h : j < 46
  · exact cwA_37_46 j h1 h
  · exact cwA_46_55 j (Nat.le_of_not_lt h) h2
theorem cwA_55_64 : ∀ j, 55 ≤ j → j < 64 → lw_tbl[pcT j]? = some (Cond.code (ynT j) (bytT j) (mxlT j) (rtyT j)) := by
  intro j h1 h2
  rcases (show j = 55 ∨ j = 56 ∨ j = 57 ∨ j = 58 ∨ j = 59 ∨ j = 60 ∨ j = 61 ∨ j = 62 ∨ j = 63 by omega) with rfl | rfl | rfl | rfl | rfl | rfl | rfl | rfl | rfl
  · exact cw_55
  · exact cw_56
  · exact cw_57
  · exact cw_58
  · exact cw_59
  · exact cw_60
  · exact cw_61
  · exact cw_62
  · exact cw_63
theorem cwA_64_74 : ∀ j, 64 ≤ j → j < 74 → lw_tbl[pcT j]? = some (Cond.code (ynT j) (bytT j) (mxlT j) (rtyT j)) := by
  intro j h1 h2
  rcases (show j = 64 ∨ j = 65 ∨ j = 66 ∨ j = 67 ∨ j = 68 ∨ j = 69 ∨ j = 70 ∨ j = 71 ∨ j = 72 ∨ j = 73 by omega) with rfl | rfl | rfl | rfl | rfl | rfl | rfl | rfl | rfl | rfl
  · exact cw_64
  · exact cw_65
  · exact cw_66
  · exact cw_67
  · exact cw_68
  · exact cw_69
  · exact cw_70
  · exact cw_71
  · exact cw_72
  · exact cw_73
theorem cwA_55_74 : ∀ j, 55 ≤ j → j < 74 → lw_tbl[pcT j]? = some (Cond.code (ynT j) (bytT j) (mxlT j) (rtyT j)) := fun j h1 h2 => by
  by_cases h : j < 64
  · exact cwA_55_64 j h1 h
  · exact cwA_64_74 j (Nat.le_of_not_lt h) h2
theorem cwA_37_74 : ∀ j, 37 ≤ j → j < 74 → lw_tbl[pcT j]? = some (Cond.code (ynT j) (bytT j) (mxlT j) (rtyT j)) := fun j h1 h2 => by
  by_cases h : j < 55
  · exact cwA_37_55 j h1 h
  · exact cwA_55_74 j (Nat.le_of_not_lt h) h2
theorem cwA_1_74 : ∀ j, 1 ≤ j → j < 74 → lw_tbl[pcT j]? = some (Cond.code (ynT j) (bytT j) (mxlT j) (rtyT j)) := fun j h1 h2 => by
  by_cases h : j < 37
  · exact cwA_1_37 j h1 h
  · exact cwA_37_74 j (Nat.le_of_not_lt h) h2
theorem cwA_74_83 : ∀ j, 74 ≤ j → j < 83 → lw_tbl[pcT j]? = some (Cond.code (ynT j) (bytT j) (mxlT j) (rtyT j)) := by
  intro j h1 h2
  rcases (show j = 74 ∨ j = 75 ∨ j = 76 ∨ j = 77 ∨ j = 78 ∨ j = 79 ∨ j = 80 ∨ j = 81 ∨ j = 82 by omega) with rfl | rfl | rfl | rfl | rfl | rfl | rfl | rfl | rfl
  · exact cw_74
  · exact cw_75
  · exact cw_76
  · exact cw_77
  · exact cw_78
  · exact cw_79
  · exact cw_80
  · exact cw_81
  · exact cw_82
theorem cwA_83_92 : ∀ j, 83 ≤ j → j < 92 → lw_tbl[pcT j]? = some (Cond.code (ynT j) (bytT j) (mxlT j) (rtyT j)) := by
  intro j h1 h2
  rcases (show j = 83 ∨ j = 84 ∨ j = 85 ∨ j = 86 ∨ j = 87 ∨ j = 88 ∨ j = 89 ∨ j = 90 ∨ j = 91 by omega) with rfl | rfl | rfl | rfl | rfl | rfl | rfl | rfl | rfl
  · exact cw_83
  · exact cw_84
  · exact cw_85
  · exact cw_86
  · exact cw_87
  · exact cw_88
  · exact cw_89
  · exact cw_90
  · exact cw_91
theorem cwA_74_92 : ∀ j, 74 ≤ j → j < 92 → lw_tbl[pcT j]? = some (Cond.code (ynT j) (bytT j) (mxlT j) (rtyT j)) := fun j h1 h2 => by
  by_cases h : j < 83
  · exact cwA_74_83 j h1 h
  · exact cwA_83_92 j (Nat.le_of_not_lt h) h2
theorem cwA_92_101 : ∀ j, 92 ≤ j → j < 101 → lw_tbl[pcT j]? = some (Cond.code (ynT j) (bytT j) (mxlT j) (rtyT j)) := by
  intro j h1 h2
  rcases (show j = 92 ∨ j = 93 ∨ j = 94 ∨ j = 95 ∨ j = 96 ∨ j = 97 ∨ j = 98 ∨ j = 99 ∨ j = 100 by omega) with rfl | rfl | rfl | rfl | rfl | rfl | rfl | rfl | rfl
  · exact cw_92
  · exact cw_93
  · exact cw_94
  · exact cw_95
  · exact cw_96
  · exact cw_97
  · exact cw_98
  · exact cw_99
  · exact cw_100
theorem cwA_101_111 : ∀ j, 101 ≤ j → j < 111 → lw_tbl[pcT j]? = some (Cond.code (ynT j) (bytT j) (mxlT j) (rtyT j)) := by
  intro j h1 h2
  rcases (show j = 101 ∨ j = 102 ∨ j = 103 ∨ j = 104 ∨ j = 105 ∨ j = 106 ∨ j = 107 ∨ j = 108 ∨ j = 109 ∨ j = 110 by omega) with rfl | rfl | rfl | rfl | rfl | rfl | rfl | rfl | rfl | rfl
  · exact cw_101
  · exact cw_102
  · exact cw_103
  · exact cw_104
  · exact cw_105
  · exact cw_106
  · exact cw_107
  · exact cw_108
  · exact cw_109
  · exact cw_110
theorem cwA_92_111 : ∀ j, 92 ≤ j → j < 111 → lw_tbl[pcT j]? = some (Cond.code (ynT j) (bytT j) (mxlT j) (rtyT j)) := fun j h1 h2 => by
  by_cases h : j < 101
  · exact cwA_92_101 j h1 h
  · exact cwA_101_111 j (Nat.le_of_not_lt h) h2
theorem cwA_74_111 : ∀ j, 74 ≤ j → j < 111 → lw_tbl[pcT j]? = some (Cond.code (ynT j) (bytT j) (mxlT j) (rtyT j)) := fun j h1 h2 => by
  by_cases h : j < 92
  · exact cwA_74_92 j h1 h
  · exact cwA_92_111 j (Nat.le_of_not_lt h) h2
theorem cwA_111_120 : ∀ j, 111 ≤ j → j < 120 → lw_tbl[pcT j]? = some (Cond.code (ynT j) (bytT j) (mxlT j) (rtyT j)) := by
  intro j h1 h2
  rcases (show j = 111 ∨ j = 112 ∨ j = 113 ∨ j = 114 ∨ j = 115 ∨ j = 116 ∨ j = 117 ∨ j = 118 ∨ j = 119 by omega) with rfl | rfl | rfl | rfl | rfl | rfl | rfl | rfl | rfl
  · exact cw_111
  · exact cw_112
  · exact cw_113
  · exact cw_114
  · exact cw_115
  · exact cw_116
  · exact cw_117
  · exact cw_118
  · exact cw_119
theorem cwA_120_129 : ∀ j, 120 ≤ j → j < 129 → lw_tbl[pcT j]? = some (Cond.code (ynT j) (bytT j) (mxlT j) (rtyT j)) := by
  intro j h1 h2
  rcases (show j = 120 ∨ j = 121 ∨ j = 122 ∨ j = 123 ∨ j = 124 ∨ j = 125 ∨ j = 126 ∨ j = 127 ∨ j = 128 by omega) with rfl | rfl | rfl | rfl | rfl | rfl | rfl | rfl | rfl
  · exact cw_120
  · exact cw_121
  · exact cw_122
  · exact cw_123
  · exact cw_124
  · exact cw_125
  · exact cw_126
  · exact cw_127
  · exact cw_128
theorem cwA_111_129 : ∀ j, 111 ≤ j → j < 129 → lw_tbl[pcT j]? = some (Cond.code (ynT j) (bytT j) (mxlT j) (rtyT j)) := fun j h1 h2 => by
  by_cases h : j < 120
  · exact cwA_111_120 j h1 h
  · exact cwA_120_129 j (Nat.le_of_not_lt h) h2
theorem cwA_129_138 : ∀ j, 129 ≤ j → j < 138 → lw_tbl[pcT j]? = some (Cond.code (ynT j) (bytT j) (mxlT j) (rtyT j)) := by
  intro j h1 h2
  rcases (show j = 129 ∨ j = 130 ∨ j = 131 ∨ j = 132 ∨ j = 133 ∨ j = 134 ∨ j = 135 ∨ j = 136 ∨ j = 137 by omega) with rfl | rfl | rfl | rfl | rfl | rfl | rfl | rfl | rfl
  · exact cw_129
  · exact cw_130
  · exact cw_131
  · exact cw_132
  · exact cw_133
  · exact cw_134
  · exact cw_135
  · exact cw_136
  · exact cw_137
theorem cwA_138_148 : ∀ j, 138 ≤ j → j < 148 → lw_tbl[pcT j]? = some (Cond.code (ynT j) (bytT j) (mxlT j) (rtyT j)) := by
  intro j h1 h2
  rcases (show j = 138 ∨ j = 139 ∨ j = 140 ∨ j = 141 ∨ j = 142 ∨ j = 143 ∨ j = 144 ∨ j = 145 ∨ j = 146 ∨ j = 147 by omega) with rfl | rfl | rfl | rfl | rfl | rfl | rfl | rfl | rfl | rfl
  · exact cw_138
  · exact cw_139
  · exact cw_140
  · exact cw_141
  · exact cw_142
  · exact cw_143
  · exact cw_144
  · exact cw_145
  · exact cw_146
  · exact cw_147
theorem cwA_129_148 : ∀ j, 129 ≤ j → j < 148 → lw_tbl[pcT j]? = some (Cond.code (ynT j) (bytT j) (mxlT j) (rtyT j)) := fun j h1 h2 => by
  by_cases h : j < 138
  · exact cwA_129_138 j h1 h
  · exact cwA_138_148 j (Nat.le_of_not_lt h) h2
theorem cwA_111_148 : ∀ j, 111 ≤ j → j < 148 → lw_tbl[pcT j]? = some (Cond.code (ynT j) (bytT j) (mxlT j) (rtyT j)) := fun j h1 h2 => by
  by_cases h : j < 129
  · exact cwA_111_129 j h1 h
  · exact cwA_129_148 j (Nat.le_of_not_lt h) h2
theorem cwA_74_148 : ∀ j, 74 ≤ j → j < 148 → lw_tbl[pcT j]? = some (Cond.code (ynT j) (bytT j) (mxlT j) (rtyT j)) := fun j h1 h2 => by
  by_cases h : j < 111
  · exact cwA_74_111 j h1 h
  · exact cwA_111_148 j (Nat.le_of_not_lt h) h2
theorem cwA_1_148 : ∀ j, 1 ≤ j → j < 148 → lw_tbl[pcT j]? = some (Cond.code (ynT j) (bytT j) (mxlT j) (rtyT j)) := fun j h1 h2 => by
  by_cases h : j < 74
  · exact cwA_1_74 j h1 h
  · exact cwA_74_148 j (Nat.le_of_not_lt h) h2
theorem codeW_ok : ∀ j, 0 < j → j < nmT → Cond.code (ynT j) (bytT j) (mxlT j) (rtyT j) ∈ tbT := fun j h1 h2 => List.mem_filter.mpr ⟨List.mem_of_getElem? (cwA_1_148 j h1 h2), rfl⟩
theorem codT_ok {j pc len : Nat} {ins : Instr} (h : codT j pc = some (ins, len)) : decode (bytT j) pc = .ok (ins, len) ∧ (pmSz ins = 0 ∨ pmSz ins = len) := by
  have hj : j < 148 := by
    refine Nat.lt_of_not_le fun hj => ?_
    have e : cdT j = [] := by
      unfold cdT
      by_cases h1 : j < 156
      · have h2 : j / 12 = 12 := by omega
        rw [h2]
        show (cdL_12).getD (j % 12) [] = []
        rw [List.getD_eq_getElem?_getD, List.getElem?_eq_none (show cdL_12.length ≤ j % 12 by show 4 ≤ j % 12; omega)]
        rfl
      · have e2 : cdL.getD (j / 12) [] = [] := by
          rw [List.getD_eq_getElem?_getD, List.getElem?_eq_none (show cdL.length ≤ j / 12 by show 13 ≤ j / 12; omega)]
          rfl
        rw [e2]
        rfl
    unfold codT at h
    rw [e] at h
    cases h
  have hc := ckA_0_148 j (Nat.zero_le _) hj
  unfold ckM at hc
  have hp : pc < 16 * (cdT j).length := by
    refine Nat.lt_of_not_le fun hp => ?_
    have h2 := h
    unfold codT at h2
    rw [List.getElem?_eq_none (show (cdT j).length ≤ pc / 16 by omega)] at h2
    cases h2
  have := List.all_eq_true.mp hc pc (List.mem_range.mpr hp)
  rw [h] at this
  simp only [Bool.and_eq_true, Bool.or_eq_true, beq_iff_eq] at this
  exact ⟨of_decide_eq_true this.1, this.2⟩
def ckC (c : Nat) (q : Nat × Nat × Nat × Nat × Nat) : Bool := Nat.blt 0 q.2.1 && Nat.blt q.2.1 nmT && Nat.ble (mxlT q.2.1) 41 && wAt (piT (clsT q.2.1)) (.initialized (ynT q.2.1).cls) && (if q.2.2.2.2 = 1 then nAt q.2.2.2.1 (.methodLinkNest (cnT c) q.1 (ynT q.2.1) "PermitSets") else wAt q.2.2.2.1 (.methodLink (cnT c) q.1 (ynT q.2.1))) && !(decide ((ynT q.2.1).cls = "java/lang/invoke/MethodHandle")) && !(decide ((ynT q.2.1).cls = "java/lang/invoke/VarHandle")) && decide ((parseMethodDescriptor (ynT q.2.1).desc).map (fun d => d.parameters.length) = some (if q.2.2.1 = 2 then narT q.2.1 else narT q.2.1 - 1)) && (if q.2.2.1 = 2 then wAt (pkT q.2.1) (.static (ynT q.2.1)) else wAt (pkT q.2.1) (.instanceMethod (ynT q.2.1))) && (!(q.2.2.1 == 0) || (wAt (psT q.2.1) (.selects (cnT (clsT q.2.1)) (ynT q.2.1) (ynT q.2.1)) && Nat.blt (clsT q.2.1) 8)) && (!(q.2.2.1 == 1) || (decide ((ynT q.2.1).name = "<init>") && decide (rtyT q.2.1 = none)))
theorem ckC_all : (List.range 10).all (fun c => (clL.getD c []).all (ckC c)) = true := by decide +kernel
theorem calT_q {j i j' kd : Nat} (h : calT j i = some (j', kd)) : ∃ q, ckC (clsT j) q = true ∧ q.1 = i ∧ q.2.1 = j' ∧ q.2.2.1 = kd := by
  unfold calT at h
  split at h
  · rename_i q hq
    cases h
    exact ⟨q, pm_all (by decide) ckC_all (List.mem_of_find?_eq_some hq), by simpa using List.find?_some hq, rfl, rfl⟩
  · cases h
theorem calT_ok {j i j' kd : Nat} (h : calT j i = some (j', kd)) : j' < nmT ∧ Cond.code (ynT j') (bytT j') (mxlT j') (rtyT j') ∈ tbT ∧ Cond.initialized (ynT j').cls ∈ tbT ∧ ((Cond.methodLink (ownT j) i (ynT j') ∈ tbT) ∨ ∃ host, Cond.methodLinkNest (ownT j) i (ynT j') host ∈ nsT) ∧ mxlT j' ≤ 41 := by
  obtain ⟨q, hc, rfl, rfl, rfl⟩ := calT_q h
  unfold ckC at hc
  simp only [Bool.and_eq_true] at hc
  obtain ⟨⟨⟨⟨⟨⟨⟨⟨⟨⟨c1, c2⟩, c3⟩, c4⟩, c5⟩, c6⟩, c7⟩, c8⟩, c9⟩, c10⟩, c11⟩ := hc
  refine ⟨Nat.blt_eq.mp c2, codeW_ok _ (Nat.blt_eq.mp c1) (Nat.blt_eq.mp c2), wAt_in c4, ?_, Nat.le_of_ble_eq_true c3⟩
  split at c5
  · exact Or.inr ⟨_, nAt_in c5⟩
  · exact Or.inl (wAt_in c5)
theorem calT_d {j i j' kd : Nat} (h : calT j i = some (j', kd)) : (ynT j').cls ≠ "java/lang/invoke/MethodHandle" ∧ (ynT j').cls ≠ "java/lang/invoke/VarHandle" ∧ (parseMethodDescriptor (ynT j').desc).map (fun d => d.parameters.length) = some (if kd = 2 then narT j' else narT j' - 1) := by
  obtain ⟨q, hc, rfl, rfl, rfl⟩ := calT_q h
  unfold ckC at hc
  simp only [Bool.and_eq_true] at hc
  obtain ⟨⟨⟨⟨⟨⟨⟨⟨⟨⟨c1, c2⟩, c3⟩, c4⟩, c5⟩, c6⟩, c7⟩, c8⟩, c9⟩, c10⟩, c11⟩ := hc
  exact ⟨by simpa using c6, by simpa using c7, of_decide_eq_true c8⟩
theorem calT_virt {j i j' : Nat} (h : calT j i = some (j', 0)) : Cond.instanceMethod (ynT j') ∈ tbT ∧ Cond.selects (cnT (clsT j')) (ynT j') (ynT j') ∈ tbT ∧ True ∧ ((ynT j').cls ≠ "java/lang/invoke/MethodHandle" ∧ (ynT j').cls ≠ "java/lang/invoke/VarHandle" ∧ (parseMethodDescriptor (ynT j').desc).map (fun d => d.parameters.length) = some (narT j' - 1)) ∧ clsT j' < nclT := by
  have hd := calT_d h
  obtain ⟨q, hc, rfl, rfl, h0⟩ := calT_q h
  unfold ckC at hc
  rw [h0] at hc
  simp only [Bool.and_eq_true] at hc
  obtain ⟨⟨⟨⟨⟨⟨⟨⟨⟨⟨c1, c2⟩, c3⟩, c4⟩, c5⟩, c6⟩, c7⟩, c8⟩, c9⟩, c10⟩, c11⟩ := hc
  have c10 : (wAt (psT q.2.1) (.selects (cnT (clsT q.2.1)) (ynT q.2.1) (ynT q.2.1)) && Nat.blt (clsT q.2.1) 8) = true := c10
  rw [Bool.and_eq_true] at c10
  exact ⟨wAt_in c9, wAt_in c10.1, trivial, hd, Nat.blt_eq.mp c10.2⟩
theorem calT_init {j i j' : Nat} (h : calT j i = some (j', 1)) : Cond.instanceMethod (ynT j') ∈ tbT ∧ (ynT j').name = "<init>" ∧ rtyT j' = none ∧ ((ynT j').cls ≠ "java/lang/invoke/MethodHandle" ∧ (ynT j').cls ≠ "java/lang/invoke/VarHandle" ∧ (parseMethodDescriptor (ynT j').desc).map (fun d => d.parameters.length) = some (narT j' - 1)) := by
  have hd := calT_d h
  obtain ⟨q, hc, rfl, rfl, h0⟩ := calT_q h
  unfold ckC at hc
  rw [h0] at hc
  simp only [Bool.and_eq_true] at hc
  obtain ⟨⟨⟨⟨⟨⟨⟨⟨⟨⟨c1, c2⟩, c3⟩, c4⟩, c5⟩, c6⟩, c7⟩, c8⟩, c9⟩, c10⟩, c11⟩ := hc
  have c11 : (decide ((ynT q.2.1).name = "<init>") && decide (rtyT q.2.1 = none)) = true := c11
  rw [Bool.and_eq_true] at c11
  exact ⟨wAt_in c9, of_decide_eq_true c11.1, of_decide_eq_true c11.2, hd⟩
theorem calT_stat {j i j' : Nat} (h : calT j i = some (j', 2)) : Cond.static (ynT j') ∈ tbT ∧ ((ynT j').cls ≠ "java/lang/invoke/MethodHandle" ∧ (ynT j').cls ≠ "java/lang/invoke/VarHandle" ∧ (parseMethodDescriptor (ynT j').desc).map (fun d => d.parameters.length) = some (narT j')) := by
  have hd := calT_d h
  obtain ⟨q, hc, rfl, rfl, h0⟩ := calT_q h
  unfold ckC at hc
  rw [h0] at hc
  simp only [Bool.and_eq_true] at hc
  obtain ⟨⟨⟨⟨⟨⟨⟨⟨⟨⟨c1, c2⟩, c3⟩, c4⟩, c5⟩, c6⟩, c7⟩, c8⟩, c9⟩, c10⟩, c11⟩ := hc
  exact ⟨wAt_in c9, hd⟩
