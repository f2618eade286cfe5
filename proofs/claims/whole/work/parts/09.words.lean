theorem in_t : ∀ w ∈ tables_1, w ∈ lw_tbl := fun _ h => List.mem_append_right _ h
theorem in_t1 : ∀ w ∈ tables_1_1, w ∈ lw_tbl := fun w h => in_t w (List.mem_append_left _ h)
theorem in_t2 : ∀ w ∈ tables_1_2, w ∈ lw_tbl := fun w h => in_t w (List.mem_append_right _ (List.mem_append_left _ h))
theorem in_t3 : ∀ w ∈ tables_1_3, w ∈ lw_tbl := fun w h => in_t w (List.mem_append_right _ (List.mem_append_right _ (List.mem_append_left _ h)))
theorem in_t4 : ∀ w ∈ tables_1_4, w ∈ lw_tbl := fun w h => in_t w (List.mem_append_right _ (List.mem_append_right _ (List.mem_append_right _ (h))))
set_option maxRecDepth 20000 in
theorem cw_1 : Cond.code (ynT 1) (bytT 1) (mxlT 1) (rtyT 1) ∈ lw_tbl := in_t1 _ (List.mem_of_getElem? (i := 14) (by rfl))
set_option maxRecDepth 20000 in
theorem cw_2 : Cond.code (ynT 2) (bytT 2) (mxlT 2) (rtyT 2) ∈ lw_tbl := in_t1 _ (List.mem_of_getElem? (i := 22) (by rfl))
set_option maxRecDepth 20000 in
theorem cw_3 : Cond.code (ynT 3) (bytT 3) (mxlT 3) (rtyT 3) ∈ lw_tbl := in_t1 _ (List.mem_of_getElem? (i := 28) (by rfl))
set_option maxRecDepth 20000 in
theorem cw_4 : Cond.code (ynT 4) (bytT 4) (mxlT 4) (rtyT 4) ∈ lw_tbl := in_t1 _ (List.mem_of_getElem? (i := 65) (by rfl))
set_option maxRecDepth 20000 in
theorem cw_5 : Cond.code (ynT 5) (bytT 5) (mxlT 5) (rtyT 5) ∈ lw_tbl := in_t1 _ (List.mem_of_getElem? (i := 84) (by rfl))
set_option maxRecDepth 20000 in
theorem cw_6 : Cond.code (ynT 6) (bytT 6) (mxlT 6) (rtyT 6) ∈ lw_tbl := in_t1 _ (List.mem_of_getElem? (i := 112) (by rfl))
set_option maxRecDepth 20000 in
theorem cw_7 : Cond.code (ynT 7) (bytT 7) (mxlT 7) (rtyT 7) ∈ lw_tbl := in_t1 _ (List.mem_of_getElem? (i := 119) (by rfl))
set_option maxRecDepth 20000 in
theorem cw_8 : Cond.code (ynT 8) (bytT 8) (mxlT 8) (rtyT 8) ∈ lw_tbl := in_t1 _ (List.mem_of_getElem? (i := 209) (by rfl))
set_option maxRecDepth 20000 in
theorem cw_9 : Cond.code (ynT 9) (bytT 9) (mxlT 9) (rtyT 9) ∈ lw_tbl := in_t1 _ (List.mem_of_getElem? (i := 212) (by rfl))
set_option maxRecDepth 20000 in
theorem cw_10 : Cond.code (ynT 10) (bytT 10) (mxlT 10) (rtyT 10) ∈ lw_tbl := in_t1 _ (List.mem_of_getElem? (i := 215) (by rfl))
set_option maxRecDepth 20000 in
theorem cw_11 : Cond.code (ynT 11) (bytT 11) (mxlT 11) (rtyT 11) ∈ lw_tbl := in_t1 _ (List.mem_of_getElem? (i := 219) (by rfl))
set_option maxRecDepth 20000 in
theorem cw_12 : Cond.code (ynT 12) (bytT 12) (mxlT 12) (rtyT 12) ∈ lw_tbl := in_t1 _ (List.mem_of_getElem? (i := 223) (by rfl))
set_option maxRecDepth 20000 in
theorem cw_13 : Cond.code (ynT 13) (bytT 13) (mxlT 13) (rtyT 13) ∈ lw_tbl := in_t1 _ (List.mem_of_getElem? (i := 226) (by rfl))
set_option maxRecDepth 20000 in
theorem cw_14 : Cond.code (ynT 14) (bytT 14) (mxlT 14) (rtyT 14) ∈ lw_tbl := in_t1 _ (List.mem_of_getElem? (i := 230) (by rfl))
set_option maxRecDepth 20000 in
theorem cw_15 : Cond.code (ynT 15) (bytT 15) (mxlT 15) (rtyT 15) ∈ lw_tbl := in_t1 _ (List.mem_of_getElem? (i := 234) (by rfl))
set_option maxRecDepth 20000 in
theorem cw_16 : Cond.code (ynT 16) (bytT 16) (mxlT 16) (rtyT 16) ∈ lw_tbl := in_t1 _ (List.mem_of_getElem? (i := 237) (by rfl))
set_option maxRecDepth 20000 in
theorem cw_17 : Cond.code (ynT 17) (bytT 17) (mxlT 17) (rtyT 17) ∈ lw_tbl := in_t2 _ (List.mem_of_getElem? (i := 1) (by rfl))
set_option maxRecDepth 20000 in
theorem cw_18 : Cond.code (ynT 18) (bytT 18) (mxlT 18) (rtyT 18) ∈ lw_tbl := in_t2 _ (List.mem_of_getElem? (i := 5) (by rfl))
set_option maxRecDepth 20000 in
theorem cw_19 : Cond.code (ynT 19) (bytT 19) (mxlT 19) (rtyT 19) ∈ lw_tbl := in_t2 _ (List.mem_of_getElem? (i := 9) (by rfl))
set_option maxRecDepth 20000 in
theorem cw_20 : Cond.code (ynT 20) (bytT 20) (mxlT 20) (rtyT 20) ∈ lw_tbl := in_t2 _ (List.mem_of_getElem? (i := 13) (by rfl))
set_option maxRecDepth 20000 in
theorem cw_21 : Cond.code (ynT 21) (bytT 21) (mxlT 21) (rtyT 21) ∈ lw_tbl := in_t2 _ (List.mem_of_getElem? (i := 17) (by rfl))
set_option maxRecDepth 20000 in
theorem cw_22 : Cond.code (ynT 22) (bytT 22) (mxlT 22) (rtyT 22) ∈ lw_tbl := in_t2 _ (List.mem_of_getElem? (i := 20) (by rfl))
set_option maxRecDepth 20000 in
theorem cw_23 : Cond.code (ynT 23) (bytT 23) (mxlT 23) (rtyT 23) ∈ lw_tbl := in_t2 _ (List.mem_of_getElem? (i := 24) (by rfl))
set_option maxRecDepth 20000 in
theorem cw_24 : Cond.code (ynT 24) (bytT 24) (mxlT 24) (rtyT 24) ∈ lw_tbl := in_t2 _ (List.mem_of_getElem? (i := 28) (by rfl))
set_option maxRecDepth 20000 in
theorem cw_25 : Cond.code (ynT 25) (bytT 25) (mxlT 25) (rtyT 25) ∈ lw_tbl := in_t2 _ (List.mem_of_getElem? (i := 32) (by rfl))
set_option maxRecDepth 20000 in
theorem cw_26 : Cond.code (ynT 26) (bytT 26) (mxlT 26) (rtyT 26) ∈ lw_tbl := in_t2 _ (List.mem_of_getElem? (i := 36) (by rfl))
set_option maxRecDepth 20000 in
theorem cw_27 : Cond.code (ynT 27) (bytT 27) (mxlT 27) (rtyT 27) ∈ lw_tbl := in_t2 _ (List.mem_of_getElem? (i := 40) (by rfl))
set_option maxRecDepth 20000 in
theorem cw_28 : Cond.code (ynT 28) (bytT 28) (mxlT 28) (rtyT 28) ∈ lw_tbl := in_t2 _ (List.mem_of_getElem? (i := 44) (by rfl))
set_option maxRecDepth 20000 in
theorem cw_29 : Cond.code (ynT 29) (bytT 29) (mxlT 29) (rtyT 29) ∈ lw_tbl := in_t2 _ (List.mem_of_getElem? (i := 49) (by rfl))
set_option maxRecDepth 20000 in
theorem cw_30 : Cond.code (ynT 30) (bytT 30) (mxlT 30) (rtyT 30) ∈ lw_tbl := in_t2 _ (List.mem_of_getElem? (i := 53) (by rfl))
set_option maxRecDepth 20000 in
theorem cw_31 : Cond.code (ynT 31) (bytT 31) (mxlT 31) (rtyT 31) ∈ lw_tbl := in_t2 _ (List.mem_of_getElem? (i := 57) (by rfl))
set_option maxRecDepth 20000 in
theorem cw_32 : Cond.code (ynT 32) (bytT 32) (mxlT 32) (rtyT 32) ∈ lw_tbl := in_t2 _ (List.mem_of_getElem? (i := 61) (by rfl))
set_option maxRecDepth 20000 in
theorem cw_33 : Cond.code (ynT 33) (bytT 33) (mxlT 33) (rtyT 33) ∈ lw_tbl := in_t2 _ (List.mem_of_getElem? (i := 65) (by rfl))
set_option maxRecDepth 20000 in
theorem cw_34 : Cond.code (ynT 34) (bytT 34) (mxlT 34) (rtyT 34) ∈ lw_tbl := in_t2 _ (List.mem_of_getElem? (i := 69) (by rfl))
set_option maxRecDepth 20000 in
theorem cw_35 : Cond.code (ynT 35) (bytT 35) (mxlT 35) (rtyT 35) ∈ lw_tbl := in_t2 _ (List.mem_of_getElem? (i := 73) (by rfl))
set_option maxRecDepth 20000 in
theorem cw_36 : Cond.code (ynT 36) (bytT 36) (mxlT 36) (rtyT 36) ∈ lw_tbl := in_t2 _ (List.mem_of_getElem? (i := 76) (by rfl))
set_option maxRecDepth 20000 in
theorem cw_37 : Cond.code (ynT 37) (bytT 37) (mxlT 37) (rtyT 37) ∈ lw_tbl := in_t2 _ (List.mem_of_getElem? (i := 80) (by rfl))
set_option maxRecDepth 20000 in
theorem cw_38 : Cond.code (ynT 38) (bytT 38) (mxlT 38) (rtyT 38) ∈ lw_tbl := in_t2 _ (List.mem_of_getElem? (i := 84) (by rfl))
set_option maxRecDepth 20000 in
theorem cw_39 : Cond.code (ynT 39) (bytT 39) (mxlT 39) (rtyT 39) ∈ lw_tbl := in_t2 _ (List.mem_of_getElem? (i := 88) (by rfl))
set_option maxRecDepth 20000 in
theorem cw_40 : Cond.code (ynT 40) (bytT 40) (mxlT 40) (rtyT 40) ∈ lw_tbl := in_t2 _ (List.mem_of_getElem? (i := 92) (by rfl))
set_option maxRecDepth 20000 in
theorem cw_41 : Cond.code (ynT 41) (bytT 41) (mxlT 41) (rtyT 41) ∈ lw_tbl := in_t2 _ (List.mem_of_getElem? (i := 96) (by rfl))
set_option maxRecDepth 20000 in
theorem cw_42 : Cond.code (ynT 42) (bytT 42) (mxlT 42) (rtyT 42) ∈ lw_tbl := in_t2 _ (List.mem_of_getElem? (i := 100) (by rfl))
set_option maxRecDepth 20000 in
theorem cw_43 : Cond.code (ynT 43) (bytT 43) (mxlT 43) (rtyT 43) ∈ lw_tbl := in_t2 _ (List.mem_of_getElem? (i := 104) (by rfl))
set_option maxRecDepth 20000 in
theorem cw_44 : Cond.code (ynT 44) (bytT 44) (mxlT 44) (rtyT 44) ∈ lw_tbl := in_t2 _ (List.mem_of_getElem? (i := 108) (by rfl))
set_option maxRecDepth 20000 in
theorem cw_45 : Cond.code (ynT 45) (bytT 45) (mxlT 45) (rtyT 45) ∈ lw_tbl := in_t2 _ (List.mem_of_getElem? (i := 112) (by rfl))
set_option maxRecDepth 20000 in
theorem cw_46 : Cond.code (ynT 46) (bytT 46) (mxlT 46) (rtyT 46) ∈ lw_tbl := in_t2 _ (List.mem_of_getElem? (i := 117) (by rfl))
set_option maxRecDepth 20000 in
theorem cw_47 : Cond.code (ynT 47) (bytT 47) (mxlT 47) (rtyT 47) ∈ lw_tbl := in_t2 _ (List.mem_of_getElem? (i := 121) (by rfl))
set_option maxRecDepth 20000 in
theorem cw_48 : Cond.code (ynT 48) (bytT 48) (mxlT 48) (rtyT 48) ∈ lw_tbl := in_t2 _ (List.mem_of_getElem? (i := 125) (by rfl))
set_option maxRecDepth 20000 in
theorem cw_49 : Cond.code (ynT 49) (bytT 49) (mxlT 49) (rtyT 49) ∈ lw_tbl := in_t2 _ (List.mem_of_getElem? (i := 129) (by rfl))
set_option maxRecDepth 20000 in
theorem cw_50 : Cond.code (ynT 50) (bytT 50) (mxlT 50) (rtyT 50) ∈ lw_tbl := in_t2 _ (List.mem_of_getElem? (i := 133) (by rfl))
set_option maxRecDepth 20000 in
theorem cw_51 : Cond.code (ynT 51) (bytT 51) (mxlT 51) (rtyT 51) ∈ lw_tbl := in_t2 _ (List.mem_of_getElem? (i := 137) (by rfl))
set_option maxRecDepth 20000 in
theorem cw_52 : Cond.code (ynT 52) (bytT 52) (mxlT 52) (rtyT 52) ∈ lw_tbl := in_t2 _ (List.mem_of_getElem? (i := 141) (by rfl))
set_option maxRecDepth 20000 in
theorem cw_53 : Cond.code (ynT 53) (bytT 53) (mxlT 53) (rtyT 53) ∈ lw_tbl := in_t2 _ (List.mem_of_getElem? (i := 144) (by rfl))
set_option maxRecDepth 20000 in
theorem cw_54 : Cond.code (ynT 54) (bytT 54) (mxlT 54) (rtyT 54) ∈ lw_tbl := in_t2 _ (List.mem_of_getElem? (i := 147) (by rfl))
set_option maxRecDepth 20000 in
theorem cw_55 : Cond.code (ynT 55) (bytT 55) (mxlT 55) (rtyT 55) ∈ lw_tbl := in_t2 _ (List.mem_of_getElem? (i := 150) (by rfl))
set_option maxRecDepth 20000 in
theorem cw_56 : Cond.code (ynT 56) (bytT 56) (mxlT 56) (rtyT 56) ∈ lw_tbl := in_t2 _ (List.mem_of_getElem? (i := 154) (by rfl))
set_option maxRecDepth 20000 in
theorem cw_57 : Cond.code (ynT 57) (bytT 57) (mxlT 57) (rtyT 57) ∈ lw_tbl := in_t2 _ (List.mem_of_getElem? (i := 157) (by rfl))
set_option maxRecDepth 20000 in
theorem cw_58 : Cond.code (ynT 58) (bytT 58) (mxlT 58) (rtyT 58) ∈ lw_tbl := in_t2 _ (List.mem_of_getElem? (i := 162) (by rfl))
set_option maxRecDepth 20000 in
theorem cw_59 : Cond.code (ynT 59) (bytT 59) (mxlT 59) (rtyT 59) ∈ lw_tbl := in_t2 _ (List.mem_of_getElem? (i := 166) (by rfl))
set_option maxRecDepth 20000 in
theorem cw_60 : Cond.code (ynT 60) (bytT 60) (mxlT 60) (rtyT 60) ∈ lw_tbl := in_t2 _ (List.mem_of_getElem? (i := 170) (by rfl))
set_option maxRecDepth 20000 in
theorem cw_61 : Cond.code (ynT 61) (bytT 61) (mxlT 61) (rtyT 61) ∈ lw_tbl := in_t2 _ (List.mem_of_getElem? (i := 174) (by rfl))
set_option maxRecDepth 20000 in
theorem cw_62 : Cond.code (ynT 62) (bytT 62) (mxlT 62) (rtyT 62) ∈ lw_tbl := in_t2 _ (List.mem_of_getElem? (i := 178) (by rfl))
set_option maxRecDepth 20000 in
theorem cw_63 : Cond.code (ynT 63) (bytT 63) (mxlT 63) (rtyT 63) ∈ lw_tbl := in_t2 _ (List.mem_of_getElem? (i := 182) (by rfl))
set_option maxRecDepth 20000 in
theorem cw_64 : Cond.code (ynT 64) (bytT 64) (mxlT 64) (rtyT 64) ∈ lw_tbl := in_t2 _ (List.mem_of_getElem? (i := 186) (by rfl))
set_option maxRecDepth 20000 in
theorem cw_65 : Cond.code (ynT 65) (bytT 65) (mxlT 65) (rtyT 65) ∈ lw_tbl := in_t2 _ (List.mem_of_getElem? (i := 190) (by rfl))
set_option maxRecDepth 20000 in
theorem cw_66 : Cond.code (ynT 66) (bytT 66) (mxlT 66) (rtyT 66) ∈ lw_tbl := in_t2 _ (List.mem_of_getElem? (i := 194) (by rfl))
set_option maxRecDepth 20000 in
theorem cw_67 : Cond.code (ynT 67) (bytT 67) (mxlT 67) (rtyT 67) ∈ lw_tbl := in_t2 _ (List.mem_of_getElem? (i := 198) (by rfl))
set_option maxRecDepth 20000 in
theorem cw_68 : Cond.code (ynT 68) (bytT 68) (mxlT 68) (rtyT 68) ∈ lw_tbl := in_t2 _ (List.mem_of_getElem? (i := 202) (by rfl))
set_option maxRecDepth 20000 in
theorem cw_69 : Cond.code (ynT 69) (bytT 69) (mxlT 69) (rtyT 69) ∈ lw_tbl := in_t2 _ (List.mem_of_getElem? (i := 206) (by rfl))
set_option maxRecDepth 20000 in
theorem cw_70 : Cond.code (ynT 70) (bytT 70) (mxlT 70) (rtyT 70) ∈ lw_tbl := in_t2 _ (List.mem_of_getElem? (i := 210) (by rfl))
set_option maxRecDepth 20000 in
theorem cw_71 : Cond.code (ynT 71) (bytT 71) (mxlT 71) (rtyT 71) ∈ lw_tbl := in_t2 _ (List.mem_of_getElem? (i := 214) (by rfl))
set_option maxRecDepth 20000 in
theorem cw_72 : Cond.code (ynT 72) (bytT 72) (mxlT 72) (rtyT 72) ∈ lw_tbl := in_t2 _ (List.mem_of_getElem? (i := 218) (by rfl))
set_option maxRecDepth 20000 in
theorem cw_73 : Cond.code (ynT 73) (bytT 73) (mxlT 73) (rtyT 73) ∈ lw_tbl := in_t2 _ (List.mem_of_getElem? (i := 222) (by rfl))
set_option maxRecDepth 20000 in
theorem cw_74 : Cond.code (ynT 74) (bytT 74) (mxlT 74) (rtyT 74) ∈ lw_tbl := in_t2 _ (List.mem_of_getElem? (i := 226) (by rfl))
set_option maxRecDepth 20000 in
theorem cw_75 : Cond.code (ynT 75) (bytT 75) (mxlT 75) (rtyT 75) ∈ lw_tbl := in_t2 _ (List.mem_of_getElem? (i := 230) (by rfl))
set_option maxRecDepth 20000 in
theorem cw_76 : Cond.code (ynT 76) (bytT 76) (mxlT 76) (rtyT 76) ∈ lw_tbl := in_t2 _ (List.mem_of_getElem? (i := 234) (by rfl))
set_option maxRecDepth 20000 in
theorem cw_77 : Cond.code (ynT 77) (bytT 77) (mxlT 77) (rtyT 77) ∈ lw_tbl := in_t3 _ (List.mem_of_getElem? (i := 0) (by rfl))
set_option maxRecDepth 20000 in
theorem cw_78 : Cond.code (ynT 78) (bytT 78) (mxlT 78) (rtyT 78) ∈ lw_tbl := in_t3 _ (List.mem_of_getElem? (i := 4) (by rfl))
set_option maxRecDepth 20000 in
theorem cw_79 : Cond.code (ynT 79) (bytT 79) (mxlT 79) (rtyT 79) ∈ lw_tbl := in_t3 _ (List.mem_of_getElem? (i := 8) (by rfl))
set_option maxRecDepth 20000 in
theorem cw_80 : Cond.code (ynT 80) (bytT 80) (mxlT 80) (rtyT 80) ∈ lw_tbl := in_t3 _ (List.mem_of_getElem? (i := 12) (by rfl))
set_option maxRecDepth 20000 in
theorem cw_81 : Cond.code (ynT 81) (bytT 81) (mxlT 81) (rtyT 81) ∈ lw_tbl := in_t3 _ (List.mem_of_getElem? (i := 16) (by rfl))
set_option maxRecDepth 20000 in
theorem cw_82 : Cond.code (ynT 82) (bytT 82) (mxlT 82) (rtyT 82) ∈ lw_tbl := in_t3 _ (List.mem_of_getElem? (i := 20) (by rfl))
set_option maxRecDepth 20000 in
theorem cw_83 : Cond.code (ynT 83) (bytT 83) (mxlT 83) (rtyT 83) ∈ lw_tbl := in_t3 _ (List.mem_of_getElem? (i := 24) (by rfl))
set_option maxRecDepth 20000 in
theorem cw_84 : Cond.code (ynT 84) (bytT 84) (mxlT 84) (rtyT 84) ∈ lw_tbl := in_t3 _ (List.mem_of_getElem? (i := 27) (by rfl))
set_option maxRecDepth 20000 in
theorem cw_85 : Cond.code (ynT 85) (bytT 85) (mxlT 85) (rtyT 85) ∈ lw_tbl := in_t3 _ (List.mem_of_getElem? (i := 30) (by rfl))
set_option maxRecDepth 20000 in
theorem cw_86 : Cond.code (ynT 86) (bytT 86) (mxlT 86) (rtyT 86) ∈ lw_tbl := in_t3 _ (List.mem_of_getElem? (i := 33) (by rfl))
set_option maxRecDepth 20000 in
theorem cw_87 : Cond.code (ynT 87) (bytT 87) (mxlT 87) (rtyT 87) ∈ lw_tbl := in_t3 _ (List.mem_of_getElem? (i := 36) (by rfl))
set_option maxRecDepth 20000 in
theorem cw_88 : Cond.code (ynT 88) (bytT 88) (mxlT 88) (rtyT 88) ∈ lw_tbl := in_t3 _ (List.mem_of_getElem? (i := 43) (by rfl))
set_option maxRecDepth 20000 in
theorem cw_89 : Cond.code (ynT 89) (bytT 89) (mxlT 89) (rtyT 89) ∈ lw_tbl := in_t3 _ (List.mem_of_getElem? (i := 47) (by rfl))
set_option maxRecDepth 20000 in
theorem cw_90 : Cond.code (ynT 90) (bytT 90) (mxlT 90) (rtyT 90) ∈ lw_tbl := in_t3 _ (List.mem_of_getElem? (i := 51) (by rfl))
set_option maxRecDepth 20000 in
theorem cw_91 : Cond.code (ynT 91) (bytT 91) (mxlT 91) (rtyT 91) ∈ lw_tbl := in_t3 _ (List.mem_of_getElem? (i := 56) (by rfl))
set_option maxRecDepth 20000 in
theorem cw_92 : Cond.code (ynT 92) (bytT 92) (mxlT 92) (rtyT 92) ∈ lw_tbl := in_t3 _ (List.mem_of_getElem? (i := 60) (by rfl))
set_option maxRecDepth 20000 in
theorem cw_93 : Cond.code (ynT 93) (bytT 93) (mxlT 93) (rtyT 93) ∈ lw_tbl := in_t3 _ (List.mem_of_getElem? (i := 64) (by rfl))
set_option maxRecDepth 20000 in
theorem cw_94 : Cond.code (ynT 94) (bytT 94) (mxlT 94) (rtyT 94) ∈ lw_tbl := in_t3 _ (List.mem_of_getElem? (i := 68) (by rfl))
set_option maxRecDepth 20000 in
theorem cw_95 : Cond.code (ynT 95) (bytT 95) (mxlT 95) (rtyT 95) ∈ lw_tbl := in_t3 _ (List.mem_of_getElem? (i := 73) (by rfl))
set_option maxRecDepth 20000 in
theorem cw_96 : Cond.code (ynT 96) (bytT 96) (mxlT 96) (rtyT 96) ∈ lw_tbl := in_t3 _ (List.mem_of_getElem? (i := 76) (by rfl))
set_option maxRecDepth 20000 in
theorem cw_97 : Cond.code (ynT 97) (bytT 97) (mxlT 97) (rtyT 97) ∈ lw_tbl := in_t3 _ (List.mem_of_getElem? (i := 79) (by rfl))
set_option maxRecDepth 20000 in
theorem cw_98 : Cond.code (ynT 98) (bytT 98) (mxlT 98) (rtyT 98) ∈ lw_tbl := in_t3 _ (List.mem_of_getElem? (i := 83) (by rfl))
set_option maxRecDepth 20000 in
theorem cw_99 : Cond.code (ynT 99) (bytT 99) (mxlT 99) (rtyT 99) ∈ lw_tbl := in_t3 _ (List.mem_of_getElem? (i := 86) (by rfl))
set_option maxRecDepth 20000 in
theorem cw_100 : Cond.code (ynT 100) (bytT 100) (mxlT 100) (rtyT 100) ∈ lw_tbl := in_t3 _ (List.mem_of_getElem? (i := 90) (by rfl))
set_option maxRecDepth 20000 in
theorem cw_101 : Cond.code (ynT 101) (bytT 101) (mxlT 101) (rtyT 101) ∈ lw_tbl := in_t3 _ (List.mem_of_getElem? (i := 95) (by rfl))
set_option maxRecDepth 20000 in
theorem cw_102 : Cond.code (ynT 102) (bytT 102) (mxlT 102) (rtyT 102) ∈ lw_tbl := in_t4 _ (List.mem_of_getElem? (i := 2) (by rfl))
set_option maxRecDepth 20000 in
theorem cw_103 : Cond.code (ynT 103) (bytT 103) (mxlT 103) (rtyT 103) ∈ lw_tbl := in_t4 _ (List.mem_of_getElem? (i := 5) (by rfl))
set_option maxRecDepth 20000 in
theorem cw_104 : Cond.code (ynT 104) (bytT 104) (mxlT 104) (rtyT 104) ∈ lw_tbl := in_t4 _ (List.mem_of_getElem? (i := 9) (by rfl))
set_option maxRecDepth 20000 in
theorem cw_105 : Cond.code (ynT 105) (bytT 105) (mxlT 105) (rtyT 105) ∈ lw_tbl := in_t4 _ (List.mem_of_getElem? (i := 13) (by rfl))
set_option maxRecDepth 20000 in
theorem cw_106 : Cond.code (ynT 106) (bytT 106) (mxlT 106) (rtyT 106) ∈ lw_tbl := in_t4 _ (List.mem_of_getElem? (i := 17) (by rfl))
set_option maxRecDepth 20000 in
theorem cw_107 : Cond.code (ynT 107) (bytT 107) (mxlT 107) (rtyT 107) ∈ lw_tbl := in_t4 _ (List.mem_of_getElem? (i := 21) (by rfl))
set_option maxRecDepth 20000 in
theorem cw_108 : Cond.code (ynT 108) (bytT 108) (mxlT 108) (rtyT 108) ∈ lw_tbl := in_t4 _ (List.mem_of_getElem? (i := 25) (by rfl))
set_option maxRecDepth 20000 in
theorem cw_109 : Cond.code (ynT 109) (bytT 109) (mxlT 109) (rtyT 109) ∈ lw_tbl := in_t4 _ (List.mem_of_getElem? (i := 29) (by rfl))
set_option maxRecDepth 20000 in
theorem cw_110 : Cond.code (ynT 110) (bytT 110) (mxlT 110) (rtyT 110) ∈ lw_tbl := in_t4 _ (List.mem_of_getElem? (i := 34) (by rfl))
set_option maxRecDepth 20000 in
theorem cw_111 : Cond.code (ynT 111) (bytT 111) (mxlT 111) (rtyT 111) ∈ lw_tbl := in_t4 _ (List.mem_of_getElem? (i := 38) (by rfl))
set_option maxRecDepth 20000 in
theorem cw_112 : Cond.code (ynT 112) (bytT 112) (mxlT 112) (rtyT 112) ∈ lw_tbl := in_t4 _ (List.mem_of_getElem? (i := 42) (by rfl))
set_option maxRecDepth 20000 in
theorem cw_113 : Cond.code (ynT 113) (bytT 113) (mxlT 113) (rtyT 113) ∈ lw_tbl := in_t4 _ (List.mem_of_getElem? (i := 46) (by rfl))
set_option maxRecDepth 20000 in
theorem cw_114 : Cond.code (ynT 114) (bytT 114) (mxlT 114) (rtyT 114) ∈ lw_tbl := in_t4 _ (List.mem_of_getElem? (i := 50) (by rfl))
set_option maxRecDepth 20000 in
theorem cw_115 : Cond.code (ynT 115) (bytT 115) (mxlT 115) (rtyT 115) ∈ lw_tbl := in_t4 _ (List.mem_of_getElem? (i := 54) (by rfl))
set_option maxRecDepth 20000 in
theorem cw_116 : Cond.code (ynT 116) (bytT 116) (mxlT 116) (rtyT 116) ∈ lw_tbl := in_t4 _ (List.mem_of_getElem? (i := 58) (by rfl))
set_option maxRecDepth 20000 in
theorem cw_117 : Cond.code (ynT 117) (bytT 117) (mxlT 117) (rtyT 117) ∈ lw_tbl := in_t4 _ (List.mem_of_getElem? (i := 62) (by rfl))
set_option maxRecDepth 20000 in
theorem cw_118 : Cond.code (ynT 118) (bytT 118) (mxlT 118) (rtyT 118) ∈ lw_tbl := in_t4 _ (List.mem_of_getElem? (i := 66) (by rfl))
set_option maxRecDepth 20000 in
theorem cw_119 : Cond.code (ynT 119) (bytT 119) (mxlT 119) (rtyT 119) ∈ lw_tbl := in_t4 _ (List.mem_of_getElem? (i := 70) (by rfl))
set_option maxRecDepth 20000 in
theorem cw_120 : Cond.code (ynT 120) (bytT 120) (mxlT 120) (rtyT 120) ∈ lw_tbl := in_t4 _ (List.mem_of_getElem? (i := 74) (by rfl))
set_option maxRecDepth 20000 in
theorem cw_121 : Cond.code (ynT 121) (bytT 121) (mxlT 121) (rtyT 121) ∈ lw_tbl := in_t4 _ (List.mem_of_getElem? (i := 78) (by rfl))
set_option maxRecDepth 20000 in
theorem cw_122 : Cond.code (ynT 122) (bytT 122) (mxlT 122) (rtyT 122) ∈ lw_tbl := in_t4 _ (List.mem_of_getElem? (i := 82) (by rfl))
set_option maxRecDepth 20000 in
theorem cw_123 : Cond.code (ynT 123) (bytT 123) (mxlT 123) (rtyT 123) ∈ lw_tbl := in_t4 _ (List.mem_of_getElem? (i := 86) (by rfl))
set_option maxRecDepth 20000 in
theorem cw_124 : Cond.code (ynT 124) (bytT 124) (mxlT 124) (rtyT 124) ∈ lw_tbl := in_t4 _ (List.mem_of_getElem? (i := 90) (by rfl))
set_option maxRecDepth 20000 in
theorem cw_125 : Cond.code (ynT 125) (bytT 125) (mxlT 125) (rtyT 125) ∈ lw_tbl := in_t4 _ (List.mem_of_getElem? (i := 94) (by rfl))
set_option maxRecDepth 20000 in
theorem cw_126 : Cond.code (ynT 126) (bytT 126) (mxlT 126) (rtyT 126) ∈ lw_tbl := in_t4 _ (List.mem_of_getElem? (i := 97) (by rfl))
set_option maxRecDepth 20000 in
theorem cw_127 : Cond.code (ynT 127) (bytT 127) (mxlT 127) (rtyT 127) ∈ lw_tbl := in_t4 _ (List.mem_of_getElem? (i := 101) (by rfl))
set_option maxRecDepth 20000 in
theorem cw_128 : Cond.code (ynT 128) (bytT 128) (mxlT 128) (rtyT 128) ∈ lw_tbl := in_t4 _ (List.mem_of_getElem? (i := 105) (by rfl))
set_option maxRecDepth 20000 in
theorem cw_129 : Cond.code (ynT 129) (bytT 129) (mxlT 129) (rtyT 129) ∈ lw_tbl := in_t4 _ (List.mem_of_getElem? (i := 109) (by rfl))
set_option maxRecDepth 20000 in
theorem cw_130 : Cond.code (ynT 130) (bytT 130) (mxlT 130) (rtyT 130) ∈ lw_tbl := in_t4 _ (List.mem_of_getElem? (i := 113) (by rfl))
set_option maxRecDepth 20000 in
theorem cw_131 : Cond.code (ynT 131) (bytT 131) (mxlT 131) (rtyT 131) ∈ lw_tbl := in_t4 _ (List.mem_of_getElem? (i := 117) (by rfl))
set_option maxRecDepth 20000 in
theorem cw_132 : Cond.code (ynT 132) (bytT 132) (mxlT 132) (rtyT 132) ∈ lw_tbl := in_t4 _ (List.mem_of_getElem? (i := 121) (by rfl))
set_option maxRecDepth 20000 in
theorem cw_133 : Cond.code (ynT 133) (bytT 133) (mxlT 133) (rtyT 133) ∈ lw_tbl := in_t4 _ (List.mem_of_getElem? (i := 125) (by rfl))
set_option maxRecDepth 20000 in
theorem cw_134 : Cond.code (ynT 134) (bytT 134) (mxlT 134) (rtyT 134) ∈ lw_tbl := in_t4 _ (List.mem_of_getElem? (i := 129) (by rfl))
set_option maxRecDepth 20000 in
theorem cw_135 : Cond.code (ynT 135) (bytT 135) (mxlT 135) (rtyT 135) ∈ lw_tbl := in_t4 _ (List.mem_of_getElem? (i := 133) (by rfl))
set_option maxRecDepth 20000 in
theorem cw_136 : Cond.code (ynT 136) (bytT 136) (mxlT 136) (rtyT 136) ∈ lw_tbl := in_t4 _ (List.mem_of_getElem? (i := 137) (by rfl))
set_option maxRecDepth 20000 in
theorem cw_137 : Cond.code (ynT 137) (bytT 137) (mxlT 137) (rtyT 137) ∈ lw_tbl := in_t4 _ (List.mem_of_getElem? (i := 140) (by rfl))
set_option maxRecDepth 20000 in
theorem cw_138 : Cond.code (ynT 138) (bytT 138) (mxlT 138) (rtyT 138) ∈ lw_tbl := in_t4 _ (List.mem_of_getElem? (i := 144) (by rfl))
set_option maxRecDepth 20000 in
theorem cw_139 : Cond.code (ynT 139) (bytT 139) (mxlT 139) (rtyT 139) ∈ lw_tbl := in_t4 _ (List.mem_of_getElem? (i := 147) (by rfl))
set_option maxRecDepth 20000 in
theorem cw_140 : Cond.code (ynT 140) (bytT 140) (mxlT 140) (rtyT 140) ∈ lw_tbl := in_t4 _ (List.mem_of_getElem? (i := 150) (by rfl))
set_option maxRecDepth 20000 in
theorem cw_141 : Cond.code (ynT 141) (bytT 141) (mxlT 141) (rtyT 141) ∈ lw_tbl := in_t4 _ (List.mem_of_getElem? (i := 153) (by rfl))
set_option maxRecDepth 20000 in
theorem cw_142 : Cond.code (ynT 142) (bytT 142) (mxlT 142) (rtyT 142) ∈ lw_tbl := in_t4 _ (List.mem_of_getElem? (i := 157) (by rfl))
set_option maxRecDepth 20000 in
theorem cw_143 : Cond.code (ynT 143) (bytT 143) (mxlT 143) (rtyT 143) ∈ lw_tbl := in_t4 _ (List.mem_of_getElem? (i := 161) (by rfl))
set_option maxRecDepth 20000 in
theorem cw_144 : Cond.code (ynT 144) (bytT 144) (mxlT 144) (rtyT 144) ∈ lw_tbl := in_t4 _ (List.mem_of_getElem? (i := 165) (by rfl))
set_option maxRecDepth 20000 in
theorem cw_145 : Cond.code (ynT 145) (bytT 145) (mxlT 145) (rtyT 145) ∈ lw_tbl := in_t4 _ (List.mem_of_getElem? (i := 169) (by rfl))
set_option maxRecDepth 20000 in
theorem cw_146 : Cond.code (ynT 146) (bytT 146) (mxlT 146) (rtyT 146) ∈ lw_tbl := in_t4 _ (List.mem_of_getElem? (i := 173) (by rfl))
set_option maxRecDepth 20000 in
theorem cw_147 : Cond.code (ynT 147) (bytT 147) (mxlT 147) (rtyT 147) ∈ lw_tbl := in_t4 _ (List.mem_of_getElem? (i := 177) (by rfl))
theorem cwA_1_10 : ∀ j, 1 ≤ j → j < 10 → Cond.code (ynT j) (bytT j) (mxlT j) (rtyT j) ∈ lw_tbl := by
  intro j h1 h2
  rcases (show j = 1 ∨ j = 2 ∨ j = 3 ∨ j = 4 ∨ j = 5 ∨ j = 6 ∨ j = 7 ∨ j = 8 ∨ j = 9 by omega) with rfl | rfl | rfl | rfl | rfl | rfl | rfl | rfl | rfl
  · exact cw_1
  · exact cw_2
  · exact cw_3
  · exact cw_4
  · exact cw_5
  · exact cw_6
  · exact cw_7
  · exact cw_8
  · exact cw_9
theorem cwA_10_19 : ∀ j, 10 ≤ j → j < 19 → Cond.code (ynT j) (bytT j) (mxlT j) (rtyT j) ∈ lw_tbl := by
  intro j h1 h2
  rcases (show j = 10 ∨ j = 11 ∨ j = 12 ∨ j = 13 ∨ j = 14 ∨ j = 15 ∨ j = 16 ∨ j = 17 ∨ j = 18 by omega) with rfl | rfl | rfl | rfl | rfl | rfl | rfl | rfl | rfl
  · exact cw_10
  · exact cw_11
  · exact cw_12
  · exact cw_13
  · exact cw_14
  · exact cw_15
  · exact cw_16
  · exact cw_17
  · exact cw_18
theorem cwA_1_19 : ∀ j, 1 ≤ j → j < 19 → Cond.code (ynT j) (bytT j) (mxlT j) (rtyT j) ∈ lw_tbl := fun j h1 h2 => by
  by_cases h : j < 10
  · exact cwA_1_10 j h1 h
  · exact cwA_10_19 j (Nat.le_of_not_lt h) h2
theorem cwA_19_28 : ∀ j, 19 ≤ j → j < 28 → Cond.code (ynT j) (bytT j) (mxlT j) (rtyT j) ∈ lw_tbl := by
  intro j h1 h2
  rcases (show j = 19 ∨ j = 20 ∨ j = 21 ∨ j = 22 ∨ j = 23 ∨ j = 24 ∨ j = 25 ∨ j = 26 ∨ j = 27 by omega) with rfl | rfl | rfl | rfl | rfl | rfl | rfl | rfl | rfl
  · exact cw_19
  · exact cw_20
  · exact cw_21
  · exact cw_22
  · exact cw_23
  · exact cw_24
  · exact cw_25
  · exact cw_26
  · exact cw_27
theorem cwA_28_37 : ∀ j, 28 ≤ j → j < 37 → Cond.code (ynT j) (bytT j) (mxlT j) (rtyT j) ∈ lw_tbl := by
  intro j h1 h2
  rcases (show j = 28 ∨ j = 29 ∨ j = 30 ∨ j = 31 ∨ j = 32 ∨ j = 33 ∨ j = 34 ∨ j = 35 ∨ j = 36 by omega) with rfl | rfl | rfl | rfl | rfl | rfl | rfl | rfl | rfl
  · exact cw_28
  · exact cw_29
  · exact cw_30
  · exact cw_31
  · exact cw_32
  · exact cw_33
  · exact cw_34
  · exact cw_35
  · exact cw_36
theorem cwA_19_37 : ∀ j, 19 ≤ j → j < 37 → Cond.code (ynT j) (bytT j) (mxlT j) (rtyT j) ∈ lw_tbl := fun j h1 h2 => by
  by_cases h : j < 28
  · exact cwA_19_28 j h1 h
  · exact cwA_28_37 j (Nat.le_of_not_lt h) h2
theorem cwA_1_37 : ∀ j, 1 ≤ j → j < 37 → Cond.code (ynT j) (bytT j) (mxlT j) (rtyT j) ∈ lw_tbl := fun j h1 h2 => by
  by_cases h : j < 19
  · exact cwA_1_19 j h1 h
  · exact cwA_19_37 j (Nat.le_of_not_lt h) h2
theorem cwA_37_46 : ∀ j, 37 ≤ j → j < 46 → Cond.code (ynT j) (bytT j) (mxlT j) (rtyT j) ∈ lw_tbl := by
  intro j h1 h2
  rcases (show j = 37 ∨ j = 38 ∨ j = 39 ∨ j = 40 ∨ j = 41 ∨ j = 42 ∨ j = 43 ∨ j = 44 ∨ j = 45 by omega) with rfl | rfl | rfl | rfl | rfl | rfl | rfl | rfl | rfl
  · exact cw_37
  · exact cw_38
  · exact cw_39
  · exact cw_40
  · exact cw_41
  · exact cw_42
  · exact cw_43
  · exact cw_44
  · exact cw_45
theorem cwA_46_55 : ∀ j, 46 ≤ j → j < 55 → Cond.code (ynT j) (bytT j) (mxlT j) (rtyT j) ∈ lw_tbl := by
  intro j h1 h2
  rcases (show j = 46 ∨ j = 47 ∨ j = 48 ∨ j = 49 ∨ j = 50 ∨ j = 51 ∨ j = 52 ∨ j = 53 ∨ j = 54 by omega) with rfl | rfl | rfl | rfl | rfl | rfl | rfl | rfl | rfl
  · exact cw_46
  · exact cw_47
  · exact cw_48
  · exact cw_49
  · exact cw_50
  · exact cw_51
  · exact cw_52
  · exact cw_53
  · exact cw_54
theorem cwA_37_55 : ∀ j, 37 ≤ j → j < 55 → Cond.code (ynT j) (bytT j) (mxlT j) (rtyT j) ∈ lw_tbl := fun j h1 h2 => by
  by_cases h : j < 46
  · exact cwA_37_46 j h1 h
  · exact cwA_46_55 j (Nat.le_of_not_lt h) h2
theorem cwA_55_64 : ∀ j, 55 ≤ j → j < 64 → Cond.code (ynT j) (bytT j) (mxlT j) (rtyT j) ∈ lw_tbl := by
  intro j h1 h2
  rcases (show j = 55 ∨ j = 56 ∨ j = 57 ∨ j = 58 ∨ j = 59 ∨ j = 60 ∨ j = 61 ∨ j = 62 ∨ j = 63 by omega) with rfl | rfl | rfl | rfl | rfl | rfl | rfl | rfl | rfl
  · exact cw_55
  · exact cw_56
  · exact cw_57
  · exact cw_58
  · exact cw_59
  · exact cw_60
  · exact cw_61
  · exact cw_62
  · exact cw_63
theorem cwA_64_74 : ∀ j, 64 ≤ j → j < 74 → Cond.code (ynT j) (bytT j) (mxlT j) (rtyT j) ∈ lw_tbl := by
  intro j h1 h2
  rcases (show j = 64 ∨ j = 65 ∨ j = 66 ∨ j = 67 ∨ j = 68 ∨ j = 69 ∨ j = 70 ∨ j = 71 ∨ j = 72 ∨ j = 73 by omega) with rfl | rfl | rfl | rfl | rfl | rfl | rfl | rfl | rfl | rfl
  · exact cw_64
  · exact cw_65
  · exact cw_66
  · exact cw_67
  · exact cw_68
  · exact cw_69
  · exact cw_70
  · exact cw_71
  · exact cw_72
  · exact cw_73
theorem cwA_55_74 : ∀ j, 55 ≤ j → j < 74 → Cond.code (ynT j) (bytT j) (mxlT j) (rtyT j) ∈ lw_tbl := fun j h1 h2 => by
  by_cases h : j < 64
  · exact cwA_55_64 j h1 h
  · exact cwA_64_74 j (Nat.le_of_not_lt h) h2
theorem cwA_37_74 : ∀ j, 37 ≤ j → j < 74 → Cond.code (ynT j) (bytT j) (mxlT j) (rtyT j) ∈ lw_tbl := fun j h1 h2 => by
  by_cases h : j < 55
  · exact cwA_37_55 j h1 h
  · exact cwA_55_74 j (Nat.le_of_not_lt h) h2
theorem cwA_1_74 : ∀ j, 1 ≤ j → j < 74 → Cond.code (ynT j) (bytT j) (mxlT j) (rtyT j) ∈ lw_tbl := fun j h1 h2 => by
  by_cases h : j < 37
  · exact cwA_1_37 j h1 h
  · exact cwA_37_74 j (Nat.le_of_not_lt h) h2
theorem cwA_74_83 : ∀ j, 74 ≤ j → j < 83 → Cond.code (ynT j) (bytT j) (mxlT j) (rtyT j) ∈ lw_tbl := by
  intro j h1 h2
  rcases (show j = 74 ∨ j = 75 ∨ j = 76 ∨ j = 77 ∨ j = 78 ∨ j = 79 ∨ j = 80 ∨ j = 81 ∨ j = 82 by omega) with rfl | rfl | rfl | rfl | rfl | rfl | rfl | rfl | rfl
  · exact cw_74
  · exact cw_75
  · exact cw_76
  · exact cw_77
  · exact cw_78
  · exact cw_79
  · exact cw_80
  · exact cw_81
  · exact cw_82
theorem cwA_83_92 : ∀ j, 83 ≤ j → j < 92 → Cond.code (ynT j) (bytT j) (mxlT j) (rtyT j) ∈ lw_tbl := by
  intro j h1 h2
  rcases (show j = 83 ∨ j = 84 ∨ j = 85 ∨ j = 86 ∨ j = 87 ∨ j = 88 ∨ j = 89 ∨ j = 90 ∨ j = 91 by omega) with rfl | rfl | rfl | rfl | rfl | rfl | rfl | rfl | rfl
  · exact cw_83
  · exact cw_84
  · exact cw_85
  · exact cw_86
  · exact cw_87
  · exact cw_88
  · exact cw_89
  · exact cw_90
  · exact cw_91
theorem cwA_74_92 : ∀ j, 74 ≤ j → j < 92 → Cond.code (ynT j) (bytT j) (mxlT j) (rtyT j) ∈ lw_tbl := fun j h1 h2 => by
  by_cases h : j < 83
  · exact cwA_74_83 j h1 h
  · exact cwA_83_92 j (Nat.le_of_not_lt h) h2
theorem cwA_92_101 : ∀ j, 92 ≤ j → j < 101 → Cond.code (ynT j) (bytT j) (mxlT j) (rtyT j) ∈ lw_tbl := by
  intro j h1 h2
  rcases (show j = 92 ∨ j = 93 ∨ j = 94 ∨ j = 95 ∨ j = 96 ∨ j = 97 ∨ j = 98 ∨ j = 99 ∨ j = 100 by omega) with rfl | rfl | rfl | rfl | rfl | rfl | rfl | rfl | rfl
  · exact cw_92
  · exact cw_93
  · exact cw_94
  · exact cw_95
  · exact cw_96
  · exact cw_97
  · exact cw_98
  · exact cw_99
  · exact cw_100
theorem cwA_101_111 : ∀ j, 101 ≤ j → j < 111 → Cond.code (ynT j) (bytT j) (mxlT j) (rtyT j) ∈ lw_tbl := by
  intro j h1 h2
  rcases (show j = 101 ∨ j = 102 ∨ j = 103 ∨ j = 104 ∨ j = 105 ∨ j = 106 ∨ j = 107 ∨ j = 108 ∨ j = 109 ∨ j = 110 by omega) with rfl | rfl | rfl | rfl | rfl | rfl | rfl | rfl | rfl | rfl
  · exact cw_101
  · exact cw_102
  · exact cw_103
  · exact cw_104
  · exact cw_105
  · exact cw_106
  · exact cw_107
  · exact cw_108
  · exact cw_109
  · exact cw_110
theorem cwA_92_111 : ∀ j, 92 ≤ j → j < 111 → Cond.code (ynT j) (bytT j) (mxlT j) (rtyT j) ∈ lw_tbl := fun j h1 h2 => by
  by_cases h : j < 101
  · exact cwA_92_101 j h1 h
  · exact cwA_101_111 j (Nat.le_of_not_lt h) h2
theorem cwA_74_111 : ∀ j, 74 ≤ j → j < 111 → Cond.code (ynT j) (bytT j) (mxlT j) (rtyT j) ∈ lw_tbl := fun j h1 h2 => by
  by_cases h : j < 92
  · exact cwA_74_92 j h1 h
  · exact cwA_92_111 j (Nat.le_of_not_lt h) h2
theorem cwA_111_120 : ∀ j, 111 ≤ j → j < 120 → Cond.code (ynT j) (bytT j) (mxlT j) (rtyT j) ∈ lw_tbl := by
  intro j h1 h2
  rcases (show j = 111 ∨ j = 112 ∨ j = 113 ∨ j = 114 ∨ j = 115 ∨ j = 116 ∨ j = 117 ∨ j = 118 ∨ j = 119 by omega) with rfl | rfl | rfl | rfl | rfl | rfl | rfl | rfl | rfl
  · exact cw_111
  · exact cw_112
  · exact cw_113
  · exact cw_114
  · exact cw_115
  · exact cw_116
  · exact cw_117
  · exact cw_118
  · exact cw_119
theorem cwA_120_129 : ∀ j, 120 ≤ j → j < 129 → Cond.code (ynT j) (bytT j) (mxlT j) (rtyT j) ∈ lw_tbl := by
  intro j h1 h2
  rcases (show j = 120 ∨ j = 121 ∨ j = 122 ∨ j = 123 ∨ j = 124 ∨ j = 125 ∨ j = 126 ∨ j = 127 ∨ j = 128 by omega) with rfl | rfl | rfl | rfl | rfl | rfl | rfl | rfl | rfl
  · exact cw_120
  · exact cw_121
  · exact cw_122
  · exact cw_123
  · exact cw_124
  · exact cw_125
  · exact cw_126
  · exact cw_127
  · exact cw_128
theorem cwA_111_129 : ∀ j, 111 ≤ j → j < 129 → Cond.code (ynT j) (bytT j) (mxlT j) (rtyT j) ∈ lw_tbl := fun j h1 h2 => by
  by_cases h : j < 120
  · exact cwA_111_120 j h1 h
  · exact cwA_120_129 j (Nat.le_of_not_lt h) h2
theorem cwA_129_138 : ∀ j, 129 ≤ j → j < 138 → Cond.code (ynT j) (bytT j) (mxlT j) (rtyT j) ∈ lw_tbl := by
  intro j h1 h2
  rcases (show j = 129 ∨ j = 130 ∨ j = 131 ∨ j = 132 ∨ j = 133 ∨ j = 134 ∨ j = 135 ∨ j = 136 ∨ j = 137 by omega) with rfl | rfl | rfl | rfl | rfl | rfl | rfl | rfl | rfl
  · exact cw_129
  · exact cw_130
  · exact cw_131
  · exact cw_132
  · exact cw_133
  · exact cw_134
  · exact cw_135
  · exact cw_136
  · exact cw_137
theorem cwA_138_148 : ∀ j, 138 ≤ j → j < 148 → Cond.code (ynT j) (bytT j) (mxlT j) (rtyT j) ∈ lw_tbl := by
  intro j h1 h2
  rcases (show j = 138 ∨ j = 139 ∨ j = 140 ∨ j = 141 ∨ j = 142 ∨ j = 143 ∨ j = 144 ∨ j = 145 ∨ j = 146 ∨ j = 147 by omega) with rfl | rfl | rfl | rfl | rfl | rfl | rfl | rfl | rfl | rfl
  · exact cw_138
  · exact cw_139
  · exact cw_140
  · exact cw_141
  · exact cw_142
  · exact cw_143
  · exact cw_144
  · exact cw_145
  · exact cw_146
  · exact cw_147
theorem cwA_129_148 : ∀ j, 129 ≤ j → j < 148 → Cond.code (ynT j) (bytT j) (mxlT j) (rtyT j) ∈ lw_tbl := fun j h1 h2 => by
  by_cases h : j < 138
  · exact cwA_129_138 j h1 h
  · exact cwA_138_148 j (Nat.le_of_not_lt h) h2
theorem cwA_111_148 : ∀ j, 111 ≤ j → j < 148 → Cond.code (ynT j) (bytT j) (mxlT j) (rtyT j) ∈ lw_tbl := fun j h1 h2 => by
  by_cases h : j < 129
  · exact cwA_111_129 j h1 h
  · exact cwA_129_148 j (Nat.le_of_not_lt h) h2
theorem cwA_74_148 : ∀ j, 74 ≤ j → j < 148 → Cond.code (ynT j) (bytT j) (mxlT j) (rtyT j) ∈ lw_tbl := fun j h1 h2 => by
  by_cases h : j < 111
  · exact cwA_74_111 j h1 h
  · exact cwA_111_148 j (Nat.le_of_not_lt h) h2
theorem cwA_1_148 : ∀ j, 1 ≤ j → j < 148 → Cond.code (ynT j) (bytT j) (mxlT j) (rtyT j) ∈ lw_tbl := fun j h1 h2 => by
  by_cases h : j < 74
  · exact cwA_1_74 j h1 h
  · exact cwA_74_148 j (Nat.le_of_not_lt h) h2

theorem codeW_ok : ∀ j, 0 < j → j < nmT → Cond.code (ynT j) (bytT j) (mxlT j) (rtyT j) ∈ tbT := fun j h1 h2 => List.mem_filter.mpr ⟨cwA_1_148 j h1 h2, rfl⟩
def ckC (c : Nat) (q : Nat × Nat × Nat × Nat × Nat) : Bool := Nat.blt 0 q.2.1 && Nat.blt q.2.1 nmT && Nat.ble (mxlT q.2.1) 41 && wAt (piT (clsT q.2.1)) (.initialized (ynT q.2.1).cls) && (if q.2.2.2.2 = 1 then nAt q.2.2.2.1 (.methodLinkNest (cnT c) q.1 (ynT q.2.1) "PermitSets") else wAt q.2.2.2.1 (.methodLink (cnT c) q.1 (ynT q.2.1))) && !(decide ((ynT q.2.1).cls = "java/lang/invoke/MethodHandle")) && !(decide ((ynT q.2.1).cls = "java/lang/invoke/VarHandle")) && decide ((parseMethodDescriptor (ynT q.2.1).desc).map (fun d => d.parameters.length) = some (if q.2.2.1 = 2 then narT q.2.1 else narT q.2.1 - 1)) && (if q.2.2.1 = 2 then wAt (pkT q.2.1) (.static (ynT q.2.1)) else wAt (pkT q.2.1) (.instanceMethod (ynT q.2.1))) && (!(q.2.2.1 == 0) || (wAt (psT q.2.1) (.selects (cnT (clsT q.2.1)) (ynT q.2.1) (ynT q.2.1)) && Nat.blt (clsT q.2.1) 8)) && (!(q.2.2.1 == 1) || (decide ((ynT q.2.1).name = "<init>") && decide (rtyT q.2.1 = none)))
theorem ckC_all : (List.range 10).all (fun c => (clL.getD c []).all (ckC c)) = true := by decide +kernel
theorem calT_q {j i j' kd : Nat} (h : calT j i = some (j', kd)) : ∃ q, ckC (clsT j) q = true ∧ q.1 = i ∧ q.2.1 = j' ∧ q.2.2.1 = kd := by
  unfold calT at h
  split at h
  · rename_i q hq
    cases h
    exact ⟨q, pm_all (by decide) ckC_all (List.mem_of_find?_eq_some hq), by simpa using List.find?_some hq, rfl, rfl⟩
  · cases h
theorem calT_ok {j i j' kd : Nat} (h : calT j i = some (j', kd)) : j' < nmT ∧ Cond.code (ynT j') (bytT j') (mxlT j') (rtyT j') ∈ tbT ∧ Cond.initialized (ynT j').cls ∈ tbT ∧ ((Cond.methodLink (ownT j) i (ynT j') ∈ tbT) ∨ ∃ host, Cond.methodLinkNest (ownT j) i (ynT j') host ∈ nsT) ∧ mxlT j' ≤ 41 := by
  obtain ⟨q, hc, rfl, rfl, rfl⟩ := calT_q h
  unfold ckC at hc
  simp only [Bool.and_eq_true] at hc
  obtain ⟨⟨⟨⟨⟨⟨⟨⟨⟨⟨c1, c2⟩, c3⟩, c4⟩, c5⟩, c6⟩, c7⟩, c8⟩, c9⟩, c10⟩, c11⟩ := hc
  refine ⟨Nat.blt_eq.mp c2, codeW_ok _ (Nat.blt_eq.mp c1) (Nat.blt_eq.mp c2), wAt_in c4, ?_, Nat.le_of_ble_eq_true c3⟩
  split at c5
  · exact Or.inr ⟨_, nAt_in c5⟩
  · exact Or.inl (wAt_in c5)
theorem calT_d {j i j' kd : Nat} (h : calT j i = some (j', kd)) : (ynT j').cls ≠ "java/lang/invoke/MethodHandle" ∧ (ynT j').cls ≠ "java/lang/invoke/VarHandle" ∧ (parseMethodDescriptor (ynT j').desc).map (fun d => d.parameters.length) = some (if kd = 2 then narT j' else narT j' - 1) := by
  obtain ⟨q, hc, rfl, rfl, rfl⟩ := calT_q h
  unfold ckC at hc
  simp only [Bool.and_eq_true] at hc
  obtain ⟨⟨⟨⟨⟨⟨⟨⟨⟨⟨c1, c2⟩, c3⟩, c4⟩, c5⟩, c6⟩, c7⟩, c8⟩, c9⟩, c10⟩, c11⟩ := hc
  exact ⟨by simpa using c6, by simpa using c7, of_decide_eq_true c8⟩
theorem calT_virt {j i j' : Nat} (h : calT j i = some (j', 0)) : Cond.instanceMethod (ynT j') ∈ tbT ∧ Cond.selects (cnT (clsT j')) (ynT j') (ynT j') ∈ tbT ∧ True ∧ ((ynT j').cls ≠ "java/lang/invoke/MethodHandle" ∧ (ynT j').cls ≠ "java/lang/invoke/VarHandle" ∧ (parseMethodDescriptor (ynT j').desc).map (fun d => d.parameters.length) = some (narT j' - 1)) ∧ clsT j' < nclT := by
  have hd := calT_d h
  obtain ⟨q, hc, rfl, rfl, h0⟩ := calT_q h
  unfold ckC at hc
  rw [h0] at hc
  simp only [Bool.and_eq_true] at hc
  obtain ⟨⟨⟨⟨⟨⟨⟨⟨⟨⟨c1, c2⟩, c3⟩, c4⟩, c5⟩, c6⟩, c7⟩, c8⟩, c9⟩, c10⟩, c11⟩ := hc
  have c10 : (wAt (psT q.2.1) (.selects (cnT (clsT q.2.1)) (ynT q.2.1) (ynT q.2.1)) && Nat.blt (clsT q.2.1) 8) = true := c10
  rw [Bool.and_eq_true] at c10
  exact ⟨wAt_in c9, wAt_in c10.1, trivial, hd, Nat.blt_eq.mp c10.2⟩
theorem calT_init {j i j' : Nat} (h : calT j i = some (j', 1)) : Cond.instanceMethod (ynT j') ∈ tbT ∧ (ynT j').name = "<init>" ∧ rtyT j' = none ∧ ((ynT j').cls ≠ "java/lang/invoke/MethodHandle" ∧ (ynT j').cls ≠ "java/lang/invoke/VarHandle" ∧ (parseMethodDescriptor (ynT j').desc).map (fun d => d.parameters.length) = some (narT j' - 1)) := by
  have hd := calT_d h
  obtain ⟨q, hc, rfl, rfl, h0⟩ := calT_q h
  unfold ckC at hc
  rw [h0] at hc
  simp only [Bool.and_eq_true] at hc
  obtain ⟨⟨⟨⟨⟨⟨⟨⟨⟨⟨c1, c2⟩, c3⟩, c4⟩, c5⟩, c6⟩, c7⟩, c8⟩, c9⟩, c10⟩, c11⟩ := hc
  have c11 : (decide ((ynT q.2.1).name = "<init>") && decide (rtyT q.2.1 = none)) = true := c11
  rw [Bool.and_eq_true] at c11
  exact ⟨wAt_in c9, of_decide_eq_true c11.1, of_decide_eq_true c11.2, hd⟩
theorem calT_stat {j i j' : Nat} (h : calT j i = some (j', 2)) : Cond.static (ynT j') ∈ tbT ∧ ((ynT j').cls ≠ "java/lang/invoke/MethodHandle" ∧ (ynT j').cls ≠ "java/lang/invoke/VarHandle" ∧ (parseMethodDescriptor (ynT j').desc).map (fun d => d.parameters.length) = some (narT j')) := by
  have hd := calT_d h
  obtain ⟨q, hc, rfl, rfl, h0⟩ := calT_q h
  unfold ckC at hc
  rw [h0] at hc
  simp only [Bool.and_eq_true] at hc
  obtain ⟨⟨⟨⟨⟨⟨⟨⟨⟨⟨c1, c2⟩, c3⟩, c4⟩, c5⟩, c6⟩, c7⟩, c8⟩, c9⟩, c10⟩, c11⟩ := hc
  exact ⟨wAt_in c9, hd⟩
