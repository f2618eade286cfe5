def ckM (j : Nat) : Bool := (List.range (16 * (cdT j).length)).all (fun pc => match codT j pc with
  | none => true
  | some (ins, len) => decide (decode (bytT j) pc = .ok (ins, len)) && (pmSz ins == 0 || pmSz ins == len))
theorem ck_0 : ckM 0 = true := by decide +kernel
theorem ck_1 : ckM 1 = true := by decide +kernel
theorem ck_2 : ckM 2 = true := by decide +kernel
theorem ck_3 : ckM 3 = true := by decide +kernel
theorem ck_4 : ckM 4 = true := by decide +kernel
theorem ck_5 : ckM 5 = true := by decide +kernel
theorem ck_6 : ckM 6 = true := by decide +kernel
theorem ck_7 : ckM 7 = true := by decide +kernel
theorem ck_8 : ckM 8 = true := by decide +kernel
theorem ck_9 : ckM 9 = true := by decide +kernel
theorem ck_10 : ckM 10 = true := by decide +kernel
theorem ck_11 : ckM 11 = true := by decide +kernel
theorem ck_12 : ckM 12 = true := by decide +kernel
theorem ck_13 : ckM 13 = true := by decide +kernel
theorem ck_14 : ckM 14 = true := by decide +kernel
theorem ck_15 : ckM 15 = true := by decide +kernel
theorem ck_16 : ckM 16 = true := by decide +kernel
theorem ck_17 : ckM 17 = true := by decide +kernel
theorem ck_18 : ckM 18 = true := by decide +kernel
theorem ck_19 : ckM 19 = true := by decide +kernel
theorem ck_20 : ckM 20 = true := by decide +kernel
theorem ck_21 : ckM 21 = true := by decide +kernel
theorem ck_22 : ckM 22 = true := by decide +kernel
theorem ck_23 : ckM 23 = true := by decide +kernel
theorem ck_24 : ckM 24 = true := by decide +kernel
theorem ck_25 : ckM 25 = true := by decide +kernel
theorem ck_26 : ckM 26 = true := by decide +kernel
theorem ck_27 : ckM 27 = true := by decide +kernel
theorem ck_28 : ckM 28 = true := by decide +kernel
theorem ck_29 : ckM 29 = true := by decide +kernel
theorem ck_30 : ckM 30 = true := by decide +kernel
theorem ck_31 : ckM 31 = true := by decide +kernel
theorem ck_32 : ckM 32 = true := by decide +kernel
theorem ck_33 : ckM 33 = true := by decide +kernel
theorem ck_34 : ckM 34 = true := by decide +kernel
theorem ck_35 : ckM 35 = true := by decide +kernel
theorem ck_36 : ckM 36 = true := by decide +kernel
theorem ck_37 : ckM 37 = true := by decide +kernel
theorem ck_38 : ckM 38 = true := by decide +kernel
theorem ck_39 : ckM 39 = true := by decide +kernel
theorem ck_40 : ckM 40 = true := by decide +kernel
theorem ck_41 : ckM 41 = true := by decide +kernel
theorem ck_42 : ckM 42 = true := by decide +kernel
theorem ck_43 : ckM 43 = true := by decide +kernel
theorem ck_44 : ckM 44 = true := by decide +kernel
theorem ck_45 : ckM 45 = true := by decide +kernel
theorem ck_46 : ckM 46 = true := by decide +kernel
theorem ck_47 : ckM 47 = true := by decide +kernel
theorem ck_48 : ckM 48 = true := by decide +kernel
theorem ck_49 : ckM 49 = true := by decide +kernel
theorem ck_50 : ckM 50 = true := by decide +kernel
theorem ck_51 : ckM 51 = true := by decide +kernel
theorem ck_52 : ckM 52 = true := by decide +kernel
theorem ck_53 : ckM 53 = true := by decide +kernel
theorem ck_54 : ckM 54 = true := by decide +kernel
theorem ck_55 : ckM 55 = true := by decide +kernel
theorem ck_56 : ckM 56 = true := by decide +kernel
theorem ck_57 : ckM 57 = true := by decide +kernel
theorem ck_58 : ckM 58 = true := by decide +kernel
theorem ck_59 : ckM 59 = true := by decide +kernel
theorem ck_60 : ckM 60 = true := by decide +kernel
theorem ck_61 : ckM 61 = true := by decide +kernel
theorem ck_62 : ckM 62 = true := by decide +kernel
theorem ck_63 : ckM 63 = true := by decide +kernel
theorem ck_64 : ckM 64 = true := by decide +kernel
theorem ck_65 : ckM 65 = true := by decide +kernel
theorem ck_66 : ckM 66 = true := by decide +kernel
theorem ck_67 : ckM 67 = true := by decide +kernel
theorem ck_68 : ckM 68 = true := by decide +kernel
theorem ck_69 : ckM 69 = true := by decide +kernel
theorem ck_70 : ckM 70 = true := by decide +kernel
theorem ck_71 : ckM 71 = true := by decide +kernel
theorem ck_72 : ckM 72 = true := by decide +kernel
theorem ck_73 : ckM 73 = true := by decide +kernel
theorem ck_74 : ckM 74 = true := by decide +kernel
theorem ck_75 : ckM 75 = true := by decide +kernel
theorem ck_76 : ckM 76 = true := by decide +kernel
theorem ck_77 : ckM 77 = true := by decide +kernel
theorem ck_78 : ckM 78 = true := by decide +kernel
theorem ck_79 : ckM 79 = true := by decide +kernel
theorem ck_80 : ckM 80 = true := by decide +kernel
theorem ck_81 : ckM 81 = true := by decide +kernel
theorem ck_82 : ckM 82 = true := by decide +kernel
theorem ck_83 : ckM 83 = true := by decide +kernel
theorem ck_84 : ckM 84 = true := by decide +kernel
theorem ck_85 : ckM 85 = true := by decide +kernel
theorem ck_86 : ckM 86 = true := by decide +kernel
theorem ck_87 : ckM 87 = true := by decide +kernel
theorem ck_88 : ckM 88 = true := by decide +kernel
theorem ck_89 : ckM 89 = true := by decide +kernel
theorem ck_90 : ckM 90 = true := by decide +kernel
theorem ck_91 : ckM 91 = true := by decide +kernel
theorem ck_92 : ckM 92 = true := by decide +kernel
theorem ck_93 : ckM 93 = true := by decide +kernel
theorem ck_94 : ckM 94 = true := by decide +kernel
theorem ck_95 : ckM 95 = true := by decide +kernel
theorem ck_96 : ckM 96 = true := by decide +kernel
theorem ck_97 : ckM 97 = true := by decide +kernel
theorem ck_98 : ckM 98 = true := by decide +kernel
theorem ck_99 : ckM 99 = true := by decide +kernel
theorem ck_100 : ckM 100 = true := by decide +kernel
theorem ck_101 : ckM 101 = true := by decide +kernel
theorem ck_102 : ckM 102 = true := by decide +kernel
theorem ck_103 : ckM 103 = true := by decide +kernel
theorem ck_104 : ckM 104 = true := by decide +kernel
theorem ck_105 : ckM 105 = true := by decide +kernel
theorem ck_106 : ckM 106 = true := by decide +kernel
theorem ck_107 : ckM 107 = true := by decide +kernel
theorem ck_108 : ckM 108 = true := by decide +kernel
theorem ck_109 : ckM 109 = true := by decide +kernel
theorem ck_110 : ckM 110 = true := by decide +kernel
theorem ck_111 : ckM 111 = true := by decide +kernel
theorem ck_112 : ckM 112 = true := by decide +kernel
theorem ck_113 : ckM 113 = true := by decide +kernel
theorem ck_114 : ckM 114 = true := by decide +kernel
theorem ck_115 : ckM 115 = true := by decide +kernel
theorem ck_116 : ckM 116 = true := by decide +kernel
theorem ck_117 : ckM 117 = true := by decide +kernel
theorem ck_118 : ckM 118 = true := by decide +kernel
theorem ck_119 : ckM 119 = true := by decide +kernel
theorem ck_120 : ckM 120 = true := by decide +kernel
theorem ck_121 : ckM 121 = true := by decide +kernel
theorem ck_122 : ckM 122 = true := by decide +kernel
theorem ck_123 : ckM 123 = true := by decide +kernel
theorem ck_124 : ckM 124 = true := by decide +kernel
theorem ck_125 : ckM 125 = true := by decide +kernel
theorem ck_126 : ckM 126 = true := by decide +kernel
theorem ck_127 : ckM 127 = true := by decide +kernel
theorem ck_128 : ckM 128 = true := by decide +kernel
theorem ck_129 : ckM 129 = true := by decide +kernel
theorem ck_130 : ckM 130 = true := by decide +kernel
theorem ck_131 : ckM 131 = true := by decide +kernel
theorem ck_132 : ckM 132 = true := by decide +kernel
theorem ck_133 : ckM 133 = true := by decide +kernel
theorem ck_134 : ckM 134 = true := by decide +kernel
theorem ck_135 : ckM 135 = true := by decide +kernel
theorem ck_136 : ckM 136 = true := by decide +kernel
theorem ck_137 : ckM 137 = true := by decide +kernel
theorem ck_138 : ckM 138 = true := by decide +kernel
theorem ck_139 : ckM 139 = true := by decide +kernel
theorem ck_140 : ckM 140 = true := by decide +kernel
theorem ck_141 : ckM 141 = true := by decide +kernel
theorem ck_142 : ckM 142 = true := by decide +kernel
theorem ck_143 : ckM 143 = true := by decide +kernel
theorem ck_144 : ckM 144 = true := by decide +kernel
theorem ck_145 : ckM 145 = true := by decide +kernel
theorem ck_146 : ckM 146 = true := by decide +kernel
theorem ck_147 : ckM 147 = true := by decide +kernel
theorem ckA_0_9 : ∀ j, 0 ≤ j → j < 9 → ckM j = true := by
  intro j h1 h2
  rcases (show j = 0 ∨ j = 1 ∨ j = 2 ∨ j = 3 ∨ j = 4 ∨ j = 5 ∨ j = 6 ∨ j = 7 ∨ j = 8 by omega) with rfl | rfl | rfl | rfl | rfl | rfl | rfl | rfl | rfl
  · exact ck_0
  · exact ck_1
  · exact ck_2
  · exact ck_3
  · exact ck_4
  · exact ck_5
  · exact ck_6
  · exact ck_7
  · exact ck_8
theorem ckA_9_18 : ∀ j, 9 ≤ j → j < 18 → ckM j = true := by
  intro j h1 h2
  rcases (show j = 9 ∨ j = 10 ∨ j = 11 ∨ j = 12 ∨ j = 13 ∨ j = 14 ∨ j = 15 ∨ j = 16 ∨ j = 17 by omega) with rfl | rfl | rfl | rfl | rfl | rfl | rfl | rfl | rfl
  · exact ck_9
  · exact ck_10
  · exact ck_11
  · exact ck_12
  · exact ck_13
  · exact ck_14
  · exact ck_15
  · exact ck_16
  · exact ck_17
theorem ckA_0_18 : ∀ j, 0 ≤ j → j < 18 → ckM j = true := fun j h1 h2 => by
  by_cases h : j < 9
  · exact ckA_0_9 j h1 h
  · exact ckA_9_18 j (Nat.le_of_not_lt h) h2
theorem ckA_18_27 : ∀ j, 18 ≤ j → j < 27 → ckM j = true := by
  intro j h1 h2
  rcases (show j = 18 ∨ j = 19 ∨ j = 20 ∨ j = 21 ∨ j = 22 ∨ j = 23 ∨ j = 24 ∨ j = 25 ∨ j = 26 by omega) with rfl | rfl | rfl | rfl | rfl | rfl | rfl | rfl | rfl
  · exact ck_18
  · exact ck_19
  · exact ck_20
  · exact ck_21
  · exact ck_22
  · exact ck_23
  · exact ck_24
  · exact ck_25
  · exact ck_26
theorem ckA_27_37 : ∀ j, 27 ≤ j → j < 37 → ckM j = true := by
  intro j h1 h2
  rcases (show j = 27 ∨ j = 28 ∨ j = 29 ∨ j = 30 ∨ j = 31 ∨ j = 32 ∨ j = 33 ∨ j = 34 ∨ j = 35 ∨ j = 36 by omega) with rfl | rfl | rfl | rfl | rfl | rfl | rfl | rfl | rfl | rfl
  · exact ck_27
  · exact ck_28
  · exact ck_29
  · exact ck_30
  · exact ck_31
  · exact ck_32
  · exact ck_33
  · exact ck_34
  · exact ck_35
  · exact ck_36
theorem ckA_18_37 : ∀ j, 18 ≤ j → j < 37 → ckM j = true := fun j h1 h2 => by
  by_cases h : j < 27
  · exact ckA_18_27 j h1 h
  · exact ckA_27_37 j (Nat.le_of_not_lt h) h2
theorem ckA_0_37 : ∀ j, 0 ≤ j → j < 37 → ckM j = true := fun j h1 h2 => by
  by_cases h : j < 18
  · exact ckA_0_18 j h1 h
  · exact ckA_18_37 j (Nat.le_of_not_lt h) h2
theorem ckA_37_46 : ∀ j, 37 ≤ j → j < 46 → ckM j = true := by
  intro j h1 h2
  rcases (show j = 37 ∨ j = 38 ∨ j = 39 ∨ j = 40 ∨ j = 41 ∨ j = 42 ∨ j = 43 ∨ j = 44 ∨ j = 45 by omega) with rfl | rfl | rfl | rfl | rfl | rfl | rfl | rfl | rfl
  · exact ck_37
  · exact ck_38
  · exact ck_39
  · exact ck_40
  · exact ck_41
  · exact ck_42
  · exact ck_43
  · exact ck_44
  · exact ck_45
theorem ckA_46_55 : ∀ j, 46 ≤ j → j < 55 → ckM j = true := by
  intro j h1 h2
  rcases (show j = 46 ∨ j = 47 ∨ j = 48 ∨ j = 49 ∨ j = 50 ∨ j = 51 ∨ j = 52 ∨ j = 53 ∨ j = 54 by omega) with rfl | rfl | rfl | rfl | rfl | rfl | rfl | rfl | rfl
  · exact ck_46
  · exact ck_47
  · exact ck_48
  · exact ck_49
  · exact ck_50
  · exact ck_51
  · exact ck_52
  · exact ck_53
  · exact ck_54
theorem ckA_37_55 : ∀ j, 37 ≤ j → j < 55 → ckM j = true := fun j h1 h2 => by
  by_cases h : j < 46
  · exact ckA_37_46 j h1 h
  · exact ckA_46_55 j (Nat.le_of_not_lt h) h2
theorem ckA_55_64 : ∀ j, 55 ≤ j → j < 64 → ckM j = true := by
  intro j h1 h2
  rcases (show j = 55 ∨ j = 56 ∨ j = 57 ∨ j = 58 ∨ j = 59 ∨ j = 60 ∨ j = 61 ∨ j = 62 ∨ j = 63 by omega) with rfl | rfl | rfl | rfl | rfl | rfl | rfl | rfl | rfl
  · exact ck_55
  · exact ck_56
  · exact ck_57
  · exact ck_58
  · exact ck_59
  · exact ck_60
  · exact ck_61
  · exact ck_62
  · exact ck_63
theorem ckA_64_74 : ∀ j, 64 ≤ j → j < 74 → ckM j = true := by
  intro j h1 h2
  rcases (show j = 64 ∨ j = 65 ∨ j = 66 ∨ j = 67 ∨ j = 68 ∨ j = 69 ∨ j = 70 ∨ j = 71 ∨ j = 72 ∨ j = 73 by omega) with rfl | rfl | rfl | rfl | rfl | rfl | rfl | rfl | rfl | rfl
  · exact ck_64
  · exact ck_65
  · exact ck_66
  · exact ck_67
  · exact ck_68
  · exact ck_69
  · exact ck_70
  · exact ck_71
  · exact ck_72
  · exact ck_73
theorem ckA_55_74 : ∀ j, 55 ≤ j → j < 74 → ckM j = true := fun j h1 h2 => by
  by_cases h : j < 64
  · exact ckA_55_64 j h1 h
  · exact ckA_64_74 j (Nat.le_of_not_lt h) h2
theorem ckA_37_74 : ∀ j, 37 ≤ j → j < 74 → ckM j = true := fun j h1 h2 => by
  by_cases h : j < 55
  · exact ckA_37_55 j h1 h
  · exact ckA_55_74 j (Nat.le_of_not_lt h) h2
theorem ckA_0_74 : ∀ j, 0 ≤ j → j < 74 → ckM j = true := fun j h1 h2 => by
  by_cases h : j < 37
  · exact ckA_0_37 j h1 h
  · exact ckA_37_74 j (Nat.le_of_not_lt h) h2
theorem ckA_74_83 : ∀ j, 74 ≤ j → j < 83 → ckM j = true := by
  intro j h1 h2
  rcases (show j = 74 ∨ j = 75 ∨ j = 76 ∨ j = 77 ∨ j = 78 ∨ j = 79 ∨ j = 80 ∨ j = 81 ∨ j = 82 by omega) with rfl | rfl | rfl | rfl | rfl | rfl | rfl | rfl | rfl
  · exact ck_74
  · exact ck_75
  · exact ck_76
  · exact ck_77
  · exact ck_78
  · exact ck_79
  · exact ck_80
  · exact ck_81
  · exact ck_82
theorem ckA_83_92 : ∀ j, 83 ≤ j → j < 92 → ckM j = true := by
  intro j h1 h2
  rcases (show j = 83 ∨ j = 84 ∨ j = 85 ∨ j = 86 ∨ j = 87 ∨ j = 88 ∨ j = 89 ∨ j = 90 ∨ j = 91 by omega) with rfl | rfl | rfl | rfl | rfl | rfl | rfl | rfl | rfl
  · exact ck_83
  · exact ck_84
  · exact ck_85
  · exact ck_86
  · exact ck_87
  · exact ck_88
  · exact ck_89
  · exact ck_90
  · exact ck_91
theorem ckA_74_92 : ∀ j, 74 ≤ j → j < 92 → ckM j = true := fun j h1 h2 => by
  by_cases h : j < 83
  · exact ckA_74_83 j h1 h
  · exact ckA_83_92 j (Nat.le_of_not_lt h) h2
theorem ckA_92_101 : ∀ j, 92 ≤ j → j < 101 → ckM j = true := by
  intro j h1 h2
  rcases (show j = 92 ∨ j = 93 ∨ j = 94 ∨ j = 95 ∨ j = 96 ∨ j = 97 ∨ j = 98 ∨ j = 99 ∨ j = 100 by omega) with rfl | rfl | rfl | rfl | rfl | rfl | rfl | rfl | rfl
  · exact ck_92
  · exact ck_93
  · exact ck_94
  · exact ck_95
  · exact ck_96
  · exact ck_97
  · exact ck_98
  · exact ck_99
  · exact ck_100
theorem ckA_101_111 : ∀ j, 101 ≤ j → j < 111 → ckM j = true := by
  intro j h1 h2
  rcases (show j = 101 ∨ j = 102 ∨ j = 103 ∨ j = 104 ∨ j = 105 ∨ j = 106 ∨ j = 107 ∨ j = 108 ∨ j = 109 ∨ j = 110 by omega) with rfl | rfl | rfl | rfl | rfl | rfl | rfl | rfl | rfl | rfl
  · exact ck_101
  · exact ck_102
  · exact ck_103
  · exact ck_104
  · exact ck_105
  · exact ck_106
  · exact ck_107
  · exact ck_108
  · exact ck_109
  · exact ck_110
theorem ckA_92_111 : ∀ j, 92 ≤ j → j < 111 → ckM j = true := fun j h1 h2 => by
  by_cases h : j < 101
  · exact ckA_92_101 j h1 h
  · exact ckA_101_111 j (Nat.le_of_not_lt h) h2
theorem ckA_74_111 : ∀ j, 74 ≤ j → j < 111 → ckM j = true := fun j h1 h2 => by
  by_cases h : j < 92
  · exact ckA_74_92 j h1 h
  · exact ckA_92_111 j (Nat.le_of_not_lt h) h2
theorem ckA_111_120 : ∀ j, 111 ≤ j → j < 120 → ckM j = true := by
  intro j h1 h2
  rcases (show j = 111 ∨ j = 112 ∨ j = 113 ∨ j = 114 ∨ j = 115 ∨ j = 116 ∨ j = 117 ∨ j = 118 ∨ j = 119 by omega) with rfl | rfl | rfl | rfl | rfl | rfl | rfl | rfl | rfl
  · exact ck_111
  · exact ck_112
  · exact ck_113
  · exact ck_114
  · exact ck_115
  · exact ck_116
  · exact ck_117
  · exact ck_118
  · exact ck_119
theorem ckA_120_129 : ∀ j, 120 ≤ j → j < 129 → ckM j = true := by
  intro j h1 h2
  rcases (show j = 120 ∨ j = 121 ∨ j = 122 ∨ j = 123 ∨ j = 124 ∨ j = 125 ∨ j = 126 ∨ j = 127 ∨ j = 128 by omega) with rfl | rfl | rfl | rfl | rfl | rfl | rfl | rfl | rfl
  · exact ck_120
  · exact ck_121
  · exact ck_122
  · exact ck_123
  · exact ck_124
  · exact ck_125
  · exact ck_126
  · exact ck_127
  · exact ck_128
theorem ckA_111_129 : ∀ j, 111 ≤ j → j < 129 → ckM j = true := fun j h1 h2 => by
  by_cases h : j < 120
  · exact ckA_111_120 j h1 h
  · exact ckA_120_129 j (Nat.le_of_not_lt h) h2
theorem ckA_129_138 : ∀ j, 129 ≤ j → j < 138 → ckM j = true := by
  intro j h1 h2
  rcases (show j = 129 ∨ j = 130 ∨ j = 131 ∨ j = 132 ∨ j = 133 ∨ j = 134 ∨ j = 135 ∨ j = 136 ∨ j = 137 by omega) with rfl | rfl | rfl | rfl | rfl | rfl | rfl | rfl | rfl
  · exact ck_129
  · exact ck_130
  · exact ck_131
  · exact ck_132
  · exact ck_133
  · exact ck_134
  · exact ck_135
  · exact ck_136
  · exact ck_137
theorem ckA_138_148 : ∀ j, 138 ≤ j → j < 148 → ckM j = true := by
  intro j h1 h2
  rcases (show j = 138 ∨ j = 139 ∨ j = 140 ∨ j = 141 ∨ j = 142 ∨ j = 143 ∨ j = 144 ∨ j = 145 ∨ j = 146 ∨ j = 147 by omega) with rfl | rfl | rfl | rfl | rfl | rfl | rfl | rfl | rfl | rfl
  · exact ck_138
  · exact ck_139
  · exact ck_140
  · exact ck_141
  · exact ck_142
  · exact ck_143
  · exact ck_144
  · exact ck_145
  · exact ck_146
  · exact ck_147
theorem ckA_129_148 : ∀ j, 129 ≤ j → j < 148 → ckM j = true := fun j h1 h2 => by
  by_cases h : j < 138
  · exact ckA_129_138 j h1 h
  · exact ckA_138_148 j (Nat.le_of_not_lt h) h2
theorem ckA_111_148 : ∀ j, 111 ≤ j → j < 148 → ckM j = true := fun j h1 h2 => by
  by_cases h : j < 129
  · exact ckA_111_129 j h1 h
  · exact ckA_129_148 j (Nat.le_of_not_lt h) h2
theorem ckA_74_148 : ∀ j, 74 ≤ j → j < 148 → ckM j = true := fun j h1 h2 => by
  by_cases h : j < 111
  · exact ckA_74_111 j h1 h
  · exact ckA_111_148 j (Nat.le_of_not_lt h) h2
theorem ckA_0_148 : ∀ j, 0 ≤ j → j < 148 → ckM j = true := fun j h1 h2 => by
  by_cases h : j < 74
  · exact ckA_0_74 j h1 h
  · exact ckA_74_148 j (Nat.le_of_not_lt h) h2
theorem codT_ok {j pc len : Nat} {ins : Instr} (h : codT j pc = some (ins, len)) : decode (bytT j) pc = .ok (ins, len) ∧ (pmSz ins = 0 ∨ pmSz ins = len) := by
  have hj : j < 148 := by
    refine Nat.lt_of_not_le fun hj => ?_
    have e : cdT j = [] := by
      unfold cdT
      by_cases h1 : j < 156
      · have h2 : j / 12 = 12 := by omega
        rw [h2]
        show (cdL_12).getD (j % 12) [] = []
        rw [List.getD_eq_getElem?_getD, List.getElem?_eq_none (show cdL_12.length ≤ j % 12 by show 4 ≤ j % 12; omega)]
        rfl
      · have e2 : cdL.getD (j / 12) [] = [] := by
          rw [List.getD_eq_getElem?_getD, List.getElem?_eq_none (show cdL.length ≤ j / 12 by show 13 ≤ j / 12; omega)]
          rfl
        rw [e2]
        rfl
    unfold codT at h
    rw [e] at h
    cases h
  have hc := ckA_0_148 j (Nat.zero_le _) hj
  unfold ckM at hc
  have hp : pc < 16 * (cdT j).length := by
    refine Nat.lt_of_not_le fun hp => ?_
    have h2 := h
    unfold codT at h2
    rw [List.getElem?_eq_none (show (cdT j).length ≤ pc / 16 by omega)] at h2
    cases h2
  have := List.all_eq_true.mp hc pc (List.mem_range.mpr hp)
  rw [h] at this
  simp only [Bool.and_eq_true, Bool.or_eq_true, beq_iff_eq] at this
  exact ⟨of_decide_eq_true this.1, this.2⟩
