/-! the check, all in all -/
theorem okz_0 : (List.range' 0 16).all okZ = true := by decide +kernel
theorem okz_1 : (List.range' 16 16).all okZ = true := by decide +kernel
theorem okz_2 : (List.range' 32 16).all okZ = true := by decide +kernel
theorem okz_3 : (List.range' 48 16).all okZ = true := by decide +kernel
theorem okz_4 : (List.range' 64 16).all okZ = true := by decide +kernel
theorem okz_5 : (List.range' 80 16).all okZ = true := by decide +kernel
theorem okz_6 : (List.range' 96 16).all okZ = true := by decide +kernel
theorem okz_7 : (List.range' 112 16).all okZ = true := by decide +kernel
theorem okz_8 : (List.range' 128 16).all okZ = true := by decide +kernel
theorem okz_9 : (List.range' 144 16).all okZ = true := by decide +kernel
theorem okz_10 : (List.range' 160 16).all okZ = true := by decide +kernel
theorem okz_11 : (List.range' 176 16).all okZ = true := by decide +kernel
theorem okz_12 : (List.range' 192 5).all okZ = true := by decide +kernel
theorem pcs_len : pcs.length = 13 := by decide +kernel
theorem okM_all : ∀ y, y < 197 → okM y = true := by
  intro y hy
  rcases Nat.lt_or_ge y 98 with h | h
  · rcases Nat.lt_or_ge y 49 with h | h
    · rcases Nat.lt_or_ge y 24 with h | h
      · rcases Nat.lt_or_ge y 12 with h | h
        · rcases Nat.lt_or_ge y 6 with h | h
          · rcases Nat.lt_or_ge y 3 with h | h
            · rcases Nat.lt_or_ge y 1 with h | h
              · exact (show y = 0 by omega) ▸ okm_0
              · rcases Nat.lt_or_ge y 2 with h | h
                · exact (show y = 1 by omega) ▸ okm_1
                · exact (show y = 2 by omega) ▸ okm_2
            · rcases Nat.lt_or_ge y 4 with h | h
              · exact (show y = 3 by omega) ▸ okm_3
              · rcases Nat.lt_or_ge y 5 with h | h
                · exact (show y = 4 by omega) ▸ okm_4
                · exact (show y = 5 by omega) ▸ okm_5
          · rcases Nat.lt_or_ge y 9 with h | h
            · rcases Nat.lt_or_ge y 7 with h | h
              · exact (show y = 6 by omega) ▸ okm_6
              · rcases Nat.lt_or_ge y 8 with h | h
                · exact (show y = 7 by omega) ▸ okm_7
                · exact (show y = 8 by omega) ▸ okm_8
            · rcases Nat.lt_or_ge y 10 with h | h
              · exact (show y = 9 by omega) ▸ okm_9
              · rcases Nat.lt_or_ge y 11 with h | h
                · exact (show y = 10 by omega) ▸ okm_10
                · exact (show y = 11 by omega) ▸ okm_11
        · rcases Nat.lt_or_ge y 18 with h | h
          · rcases Nat.lt_or_ge y 15 with h | h
            · rcases Nat.lt_or_ge y 13 with h | h
              · exact (show y = 12 by omega) ▸ okm_12
              · rcases Nat.lt_or_ge y 14 with h | h
                · exact (show y = 13 by omega) ▸ okm_13
                · exact (show y = 14 by omega) ▸ okm_14
            · rcases Nat.lt_or_ge y 16 with h | h
              · exact (show y = 15 by omega) ▸ okm_15
              · rcases Nat.lt_or_ge y 17 with h | h
                · exact (show y = 16 by omega) ▸ okm_16
                · exact (show y = 17 by omega) ▸ okm_17
          · rcases Nat.lt_or_ge y 21 with h | h
            · rcases Nat.lt_or_ge y 19 with h | h
              · exact (show y = 18 by omega) ▸ okm_18
              · rcases Nat.lt_or_ge y 20 with h | h
                · exact (show y = 19 by omega) ▸ okm_19
                · exact (show y = 20 by omega) ▸ okm_20
            · rcases Nat.lt_or_ge y 22 with h | h
              · exact (show y = 21 by omega) ▸ okm_21
              · rcases Nat.lt_or_ge y 23 with h | h
                · exact (show y = 22 by omega) ▸ okm_22
                · exact (show y = 23 by omega) ▸ okm_23
      · rcases Nat.lt_or_ge y 36 with h | h
        · rcases Nat.lt_or_ge y 30 with h | h
          · rcases Nat.lt_or_ge y 27 with h | h
            · rcases Nat.lt_or_ge y 25 with h | h
              · exact (show y = 24 by omega) ▸ okm_24
              · rcases Nat.lt_or_ge y 26 with h | h
                · exact (show y = 25 by omega) ▸ okm_25
                · exact (show y = 26 by omega) ▸ okm_26
            · rcases Nat.lt_or_ge y 28 with h | h
              · exact (show y = 27 by omega) ▸ okm_27
              · rcases Nat.lt_or_ge y 29 with h | h
                · exact (show y = 28 by omega) ▸ okm_28
                · exact (show y = 29 by omega) ▸ okm_29
          · rcases Nat.lt_or_ge y 33 with h | h
            · rcases Nat.lt_or_ge y 31 with h | h
              · exact (show y = 30 by omega) ▸ okm_30
              · rcases Nat.lt_or_ge y 32 with h | h
                · exact (show y = 31 by omega) ▸ okm_31
                · exact (show y = 32 by omega) ▸ okm_32
            · rcases Nat.lt_or_ge y 34 with h | h
              · exact (show y = 33 by omega) ▸ okm_33
              · rcases Nat.lt_or_ge y 35 with h | h
                · exact (show y = 34 by omega) ▸ okm_34
                · exact (show y = 35 by omega) ▸ okm_35
        · rcases Nat.lt_or_ge y 42 with h | h
          · rcases Nat.lt_or_ge y 39 with h | h
            · rcases Nat.lt_or_ge y 37 with h | h
              · exact (show y = 36 by omega) ▸ okm_36
              · rcases Nat.lt_or_ge y 38 with h | h
                · exact (show y = 37 by omega) ▸ okm_37
                · exact (show y = 38 by omega) ▸ okm_38
            · rcases Nat.lt_or_ge y 40 with h | h
              · exact (show y = 39 by omega) ▸ okm_39
              · rcases Nat.lt_or_ge y 41 with h | h
                · exact (show y = 40 by omega) ▸ okm_40
                · exact (show y = 41 by omega) ▸ okm_41
          · rcases Nat.lt_or_ge y 45 with h | h
            · rcases Nat.lt_or_ge y 43 with h | h
              · exact (show y = 42 by omega) ▸ okm_42
              · rcases Nat.lt_or_ge y 44 with h | h
                · exact (show y = 43 by omega) ▸ okm_43
                · exact (show y = 44 by omega) ▸ okm_44
            · rcases Nat.lt_or_ge y 47 with h | h
              · rcases Nat.lt_or_ge y 46 with h | h
                · exact (show y = 45 by omega) ▸ okm_45
                · exact (show y = 46 by omega) ▸ okm_46
              · rcases Nat.lt_or_ge y 48 with h | h
                · exact (show y = 47 by omega) ▸ okm_47
                · exact (show y = 48 by omega) ▸ okm_48
    · rcases Nat.lt_or_ge y 73 with h | h
      · rcases Nat.lt_or_ge y 61 with h | h
        · rcases Nat.lt_or_ge y 55 with h | h
          · rcases Nat.lt_or_ge y 52 with h | h
            · rcases Nat.lt_or_ge y 50 with h | h
              · exact (show y = 49 by omega) ▸ okm_49
              · rcases Nat.lt_or_ge y 51 with h | h
                · exact (show y = 50 by omega) ▸ okm_50
                · exact (show y = 51 by omega) ▸ okm_51
            · rcases Nat.lt_or_ge y 53 with h | h
              · exact (show y = 52 by omega) ▸ okm_52
              · rcases Nat.lt_or_ge y 54 with h | h
                · exact (show y = 53 by omega) ▸ okm_53
                · exact (show y = 54 by omega) ▸ okm_54
          · rcases Nat.lt_or_ge y 58 with h | h
            · rcases Nat.lt_or_ge y 56 with h | h
              · exact (show y = 55 by omega) ▸ okm_55
              · rcases Nat.lt_or_ge y 57 with h | h
                · exact (show y = 56 by omega) ▸ okm_56
                · exact (show y = 57 by omega) ▸ okm_57
            · rcases Nat.lt_or_ge y 59 with h | h
              · exact (show y = 58 by omega) ▸ okm_58
              · rcases Nat.lt_or_ge y 60 with h | h
                · exact (show y = 59 by omega) ▸ okm_59
                · exact (show y = 60 by omega) ▸ okm_60
        · rcases Nat.lt_or_ge y 67 with h | h
          · rcases Nat.lt_or_ge y 64 with h | h
            · rcases Nat.lt_or_ge y 62 with h | h
              · exact (show y = 61 by omega) ▸ okm_61
              · rcases Nat.lt_or_ge y 63 with h | h
                · exact (show y = 62 by omega) ▸ okm_62
                · exact (show y = 63 by omega) ▸ okm_63
            · rcases Nat.lt_or_ge y 65 with h | h
              · exact (show y = 64 by omega) ▸ okm_64
              · rcases Nat.lt_or_ge y 66 with h | h
                · exact (show y = 65 by omega) ▸ okm_65
                · exact (show y = 66 by omega) ▸ okm_66
          · rcases Nat.lt_or_ge y 70 with h | h
            · rcases Nat.lt_or_ge y 68 with h | h
              · exact (show y = 67 by omega) ▸ okm_67
              · rcases Nat.lt_or_ge y 69 with h | h
                · exact (show y = 68 by omega) ▸ okm_68
                · exact (show y = 69 by omega) ▸ okm_69
            · rcases Nat.lt_or_ge y 71 with h | h
              · exact (show y = 70 by omega) ▸ okm_70
              · rcases Nat.lt_or_ge y 72 with h | h
                · exact (show y = 71 by omega) ▸ okm_71
                · exact (show y = 72 by omega) ▸ okm_72
      · rcases Nat.lt_or_ge y 85 with h | h
        · rcases Nat.lt_or_ge y 79 with h | h
          · rcases Nat.lt_or_ge y 76 with h | h
            · rcases Nat.lt_or_ge y 74 with h | h
              · exact (show y = 73 by omega) ▸ okm_73
              · rcases Nat.lt_or_ge y 75 with h | h
                · exact (show y = 74 by omega) ▸ okm_74
                · exact (show y = 75 by omega) ▸ okm_75
            · rcases Nat.lt_or_ge y 77 with h | h
              · exact (show y = 76 by omega) ▸ okm_76
              · rcases Nat.lt_or_ge y 78 with h | h
                · exact (show y = 77 by omega) ▸ okm_77
                · exact (show y = 78 by omega) ▸ okm_78
          · rcases Nat.lt_or_ge y 82 with h | h
            · rcases Nat.lt_or_ge y 80 with h | h
              · exact (show y = 79 by omega) ▸ okm_79
              · rcases Nat.lt_or_ge y 81 with h | h
                · exact (show y = 80 by omega) ▸ okm_80
                · exact (show y = 81 by omega) ▸ okm_81
            · rcases Nat.lt_or_ge y 83 with h | h
              · exact (show y = 82 by omega) ▸ okm_82
              · rcases Nat.lt_or_ge y 84 with h | h
                · exact (show y = 83 by omega) ▸ okm_83
                · exact (show y = 84 by omega) ▸ okm_84
        · rcases Nat.lt_or_ge y 91 with h | h
          · rcases Nat.lt_or_ge y 88 with h | h
            · rcases Nat.lt_or_ge y 86 with h | h
              · exact (show y = 85 by omega) ▸ okm_85
              · rcases Nat.lt_or_ge y 87 with h | h
                · exact (show y = 86 by omega) ▸ okm_86
                · exact (show y = 87 by omega) ▸ okm_87
            · rcases Nat.lt_or_ge y 89 with h | h
              · exact (show y = 88 by omega) ▸ okm_88
              · rcases Nat.lt_or_ge y 90 with h | h
                · exact (show y = 89 by omega) ▸ okm_89
                · exact (show y = 90 by omega) ▸ okm_90
          · rcases Nat.lt_or_ge y 94 with h | h
            · rcases Nat.lt_or_ge y 92 with h | h
              · exact (show y = 91 by omega) ▸ okm_91
              · rcases Nat.lt_or_ge y 93 with h | h
                · exact (show y = 92 by omega) ▸ okm_92
                · exact (show y = 93 by omega) ▸ okm_93
            · rcases Nat.lt_or_ge y 96 with h | h
              · rcases Nat.lt_or_ge y 95 with h | h
                · exact (show y = 94 by omega) ▸ okm_94
                · exact (show y = 95 by omega) ▸ okm_95
              · rcases Nat.lt_or_ge y 97 with h | h
                · exact (show y = 96 by omega) ▸ okm_96
                · exact (show y = 97 by omega) ▸ okm_97
  · rcases Nat.lt_or_ge y 147 with h | h
    · rcases Nat.lt_or_ge y 122 with h | h
      · rcases Nat.lt_or_ge y 110 with h | h
        · rcases Nat.lt_or_ge y 104 with h | h
          · rcases Nat.lt_or_ge y 101 with h | h
            · rcases Nat.lt_or_ge y 99 with h | h
              · exact (show y = 98 by omega) ▸ okm_98
              · rcases Nat.lt_or_ge y 100 with h | h
                · exact (show y = 99 by omega) ▸ okm_99
                · exact (show y = 100 by omega) ▸ okm_100
            · rcases Nat.lt_or_ge y 102 with h | h
              · exact (show y = 101 by omega) ▸ okm_101
              · rcases Nat.lt_or_ge y 103 with h | h
                · exact (show y = 102 by omega) ▸ okm_102
                · exact (show y = 103 by omega) ▸ okm_103
          · rcases Nat.lt_or_ge y 107 with h | h
            · rcases Nat.lt_or_ge y 105 with h | h
              · exact (show y = 104 by omega) ▸ okm_104
              · rcases Nat.lt_or_ge y 106 with h | h
                · exact (show y = 105 by omega) ▸ okm_105
                · exact (show y = 106 by omega) ▸ okm_106
            · rcases Nat.lt_or_ge y 108 with h | h
              · exact (show y = 107 by omega) ▸ okm_107
              · rcases Nat.lt_or_ge y 109 with h | h
                · exact (show y = 108 by omega) ▸ okm_108
                · exact (show y = 109 by omega) ▸ okm_109
        · rcases Nat.lt_or_ge y 116 with h | h
          · rcases Nat.lt_or_ge y 113 with h | h
            · rcases Nat.lt_or_ge y 111 with h | h
              · exact (show y = 110 by omega) ▸ okm_110
              · rcases Nat.lt_or_ge y 112 with h | h
                · exact (show y = 111 by omega) ▸ okm_111
                · exact (show y = 112 by omega) ▸ okm_112
            · rcases Nat.lt_or_ge y 114 with h | h
              · exact (show y = 113 by omega) ▸ okm_113
              · rcases Nat.lt_or_ge y 115 with h | h
                · exact (show y = 114 by omega) ▸ okm_114
                · exact (show y = 115 by omega) ▸ okm_115
          · rcases Nat.lt_or_ge y 119 with h | h
            · rcases Nat.lt_or_ge y 117 with h | h
              · exact (show y = 116 by omega) ▸ okm_116
              · rcases Nat.lt_or_ge y 118 with h | h
                · exact (show y = 117 by omega) ▸ okm_117
                · exact (show y = 118 by omega) ▸ okm_118
            · rcases Nat.lt_or_ge y 120 with h | h
              · exact (show y = 119 by omega) ▸ okm_119
              · rcases Nat.lt_or_ge y 121 with h | h
                · exact (show y = 120 by omega) ▸ okm_120
                · exact (show y = 121 by omega) ▸ okm_121
      · rcases Nat.lt_or_ge y 134 with h | h
        · rcases Nat.lt_or_ge y 128 with h | h
          · rcases Nat.lt_or_ge y 125 with h | h
            · rcases Nat.lt_or_ge y 123 with h | h
              · exact (show y = 122 by omega) ▸ okm_122
              · rcases Nat.lt_or_ge y 124 with h | h
                · exact (show y = 123 by omega) ▸ okm_123
                · exact (show y = 124 by omega) ▸ okm_124
            · rcases Nat.lt_or_ge y 126 with h | h
              · exact (show y = 125 by omega) ▸ okm_125
              · rcases Nat.lt_or_ge y 127 with h | h
                · exact (show y = 126 by omega) ▸ okm_126
                · exact (show y = 127 by omega) ▸ okm_127
          · rcases Nat.lt_or_ge y 131 with h | h
            · rcases Nat.lt_or_ge y 129 with h | h
              · exact (show y = 128 by omega) ▸ okm_128
              · rcases Nat.lt_or_ge y 130 with h | h
                · exact (show y = 129 by omega) ▸ okm_129
                · exact (show y = 130 by omega) ▸ okm_130
            · rcases Nat.lt_or_ge y 132 with h | h
              · exact (show y = 131 by omega) ▸ okm_131
              · rcases Nat.lt_or_ge y 133 with h | h
                · exact (show y = 132 by omega) ▸ okm_132
                · exact (show y = 133 by omega) ▸ okm_133
        · rcases Nat.lt_or_ge y 140 with h | h
          · rcases Nat.lt_or_ge y 137 with h | h
            · rcases Nat.lt_or_ge y 135 with h | h
              · exact (show y = 134 by omega) ▸ okm_134
              · rcases Nat.lt_or_ge y 136 with h | h
                · exact (show y = 135 by omega) ▸ okm_135
                · exact (show y = 136 by omega) ▸ okm_136
            · rcases Nat.lt_or_ge y 138 with h | h
              · exact (show y = 137 by omega) ▸ okm_137
              · rcases Nat.lt_or_ge y 139 with h | h
                · exact (show y = 138 by omega) ▸ okm_138
                · exact (show y = 139 by omega) ▸ okm_139
          · rcases Nat.lt_or_ge y 143 with h | h
            · rcases Nat.lt_or_ge y 141 with h | h
              · exact (show y = 140 by omega) ▸ okm_140
              · rcases Nat.lt_or_ge y 142 with h | h
                · exact (show y = 141 by omega) ▸ okm_141
                · exact (show y = 142 by omega) ▸ okm_142
            · rcases Nat.lt_or_ge y 145 with h | h
              · rcases Nat.lt_or_ge y 144 with h | h
                · exact (show y = 143 by omega) ▸ okm_143
                · exact (show y = 144 by omega) ▸ okm_144
              · rcases Nat.lt_or_ge y 146 with h | h
                · exact (show y = 145 by omega) ▸ okm_145
                · exact (show y = 146 by omega) ▸ okm_146
    · rcases Nat.lt_or_ge y 172 with h | h
      · rcases Nat.lt_or_ge y 159 with h | h
        · rcases Nat.lt_or_ge y 153 with h | h
          · rcases Nat.lt_or_ge y 150 with h | h
            · rcases Nat.lt_or_ge y 148 with h | h
              · exact (show y = 147 by omega) ▸ okm_147
              · rcases Nat.lt_or_ge y 149 with h | h
                · exact (show y = 148 by omega) ▸ okm_148
                · exact (show y = 149 by omega) ▸ okm_149
            · rcases Nat.lt_or_ge y 151 with h | h
              · exact (show y = 150 by omega) ▸ okm_150
              · rcases Nat.lt_or_ge y 152 with h | h
                · exact (show y = 151 by omega) ▸ okm_151
                · exact (show y = 152 by omega) ▸ okm_152
          · rcases Nat.lt_or_ge y 156 with h | h
            · rcases Nat.lt_or_ge y 154 with h | h
              · exact (show y = 153 by omega) ▸ okm_153
              · rcases Nat.lt_or_ge y 155 with h | h
                · exact (show y = 154 by omega) ▸ okm_154
                · exact (show y = 155 by omega) ▸ okm_155
            · rcases Nat.lt_or_ge y 157 with h | h
              · exact (show y = 156 by omega) ▸ okm_156
              · rcases Nat.lt_or_ge y 158 with h | h
                · exact (show y = 157 by omega) ▸ okm_157
                · exact (show y = 158 by omega) ▸ okm_158
        · rcases Nat.lt_or_ge y 165 with h | h
          · rcases Nat.lt_or_ge y 162 with h | h
            · rcases Nat.lt_or_ge y 160 with h | h
              · exact (show y = 159 by omega) ▸ okm_159
              · rcases Nat.lt_or_ge y 161 with h | h
                · exact (show y = 160 by omega) ▸ okm_160
                · exact (show y = 161 by omega) ▸ okm_161
            · rcases Nat.lt_or_ge y 163 with h | h
              · exact (show y = 162 by omega) ▸ okm_162
              · rcases Nat.lt_or_ge y 164 with h | h
                · exact (show y = 163 by omega) ▸ okm_163
                · exact (show y = 164 by omega) ▸ okm_164
          · rcases Nat.lt_or_ge y 168 with h | h
            · rcases Nat.lt_or_ge y 166 with h | h
              · exact (show y = 165 by omega) ▸ okm_165
              · rcases Nat.lt_or_ge y 167 with h | h
                · exact (show y = 166 by omega) ▸ okm_166
                · exact (show y = 167 by omega) ▸ okm_167
            · rcases Nat.lt_or_ge y 170 with h | h
              · rcases Nat.lt_or_ge y 169 with h | h
                · exact (show y = 168 by omega) ▸ okm_168
                · exact (show y = 169 by omega) ▸ okm_169
              · rcases Nat.lt_or_ge y 171 with h | h
                · exact (show y = 170 by omega) ▸ okm_170
                · exact (show y = 171 by omega) ▸ okm_171
      · rcases Nat.lt_or_ge y 184 with h | h
        · rcases Nat.lt_or_ge y 178 with h | h
          · rcases Nat.lt_or_ge y 175 with h | h
            · rcases Nat.lt_or_ge y 173 with h | h
              · exact (show y = 172 by omega) ▸ okm_172
              · rcases Nat.lt_or_ge y 174 with h | h
                · exact (show y = 173 by omega) ▸ okm_173
                · exact (show y = 174 by omega) ▸ okm_174
            · rcases Nat.lt_or_ge y 176 with h | h
              · exact (show y = 175 by omega) ▸ okm_175
              · rcases Nat.lt_or_ge y 177 with h | h
                · exact (show y = 176 by omega) ▸ okm_176
                · exact (show y = 177 by omega) ▸ okm_177
          · rcases Nat.lt_or_ge y 181 with h | h
            · rcases Nat.lt_or_ge y 179 with h | h
              · exact (show y = 178 by omega) ▸ okm_178
              · rcases Nat.lt_or_ge y 180 with h | h
                · exact (show y = 179 by omega) ▸ okm_179
                · exact (show y = 180 by omega) ▸ okm_180
            · rcases Nat.lt_or_ge y 182 with h | h
              · exact (show y = 181 by omega) ▸ okm_181
              · rcases Nat.lt_or_ge y 183 with h | h
                · exact (show y = 182 by omega) ▸ okm_182
                · exact (show y = 183 by omega) ▸ okm_183
        · rcases Nat.lt_or_ge y 190 with h | h
          · rcases Nat.lt_or_ge y 187 with h | h
            · rcases Nat.lt_or_ge y 185 with h | h
              · exact (show y = 184 by omega) ▸ okm_184
              · rcases Nat.lt_or_ge y 186 with h | h
                · exact (show y = 185 by omega) ▸ okm_185
                · exact (show y = 186 by omega) ▸ okm_186
            · rcases Nat.lt_or_ge y 188 with h | h
              · exact (show y = 187 by omega) ▸ okm_187
              · rcases Nat.lt_or_ge y 189 with h | h
                · exact (show y = 188 by omega) ▸ okm_188
                · exact (show y = 189 by omega) ▸ okm_189
          · rcases Nat.lt_or_ge y 193 with h | h
            · rcases Nat.lt_or_ge y 191 with h | h
              · exact (show y = 190 by omega) ▸ okm_190
              · rcases Nat.lt_or_ge y 192 with h | h
                · exact (show y = 191 by omega) ▸ okm_191
                · exact (show y = 192 by omega) ▸ okm_192
            · rcases Nat.lt_or_ge y 195 with h | h
              · rcases Nat.lt_or_ge y 194 with h | h
                · exact (show y = 193 by omega) ▸ okm_193
                · exact (show y = 194 by omega) ▸ okm_194
              · rcases Nat.lt_or_ge y 196 with h | h
                · exact (show y = 195 by omega) ▸ okm_195
                · exact (show y = 196 by omega) ▸ okm_196
theorem okL_all : ∀ i, i < 896 → okMi 197 i = true := by
  intro i hi
  rcases Nat.lt_or_ge i 448 with h | h
  · rcases Nat.lt_or_ge i 192 with h | h
    · rcases Nat.lt_or_ge i 64 with h | h
      · exact List.all_eq_true.mp okl_0 i (by rw [List.mem_range'_1]; omega)
      · rcases Nat.lt_or_ge i 128 with h | h
        · exact List.all_eq_true.mp okl_1 i (by rw [List.mem_range'_1]; omega)
        · exact List.all_eq_true.mp okl_2 i (by rw [List.mem_range'_1]; omega)
    · rcases Nat.lt_or_ge i 320 with h | h
      · rcases Nat.lt_or_ge i 256 with h | h
        · exact List.all_eq_true.mp okl_3 i (by rw [List.mem_range'_1]; omega)
        · exact List.all_eq_true.mp okl_4 i (by rw [List.mem_range'_1]; omega)
      · rcases Nat.lt_or_ge i 384 with h | h
        · exact List.all_eq_true.mp okl_5 i (by rw [List.mem_range'_1]; omega)
        · exact List.all_eq_true.mp okl_6 i (by rw [List.mem_range'_1]; omega)
  · rcases Nat.lt_or_ge i 640 with h | h
    · rcases Nat.lt_or_ge i 512 with h | h
      · exact List.all_eq_true.mp okl_7 i (by rw [List.mem_range'_1]; omega)
      · rcases Nat.lt_or_ge i 576 with h | h
        · exact List.all_eq_true.mp okl_8 i (by rw [List.mem_range'_1]; omega)
        · exact List.all_eq_true.mp okl_9 i (by rw [List.mem_range'_1]; omega)
    · rcases Nat.lt_or_ge i 768 with h | h
      · rcases Nat.lt_or_ge i 704 with h | h
        · exact List.all_eq_true.mp okl_10 i (by rw [List.mem_range'_1]; omega)
        · exact List.all_eq_true.mp okl_11 i (by rw [List.mem_range'_1]; omega)
      · rcases Nat.lt_or_ge i 832 with h | h
        · exact List.all_eq_true.mp okl_12 i (by rw [List.mem_range'_1]; omega)
        · exact List.all_eq_true.mp okl_13 i (by rw [List.mem_range'_1]; omega)
theorem okZ_all : ∀ z, z < 197 → okZ z = true := by
  intro i hi
  rcases Nat.lt_or_ge i 96 with h | h
  · rcases Nat.lt_or_ge i 48 with h | h
    · rcases Nat.lt_or_ge i 16 with h | h
      · exact List.all_eq_true.mp okz_0 i (by rw [List.mem_range'_1]; omega)
      · rcases Nat.lt_or_ge i 32 with h | h
        · exact List.all_eq_true.mp okz_1 i (by rw [List.mem_range'_1]; omega)
        · exact List.all_eq_true.mp okz_2 i (by rw [List.mem_range'_1]; omega)
    · rcases Nat.lt_or_ge i 64 with h | h
      · exact List.all_eq_true.mp okz_3 i (by rw [List.mem_range'_1]; omega)
      · rcases Nat.lt_or_ge i 80 with h | h
        · exact List.all_eq_true.mp okz_4 i (by rw [List.mem_range'_1]; omega)
        · exact List.all_eq_true.mp okz_5 i (by rw [List.mem_range'_1]; omega)
  · rcases Nat.lt_or_ge i 144 with h | h
    · rcases Nat.lt_or_ge i 112 with h | h
      · exact List.all_eq_true.mp okz_6 i (by rw [List.mem_range'_1]; omega)
      · rcases Nat.lt_or_ge i 128 with h | h
        · exact List.all_eq_true.mp okz_7 i (by rw [List.mem_range'_1]; omega)
        · exact List.all_eq_true.mp okz_8 i (by rw [List.mem_range'_1]; omega)
    · rcases Nat.lt_or_ge i 176 with h | h
      · rcases Nat.lt_or_ge i 160 with h | h
        · exact List.all_eq_true.mp okz_9 i (by rw [List.mem_range'_1]; omega)
        · exact List.all_eq_true.mp okz_10 i (by rw [List.mem_range'_1]; omega)
      · rcases Nat.lt_or_ge i 192 with h | h
        · exact List.all_eq_true.mp okz_11 i (by rw [List.mem_range'_1]; omega)
        · exact List.all_eq_true.mp okz_12 i (by rw [List.mem_range'_1]; omega)
theorem pg_far {y : Nat} (h : 198 ≤ y) : PG.1 y = [] := by
  show mNth [] (mNth [] pcs (y / 16)) (y % 16) = []
  rcases Nat.lt_or_ge y 208 with h2 | h2
  · have h3 : y / 16 = 12 := by omega
    rw [h3]
    have h4 : (mNth [] pcs 12).length = 6 := by decide +kernel
    exact mNth_far _ _ _ (by rw [h4]; omega)
  · rw [mNth_far [] pcs (y / 16) (by rw [pcs_len]; omega)]
    exact mNth_far _ _ _ (by simp)
theorem mFe_far {y i : Nat} (h : (PG.1 y).length ≤ i / 32) : mFe PG y i = (99, 0, 0, 0, 0, 0, 0, [], []) := by
  show mNth _ (mNth [] (PG.1 y) (i / 32)) (i % 32) = _
  rw [mNth_far [] (PG.1 y) (i / 32) h]
  exact mNth_far _ _ _ (by simp)
theorem pg_law : (PG.1 197).length = 27 := by decide +kernel
theorem okAll (y i : Nat) : okMi y i = true := by
  by_cases hf : (PG.1 y).length ≤ i / 32
  · unfold okMi
    rw [mFe_far hf]
    rfl
  · rcases Nat.lt_or_ge y 197 with h | h
    · exact List.all_eq_true.mp (okM_all y h) i (by rw [List.mem_range]; omega)
    · rcases Nat.lt_or_ge y 198 with h2 | h2
      · have e : y = 197 := by omega
        subst e
        rw [pg_law] at hf
        exact okL_all i (by omega)
      · rw [pg_far h2] at hf
        exact absurd (Nat.zero_le _) hf
