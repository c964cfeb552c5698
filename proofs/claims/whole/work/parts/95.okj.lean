/-! the words of the law, checked by the kernel -/
theorem ok_211_900 : (((P_c 211).drop 900).take 60).all (okE 211) = true := by decide +kernel
theorem all_cut {α : Type} {l : List α} {f : α → Bool} (n : Nat) (h1 : (l.take n).all f = true) (h2 : (l.drop n).all f = true) : l.all f = true := by
  rw [← List.take_append_drop n l, List.all_append, h1, h2]
  rfl
theorem ok_211 : (P_c 211).all (okE 211) = true := by
  have d960 : ((P_c 211).drop 960).all (okE 211) = true := by decide +kernel
  have d900 : ((P_c 211).drop 900).all (okE 211) = true := all_cut 60 ok_211_900 (by rw [List.drop_drop]; exact d960)
  have d840 : ((P_c 211).drop 840).all (okE 211) = true := all_cut 60 ok_211_840 (by rw [List.drop_drop]; exact d900)
  have d780 : ((P_c 211).drop 780).all (okE 211) = true := all_cut 60 ok_211_780 (by rw [List.drop_drop]; exact d840)
  have d720 : ((P_c 211).drop 720).all (okE 211) = true := all_cut 60 ok_211_720 (by rw [List.drop_drop]; exact d780)
  have d660 : ((P_c 211).drop 660).all (okE 211) = true := all_cut 60 ok_211_660 (by rw [List.drop_drop]; exact d720)
  have d600 : ((P_c 211).drop 600).all (okE 211) = true := all_cut 60 ok_211_600 (by rw [List.drop_drop]; exact d660)
  have d540 : ((P_c 211).drop 540).all (okE 211) = true := all_cut 60 ok_211_540 (by rw [List.drop_drop]; exact d600)
  have d480 : ((P_c 211).drop 480).all (okE 211) = true := all_cut 60 ok_211_480 (by rw [List.drop_drop]; exact d540)
  have d420 : ((P_c 211).drop 420).all (okE 211) = true := all_cut 60 ok_211_420 (by rw [List.drop_drop]; exact d480)
  have d360 : ((P_c 211).drop 360).all (okE 211) = true := all_cut 60 ok_211_360 (by rw [List.drop_drop]; exact d420)
  have d300 : ((P_c 211).drop 300).all (okE 211) = true := all_cut 60 ok_211_300 (by rw [List.drop_drop]; exact d360)
  have d240 : ((P_c 211).drop 240).all (okE 211) = true := all_cut 60 ok_211_240 (by rw [List.drop_drop]; exact d300)
  have d180 : ((P_c 211).drop 180).all (okE 211) = true := all_cut 60 ok_211_180 (by rw [List.drop_drop]; exact d240)
  have d120 : ((P_c 211).drop 120).all (okE 211) = true := all_cut 60 ok_211_120 (by rw [List.drop_drop]; exact d180)
  have d60 : ((P_c 211).drop 60).all (okE 211) = true := all_cut 60 ok_211_60 (by rw [List.drop_drop]; exact d120)
  have d0 : ((P_c 211).drop 0).all (okE 211) = true := all_cut 60 ok_211_0 (by rw [List.drop_drop]; exact d60)
  exact d0
theorem ok_all : ∀ k, k < 212 → (P_c k).all (okE k) = true := by
  intro k hk
  match k, hk with
  | 0, _ => exact ok_0
  | 1, _ => exact ok_1
  | 2, _ => exact ok_2
  | 3, _ => exact ok_3
  | 4, _ => exact ok_4
  | 5, _ => exact ok_5
  | 6, _ => exact ok_6
  | 7, _ => exact ok_7
  | 8, _ => exact ok_8
  | 9, _ => exact ok_9
  | 10, _ => exact ok_10
  | 11, _ => exact ok_11
  | 12, _ => exact ok_12
  | 13, _ => exact ok_13
  | 14, _ => exact ok_14
  | 15, _ => exact ok_15
  | 16, _ => exact ok_16
  | 17, _ => exact ok_17
  | 18, _ => exact ok_18
  | 19, _ => exact ok_19
  | 20, _ => exact ok_20
  | 21, _ => exact ok_21
  | 22, _ => exact ok_22
  | 23, _ => exact ok_23
  | 24, _ => exact ok_24
  | 25, _ => exact ok_25
  | 26, _ => exact ok_26
  | 27, _ => exact ok_27
  | 28, _ => exact ok_28
  | 29, _ => exact ok_29
  | 30, _ => exact ok_30
  | 31, _ => exact ok_31
  | 32, _ => exact ok_32
  | 33, _ => exact ok_33
  | 34, _ => exact ok_34
  | 35, _ => exact ok_35
  | 36, _ => exact ok_36
  | 37, _ => exact ok_37
  | 38, _ => exact ok_38
  | 39, _ => exact ok_39
  | 40, _ => exact ok_40
  | 41, _ => exact ok_41
  | 42, _ => exact ok_42
  | 43, _ => exact ok_43
  | 44, _ => exact ok_44
  | 45, _ => exact ok_45
  | 46, _ => exact ok_46
  | 47, _ => exact ok_47
  | 48, _ => exact ok_48
  | 49, _ => exact ok_49
  | 50, _ => exact ok_50
  | 51, _ => exact ok_51
  | 52, _ => exact ok_52
  | 53, _ => exact ok_53
  | 54, _ => exact ok_54
  | 55, _ => exact ok_55
  | 56, _ => exact ok_56
  | 57, _ => exact ok_57
  | 58, _ => exact ok_58
  | 59, _ => exact ok_59
  | 60, _ => exact ok_60
  | 61, _ => exact ok_61
  | 62, _ => exact ok_62
  | 63, _ => exact ok_63
  | 64, _ => exact ok_64
  | 65, _ => exact ok_65
  | 66, _ => exact ok_66
  | 67, _ => exact ok_67
  | 68, _ => exact ok_68
  | 69, _ => exact ok_69
  | 70, _ => exact ok_70
  | 71, _ => exact ok_71
  | 72, _ => exact ok_72
  | 73, _ => exact ok_73
  | 74, _ => exact ok_74
  | 75, _ => exact ok_75
  | 76, _ => exact ok_76
  | 77, _ => exact ok_77
  | 78, _ => exact ok_78
  | 79, _ => exact ok_79
  | 80, _ => exact ok_80
  | 81, _ => exact ok_81
  | 82, _ => exact ok_82
  | 83, _ => exact ok_83
  | 84, _ => exact ok_84
  | 85, _ => exact ok_85
  | 86, _ => exact ok_86
  | 87, _ => exact ok_87
  | 88, _ => exact ok_88
  | 89, _ => exact ok_89
  | 90, _ => exact ok_90
  | 91, _ => exact ok_91
  | 92, _ => exact ok_92
  | 93, _ => exact ok_93
  | 94, _ => exact ok_94
  | 95, _ => exact ok_95
  | 96, _ => exact ok_96
  | 97, _ => exact ok_97
  | 98, _ => exact ok_98
  | 99, _ => exact ok_99
  | 100, _ => exact ok_100
  | 101, _ => exact ok_101
  | 102, _ => exact ok_102
  | 103, _ => exact ok_103
  | 104, _ => exact ok_104
  | 105, _ => exact ok_105
  | 106, _ => exact ok_106
  | 107, _ => exact ok_107
  | 108, _ => exact ok_108
  | 109, _ => exact ok_109
  | 110, _ => exact ok_110
  | 111, _ => exact ok_111
  | 112, _ => exact ok_112
  | 113, _ => exact ok_113
  | 114, _ => exact ok_114
  | 115, _ => exact ok_115
  | 116, _ => exact ok_116
  | 117, _ => exact ok_117
  | 118, _ => exact ok_118
  | 119, _ => exact ok_119
  | 120, _ => exact ok_120
  | 121, _ => exact ok_121
  | 122, _ => exact ok_122
  | 123, _ => exact ok_123
  | 124, _ => exact ok_124
  | 125, _ => exact ok_125
  | 126, _ => exact ok_126
  | 127, _ => exact ok_127
  | 128, _ => exact ok_128
  | 129, _ => exact ok_129
  | 130, _ => exact ok_130
  | 131, _ => exact ok_131
  | 132, _ => exact ok_132
  | 133, _ => exact ok_133
  | 134, _ => exact ok_134
  | 135, _ => exact ok_135
  | 136, _ => exact ok_136
  | 137, _ => exact ok_137
  | 138, _ => exact ok_138
  | 139, _ => exact ok_139
  | 140, _ => exact ok_140
  | 141, _ => exact ok_141
  | 142, _ => exact ok_142
  | 143, _ => exact ok_143
  | 144, _ => exact ok_144
  | 145, _ => exact ok_145
  | 146, _ => exact ok_146
  | 147, _ => exact ok_147
  | 148, _ => exact ok_148
  | 149, _ => exact ok_149
  | 150, _ => exact ok_150
  | 151, _ => exact ok_151
  | 152, _ => exact ok_152
  | 153, _ => exact ok_153
  | 154, _ => exact ok_154
  | 155, _ => exact ok_155
  | 156, _ => exact ok_156
  | 157, _ => exact ok_157
  | 158, _ => exact ok_158
  | 159, _ => exact ok_159
  | 160, _ => exact ok_160
  | 161, _ => exact ok_161
  | 162, _ => exact ok_162
  | 163, _ => exact ok_163
  | 164, _ => exact ok_164
  | 165, _ => exact ok_165
  | 166, _ => exact ok_166
  | 167, _ => exact ok_167
  | 168, _ => exact ok_168
  | 169, _ => exact ok_169
  | 170, _ => exact ok_170
  | 171, _ => exact ok_171
  | 172, _ => exact ok_172
  | 173, _ => exact ok_173
  | 174, _ => exact ok_174
  | 175, _ => exact ok_175
  | 176, _ => exact ok_176
  | 177, _ => exact ok_177
  | 178, _ => exact ok_178
  | 179, _ => exact ok_179
  | 180, _ => exact ok_180
  | 181, _ => exact ok_181
  | 182, _ => exact ok_182
  | 183, _ => exact ok_183
  | 184, _ => exact ok_184
  | 185, _ => exact ok_185
  | 186, _ => exact ok_186
  | 187, _ => exact ok_187
  | 188, _ => exact ok_188
  | 189, _ => exact ok_189
  | 190, _ => exact ok_190
  | 191, _ => exact ok_191
  | 192, _ => exact ok_192
  | 193, _ => exact ok_193
  | 194, _ => exact ok_194
  | 195, _ => exact ok_195
  | 196, _ => exact ok_196
  | 197, _ => exact ok_197
  | 198, _ => exact ok_198
  | 199, _ => exact ok_199
  | 200, _ => exact ok_200
  | 201, _ => exact ok_201
  | 202, _ => exact ok_202
  | 203, _ => exact ok_203
  | 204, _ => exact ok_204
  | 205, _ => exact ok_205
  | 206, _ => exact ok_206
  | 207, _ => exact ok_207
  | 208, _ => exact ok_208
  | 209, _ => exact ok_209
  | 210, _ => exact ok_210
  | 211, _ => exact ok_211
  | k + 212, h => exact absurd h (by omega)
